/-! the flow from its beginning to its end -/
/-- what is found of events for the best is the best of all (a fact about the laying's rows, proved apart) -/
def zHB (b : Nat) : Prop := ∀ (S : zSt) (t z N n : Nat), N ≤ 30 → zVt S t → zDy b z N n S → (∀ e, e < n → 0 ≤ (sI S 28 b e).toInt ∧ (sI S 28 b e).toInt ≤ 999) → ¬ v_bestA (s_lay S b t n) b n t = 0
/-- covers that the flow b doesn't touch: of the other flow, commuted ones -/
def zfz (b : Nat) (σ : zSt) (o : Nat) : Prop := o / 8 ≠ b ∨ sI σ 19 (o % 8) 0 ≠ 0 ∨ sN σ 2 ≤ o % 8
def zFz (b : Nat) (S σ : zSt) : Prop := ∀ q o e, 2 ≤ q → q ≤ 5 → zfz b σ o → sL S q o e = sL σ q o e
theorem zfz_ne {b t o : Nat} {σ : zSt} (ht : t < sN σ 2) (h8 : sN σ 2 ≤ 8) (h : zfz b σ o) : o ≠ 8 * b + t ∨ sI σ 19 t 0 ≠ 0 := by
  by_cases e : o = 8 * b + t
  · refine Or.inr ?_
    have e1 : o / 8 = b := by omega
    have e2 : o % 8 = t := by omega
    rcases h with h | h | h
    · exact absurd e1 h
    · rw [e2] at h
      exact h
    · omega
  · exact Or.inl e
theorem zfz_fr {b o : Nat} {S σ : zSt} (e : zFr b S σ) : zfz b S o ↔ zfz b σ o := by
  unfold zfz
  rw [e.2.2.1 19 (by unfold zst; omega), e.1.1]
theorem zFz.trans {b : Nat} {x y z : zSt} (h : zFz b x y) (k : zFz b y z) (e : zFr b y z) : zFz b x z := fun q o x' h1 h2 h3 => (h q o x' h1 h2 ((zfz_fr e).mpr h3)).trans (k q o x' h1 h2 h3)
theorem zlV_of {b t : Nat} {σ : zSt} (hb : b < 2) (ht : t < sN σ 2) (h : sN σ 5 = sN σ 2 ∧ sN σ 6 = sN σ 2) : zlV σ (8 * b + t) := by
  unfold zlV
  omega
/-- all zones of a treaty -/
theorem zz_ok {b i : Nat} {σ : zSt} {tr : Int32} {P7 : Nat → Prop} (hB : zHB b) (hw : zWF b σ) (hq : zQf b σ) (hf : zFi b σ) (hi : i < sN σ 2) (h56 : sN σ 5 = sN σ 2 ∧ sN σ 6 = sN σ 2) (hc : 0 < sZ σ (7 + 4 * b) → sI σ 19 i 0 = 0) (h7 : zSb σ (7 + 4 * b) (5 + 4 * b) (sZ σ (5 + 4 * b)) P7)
    (hl : ∀ y, y < sZ σ (7 + 4 * b) → 0 < (sL σ 0 (lx σ (7 + 4 * b) y) 0).toInt) (hev : ∀ z, z < 4 → sI σ 22 (8 * b + i) z = 0) : ∀ z, z ≤ 4 → zFi b (zoZ σ b i tr z) ∧ sE (zoZ σ b i tr z) (7 + 4 * b) = sE σ (7 + 4 * b) ∧ (∀ y, y < sZ σ (7 + 4 * b) → (z : Int) ≤ zzn σ (lx σ (7 + 4 * b) y) → 0 < (sL (zoZ σ b i tr z) 0 (lx σ (7 + 4 * b) y) 0).toInt) ∧
      (∀ z', z' < 4 → (z ≤ z' → sI (zoZ σ b i tr z) 22 (8 * b + i) z' = 0) ∧ 0 ≤ (sI (zoZ σ b i tr z) 22 (8 * b + i) z').toInt ∧ (sI (zoZ σ b i tr z) 22 (8 * b + i) z').toInt ≤ sZ σ (5 + 4 * b)) ∧ (∀ o e, o ≠ 8 * b + i → sI (zoZ σ b i tr z) 22 o e = sI σ 22 o e) ∧ zFz b (zoZ σ b i tr z) σ ∧ sI (zoZ σ b i tr z) 26 b 0 = sI σ 26 b 0
  | 0, _ => ⟨hf, rfl, fun y hy _ => hl y hy, fun z' h => ⟨fun _ => hev z' h, by show 0 ≤ (sI σ 22 (8 * b + i) z').toInt; rw [hev z' h]; decide, by show (sI σ 22 (8 * b + i) z').toInt ≤ _; rw [hev z' h]; have o : (0 : Int32).toInt = 0 := rfl; omega⟩, fun _ _ _ => rfl, fun _ _ _ _ _ _ => rfl, rfl⟩
  | z + 1, hz => by
    obtain ⟨f1, e1, l1, v1, v2, o1, b1⟩ := zz_ok (tr := tr) hB hw hq hf hi h56 hc h7 hl hev z (by omega)
    obtain ⟨w1, w2, w3⟩ := zoZ_ok (tr := tr) hq.1.1 hw (i := i) (by rw [hq.1.2.2.1]; exact hi) z
    have hx : lx σ (6 + 4 * b) i = 8 * b + i := hq.1.2.2.2 i hi
    have hS : ∃ c, zoZ σ b i tr (z + 1) = s_serveZone (zoZ σ b i tr z) b (8 * b + i) z c := by
      show ∃ c, (if nI i = tr then s_serveZone (zoZ σ b i tr z) b (lx σ (6 + 4 * b) i) z 1 else s_serveZone (zoZ σ b i tr z) b (lx σ (6 + 4 * b) i) z 0) = _
      rw [hx]
      split
      · exact ⟨1, rfl⟩
      · exact ⟨0, rfl⟩
    obtain ⟨c, hS⟩ := hS
    rw [hS]
    have x7 : ∀ y, lx (zoZ σ b i tr z) (7 + 4 * b) y = lx σ (7 + 4 * b) y := fun y => by unfold lx; rw [e1]
    have x5 : ∀ y, lx (zoZ σ b i tr z) (5 + 4 * b) y = lx σ (5 + 4 * b) y := zSx_lx w2.1 (zQb_no (Or.inl rfl))
    have z5 : sZ (zoZ σ b i tr z) (5 + 4 * b) = sZ σ (5 + 4 * b) := zSx_Z w2.1 (zQb_no (Or.inl rfl))
    have szn := zzn_fr w2
    have q1 := hq.fr w2
    have n2 : sN (zoZ σ b i tr z) = sN σ := w2.1.1
    have c19 : sI (zoZ σ b i tr z) 19 i 0 = sI σ 19 i 0 := w2.2.2.1 19 (by unfold zst; omega) i 0
    have hj : zlV (zoZ σ b i tr z) (8 * b + i) := zlV_of hq.1.1 (by rw [n2]; exact hi) (by rw [n2]; exact h56)
    have key := zv_ok (b := b) (t := i) (z := z) (σ := zoZ σ b i tr z) (c := c) (P7 := P7) w1 q1 f1 (by rw [n2]; exact hi) hj (by omega) (fun h => by rw [c19]; exact hc (by rw [← w3]; exact h)) (by rw [z5]; exact h7.mv w3 x7 x5) (fun y hy h => by
      rw [x7, szn] at h
      rw [x7]
      exact l1 y (by rw [← w3]; exact hy) h) ((v1 z (by omega)).1 (Nat.le_refl _))
    obtain ⟨k1, k2, k3, k4, k5, n, kn, k6, kr, k7⟩ := key
    have sz := serveZone_ok (z := z) (c := c) hq.1.1 w1 hj
    have ht8 : i < 8 := Nat.lt_of_lt_of_le hi hq.1.2.1
    refine ⟨k1, sz.2.2.1.trans e1, fun y hy h => ?_, fun z' hz' => ?_, fun o e h => ?_, fun q o e h1 h2 h3 => ?_, ?_⟩
    · have g := k2 y (by rw [w3]; exact hy) (by rw [x7, szn]; omega)
      rw [x7] at g
      exact g
    · by_cases q : z' = z
      · subst q
        rw [z5] at k3
        exact ⟨fun h => by omega, k3⟩
      · rw [k4 _ _ (fun w => q w.2)]
        have := v1 z' hz'
        exact ⟨fun h => this.1 (by omega), this.2⟩
    · rw [k4 _ _ (fun w => h w.1)]
      exact v2 o e h
    · rw [k5 q o e h1 h2 (by rw [c19]; exact zfz_ne hi hq.1.2.1 h3)]
      exact o1 q o e h1 h2 h3
    · refine (k7 (Or.inr ?_)).trans b1
      refine hB _ i z _ n ?_ ?_ k6 kr
      · exact w1.2.2.2.2.2.2.2.2.2.2
      · have f1 : zFr b (s_zoneFill (uI (zoZ σ b i tr z) 27 b 0 0) b z) (zoZ σ b i tr z) := (zFr.of (b := b) (szA_22 (uI (zoZ σ b i tr z) 27 b 0 0) b z _) (fun t ht o x => szA_I (uI (zoZ σ b i tr z) 27 b 0 0) b z _ ht.2.2.2.1 ht.2.2.2.2.1 o x)).trans (zFr.uI (by unfold zst; omega))
        exact (q1.2.2.2.2.2 i (by rw [n2]; exact hi)).fr f1.2.2.1
/-- the treaties for each event -/
theorem rnE_v {b : Nat} {σ : zSt} {tr : Int32} (hB : zHB b) (hw : zWF b σ) (hq : zQf b σ) (hf : zFi b σ) (h56 : sN σ 5 = sN σ 2 ∧ sN σ 6 = sN σ 2) (hev : ∀ t z, t < sN σ 2 → z < 4 → sI σ 22 (8 * b + t) z = 0) : ∀ i, i ≤ sN σ 2 → zFi b (rnE σ b tr i) ∧
      (∀ t z, t < sN σ 2 → z < 4 → (i ≤ t → sI (rnE σ b tr i) 22 (8 * b + t) z = 0) ∧ 0 ≤ (sI (rnE σ b tr i) 22 (8 * b + t) z).toInt ∧ (sI (rnE σ b tr i) 22 (8 * b + t) z).toInt ≤ sZ σ (5 + 4 * b)) ∧ zFz b (rnE σ b tr i) σ ∧ sI (rnE σ b tr i) 26 b 0 = sI σ 26 b 0
  | 0, _ => ⟨hf, fun t z ht hz => ⟨fun _ => hev t z ht hz, by show 0 ≤ (sI σ 22 (8 * b + t) z).toInt; rw [hev t z ht hz]; decide, by show (sI σ 22 (8 * b + t) z).toInt ≤ _; rw [hev t z ht hz]; have o : (0 : Int32).toInt = 0 := rfl; omega⟩, fun _ _ _ _ _ _ => rfl, rfl⟩
  | i + 1, hi => by
    obtain ⟨f1, v1, o1, b1⟩ := rnE_v (tr := tr) hB hw hq hf h56 hev i (by omega)
    obtain ⟨w1, w2⟩ := rnE_ok (tr := tr) hq.1.1 hw i (by rw [hq.1.2.2.1]; omega)
    have hx : lx σ (6 + 4 * b) i = 8 * b + i := hq.1.2.2.2 i (by omega)
    have ht8 : i < 8 := by have := hq.1.2.1; omega
    have hm8 : (8 * b + i) % 8 = i := by omega
    have n2 : sN (rnE σ b tr i) = sN σ := w2.1.1
    have z5 : sZ (rnE σ b tr i) (5 + 4 * b) = sZ σ (5 + 4 * b) := zSx_Z w2.1 (zQb_no (Or.inl rfl))
    simp only [rnE]
    rw [hx, hm8]
    by_cases c : sI (rnE σ b tr i) 8 i 0 = 101
    · rw [if_pos c]
      obtain ⟨u1, u2⟩ := findOpen_ok (j := 8 * b + i) hq.1.1 w1
      have IL := foI_IL (rnE σ b tr i) b (8 * b + i) (sZ (rnE σ b tr i) (5 + 4 * b))
      have fo := fo_ok (σ := rnE σ b tr i) (b := b) (j := 8 * b + i) (sZ (rnE σ b tr i) (5 + 4 * b))
      have u3 : sN (s_findOpen (rnE σ b tr i) b (8 * b + i)) = sN (rnE σ b tr i) := u2.1.1
      have uI9 : sI (s_findOpen (rnE σ b tr i) b (8 * b + i)) = sI (rnE σ b tr i) := IL.1
      have uL9 : sL (s_findOpen (rnE σ b tr i) b (8 * b + i)) = sL (rnE σ b tr i) := IL.2
      have u5 : sZ (s_findOpen (rnE σ b tr i) b (8 * b + i)) (5 + 4 * b) = sZ (rnE σ b tr i) (5 + 4 * b) := zSx_Z u2.1 (zQb_no (Or.inl rfl))
      rw [hm8] at fo
      have fo' : zSb (s_findOpen (rnE σ b tr i) b (8 * b + i)) (7 + 4 * b) (5 + 4 * b) (sZ (s_findOpen (rnE σ b tr i) b (8 * b + i)) (5 + 4 * b)) (fun k => 0 < (sL (rnE σ b tr i) 0 k 0).toInt ∧ ¬ v_covers (rnE σ b tr i) i k = 0) := by
        rw [u5]
        exact fo
      have key := zz_ok (tr := tr) hB u1 ((hq.fr w2).fr u2) (f1.fr u2 (fun q _ o x => by rw [uL9])) (i := i) (by rw [u3, n2]; omega) (by rw [u3, n2]; exact h56) (fun h => by
        rw [uI9]
        obtain ⟨g, g1, -⟩ := fo'
        exact covers_c (g1 0 h).2.2.2) fo' (fun y hy => by
        rw [uL9]
        obtain ⟨g, g1, -⟩ := fo'
        exact (g1 y hy).2.2.1) (fun z hz => by
        rw [uI9]
        exact (v1 i z (by omega) hz).1 (Nat.le_refl _)) 4 (Nat.le_refl _)
      obtain ⟨k1, k2, k3, k4, k5, k6, k7⟩ := key
      refine ⟨k1, fun t z ht hz => ?_, fun q o e h1 h2 h3 => ?_, ?_⟩
      · by_cases e : t = i
        · subst e
          have := k4 z hz
          rw [u5, z5] at this
          exact ⟨fun h => by omega, this.2⟩
        · have e2 : sI (s_zones (s_findOpen (rnE σ b tr i) b (8 * b + i)) b i tr) 22 (8 * b + t) z = sI (rnE σ b tr i) 22 (8 * b + t) z := (k5 (8 * b + t) z (by omega)).trans (by rw [uI9])
          rw [e2]
          have := v1 t z ht hz
          exact ⟨fun h => this.1 (by omega), this.2⟩
      · exact (k6 q o e h1 h2 ((zfz_fr (u2.trans w2)).mpr h3)).trans ((congrFun (congrFun (congrFun uL9 q) o) e).trans (o1 q o e h1 h2 h3))
      · exact k7.trans ((congrFun (congrFun (congrFun uI9 26) b) 0).trans b1)
    · rw [if_neg c]
      exact ⟨f1, fun t z ht hz => ⟨fun h => (v1 t z ht hz).1 (by omega), (v1 t z ht hz).2⟩, o1, b1⟩
