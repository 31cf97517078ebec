/-! the events of a zone, of all zones, of all treaties -/
theorem zzn_fr {b : Nat} {σ' σ : zSt} (e : zFr b σ' σ) (k : Nat) : zzn σ' k = zzn σ k := by
  unfold zzn
  rw [e.1.2.1, e.2.2.1 1 (by unfold zst; omega)]
theorem zn_ok {b t z n : Nat} {σ : zSt} {P7 : Nat → Prop} (hw : zWF b σ) (hq : zQf b σ) (hf : zFi b σ) (ht : t < sN σ 2) (hz : z < 4) (hc : 0 < n → sI σ 19 t 0 = 0) (h7 : zSb σ (7 + 4 * b) (5 + 4 * b) (sZ σ (5 + 4 * b)) P7) (hn30 : n ≤ 30)
    (hD : ∀ e, e < n → 0 ≤ (sI σ 28 b e).toInt ∧ (sI σ 28 b e).toInt ≤ 999) (hi : ∀ e e', e < e' → e' < n → (sI σ 28 b e).toInt < (sI σ 28 b e').toInt) (he : ∀ g, g < n → ∃ e, g ≤ e ∧ e < n ∧ sI σ 29 b g = nI e)
    (hl : ∀ y, y < sZ σ (7 + 4 * b) → (z : Int) ≤ zzn σ (lx σ (7 + 4 * b) y) → 0 < (sL σ 0 (lx σ (7 + 4 * b) y) 0).toInt) (hev : 0 ≤ (sI σ 22 (8 * b + t) z).toInt ∧ (sI σ 22 (8 * b + t) z).toInt ≤ 1000) : ∀ i, i ≤ n → zFi b (znI σ b (8 * b + t) z i).1 ∧
      (∃ F : Int, ((znI σ b (8 * b + t) z i).2 = -1 ∧ F = -1 ∧ i = 0 ∨ ∃ e, i ≤ e + 1 ∧ e < n ∧ (znI σ b (8 * b + t) z i).2 = nI e ∧ F = (sI σ 28 b e).toInt) ∧ ∀ y, y < sZ σ (7 + 4 * b) → (z : Int) < zzn σ (lx σ (7 + 4 * b) y) ∨ (zzn σ (lx σ (7 + 4 * b) y) = z ∧ F < (sI σ 4 (lx σ (7 + 4 * b) y) 0).toInt) → 0 < (sL (znI σ b (8 * b + t) z i).1 0 (lx σ (7 + 4 * b) y) 0).toInt) ∧
      ((sI σ 22 (8 * b + t) z).toInt ≤ (sI (znI σ b (8 * b + t) z i).1 22 (8 * b + t) z).toInt ∧ (sI (znI σ b (8 * b + t) z i).1 22 (8 * b + t) z).toInt ≤ (sI σ 22 (8 * b + t) z).toInt + i) ∧ (∀ o e, ¬ (o = 8 * b + t ∧ e = z) → sI (znI σ b (8 * b + t) z i).1 22 o e = sI σ 22 o e) ∧ ∀ q o e, 2 ≤ q → q ≤ 5 → (o ≠ 8 * b + t ∨ n = 0) → sL (znI σ b (8 * b + t) z i).1 q o e = sL σ q o e
  | 0, _ => ⟨hf, ⟨-1, Or.inl ⟨rfl, rfl, rfl⟩, fun y hy h => hl y hy (by omega)⟩, ⟨Int.le_refl _, by show (sI σ 22 (8 * b + t) z).toInt ≤ (sI σ 22 (8 * b + t) z).toInt + ((0 : Nat) : Int); omega⟩, fun _ _ _ => rfl, fun _ _ _ _ _ _ => rfl⟩
  | i + 1, hi' => by
    obtain ⟨f1, ⟨F, hF, hlF⟩, ev1, ev2, o1⟩ := zn_ok hw hq hf ht hz hc h7 hn30 hD hi he hl hev i (by omega)
    obtain ⟨w1, w2, w3, w4, w5⟩ := znI_ok (j := 8 * b + t) (z := z) hq.1.1 hw i
    have hin : i < n := by omega
    simp only [znI]
    by_cases c : nI i ≤ (znI σ b (8 * b + t) z i).2
    · rw [if_pos c]
      refine ⟨f1, ⟨F, ?_, hlF⟩, ⟨ev1.1, by omega⟩, ev2, o1⟩
      rcases hF with ⟨h1, h2, h3⟩ | ⟨e, h1, h2, h3, h4⟩
      · rw [h1] at c
        have := w_le.mp c
        rw [nI_toInt (by omega)] at this
        have o : (-1 : Int32).toInt = -1 := rfl
        omega
      · rw [h3] at c
        have := (nIle (m := i) (i := e) (by omega) (by omega)).mp c
        exact Or.inr ⟨e, by omega, h2, h3, h4⟩
    · rw [if_neg c]
      dsimp only
      obtain ⟨e', e1, e2, e3⟩ := he i hin
      have s28 : ∀ e, sI (znI σ b (8 * b + t) z i).1 28 b e = sI σ 28 b e := fun e => w3 28 (by decide) (by decide) b e
      have s29 : sI (znI σ b (8 * b + t) z i).1 29 b i = nI e' := (w3 29 (by decide) (by decide) b i).trans e3
      rw [s29, nI_clamp (by omega)]
      have x7 : ∀ y, lx (znI σ b (8 * b + t) z i).1 (7 + 4 * b) y = lx σ (7 + 4 * b) y := fun y => by unfold lx; rw [w4]
      have x5 : ∀ y, lx (znI σ b (8 * b + t) z i).1 (5 + 4 * b) y = lx σ (5 + 4 * b) y := zSx_lx w2.1 (zQb_no (Or.inl rfl))
      have z5 : sZ (znI σ b (8 * b + t) z i).1 (5 + 4 * b) = sZ σ (5 + 4 * b) := zSx_Z w2.1 (zQb_no (Or.inl rfl))
      have s4 : ∀ o, sI (znI σ b (8 * b + t) z i).1 4 o 0 = sI σ 4 o 0 := fun o => w3 4 (by decide) (by decide) o 0
      have szn := zzn_fr w2
      have hFi : F < (sI σ 28 b i).toInt ∧ F ≤ (sI σ 28 b e').toInt := by
        have g : (sI σ 28 b i).toInt ≤ (sI σ 28 b e').toInt := by
          by_cases q : i = e'
          · rw [q]
            exact Int.le_refl _
          · have := hi i e' (by omega) e2
            omega
        rcases hF with ⟨h1, h2, h3⟩ | ⟨e, h1, h2, h3, h4⟩
        · have := hD i hin
          omega
        · have q : e < i := by
            rw [h3] at c
            have : ¬ i ≤ e := fun q => c ((nIle (m := i) (i := e) (by omega) (by omega)).mpr q)
            omega
          have := hi e i q hin
          omega
      have hSc : sI (znI σ b (8 * b + t) z i).1 19 t 0 = 0 := (w3 19 (by decide) (by decide) t 0).trans (hc (by omega))
      have key := zbody_v (b := b) (t := t) (z := z) (i := i) (e' := e') (S := (znI σ b (8 * b + t) z i).1) (F := F) (P7 := P7) w1 (hq.fr w2) f1 (by rw [w2.1.1]; exact ht) hz hSc (by rw [z5]; exact h7.mv w5 x7 x5) (by rw [s28]; exact hD i hin) (by rw [s28]; exact hFi.1) (fun y hy h => by
        rw [w5] at hy
        rw [x7, szn, s4] at h
        rw [x7]
        exact hlF y hy h)
      obtain ⟨b1, b2, b3, b4⟩ := key
      refine ⟨b1, ⟨(sI σ 28 b e').toInt, Or.inr ⟨e', by omega, e2, rfl, rfl⟩, fun y hy h => ?_⟩, ?_, fun o e h => ?_, fun q o e h1 h2 h3 => ?_⟩
      · have g := b2 y (by rw [w5]; exact hy) (by rw [x7, szn, s4, s28]; exact h)
        rw [x7] at g
        rw [g]
        exact hlF y hy (by rcases h with h | h
                           · exact Or.inl h
                           · exact Or.inr ⟨h.1, by omega⟩)
      · rw [b3, if_pos ⟨rfl, rfl⟩]
        have o : (1 : Int32).toInt = 1 := rfl
        rw [w_add' (by omega) (by omega), o]
        omega
      · rw [b3, if_neg h]
        exact ev2 o e h
      · rw [b4 q o e h1 h2 (h3.resolve_right (by omega))]
        exact o1 q o e h1 h2 h3
/-- the state after a zone: numbers, events -/
theorem zv_ok {b t z : Nat} {σ : zSt} {c : Int32} {P7 : Nat → Prop} (hw : zWF b σ) (hq : zQf b σ) (hf : zFi b σ) (ht : t < sN σ 2) (hj : zlV σ (8 * b + t)) (hz : z < 4) (hc : 0 < sZ σ (7 + 4 * b) → sI σ 19 t 0 = 0) (h7 : zSb σ (7 + 4 * b) (5 + 4 * b) (sZ σ (5 + 4 * b)) P7)
    (hl : ∀ y, y < sZ σ (7 + 4 * b) → (z : Int) ≤ zzn σ (lx σ (7 + 4 * b) y) → 0 < (sL σ 0 (lx σ (7 + 4 * b) y) 0).toInt) (hev : sI σ 22 (8 * b + t) z = 0) :
    zFi b (s_serveZone σ b (8 * b + t) z c) ∧ (∀ y, y < sZ σ (7 + 4 * b) → (z : Int) + 1 ≤ zzn σ (lx σ (7 + 4 * b) y) → 0 < (sL (s_serveZone σ b (8 * b + t) z c) 0 (lx σ (7 + 4 * b) y) 0).toInt) ∧
    (0 ≤ (sI (s_serveZone σ b (8 * b + t) z c) 22 (8 * b + t) z).toInt ∧ (sI (s_serveZone σ b (8 * b + t) z c) 22 (8 * b + t) z).toInt ≤ sZ σ (5 + 4 * b)) ∧ (∀ o e, ¬ (o = 8 * b + t ∧ e = z) → sI (s_serveZone σ b (8 * b + t) z c) 22 o e = sI σ 22 o e) ∧ (∀ q o e, 2 ≤ q → q ≤ 5 → (o ≠ 8 * b + t ∨ sI σ 19 t 0 ≠ 0) → sL (s_serveZone σ b (8 * b + t) z c) q o e = sL σ q o e) ∧
    ∃ n, n ≤ 30 ∧ zDy b z (sZ σ (7 + 4 * b)) n (s_zoneFill (uI σ 27 b 0 0) b z) ∧ (∀ e, e < n → 0 ≤ (sI (s_zoneFill (uI σ 27 b 0 0) b z) 28 b e).toInt ∧ (sI (s_zoneFill (uI σ 27 b 0 0) b z) 28 b e).toInt ≤ 999) ∧ ((c = 0 ∨ ¬ v_bestA (s_lay (s_zoneFill (uI σ 27 b 0 0) b z) b t n) b n t = 0) → sI (s_serveZone σ b (8 * b + t) z c) 26 b 0 = sI σ 26 b 0) := by
  have hb := hq.1.1
  have ht8 : t < 8 := Nat.lt_of_lt_of_le ht hq.1.2.1
  have hm8 : (8 * b + t) % 8 = t := by omega
  obtain ⟨⟨p1, p2⟩, ⟨p3, p4, p5⟩, -, -⟩ := zone_pre (z := z) hb hw hj
  obtain ⟨g7, a1, a2⟩ := h7
  have hN30 : sZ σ (7 + 4 * b) ≤ 30 := hw.2.2.2.2.2.2.2.2.2.2
  have hNC : sZ σ (7 + 4 * b) ≤ sZ σ (5 + 4 * b) := inc_le (fun y hy => (a1 y hy).1) a2
  have f0 : zFr b (uI σ 27 b 0 0) σ := zFr.uI (by unfold zst; omega)
  obtain ⟨n, hfill⟩ := fill_ok (σ := uI σ 27 b 0 0) (b := b) (z := z) (u3_s _ _ _ _ _) hN30 (fun y y' h1 h2 => by
      have h2 : y' < sZ σ (7 + 4 * b) := h2
      have e1 := a1 y (by omega)
      have e2 := a1 y' h2
      show (sI (uI σ 27 b 0 0) 4 (lx σ (7 + 4 * b) y) 0).toInt ≤ (sI (uI σ 27 b 0 0) 4 (lx σ (7 + 4 * b) y') 0).toInt
      rw [qI_r, if_neg (fun q => by omega), qI_r, if_neg (fun q => by omega), e1.2.1, e2.2.1]
      exact hq.2.2.2.1 _ _ (a2 y y' h1 h2) e2.1) (fun y hy h => by
      have hy : y < sZ σ (7 + 4 * b) := hy
      have h : sI σ 1 (sP σ (lx σ (7 + 4 * b) y)) 0 = nI z := by
        have h : sI (uI σ 27 b 0 0) 1 (sP σ (lx σ (7 + 4 * b) y)) 0 = nI z := h
        rw [qI_r, if_neg (fun q => by omega)] at h
        exact h
      have e1 := a1 y hy
      refine ⟨hl y hy (by rw [zzn_eq hz h]; exact Int.le_refl _), ?_⟩
      show (sL σ 0 (lx σ (7 + 4 * b) y) 0).toInt ≤ 1000000
      rw [e1.2.1]
      exact ((hf.1 _ e1.1).b (hq.2.2.2.2.1 _ e1.1).2.1.2).1) (sZ σ (7 + 4 * b)) (Nat.le_refl _)
  have hfill : zDy b z (sZ σ (7 + 4 * b)) n (s_zoneFill (uI σ 27 b 0 0) b z) := hfill
  have hn := szN_eq hfill.1 (by have := hfill.2.1; omega)
  unfold s_serveZone
  rw [hm8, hn]
  rw [hm8, hn] at p3 p4 p5
  have hn30 : n ≤ 30 := by have := hfill.2.1; omega
  have hdy : ¬ sI (s_zoneFill (uI σ 27 b 0 0) b z) 14 t 0 ≤ 0 := by
    have f1 : zFr b (s_zoneFill (uI σ 27 b 0 0) b z) σ := (zFr.of (b := b) (szA_22 (uI σ 27 b 0 0) b z (sZ (uI σ 27 b 0 0) (7 + 4 * b))) (fun t ht o x => szA_I (uI σ 27 b 0 0) b z (sZ (uI σ 27 b 0 0) (7 + 4 * b)) ht.2.2.2.1 ht.2.2.2.2.1 o x)).trans (zFr.uI (by unfold zst; omega))
    rw [f1.2.2.1 14 (by unfold zst; omega)]
    exact (hw.2.2.1 t ht).2
  have lI : ∀ q, q ≠ 29 → q ≠ 30 → ∀ o x, sI (s_lay (s_zoneFill (uI σ 27 b 0 0) b z) b t n) q o x = sI (s_zoneFill (uI σ 27 b 0 0) b z) q o x := fun q h1 h2 o x => lyO_I _ _ _ _ _ h1 h2 o x
  have lL : ∀ q, q ≠ 8 → ∀ o x, sL (s_lay (s_zoneFill (uI σ 27 b 0 0) b z) b t n) q o x = sL (s_zoneFill (uI σ 27 b 0 0) b z) q o x := fun q h1 o x => lyO_L _ _ _ _ _ h1 o x
  have aI : ∀ q, q ≠ 27 → q ≠ 28 → ∀ o x, sI (s_zoneFill (uI σ 27 b 0 0) b z) q o x = sI σ q o x := fun q h1 h2 o x => (szA_I (uI σ 27 b 0 0) b z _ h1 h2 o x).trans (by rw [qI_r, if_neg (fun z => h1 z.1)])
  have aL : ∀ q, q ≠ 7 → ∀ o x, sL (s_zoneFill (uI σ 27 b 0 0) b z) q o x = sL σ q o x := fun q h1 o x => szA_L (uI σ 27 b 0 0) b z _ q h1 o x
  have hend := lay_end (s_zoneFill (uI σ 27 b 0 0) b z) b t n hn30 hdy
  have hrng : ∀ e, e < n → 0 ≤ (sI (s_zoneFill (uI σ 27 b 0 0) b z) 28 b e).toInt ∧ (sI (s_zoneFill (uI σ 27 b 0 0) b z) 28 b e).toInt ≤ 999 := fun e he => by
    obtain ⟨y, y1, y2, y3⟩ := hfill.2.2.2.2 e he
    rw [y3, aI 4 (by decide) (by decide), show lx (s_zoneFill (uI σ 27 b 0 0) b z) (7 + 4 * b) y = lx σ (7 + 4 * b) y by
      unfold lx
      rw [show sE (s_zoneFill (uI σ 27 b 0 0) b z) = sE σ from congrArg (fun z => z.1) (szA_22 (uI σ 27 b 0 0) b z _)], (a1 y y1).2.1]
    exact (hq.2.2.2.2.1 _ (a1 y y1).1).1
  -- both states that the loop may start from
  have both : ∀ Z, (Z = s_lay (s_zoneFill (uI σ 27 b 0 0) b z) b t n ∨ Z = uI (s_lay (s_zoneFill (uI σ 27 b 0 0) b z) b t n) 26 b 0 0) → zFi b (s_zoneLoop Z b (8 * b + t) z n) ∧ (∀ y, y < sZ σ (7 + 4 * b) → (z : Int) + 1 ≤ zzn σ (lx σ (7 + 4 * b) y) → 0 < (sL (s_zoneLoop Z b (8 * b + t) z n) 0 (lx σ (7 + 4 * b) y) 0).toInt) ∧
    (0 ≤ (sI (s_zoneLoop Z b (8 * b + t) z n) 22 (8 * b + t) z).toInt ∧ (sI (s_zoneLoop Z b (8 * b + t) z n) 22 (8 * b + t) z).toInt ≤ sZ σ (5 + 4 * b)) ∧ (∀ o e, ¬ (o = 8 * b + t ∧ e = z) → sI (s_zoneLoop Z b (8 * b + t) z n) 22 o e = sI σ 22 o e) ∧ (∀ q o e, 2 ≤ q → q ≤ 5 → (o ≠ 8 * b + t ∨ sI σ 19 t 0 ≠ 0) → sL (s_zoneLoop Z b (8 * b + t) z n) q o e = sL σ q o e) ∧ sI (s_zoneLoop Z b (8 * b + t) z n) 26 b 0 = sI Z 26 b 0 := by
    intro Z hZ
    have Z22 : Z.2.2 = σ.2.2 := by
      rcases hZ with rfl | rfl
      · exact p5
      · exact p5
    have Zfr : zFr b Z σ := by
      rcases hZ with rfl | rfl
      · exact p4
      · exact (zFr.uI (by unfold zst; omega)).trans p4
    have Zw : zWF b Z := by
      rcases hZ with rfl | rfl
      · exact p3
      · exact p3.mv (uI_22 _ _ _ _ _) (zFr.uI (by unfold zst; omega))
    have ZI : ∀ q, q ≠ 26 → q ≠ 27 → q ≠ 28 → q ≠ 29 → q ≠ 30 → ∀ o x, sI Z q o x = sI σ q o x := fun q h0 h1 h2 h3 h4 o x => by
      have g : sI (s_lay (s_zoneFill (uI σ 27 b 0 0) b z) b t n) q o x = sI σ q o x := (lI q h3 h4 o x).trans (aI q h1 h2 o x)
      rcases hZ with rfl | rfl
      · exact g
      · rw [qI_r, if_neg (fun z => h0 z.1)]
        exact g
    have Z28 : ∀ e, sI Z 28 b e = sI (s_zoneFill (uI σ 27 b 0 0) b z) 28 b e := fun e => by
      rcases hZ with rfl | rfl
      · exact lI 28 (by decide) (by decide) b e
      · rw [qI_r, if_neg (fun z => by omega)]
        exact lI 28 (by decide) (by decide) b e
    have Z29 : ∀ e, sI Z 29 b e = sI (s_lay (s_zoneFill (uI σ 27 b 0 0) b z) b t n) 29 b e := fun e => by
      rcases hZ with rfl | rfl
      · rfl
      · rw [qI_r, if_neg (fun z => by omega)]
    have ZL : ∀ q, q ≠ 7 → q ≠ 8 → ∀ o x, sL Z q o x = sL σ q o x := fun q h1 h2 o x => by
      have g : sL (s_lay (s_zoneFill (uI σ 27 b 0 0) b z) b t n) q o x = sL σ q o x := (lL q h2 o x).trans (aL q h1 o x)
      rcases hZ with rfl | rfl
      · exact g
      · exact g
    have xZ : ∀ q y, lx Z q y = lx σ q y := fun q y => by unfold lx; rw [show sE Z = sE σ from congrArg (fun z => z.1) Z22]
    have zZ : sZ Z = sZ σ := congrArg (fun z => z.2.1) Z22
    have zN : sN Z = sN σ := congrArg (fun z => z.2.2.2.2.1) Z22
    have zP' : sP Z = sP σ := congrArg (fun z => z.2.2.2.2.2.1) Z22
    have zzZ : ∀ k, zzn Z k = zzn σ k := zzn_fr Zfr
    have hday : ∀ e, e < n → ∃ y, y < sZ σ (7 + 4 * b) ∧ (sI Z 28 b e).toInt = (sI σ 4 (lx σ (7 + 4 * b) y) 0).toInt := fun e he => by
      obtain ⟨y, y1, y2, y3⟩ := hfill.2.2.2.2 e he
      refine ⟨y, y1, ?_⟩
      rw [Z28, y3, aI 4 (by decide) (by decide)]
      have : lx (s_zoneFill (uI σ 27 b 0 0) b z) (7 + 4 * b) y = lx σ (7 + 4 * b) y := by
        unfold lx
        rw [show sE (s_zoneFill (uI σ 27 b 0 0) b z) = sE σ from congrArg (fun z => z.1) (szA_22 (uI σ 27 b 0 0) b z _)]
      rw [this]
    have key := zn_ok (b := b) (t := t) (z := z) (n := n) (σ := Z) (P7 := P7) Zw (hq.fr Zfr) (hf.fr Zfr (fun q hq o x => ZL q (by omega) (by omega) o x)) (by rw [zN]; exact ht) hz (fun h0 => by
        rw [ZI 19 (by decide) (by decide) (by decide) (by decide) (by decide)]
        exact hc (by have := hfill.2.1; omega)) (by rw [zZ]; exact zSb.mv (by rw [zZ]) (fun y => xZ _ y) (fun y => xZ _ y) ⟨g7, a1, a2⟩) hn30 (fun e he => by
        obtain ⟨y, y1, y2⟩ := hday e he
        rw [y2, (a1 y y1).2.1]
        exact (hq.2.2.2.2.1 _ (a1 y y1).1).1) (fun e e' h1 h2 => by
        rw [Z28, Z28]
        exact hfill.2.2.1 e e' h1 h2) (fun g hg => by
        rw [Z29]
        exact hend g hg) (fun y hy h => by
        rw [zZ] at hy
        rw [xZ, zzZ] at h
        rw [xZ, ZL 0 (by decide) (by decide)]
        exact hl y hy h) (by
        rw [ZI 22 (by decide) (by decide) (by decide) (by decide) (by decide), hev]
        exact ⟨by decide, by decide⟩) n (Nat.le_refl _)
    obtain ⟨k1, ⟨F, hF, k2⟩, k3, k4, k5⟩ := key
    have e22 : sI Z 22 (8 * b + t) z = 0 := (ZI 22 (by decide) (by decide) (by decide) (by decide) (by decide) _ _).trans hev
    rw [e22] at k3
    have o0 : (0 : Int32).toInt = 0 := rfl
    have hnN := hfill.2.1
    refine ⟨k1, fun y hy h => ?_, ⟨?_, ?_⟩, fun o e h => ?_, fun q o e h1 h2 h3 => ?_, ?_⟩
    · have g := k2 y (by rw [zZ]; exact hy) (Or.inl (by rw [xZ, zzZ]; omega))
      rw [xZ] at g
      exact g
    · have := k3.1
      show 0 ≤ (sI (znI Z b (8 * b + t) z n).1 22 (8 * b + t) z).toInt
      omega
    · have := k3.2
      show (sI (znI Z b (8 * b + t) z n).1 22 (8 * b + t) z).toInt ≤ _
      omega
    · exact (k4 o e h).trans (ZI 22 (by decide) (by decide) (by decide) (by decide) (by decide) _ _)
    · refine (k5 q o e h1 h2 ?_).trans (ZL q (by omega) (by omega) o e)
      rcases h3 with h3 | h3
      · exact Or.inl h3
      · refine Or.inr ?_
        rcases Nat.eq_zero_or_pos n with w | w
        · exact w
        · exact absurd (hc (by omega)) h3
    · exact (znI_ok (j := 8 * b + t) (z := z) hb Zw n).2.2.1 26 (by decide) (by decide) b 0
  have h26 : sI (s_lay (s_zoneFill (uI σ 27 b 0 0) b z) b t n) 26 b 0 = sI σ 26 b 0 := (lI 26 (by decide) (by decide) b 0).trans (aI 26 (by decide) (by decide) b 0)
  by_cases c0 : c = 0
  · rw [if_pos c0]
    obtain ⟨k1, k2, k3, k4, k5, k6⟩ := both _ (Or.inl rfl)
    exact ⟨k1, k2, k3, k4, k5, n, hn30, hfill, hrng, fun _ => k6.trans h26⟩
  · rw [if_neg c0]
    by_cases cb : v_bestA (s_lay (s_zoneFill (uI σ 27 b 0 0) b z) b t n) b n t = 0
    · rw [if_pos cb]
      obtain ⟨k1, k2, k3, k4, k5, k6⟩ := both _ (Or.inr rfl)
      refine ⟨k1, k2, k3, k4, k5, n, hn30, hfill, hrng, fun h => ?_⟩
      rcases h with h | h
      · exact absurd h c0
      · exact absurd cb h
    · rw [if_neg cb]
      obtain ⟨k1, k2, k3, k4, k5, k6⟩ := both _ (Or.inl rfl)
      exact ⟨k1, k2, k3, k4, k5, n, hn30, hfill, hrng, fun _ => k6.trans h26⟩
