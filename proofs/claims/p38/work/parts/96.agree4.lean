/-! agreement: all treaties, the beginning, the whole run -/
/-- the flow's losses; the covers that it serves -/
def zKl (b : Nat) (σ : zSt) (o : Nat) : Prop := ∃ y, y < sZ σ (5 + 4 * b) ∧ lx σ (5 + 4 * b) y = o
def zUl (b : Nat) (σ : zSt) (j : Nat) : Prop := ∃ t, t < sN σ 2 ∧ sI σ 19 t 0 = 0 ∧ j = 8 * b + t
section ZAJ
variable {b : Nat} {K U : Nat → Prop} {F : Nat → Nat → Nat → Int64}
/-- what is open, in both -/
theorem open_d {S T : zSt} {i : Nat} (hb : b < 2) (hi : i < sN S 2) (h8 : sN S 2 ≤ 8) (hw : zWF b S) (hw' : zWF b T) (hs : zAs b K S T) (h : zAd K U F (sL S) (sL T)) (hU : ∀ t, t < sN S 2 → sI S 19 t 0 = 0 → U (8 * b + t)) : zAs b K (s_findOpen S b (8 * b + i)) (s_findOpen T b (8 * b + i)) ∧ zAd K U F (sL (s_findOpen S b (8 * b + i))) (sL (s_findOpen T b (8 * b + i))) ∧ zAq (7 + 4 * b) (s_findOpen S b (8 * b + i)) (s_findOpen T b (8 * b + i)) ∧ (∀ y, y < sZ (s_findOpen S b (8 * b + i)) (7 + 4 * b) → K (lx (s_findOpen S b (8 * b + i)) (7 + 4 * b) y)) ∧ (0 < sZ (s_findOpen S b (8 * b + i)) (7 + 4 * b) → U (8 * b + i)) := by
  have hm8 : (8 * b + i) % 8 = i := by omega
  have IL := foI_IL S b (8 * b + i) (sZ S (5 + 4 * b))
  have IL' := foI_IL T b (8 * b + i) (sZ T (5 + 4 * b))
  have fo := fo_ok (σ := S) (b := b) (j := 8 * b + i) (sZ S (5 + 4 * b))
  have qa := fo_a hs h (8 * b + i) (sZ S (5 + 4 * b)) (Nat.le_refl _)
  have sx : zSx (fun y => y = 7 + 4 * b) (foI S b (8 * b + i) (sZ S (5 + 4 * b))) S := foI_sx _
  rw [hm8] at fo
  obtain ⟨g, g1, g2⟩ := fo
  refine ⟨hs.fr (findOpen_ok hb hw).2 (findOpen_ok hb hw').2, ?_, ?_, fun y hy => ?_, fun h0 => ?_⟩
  · show zAd K U F (sL (foI S b (8 * b + i) (sZ S (5 + 4 * b)))) (sL (foI T b (8 * b + i) (sZ T (5 + 4 * b))))
    rw [show sL (foI S b (8 * b + i) (sZ S (5 + 4 * b))) = sL S from IL.2, show sL (foI T b (8 * b + i) (sZ T (5 + 4 * b))) = sL T from IL'.2]
    exact h
  · show zAq (7 + 4 * b) (foI S b (8 * b + i) (sZ S (5 + 4 * b))) (foI T b (8 * b + i) (sZ T (5 + 4 * b)))
    rw [← hs.2.1.1.1]
    exact qa
  · have := g1 y hy
    show K (lx (foI S b (8 * b + i) (sZ S (5 + 4 * b))) (7 + 4 * b) y)
    rw [this.2.1, zSx_lx sx (by omega)]
    exact hs.2.2.2.2 _ this.1
  · exact hU i hi (covers_c (g1 0 h0).2.2.2)
theorem zoZ_d {σ τ : zSt} {i : Nat} (tr tr' : Int32) (hb : b < 2) (hi : i < sN σ 2) (h8 : sN σ 2 ≤ 8) (h56 : sN σ 5 = sN σ 2 ∧ sN σ 6 = sN σ 2) (hZ : sZ σ (6 + 4 * b) = sN σ 2) (hx : lx σ (6 + 4 * b) i = 8 * b + i) (hw : zWF b σ) (hw' : zWF b τ) (hs : zAs b K σ τ) (h : zAd K U F (sL σ) (sL τ)) (h7 : zAq (7 + 4 * b) σ τ) (hK : ∀ y, y < sZ σ (7 + 4 * b) → K (lx σ (7 + 4 * b) y)) (hU : 0 < sZ σ (7 + 4 * b) → U (8 * b + i)) : ∀ z, zAd K U F (sL (zoZ σ b i tr z)) (sL (zoZ τ b i tr' z)) ∧ sE (zoZ σ b i tr z) (7 + 4 * b) = sE σ (7 + 4 * b) ∧ sE (zoZ τ b i tr' z) (7 + 4 * b) = sE τ (7 + 4 * b)
  | 0 => ⟨h, rfl, rfl⟩
  | z + 1 => by
    obtain ⟨ih, e1, e2⟩ := zoZ_d tr tr' hb hi h8 h56 hZ hx hw hw' hs h h7 hK hU z
    have hx' : lx τ (6 + 4 * b) i = 8 * b + i := by rw [← hs.2.1.2.2 i (by rw [hZ]; exact hi)]; exact hx
    have hZ' : sZ τ (6 + 4 * b) = sN σ 2 := by rw [← hs.2.1.2.1]; exact hZ
    obtain ⟨w1, w2, w3⟩ := zoZ_ok (tr := tr) hb hw (i := i) (by rw [hZ]; exact hi) z
    obtain ⟨v1, v2, v3⟩ := zoZ_ok (tr := tr') hb hw' (i := i) (by rw [hZ']; exact hi) z
    have n1 : sN (zoZ σ b i tr z) = sN σ := w2.1.1
    have n2 : sN (zoZ τ b i tr' z) = sN σ := v2.1.1.trans hs.1.1.symm
    have hj : zlV (zoZ σ b i tr z) (8 * b + i) := zlV_of hb (by rw [n1]; exact hi) (by rw [n1]; exact h56)
    have hj' : zlV (zoZ τ b i tr' z) (8 * b + i) := zlV_of hb (by rw [n2]; exact hi) (by rw [n2]; exact h56)
    have x1 : ∀ y, lx (zoZ σ b i tr z) (7 + 4 * b) y = lx σ (7 + 4 * b) y := fun y => by unfold lx; rw [e1]
    have x2 : ∀ y, lx (zoZ τ b i tr' z) (7 + 4 * b) y = lx τ (7 + 4 * b) y := fun y => by unfold lx; rw [e2]
    have hS : ∃ c, zoZ σ b i tr (z + 1) = s_serveZone (zoZ σ b i tr z) b (8 * b + i) z c := by
      show ∃ c, (if nI i = tr then s_serveZone (zoZ σ b i tr z) b (lx σ (6 + 4 * b) i) z 1 else s_serveZone (zoZ σ b i tr z) b (lx σ (6 + 4 * b) i) z 0) = _
      rw [hx]
      split
      · exact ⟨1, rfl⟩
      · exact ⟨0, rfl⟩
    have hT : ∃ c, zoZ τ b i tr' (z + 1) = s_serveZone (zoZ τ b i tr' z) b (8 * b + i) z c := by
      show ∃ c, (if nI i = tr' then s_serveZone (zoZ τ b i tr' z) b (lx τ (6 + 4 * b) i) z 1 else s_serveZone (zoZ τ b i tr' z) b (lx τ (6 + 4 * b) i) z 0) = _
      rw [hx']
      split
      · exact ⟨1, rfl⟩
      · exact ⟨0, rfl⟩
    obtain ⟨c, hS⟩ := hS
    obtain ⟨c', hT⟩ := hT
    rw [hS, hT]
    refine ⟨zone_d c c' hb (by omega) (by rw [n1]; exact hi) hj hj' w1 v1 (hs.fr w2 v2) ih ⟨by rw [w3, v3]; exact h7.1, fun y hy => by rw [x1, x2]; exact h7.2 y (by rw [← w3]; exact hy)⟩ (fun y hy => by rw [x1]; exact hK y (by rw [← w3]; exact hy)) (fun h0 => hU (by rw [← w3]; exact h0)), ?_, ?_⟩
    · exact (serveZone_ok (z := z) (c := c) hb w1 hj).2.2.1.trans e1
    · exact (serveZone_ok (z := z) (c := c') hb v1 hj').2.2.1.trans e2
theorem rnE_d {σ τ : zSt} (tr tr' : Int32) (hb : b < 2) (h8 : sN σ 2 ≤ 8) (h56 : sN σ 5 = sN σ 2 ∧ sN σ 6 = sN σ 2) (hZ : sZ σ (6 + 4 * b) = sN σ 2) (hx : ∀ i, i < sN σ 2 → lx σ (6 + 4 * b) i = 8 * b + i) (hw : zWF b σ) (hw' : zWF b τ) (hs : zAs b K σ τ) (h : zAd K U F (sL σ) (sL τ)) (hU : ∀ t, t < sN σ 2 → sI σ 19 t 0 = 0 → U (8 * b + t)) : ∀ i, i ≤ sN σ 2 → zAd K U F (sL (rnE σ b tr i)) (sL (rnE τ b tr' i))
  | 0, _ => h
  | i + 1, hi => by
    have ih := rnE_d tr tr' hb h8 h56 hZ hx hw hw' hs h hU i (by omega)
    have hZ' : sZ τ (6 + 4 * b) = sN σ 2 := by rw [← hs.2.1.2.1]; exact hZ
    obtain ⟨w1, w2⟩ := rnE_ok (tr := tr) hb hw i (by rw [hZ]; omega)
    obtain ⟨v1, v2⟩ := rnE_ok (tr := tr') hb hw' i (by rw [hZ']; omega)
    have x1 := hx i (by omega)
    have x2 : lx τ (6 + 4 * b) i = 8 * b + i := by rw [← hs.2.1.2.2 i (by rw [hZ]; omega)]; exact x1
    have hm8 : (8 * b + i) % 8 = i := by omega
    have hS := hs.fr w2 v2
    have n1 : sN (rnE σ b tr i) = sN σ := w2.1.1
    have z1 : sZ (rnE σ b tr i) (6 + 4 * b) = sN σ 2 := (zSx_Z w2.1 (zQb_no (Or.inr rfl))).trans hZ
    have y1 : lx (rnE σ b tr i) (6 + 4 * b) i = 8 * b + i := (zSx_lx w2.1 (zQb_no (Or.inr rfl)) i).trans x1
    have u1 : ∀ t, t < sN σ 2 → sI (rnE σ b tr i) 19 t 0 = 0 → U (8 * b + t) := fun t ht hc => hU t ht (by rw [← w2.2.2.1 19 (by unfold zst; omega)]; exact hc)
    simp only [rnE]
    rw [x1, x2, hm8]
    generalize rnE σ b tr i = S at *
    generalize rnE τ b tr' i = T at *
    rw [hS.r 8 (by unfold zatt; omega)]
    by_cases c : sI T 8 i 0 = 101
    · rw [if_pos c, if_pos c]
      obtain ⟨k1, k2, k3, k4, k5⟩ := open_d hb (by rw [n1]; omega) (by rw [n1]; exact h8) w1 v1 hS ih (i := i) (by rw [n1]; exact u1)
      obtain ⟨p1, p2⟩ := findOpen_ok (j := 8 * b + i) hb w1
      obtain ⟨r1, r2⟩ := findOpen_ok (j := 8 * b + i) hb v1
      have n3 : sN (s_findOpen S b (8 * b + i)) = sN σ := p2.1.1.trans n1
      exact (zoZ_d tr tr' hb (by rw [n3]; omega) (by rw [n3]; exact h8) (by rw [n3]; exact h56) (by rw [n3]; exact (zSx_Z p2.1 (zQb_no (Or.inr rfl))).trans z1) ((zSx_lx p2.1 (zQb_no (Or.inr rfl)) i).trans y1) p1 r1 k1 k2 k3 k4 k5 4).1
    · rw [if_neg c, if_neg c]
      exact ih
theorem rnG_d {σ τ : zSt} (hb : b < 2) (h8 : sN σ 2 ≤ 8) (hZ : sZ σ (6 + 4 * b) = sN σ 2) (hx : ∀ i, i < sN σ 2 → lx σ (6 + 4 * b) i = 8 * b + i) (hw : zWF b σ) (hw' : zWF b τ) (hs : zAs b K σ τ) (h : zAd K U F (sL σ) (sL τ)) (hU : ∀ t, t < sN σ 2 → sI σ 19 t 0 = 0 → U (8 * b + t)) : ∀ i, i ≤ sN σ 2 → zAd K U F (sL (rnG σ b i)) (sL (rnG τ b i))
  | 0, _ => h
  | i + 1, hi => by
    have ih := rnG_d hb h8 hZ hx hw hw' hs h hU i (by omega)
    obtain ⟨w1, w2⟩ := rnG_ok hb hw i
    obtain ⟨v1, v2⟩ := rnG_ok hb hw' i
    have x1 := hx i (by omega)
    have x2 : lx τ (6 + 4 * b) i = 8 * b + i := by rw [← hs.2.1.2.2 i (by rw [hZ]; omega)]; exact x1
    have hm8 : (8 * b + i) % 8 = i := by omega
    have hS := hs.fr w2 v2
    have n1 : sN (rnG σ b i) = sN σ := w2.1.1
    have u1 : ∀ t, t < sN σ 2 → sI (rnG σ b i) 19 t 0 = 0 → U (8 * b + t) := fun t ht hc => hU t ht (by rw [← w2.2.2.1 19 (by unfold zst; omega)]; exact hc)
    simp only [rnG]
    rw [x1, x2, hm8]
    generalize rnG σ b i = S at *
    generalize rnG τ b i = T at *
    rw [hS.r 8 (by unfold zatt; omega)]
    by_cases c : sI T 8 i 0 = 97
    · rw [if_pos c, if_pos c]
      obtain ⟨k1, k2, k3, k4, k5⟩ := open_d hb (by rw [n1]; omega) (by rw [n1]; exact h8) w1 v1 hS ih (i := i) (by rw [n1]; exact u1)
      obtain ⟨p1, p2⟩ := findOpen_ok (j := 8 * b + i) hb w1
      obtain ⟨r1, r2⟩ := findOpen_ok (j := 8 * b + i) hb v1
      generalize s_findOpen S b (8 * b + i) = A at *
      generalize s_findOpen T b (8 * b + i) = B at *
      obtain ⟨y1, y2⟩ := gather_ok (z := -1) (f := 0) (l := 999) hb p1
      obtain ⟨t1, t2⟩ := gather_ok (z := -1) (f := 0) (l := 999) hb r1
      have GL := gaI_IL A b (-1) 0 999 (sZ A (7 + 4 * b))
      have GL' := gaI_IL B b (-1) 0 999 (sZ B (7 + 4 * b))
      have q8 : zAq (8 + 4 * b) (s_gather A b (-1) 0 999) (s_gather B b (-1) 0 999) := by
        show zAq (8 + 4 * b) (gaI A b (-1) 0 999 (sZ A (7 + 4 * b))) (gaI B b (-1) 0 999 (sZ B (7 + 4 * b)))
        rw [← k3.1]
        exact ga_a k1 k3 k4 (-1) 0 999 (sZ A (7 + 4 * b)) (Nat.le_refl _)
      obtain ⟨g, g1, -⟩ := ga_ok (σ := A) (b := b) (z := -1) (f := 0) (l := 999) (sZ A (7 + 4 * b))
      have gsx := gaI_sx (σ := A) (b := b) (z := -1) (f := 0) (l := 999) (sZ A (7 + 4 * b))
      refine (group_d (k1.fr y2 t2) q8 (fun y hy => ?_) (fun h0 => ?_) ?_).1
      · have := g1 y hy
        show K (lx (gaI A b (-1) 0 999 (sZ A (7 + 4 * b))) (8 + 4 * b) y)
        rw [this.2.1, zSx_lx gsx (by omega)]
        exact k4 _ this.1
      · have := (g1 0 h0).1
        exact k5 (by omega)
      · show zAd K U F (sL (gaI A b (-1) 0 999 (sZ A (7 + 4 * b)))) (sL (gaI B b (-1) 0 999 (sZ B (7 + 4 * b))))
        rw [show sL (gaI A b (-1) 0 999 (sZ A (7 + 4 * b))) = sL A from GL.2, show sL (gaI B b (-1) 0 999 (sZ B (7 + 4 * b))) = sL B from GL'.2]
        exact k2
    · rw [if_neg c, if_neg c]
      exact ih
theorem rnA_o (σ : zSt) (b : Nat) : ∀ i, ∀ o, (∀ y, y < i → lx σ (5 + 4 * b) y ≠ o) → ∀ q, q < 2 → ∀ e, sL (rnA σ b i) q o e = sL σ q o e
  | 0, _, _, _, _, _ => rfl
  | i + 1, o, h, q, hq, e => by
    have ih := rnA_o σ b i o (fun y hy => h y (by omega)) q hq e
    have hn := h i (Nat.lt_succ_self i)
    show sL (s_clBegin (rnA σ b i) (lx σ (5 + 4 * b) i)) q o e = _
    rw [clB_L, if_neg (fun z => hn z.2.1.symm), if_neg (fun z => hn z.2.1.symm)]
    exact ih
/-- the whole run: two states that agree on what it reads agree on what it writes; others' losses stay -/
theorem run_d {σ τ : zSt} (tr tr' : Int32) (hw : zWF b σ) (hw' : zWF b τ) (hq : zQf b σ) (h56 : sN σ 5 = sN σ 2 ∧ sN σ 6 = sN σ 2) (hs : zAs b (zKl b σ) σ τ) :
    zAs b (zKl b σ) (s_run σ b tr) (s_run τ b tr') ∧ zAd (zKl b σ) (zUl b σ) (sL σ) (sL (s_run σ b tr)) (sL (s_run τ b tr')) := by
  have hb := hq.1.1
  have h8 := hq.1.2.1
  have hZ := hq.1.2.2.1
  have hx := hq.1.2.2.2
  obtain ⟨⟨w0, t0⟩, ⟨w1, t1⟩, ⟨w2, t2⟩, ⟨w3, t3⟩, ⟨w4, t4⟩, ⟨w5, t5⟩⟩ := run_ok (tr := tr) hb hw
  obtain ⟨⟨v0, u0⟩, ⟨v1, u1⟩, ⟨v2, u2⟩, ⟨v3, u3'⟩, ⟨v4, u4⟩, ⟨v5, u5⟩⟩ := run_ok (tr := tr') hb hw'
  refine ⟨hs.fr t5 u5, ?_⟩
  have hZ' : sZ τ (6 + 4 * b) = sN σ 2 := by rw [← hs.2.1.2.1]; exact hZ
  have hN' : sN τ = sN σ := hs.1.1.symm
  have hx' : ∀ i, i < sN σ 2 → lx τ (6 + 4 * b) i = 8 * b + i := fun i hi => by rw [← hs.2.1.2.2 i (by rw [hZ]; exact hi)]; exact hx i hi
  -- the beginnings
  have beg : zAd (zKl b σ) (zUl b σ) (sL σ) (sL (s_run2 (s_run1 (uI σ 26 b 0 1) b) b)) (sL (s_run2 (s_run1 (uI τ 26 b 0 1) b) b)) := by
    have A := rnA_L (uI σ 26 b 0 1) b (sZ (uI σ 26 b 0 1) (5 + 4 * b))
    have A' := rnA_L (uI τ 26 b 0 1) b (sZ (uI τ 26 b 0 1) (5 + 4 * b))
    have O := rnA_o (uI σ 26 b 0 1) b (sZ (uI σ 26 b 0 1) (5 + 4 * b))
    have eA : s_run1 (uI σ 26 b 0 1) b = rnA (uI σ 26 b 0 1) b (sZ (uI σ 26 b 0 1) (5 + 4 * b)) := rfl
    have eA' : s_run1 (uI τ 26 b 0 1) b = rnA (uI τ 26 b 0 1) b (sZ (uI τ 26 b 0 1) (5 + 4 * b)) := rfl
    rw [← eA] at A O
    rw [← eA'] at A'
    have n1 : sN (s_run1 (uI σ 26 b 0 1) b) = sN σ := t1.1.1
    have n1' : sN (s_run1 (uI τ 26 b 0 1) b) = sN σ := u1.1.1.trans hN'
    have zA : sZ (s_run1 (uI σ 26 b 0 1) b) (6 + 4 * b) = sN σ 2 := (zSx_Z t1.1 (zQb_no (Or.inr rfl))).trans hZ
    have zA' : sZ (s_run1 (uI τ 26 b 0 1) b) (6 + 4 * b) = sN σ 2 := (zSx_Z u1.1 (zQb_no (Or.inr rfl))).trans hZ'
    have B := rnB_v (b := b) (σ := s_run1 (uI σ 26 b 0 1) b) (by rw [n1]; exact h8) (fun i hi => (zSx_lx t1.1 (zQb_no (Or.inr rfl)) i).trans (hx i (by rw [← n1]; exact hi))) (sN σ 2) (by rw [n1]; exact Nat.le_refl _)
    have B' := rnB_v (b := b) (σ := s_run1 (uI τ 26 b 0 1) b) (by rw [n1']; exact h8) (fun i hi => (zSx_lx u1.1 (zQb_no (Or.inr rfl)) i).trans (hx' i (by rw [← n1']; exact hi))) (sN σ 2) (by rw [n1']; exact Nat.le_refl _)
    have eB : s_run2 (s_run1 (uI σ 26 b 0 1) b) b = rnB (s_run1 (uI σ 26 b 0 1) b) b (sN σ 2) := by
      show rnB _ _ (sZ (s_run1 (uI σ 26 b 0 1) b) (6 + 4 * b)) = _
      rw [zA]
    have eB' : s_run2 (s_run1 (uI τ 26 b 0 1) b) b = rnB (s_run1 (uI τ 26 b 0 1) b) b (sN σ 2) := by
      show rnB _ _ (sZ (s_run1 (uI τ 26 b 0 1) b) (6 + 4 * b)) = _
      rw [zA']
    rw [← eB] at B
    rw [← eB'] at B'
    have st : ∀ q, zst q → ∀ o x, sI (s_run1 (uI σ 26 b 0 1) b) q o x = sI σ q o x := t1.2.2.1
    have st' : ∀ q, zst q → ∀ o x, sI (s_run1 (uI τ 26 b 0 1) b) q o x = sI τ q o x := u1.2.2.1
    have I6 : ∀ (Z : zSt) (k : Nat), sI (uI Z 26 b 0 1) 6 k 0 = sI Z 6 k 0 := fun Z k => by rw [qI_r, if_neg (fun q => by omega)]
    have c0 : ∀ y, y < sZ σ (5 + 4 * b) → sL (s_run2 (s_run1 (uI σ 26 b 0 1) b) b) 0 (lx σ (5 + 4 * b) y) 0 = (sI σ 6 (lx σ (5 + 4 * b) y) 0).toInt64 ∧ ∀ e, e < 8 → sL (s_run2 (s_run1 (uI σ 26 b 0 1) b) b) 1 (lx σ (5 + 4 * b) y) e = 0 := fun y hy => by
      have g := A.2 y hy
      refine ⟨?_, fun e he => ?_⟩
      · rw [B.1 0 _ _ (by decide), ← I6 σ]
        exact g.1
      · rw [B.1 1 _ _ (by decide)]
        exact g.2 e he
    have c0' : ∀ y, y < sZ τ (5 + 4 * b) → sL (s_run2 (s_run1 (uI τ 26 b 0 1) b) b) 0 (lx τ (5 + 4 * b) y) 0 = (sI τ 6 (lx τ (5 + 4 * b) y) 0).toInt64 ∧ ∀ e, e < 8 → sL (s_run2 (s_run1 (uI τ 26 b 0 1) b) b) 1 (lx τ (5 + 4 * b) y) e = 0 := fun y hy => by
      have g := A'.2 y hy
      refine ⟨?_, fun e he => ?_⟩
      · rw [B'.1 0 _ _ (by decide), ← I6 τ]
        exact g.1
      · rw [B'.1 1 _ _ (by decide)]
        exact g.2 e he
    refine ⟨fun o ho => ?_, fun j hj q q1 q2 => ?_, fun o ho q hq e => ?_⟩
    · obtain ⟨y, hy, rfl⟩ := ho
      have g := c0 y hy
      have hy' : y < sZ τ (5 + 4 * b) := by rw [← hs.2.1.1.1]; exact hy
      have g' := c0' y hy'
      rw [← hs.2.1.1.2 y hy] at g'
      refine ⟨?_, fun e he => ?_⟩
      · rw [g.1, g'.1, hs.2.2.2.1 6 (by decide) (by decide) _ ⟨y, hy, rfl⟩]
      · rw [g.2 e he, g'.2 e he]
    · obtain ⟨t, ht, hc, rfl⟩ := hj
      have g := (B.2.1 t ht).2 (by rw [st 19 (by unfold zst; omega)]; exact hc)
      have g' := (B'.2.1 t ht).2 (by rw [st' 19 (by unfold zst; omega), ← hs.r 19 (by unfold zatt; omega)]; exact hc)
      have ew := whole_a (hs.fr t1 u1) t
      rcases (show q = 2 ∨ q = 3 ∨ q = 4 ∨ q = 5 by omega) with r | r | r | r
      · subst r
        rw [g.1, g'.1, ew]
      · subst r
        rw [g.2.1, g'.2.1]
      · subst r
        rw [g.2.2.1, g'.2.2.1]
      · subst r
        rw [g.2.2.2, g'.2.2.2]
    · rw [B.1 q o e hq]
      exact O o (fun y hy z => ho ⟨y, hy, z⟩) q hq e
  have s2 := hs.fr t2 u2
  unfold s_run
  generalize s_run2 (s_run1 (uI σ 26 b 0 1) b) b = S at *
  generalize s_run2 (s_run1 (uI τ 26 b 0 1) b) b = T at *
  have nS : sN S = sN σ := t2.1.1
  have z6 : sZ S (6 + 4 * b) = sN σ 2 := (zSx_Z t2.1 (zQb_no (Or.inr rfl))).trans hZ
  have x6 : ∀ i, i < sN σ 2 → lx S (6 + 4 * b) i = 8 * b + i := fun i hi => (zSx_lx t2.1 (zQb_no (Or.inr rfl)) i).trans (hx i hi)
  have uu : ∀ t, t < sN σ 2 → sI S 19 t 0 = 0 → zUl b σ (8 * b + t) := fun t ht hc => ⟨t, ht, by rw [← t2.2.2.1 19 (by unfold zst; omega)]; exact hc, rfl⟩
  have z5 : sZ S (5 + 4 * b) = sZ T (5 + 4 * b) := s2.2.1.1.1
  have z6' : sZ T (6 + 4 * b) = sN σ 2 := by rw [← s2.2.1.2.1]; exact z6
  have d3 := rnC_d s2 (by rw [nS]; exact h8) (by rw [nS]; exact z6) (by rw [nS]; exact x6) (by rw [nS]; exact uu) beg (sZ S (5 + 4 * b)) (Nat.le_refl _)
  have d3 : zAd (zKl b σ) (zUl b σ) (sL σ) (sL (s_run3 S b)) (sL (s_run3 T b)) := by
    have e : s_run3 T b = rnC T b (sZ S (5 + 4 * b)) := by rw [z5]; rfl
    rw [e]
    exact d3
  have s3 := hs.fr t3 u3'
  generalize s_run3 S b = A at *
  generalize s_run3 T b = B at *
  have nA : sN A = sN σ := t3.1.1
  have zA6 : sZ A (6 + 4 * b) = sN σ 2 := (zSx_Z t3.1 (zQb_no (Or.inr rfl))).trans hZ
  have zB6 : sZ B (6 + 4 * b) = sN σ 2 := by rw [← s3.2.1.2.1]; exact zA6
  have d4 := rnE_d tr tr' hb (by rw [nA]; exact h8) (by rw [nA]; exact h56) (by rw [nA]; exact zA6) (fun i hi => (zSx_lx t3.1 (zQb_no (Or.inr rfl)) i).trans (hx i (by rw [← nA]; exact hi))) w3 v3 s3 d3 (fun t ht hc => ⟨t, by rw [← nA]; exact ht, by rw [← t3.2.2.1 19 (by unfold zst; omega)]; exact hc, rfl⟩) (sN σ 2) (by rw [nA]; exact Nat.le_refl _)
  have d4 : zAd (zKl b σ) (zUl b σ) (sL σ) (sL (s_run4 A b tr)) (sL (s_run4 B b tr')) := by
    have e : s_run4 A b tr = rnE A b tr (sN σ 2) := by rw [← zA6]; rfl
    have e' : s_run4 B b tr' = rnE B b tr' (sN σ 2) := by rw [← zB6]; rfl
    rw [e, e']
    exact d4
  have s4 := hs.fr t4 u4
  generalize s_run4 A b tr = C at *
  generalize s_run4 B b tr' = D at *
  have nC : sN C = sN σ := t4.1.1
  have zC6 : sZ C (6 + 4 * b) = sN σ 2 := (zSx_Z t4.1 (zQb_no (Or.inr rfl))).trans hZ
  have zD6 : sZ D (6 + 4 * b) = sN σ 2 := by rw [← s4.2.1.2.1]; exact zC6
  have d5 := rnG_d hb (by rw [nC]; exact h8) (by rw [nC]; exact zC6) (fun i hi => (zSx_lx t4.1 (zQb_no (Or.inr rfl)) i).trans (hx i (by rw [← nC]; exact hi))) w4 v4 s4 d4 (fun t ht hc => ⟨t, by rw [← nC]; exact ht, by rw [← t4.2.2.1 19 (by unfold zst; omega)]; exact hc, rfl⟩) (sN σ 2) (by rw [nC]; exact Nat.le_refl _)
  have e : s_run5 C b = rnG C b (sN σ 2) := by rw [← zC6]; rfl
  have e' : s_run5 D b = rnG D b (sN σ 2) := by rw [← zD6]; rfl
  rw [e, e']
  exact d5
end ZAJ
