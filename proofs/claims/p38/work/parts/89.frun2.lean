/-! the flow's beginning, the treaties of the year, the whole run -/
theorem clB_L (σ : zSt) (k t o e : Nat) : sL (s_clBegin σ k) t o e = if t = 1 ∧ o = k ∧ e < 8 then 0 else if t = 0 ∧ o = k ∧ e = 0 then (sI σ 6 k 0).toInt64 else sL σ t o e := by
  have h : ∀ (S : zSt) (o : Nat) (v : Int32) (n : Nat), (zfI S 7 o v n).2.1 = S.2.1 := fun S o v n => by
    induction n with
    | zero => rfl
    | succ n ih => exact ih
  show sL (zfI (zfL (uL σ 0 k 0 ((sI σ 6 k 0).toInt64)) 1 k 0 8) 7 k (-1) 8) t o e = _
  rw [show sL (zfI (zfL (uL σ 0 k 0 ((sI σ 6 k 0).toInt64)) 1 k 0 8) 7 k (-1) 8) = sL (zfL (uL σ 0 k 0 ((sI σ 6 k 0).toInt64)) 1 k 0 8) from h _ _ _ _, zfL_r, qL_r]
theorem rnA_L (σ : zSt) (b : Nat) : ∀ i, (∀ t o e, 2 ≤ t → sL (rnA σ b i) t o e = sL σ t o e) ∧ ∀ y, y < i → (sL (rnA σ b i) 0 (lx σ (5 + 4 * b) y) 0 = (sI σ 6 (lx σ (5 + 4 * b) y) 0).toInt64 ∧ ∀ e, e < 8 → sL (rnA σ b i) 1 (lx σ (5 + 4 * b) y) e = 0)
  | 0 => ⟨fun _ _ _ _ => rfl, fun _ h => absurd h (Nat.not_lt_zero _)⟩
  | i + 1 => by
    obtain ⟨h1, h2⟩ := rnA_L σ b i
    have e6 : ∀ k, sI (rnA σ b i) 6 k 0 = sI σ 6 k 0 := fun k => rnA_I σ b i (by decide) k 0
    refine ⟨fun t o e ht => ?_, fun y hy => ⟨?_, fun e he => ?_⟩⟩
    · show sL (s_clBegin (rnA σ b i) (lx σ (5 + 4 * b) i)) t o e = _
      rw [clB_L, if_neg (fun q => by omega), if_neg (fun q => by omega)]
      exact h1 t o e ht
    · show sL (s_clBegin (rnA σ b i) (lx σ (5 + 4 * b) i)) 0 _ 0 = _
      rw [clB_L, if_neg (fun q => by omega), e6]
      by_cases c : lx σ (5 + 4 * b) y = lx σ (5 + 4 * b) i
      · rw [if_pos ⟨rfl, c, rfl⟩, c]
      · rw [if_neg (fun q => c q.2.1)]
        have : y < i := by
          rcases Nat.lt_or_ge y i with w | w
          · exact w
          · exact absurd (by rw [show y = i by omega]) c
        exact (h2 y this).1
    · show sL (s_clBegin (rnA σ b i) (lx σ (5 + 4 * b) i)) 1 _ e = _
      rw [clB_L]
      by_cases c : lx σ (5 + 4 * b) y = lx σ (5 + 4 * b) i
      · rw [if_pos ⟨rfl, c, he⟩]
      · rw [if_neg (fun q => c q.2.1), if_neg (fun q => by omega)]
        have : y < i := by
          rcases Nat.lt_or_ge y i with w | w
          · exact w
          · exact absurd (by rw [show y = i by omega]) c
        exact (h2 y this).2 e he
theorem cvB_I (σ : zSt) (j t o e : Nat) : sI (s_cvBegin σ j) t o e = if t = 22 ∧ o = j ∧ e < 4 then 0 else sI σ t o e := by
  unfold s_cvBegin s_fill_CEV
  have g : sI (zfI σ 22 j 0 4) t o e = if t = 22 ∧ o = j ∧ e < 4 then 0 else sI σ t o e := zfI_r σ 22 j 0 4 t o e
  split
  · exact g
  · exact g
theorem cvB_L (σ : zSt) (j t o e : Nat) : sL (s_cvBegin σ j) t o e = if sI σ 19 (j % 8) 0 = 0 then (if t = 5 ∧ o = j ∧ e = 0 then 0 else if t = 4 ∧ o = j ∧ e = 0 then 0 else if t = 3 ∧ o = j ∧ e = 0 then 0 else if t = 2 ∧ o = j ∧ e = 0 then v_wholeLimit σ (j % 8) else sL σ t o e) else sL σ t o e := by
  have h : ∀ (S : zSt) (o : Nat) (v : Int32) (n : Nat), (zfI S 22 o v n).2.1 = S.2.1 := fun S o v n => by
    induction n with
    | zero => rfl
    | succ n ih => exact ih
  have e19 : sI (zfI σ 22 j 0 4) 19 (j % 8) 0 = sI σ 19 (j % 8) 0 := by rw [zfI_r, if_neg (fun q => by omega)]
  have ew : v_wholeLimit (zfI σ 22 j 0 4) (j % 8) = v_wholeLimit σ (j % 8) := by
    have r : ∀ q, q ≠ 22 → sI (zfI σ 22 j 0 4) q (j % 8) 0 = sI σ q (j % 8) 0 := fun q hq => by rw [zfI_r, if_neg (fun z => hq z.1)]
    unfold v_wholeLimit v_isLimited
    rw [r 8 (by decide), r 13 (by decide), r 15 (by decide)]
  unfold s_cvBegin s_fill_CEV
  rw [e19, ew]
  have hL : sL (zfI σ 22 j 0 4) = sL σ := h _ _ _ _
  split
  · rw [qL_r, qL_r, qL_r, qL_r, hL]
  · rw [hL]
/-- covers begun -/
theorem rnB_v {b : Nat} {σ : zSt} (h8 : sN σ 2 ≤ 8) (hx : ∀ i, i < sN σ 2 → lx σ (6 + 4 * b) i = 8 * b + i) : ∀ i, i ≤ sN σ 2 → (∀ t o e, t < 2 → sL (rnB σ b i) t o e = sL σ t o e) ∧ (∀ t, t < i → (∀ z, z < 4 → sI (rnB σ b i) 22 (8 * b + t) z = 0) ∧ (sI σ 19 t 0 = 0 → sL (rnB σ b i) 2 (8 * b + t) 0 = v_wholeLimit σ t ∧ sL (rnB σ b i) 3 (8 * b + t) 0 = 0 ∧ sL (rnB σ b i) 4 (8 * b + t) 0 = 0 ∧ sL (rnB σ b i) 5 (8 * b + t) 0 = 0)) ∧ zFz b (rnB σ b i) σ
  | 0, _ => ⟨fun _ _ _ _ => rfl, fun _ h => absurd h (Nat.not_lt_zero _), fun _ _ _ _ _ _ => rfl⟩
  | i + 1, hi => by
    obtain ⟨h1, h2, h3⟩ := rnB_v h8 hx i (by omega)
    have eI : ∀ t, t ≠ 22 → ∀ o x, sI (rnB σ b i) t o x = sI σ t o x := fun t ht o x => rnB_I σ b i ht o x
    have hw : ∀ t, v_wholeLimit (rnB σ b i) t = v_wholeLimit σ t := fun t => by
      unfold v_wholeLimit v_isLimited
      rw [eI 8 (by decide), eI 13 (by decide), eI 15 (by decide)]
    have hm8 : (8 * b + i) % 8 = i := by omega
    have hdef : rnB σ b (i + 1) = s_cvBegin (rnB σ b i) (8 * b + i) := by
      show s_cvBegin (rnB σ b i) (lx σ (6 + 4 * b) i) = _
      rw [hx i (by omega)]
    rw [hdef]
    refine ⟨fun t o e ht => ?_, fun t ht => ⟨fun z hz => ?_, fun hc => ?_⟩, fun q o e g1 g2 g3 => ?_⟩
    · rw [cvB_L]
      split
      · rw [if_neg (fun q => by omega), if_neg (fun q => by omega), if_neg (fun q => by omega), if_neg (fun q => by omega)]
        exact h1 t o e ht
      · exact h1 t o e ht
    · rw [cvB_I]
      by_cases c : t = i
      · rw [if_pos ⟨rfl, by rw [c], hz⟩]
      · rw [if_neg (fun q => by omega)]
        exact (h2 t (by omega)).1 z hz
    · have r : ∀ q, sL (s_cvBegin (rnB σ b i) (8 * b + i)) q (8 * b + t) 0 = if sI σ 19 i 0 = 0 then (if q = 5 ∧ 8 * b + t = 8 * b + i ∧ 0 = 0 then 0 else if q = 4 ∧ 8 * b + t = 8 * b + i ∧ 0 = 0 then 0 else if q = 3 ∧ 8 * b + t = 8 * b + i ∧ 0 = 0 then 0 else if q = 2 ∧ 8 * b + t = 8 * b + i ∧ 0 = 0 then v_wholeLimit σ i else sL (rnB σ b i) q (8 * b + t) 0) else sL (rnB σ b i) q (8 * b + t) 0 := fun q => by
        rw [cvB_L, hm8, eI 19 (by decide), hw]
      rw [r, r, r, r]
      by_cases c : t = i
      · subst c
        rw [if_pos hc, if_pos hc, if_pos hc, if_pos hc]
        refine ⟨?_, ?_, ?_, ?_⟩
        · rw [if_neg (fun q => by omega), if_neg (fun q => by omega), if_neg (fun q => by omega), if_pos ⟨rfl, rfl, rfl⟩]
        · rw [if_neg (fun q => by omega), if_neg (fun q => by omega), if_pos ⟨rfl, rfl, rfl⟩]
        · rw [if_neg (fun q => by omega), if_pos ⟨rfl, rfl, rfl⟩]
        · rw [if_pos ⟨rfl, rfl, rfl⟩]
      · have g := (h2 t (by omega)).2 hc
        have n1 : ¬ (8 * b + t = 8 * b + i) := by omega
        by_cases cc : sI σ 19 i 0 = 0
        · rw [if_pos cc, if_pos cc, if_pos cc, if_pos cc]
          rw [if_neg (fun q => n1 q.2.1), if_neg (fun q => n1 q.2.1), if_neg (fun q => n1 q.2.1), if_neg (fun q => n1 q.2.1)]
          rw [if_neg (fun q => n1 q.2.1), if_neg (fun q => n1 q.2.1), if_neg (fun q => n1 q.2.1), if_neg (fun q => n1 q.2.1)]
          rw [if_neg (fun q => n1 q.2.1), if_neg (fun q => n1 q.2.1), if_neg (fun q => n1 q.2.1), if_neg (fun q => n1 q.2.1)]
          rw [if_neg (fun q => n1 q.2.1), if_neg (fun q => n1 q.2.1), if_neg (fun q => n1 q.2.1), if_neg (fun q => n1 q.2.1)]
          exact g
        · rw [if_neg cc, if_neg cc, if_neg cc, if_neg cc]
          exact g
    · have ne := zfz_ne (t := i) (by omega) h8 g3
      rw [cvB_L, hm8, eI 19 (by decide)]
      rcases ne with ne | ne
      · split
        · rw [if_neg (fun q => ne q.2.1), if_neg (fun q => ne q.2.1), if_neg (fun q => ne q.2.1), if_neg (fun q => ne q.2.1)]
          exact h3 q o e g1 g2 g3
        · exact h3 q o e g1 g2 g3
      · rw [if_neg ne]
        exact h3 q o e g1 g2 g3
theorem zSm0 {f : Nat → Int} {n : Nat} (h : ∀ i, i < n → f i = 0) : zSm f n = 0 := (zSm_congr h).trans (zSm_zero n)
/-- a flow that has begun -/
theorem begin_ok {b : Nat} {σ : zSt} (hw : zWF b σ) (hq : zQf b σ) : zQf b (s_run2 (s_run1 (uI σ 26 b 0 1) b) b) ∧ (zFi b (s_run2 (s_run1 (uI σ 26 b 0 1) b) b)) ∧ (∀ t z, t < sN σ 2 → z < 4 → sI (s_run2 (s_run1 (uI σ 26 b 0 1) b) b) 22 (8 * b + t) z = 0) ∧ zFz b (s_run2 (s_run1 (uI σ 26 b 0 1) b) b) σ ∧ sI (s_run2 (s_run1 (uI σ 26 b 0 1) b) b) 26 b 0 = 1 := by
  have hb := hq.1.1
  obtain ⟨⟨w0, t0⟩, ⟨w1, t1⟩, ⟨w2, t2⟩, -, -, -⟩ := run_ok (tr := 0) hb hw
  have A := rnA_L (uI σ 26 b 0 1) b (sZ (uI σ 26 b 0 1) (5 + 4 * b))
  have eA : s_run1 (uI σ 26 b 0 1) b = rnA (uI σ 26 b 0 1) b (sZ (uI σ 26 b 0 1) (5 + 4 * b)) := rfl
  rw [← eA] at A
  have q1 := hq.fr t1
  have n1 : sN (s_run1 (uI σ 26 b 0 1) b) = sN σ := t1.1.1
  have B := rnB_v (b := b) (σ := s_run1 (uI σ 26 b 0 1) b) (by rw [n1]; exact hq.1.2.1) q1.1.2.2.2 (sZ (s_run1 (uI σ 26 b 0 1) b) (6 + 4 * b)) (by rw [q1.1.2.2.1]; exact Nat.le_refl _)
  have eB : s_run2 (s_run1 (uI σ 26 b 0 1) b) b = rnB (s_run1 (uI σ 26 b 0 1) b) b (sZ (s_run1 (uI σ 26 b 0 1) b) (6 + 4 * b)) := rfl
  rw [← eB] at B
  have i26 : sI (s_run2 (s_run1 (uI σ 26 b 0 1) b) b) 26 b 0 = 1 := by
    rw [eB, rnB_I _ _ _ (by decide), eA, rnA_I _ _ _ (by decide), qI_r, if_pos ⟨rfl, rfl, rfl⟩]
  have x5 : ∀ y, lx (uI σ 26 b 0 1) (5 + 4 * b) y = lx σ (5 + 4 * b) y := fun y => rfl
  have q2 := hq.fr t2
  have n2 : sN (s_run2 (s_run1 (uI σ 26 b 0 1) b) b) = sN σ := t2.1.1
  have xx : ∀ y, lx (s_run2 (s_run1 (uI σ 26 b 0 1) b) b) (5 + 4 * b) y = lx σ (5 + 4 * b) y := zSx_lx t2.1 (zQb_no (Or.inl rfl))
  have zz : sZ (s_run2 (s_run1 (uI σ 26 b 0 1) b) b) (5 + 4 * b) = sZ σ (5 + 4 * b) := zSx_Z t2.1 (zQb_no (Or.inl rfl))
  have st : ∀ q, zst q → ∀ o x, sI (s_run2 (s_run1 (uI σ 26 b 0 1) b) b) q o x = sI σ q o x := t2.2.2.1
  have st1 : ∀ q, zst q → ∀ o x, sI (s_run1 (uI σ 26 b 0 1) b) q o x = sI σ q o x := t1.2.2.1
  have hlm : ∀ t, v_isLimited (s_run2 (s_run1 (uI σ 26 b 0 1) b) b) t = v_isLimited σ t ∧ v_wholeLimit (s_run2 (s_run1 (uI σ 26 b 0 1) b) b) t = v_wholeLimit σ t ∧ v_wholeLimit (s_run1 (uI σ 26 b 0 1) b) t = v_wholeLimit σ t := fun t => by
    unfold v_wholeLimit v_isLimited
    rw [st 8 (by unfold zst; omega), st 13 (by unfold zst; omega), st 15 (by unfold zst; omega), st1 8 (by unfold zst; omega), st1 13 (by unfold zst; omega), st1 15 (by unfold zst; omega)]
    exact ⟨rfl, rfl, rfl⟩
  have hI6 : ∀ k, sI (uI σ 26 b 0 1) 6 k 0 = sI σ 6 k 0 := fun k => by rw [qI_r, if_neg (fun q => by omega)]
  have c0 : ∀ y, y < sZ σ (5 + 4 * b) → sL (s_run2 (s_run1 (uI σ 26 b 0 1) b) b) 0 (lx σ (5 + 4 * b) y) 0 = (sI σ 6 (lx σ (5 + 4 * b) y) 0).toInt64 := fun y hy => by
    rw [B.1 0 _ _ (by decide)]
    have := (A.2 y hy).1
    rw [x5, hI6] at this
    exact this
  have c1 : ∀ y, y < sZ σ (5 + 4 * b) → ∀ e, e < 8 → sL (s_run2 (s_run1 (uI σ 26 b 0 1) b) b) 1 (lx σ (5 + 4 * b) y) e = 0 := fun y hy e he => by
    rw [B.1 1 _ _ (by decide)]
    have := (A.2 y hy).2 e he
    rw [x5] at this
    exact this
  refine ⟨q2, ⟨fun i hi => ?_, fun t ht hc => ⟨?_, ?_⟩, fun t ht hd i hi => ?_⟩, fun t z ht hz => ?_, fun q o e h1 h2 h3 => ?_, i26⟩
  · rw [zz] at hi
    rw [xx]
    have g := (hq.2.2.2.2.1 i hi).2.1
    refine ⟨by rw [c0 i hi, l_of]; exact g.1, fun t ht => by rw [c1 i hi t ht]; exact Int.le_refl _, ?_⟩
    rw [c0 i hi, l_of, st 6 (by unfold zst; omega), zSm0 (fun t ht => by rw [c1 i hi t ht]; rfl)]
    exact Int.add_zero _
  · have ht : t < sN σ 2 := by rw [← n2]; exact ht
    have hc1 : sI (s_run1 (uI σ 26 b 0 1) b) 19 t 0 = 0 := by rw [st1 19 (by unfold zst; omega), ← st 19 (by unfold zst; omega)]; exact hc
    have g := (B.2.1 t (by rw [q1.1.2.2.1, n1]; exact ht)).2 hc1
    have hm8 : (8 * b + t) % 8 = t := by have := hq.1.2.1; omega
    have hv := hq.2.2.2.2.2 t ht
    unfold zF2
    rw [hm8, (hlm t).1, (hlm t).2.1, g.1, g.2.1, g.2.2.1, g.2.2.2, (hlm t).2.2, l_0, st 13 (by unfold zst; omega), st 15 (by unfold zst; omega)]
    have := (wl_int hv).2.2
    refine ⟨⟨this.1, Int.add_zero _⟩, ⟨Int.le_refl _, Int.le_refl _⟩, fun _ => Int.mul_nonneg (by have := hv.2.2.1; omega) hv.2.2.2.2.2.2.1.1, fun _ => rfl, Int.le_refl _, by omega⟩
  · have ht : t < sN σ 2 := by rw [← n2]; exact ht
    have hc1 : sI (s_run1 (uI σ 26 b 0 1) b) 19 t 0 = 0 := by rw [st1 19 (by unfold zst; omega), ← st 19 (by unfold zst; omega)]; exact hc
    have g := (B.2.1 t (by rw [q1.1.2.2.1, n1]; exact ht)).2 hc1
    have h8 : t < 8 := Nat.lt_of_lt_of_le ht hq.1.2.1
    rw [g.2.1, zz, zSm0 (fun i hi => by rw [xx, c1 i hi t h8]; rfl)]
    rfl
  · rw [zz] at hi
    rw [xx]
    exact c1 i hi t ht
  · exact (B.2.1 t (by rw [q1.1.2.2.1, n1]; exact ht)).1 z hz
  · rw [B.2.2 q o e h1 h2 ((zfz_fr t1).mpr h3), A.1 q o e h1]
    rfl
/-- the treaties of the year -/
theorem rnG_v {b : Nat} {σ : zSt} (hw : zWF b σ) (hq : zQf b σ) (hf : zFi b σ) : ∀ i, i ≤ sN σ 2 → zFi b (rnG σ b i) ∧ zFz b (rnG σ b i) σ
  | 0, _ => ⟨hf, fun _ _ _ _ _ _ => rfl⟩
  | i + 1, hi => by
    obtain ⟨f1, o1⟩ := rnG_v hw hq hf i (by omega)
    obtain ⟨w1, w2⟩ := rnG_ok hq.1.1 hw i
    have hx : lx σ (6 + 4 * b) i = 8 * b + i := hq.1.2.2.2 i (by omega)
    have ht8 : i < 8 := by have := hq.1.2.1; omega
    have hm8 : (8 * b + i) % 8 = i := by omega
    have n2 : sN (rnG σ b i) = sN σ := w2.1.1
    simp only [rnG]
    rw [hx, hm8]
    by_cases c : sI (rnG σ b i) 8 i 0 = 97
    · rw [if_pos c]
      obtain ⟨u1, u2⟩ := findOpen_ok (j := 8 * b + i) hq.1.1 w1
      obtain ⟨y1, y2⟩ := gather_ok (z := -1) (f := 0) (l := 999) hq.1.1 u1
      have IL := foI_IL (rnG σ b i) b (8 * b + i) (sZ (rnG σ b i) (5 + 4 * b))
      have fo := fo_ok (σ := rnG σ b i) (b := b) (j := 8 * b + i) (sZ (rnG σ b i) (5 + 4 * b))
      have GL := gaI_IL (s_findOpen (rnG σ b i) b (8 * b + i)) b (-1) 0 999 (sZ (s_findOpen (rnG σ b i) b (8 * b + i)) (7 + 4 * b))
      have gok := ga_ok (σ := s_findOpen (rnG σ b i) b (8 * b + i)) (b := b) (z := -1) (f := 0) (l := 999) (sZ (s_findOpen (rnG σ b i) b (8 * b + i)) (7 + 4 * b))
      have gsx := gaI_sx (σ := s_findOpen (rnG σ b i) b (8 * b + i)) (b := b) (z := -1) (f := 0) (l := 999) (sZ (s_findOpen (rnG σ b i) b (8 * b + i)) (7 + 4 * b))
      rw [hm8] at fo
      have u5 : sZ (s_findOpen (rnG σ b i) b (8 * b + i)) (5 + 4 * b) = sZ (rnG σ b i) (5 + 4 * b) := zSx_Z u2.1 (zQb_no (Or.inl rfl))
      have eI : sI (s_gather (s_findOpen (rnG σ b i) b (8 * b + i)) b (-1) 0 999) = sI (rnG σ b i) := GL.1.trans IL.1
      have eL : sL (s_gather (s_findOpen (rnG σ b i) b (8 * b + i)) b (-1) 0 999) = sL (rnG σ b i) := GL.2.trans IL.2
      have z7 : sZ (s_gather (s_findOpen (rnG σ b i) b (8 * b + i)) b (-1) 0 999) (7 + 4 * b) = sZ (s_findOpen (rnG σ b i) b (8 * b + i)) (7 + 4 * b) := zSx_Z gsx (by omega)
      have x7 : ∀ y, lx (s_gather (s_findOpen (rnG σ b i) b (8 * b + i)) b (-1) 0 999) (7 + 4 * b) y = lx (s_findOpen (rnG σ b i) b (8 * b + i)) (7 + 4 * b) y := zSx_lx gsx (by omega)
      have x5 : ∀ y, lx (s_gather (s_findOpen (rnG σ b i) b (8 * b + i)) b (-1) 0 999) (5 + 4 * b) y = lx (s_findOpen (rnG σ b i) b (8 * b + i)) (5 + 4 * b) y := zSx_lx gsx (by omega)
      have z5 : sZ (s_gather (s_findOpen (rnG σ b i) b (8 * b + i)) b (-1) 0 999) (5 + 4 * b) = sZ (s_findOpen (rnG σ b i) b (8 * b + i)) (5 + 4 * b) := zSx_Z gsx (by omega)
      have h7 : zSb (s_gather (s_findOpen (rnG σ b i) b (8 * b + i)) b (-1) 0 999) (7 + 4 * b) (5 + 4 * b) (sZ (s_gather (s_findOpen (rnG σ b i) b (8 * b + i)) b (-1) 0 999) (5 + 4 * b)) (fun k => 0 < (sL (rnG σ b i) 0 k 0).toInt ∧ ¬ v_covers (rnG σ b i) i k = 0) := by
        rw [z5, u5]
        exact zSb.mv z7 x7 x5 fo
      obtain ⟨gr, gm⟩ := zSb.gr h7 gok (by rw [z7]; exact Nat.le_refl _)
      have tq := ((hq.fr w2).fr u2).fr y2
      have tf := f1.fr (y2.trans u2) (fun q _ o x => by rw [eL])
      have tN : i < sN (s_gather (s_findOpen (rnG σ b i) b (8 * b + i)) b (-1) 0 999) 2 := by rw [(y2.trans u2).1.1, n2]; omega
      generalize s_gather (s_findOpen (rnG σ b i) b (8 * b + i)) b (-1) 0 999 = GA at *
      by_cases hc : sI GA 19 i 0 = 0
      · obtain ⟨k1, k2, k3, k4, k5, k6⟩ := grp_ok tq tf gr (fun y hy => by rw [eL]; exact (gm y hy).1.1) tN hc
        refine ⟨k2, fun q o e h1 h2 h3 => ?_⟩
        have ne := zfz_ne (t := i) (by omega) hq.1.2.1 h3
        have c9 : sI σ 19 i 0 = 0 := by
          rw [eI] at hc
          rw [← w2.2.2.1 19 (by unfold zst; omega)]
          exact hc
        rw [serveG_o q o e h1 (Or.inr (ne.resolve_right (fun z => z c9))), eL]
        exact o1 q o e h1 h2 h3
      · have z0 : sZ GA (8 + 4 * b) = 0 := by
          rcases Nat.eq_zero_or_pos (sZ GA (8 + 4 * b)) with w | w
          · exact w
          · have := covers_c (gm 0 w).1.2
            rw [eI] at hc
            exact absurd this hc
        have e0 : s_serveGroup GA b (8 * b + i) = GA := by
          unfold s_serveGroup
          rw [z0]
          exact if_neg (show ¬ (0 : Int64) < 0 by decide)
        rw [e0]
        exact ⟨tf, fun q o e h1 h2 h3 => by rw [eL]; exact o1 q o e h1 h2 h3⟩
    · rw [if_neg c]
      exact ⟨f1, o1⟩
theorem rnC_o {b : Nat} {σ : zSt} (hq : zQf b σ) (hf : zFi b σ) : ∀ i, i ≤ sZ σ (5 + 4 * b) → zFz b (rnC σ b i) σ := by
  have hsl : ∀ (S : zSt) (k : Nat), zQf b S → ∀ i, i ≤ sN S 2 → zFz b (slI S b k i) S := fun S k hS i => by
    induction i with
    | zero => exact fun _ _ _ _ _ _ _ => rfl
    | succ i ih =>
      intro hi q o e h1 h2 h3
      have ih := ih (by omega) q o e h1 h2 h3
      have hx : lx S (6 + 4 * b) i = 8 * b + i := hS.1.2.2.2 i (by omega)
      have hm8 : (8 * b + i) % 8 = i := by have := hS.1.2.1; omega
      have ne := zfz_ne (t := i) (by omega) hS.1.2.1 h3
      show sL (if v_forEach (slI S b k i) ((lx S (6 + 4 * b) i) % 8) = 0 then _ else _) q o e = _
      rw [hx, hm8]
      split
      · exact ih
      · split
        · exact ih
        · rename_i h4 h5
          have hc := covers_c h5
          rw [show sI (slI S b k i) = sI S from slI_1 S b k i] at hc
          have n9 := ne.resolve_right (fun z => z hc)
          rw [refill_o q o e (Or.inr n9), take_L, if_neg (fun z => n9 z.2.1), if_neg (fun z => n9 z.2.1), if_neg (fun z => by omega), if_neg (fun z => by omega)]
          exact ih
  intro i
  induction i with
  | zero => exact fun _ _ _ _ _ _ _ => rfl
  | succ i ih =>
    intro hi q o e h1 h2 h3
    have q1 := (rnC_ok hq hf i (by omega)).1
    have fr1 : zFr b (rnC σ b i) σ := fr_1 (rnC_1 σ b i) (rnC_22 σ b i)
    show sL (slI (rnC σ b i) b (lx σ (5 + 4 * b) i) (sZ (rnC σ b i) (6 + 4 * b))) q o e = _
    rw [hsl (rnC σ b i) _ q1 (sZ (rnC σ b i) (6 + 4 * b)) (by rw [q1.1.2.2.1]; exact Nat.le_refl _) q o e h1 h2 ((zfz_fr fr1).mpr h3)]
    exact ih (by omega) q o e h1 h2 h3
/-- the whole run -/
theorem run_v {b : Nat} {σ : zSt} {tr : Int32} (hB : zHB b) (hw : zWF b σ) (hq : zQf b σ) (h56 : sN σ 5 = sN σ 2 ∧ sN σ 6 = sN σ 2) : zQf b (s_run σ b tr) ∧ zFi b (s_run σ b tr) ∧ (∀ t z, t < sN σ 2 → z < 4 → 0 ≤ (sI (s_run σ b tr) 22 (8 * b + t) z).toInt ∧ (sI (s_run σ b tr) 22 (8 * b + t) z).toInt ≤ sZ σ (5 + 4 * b)) ∧ zFz b (s_run σ b tr) σ ∧ sI (s_run σ b tr) 26 b 0 = 1 := by
  have hb := hq.1.1
  obtain ⟨⟨w0, t0⟩, ⟨w1, t1⟩, ⟨w2, t2⟩, ⟨w3, t3⟩, ⟨w4, t4⟩, ⟨w5, t5⟩⟩ := run_ok (tr := tr) hb hw
  obtain ⟨q2, f2, v2, o2, b2⟩ := begin_ok hw hq
  unfold s_run at w5 t5 ⊢
  generalize eS2 : s_run2 (s_run1 (uI σ 26 b 0 1) b) b = S2 at *
  have r3 := rnC_ok q2 f2 (sZ S2 (5 + 4 * b)) (Nat.le_refl _)
  have o3 := rnC_o q2 f2 (sZ S2 (5 + 4 * b)) (Nat.le_refl _)
  have i3 : (s_run3 S2 b).1 = S2.1 := rnC_1 S2 b _
  have q3 : zQf b (s_run3 S2 b) := r3.1
  have n3 : sN (s_run3 S2 b) = sN σ := t3.1.1
  have z3 : sZ (s_run3 S2 b) (5 + 4 * b) = sZ σ (5 + 4 * b) := zSx_Z t3.1 (zQb_no (Or.inl rfl))
  have I3 : sI (s_run3 S2 b) = sI S2 := i3
  have r4 := rnE_v (tr := tr) hB w3 q3 r3.2 (by rw [n3]; exact h56) (fun t z ht hz => by rw [I3]; exact v2 t z (by rw [← n3]; exact ht) hz) (sZ (s_run3 S2 b) (6 + 4 * b)) (by rw [q3.1.2.2.1]; exact Nat.le_refl _)
  have q4 : zQf b (s_run4 (s_run3 S2 b) b tr) := hq.fr t4
  have n4 : sN (s_run4 (s_run3 S2 b) b tr) = sN σ := t4.1.1
  have r5 := rnG_v w4 q4 r4.1 (sZ (s_run4 (s_run3 S2 b) b tr) (6 + 4 * b)) (by rw [q4.1.2.2.1]; exact Nat.le_refl _)
  have I5 : sI (s_run5 (s_run4 (s_run3 S2 b) b tr) b) = sI (s_run4 (s_run3 S2 b) b tr) := rnG_1 _ _ _
  refine ⟨hq.fr t5, r5.1, fun t z ht hz => ?_, ?_, ?_⟩
  · rw [I5]
    have := (r4.2.1 t z (by rw [n3]; exact ht) hz).2
    rw [z3] at this
    exact this
  · have a1 : zFz b (s_run3 S2 b) σ := zFz.trans o3 o2 t2
    have a2 : zFz b (s_run4 (s_run3 S2 b) b tr) σ := zFz.trans r4.2.2.1 a1 t3
    exact zFz.trans r5.2 a2 t4
  · rw [I5]
    exact r4.2.2.2.trans (by rw [I3]; exact b2)
