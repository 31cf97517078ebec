/-! each loss goes through the treaties for each loss -/
theorem zQb_no {b q : Nat} (h : q = 5 + 4 * b ∨ q = 6 + 4 * b) : ¬ zQb b q := by
  unfold zQb
  omega
theorem zVt.fr {σ' σ : zSt} {t : Nat} (h : ∀ t, zst t → ∀ o e, sI σ' t o e = sI σ t o e) (hv : zVt σ t) : zVt σ' t := by
  unfold zVt at hv ⊢
  have z : ∀ q, q = 8 ∨ q = 10 ∨ q = 11 ∨ q = 12 ∨ q = 13 ∨ q = 14 ∨ q = 15 ∨ q = 16 ∨ q = 18 → sI σ' q t 0 = sI σ q t 0 := fun q hq => h q (by unfold zst; omega) t 0
  rw [z 8 (by omega), z 10 (by omega), z 11 (by omega), z 12 (by omega), z 13 (by omega), z 14 (by omega), z 15 (by omega), z 16 (by omega), z 18 (by omega)]
  exact hv
theorem zQf.fr {b : Nat} {σ' σ : zSt} (e : zFr b σ' σ) (h : zQf b σ) : zQf b σ' := by
  have e5 : sZ σ' (5 + 4 * b) = sZ σ (5 + 4 * b) := zSx_Z e.1 (zQb_no (Or.inl rfl))
  have e6 : sZ σ' (6 + 4 * b) = sZ σ (6 + 4 * b) := zSx_Z e.1 (zQb_no (Or.inr rfl))
  have x5 : ∀ i, lx σ' (5 + 4 * b) i = lx σ (5 + 4 * b) i := zSx_lx e.1 (zQb_no (Or.inl rfl))
  have x6 : ∀ i, lx σ' (6 + 4 * b) i = lx σ (6 + 4 * b) i := zSx_lx e.1 (zQb_no (Or.inr rfl))
  have n2 : sN σ' = sN σ := e.1.1
  have p2 : sP σ' = sP σ := e.1.2.1
  have z : ∀ q, q = 0 ∨ q = 4 ∨ q = 6 → ∀ o x, sI σ' q o x = sI σ q o x := fun q hq => e.2.2.1 q (by unfold zst; omega)
  obtain ⟨⟨h1, h2, h3, h4⟩, h5, h6, h7, h8, h9⟩ := h
  refine ⟨⟨h1, by rw [n2]; exact h2, by rw [e6, n2]; exact h3, fun i hi => by rw [x6]; exact h4 i (by rw [← n2]; exact hi)⟩, by rw [e5]; exact h5, fun i i' q q2 => ?_, fun i i' q q2 => ?_, fun i hi => ?_, fun t ht => ?_⟩
  · rw [x5, x5]
    exact h6 i i' q (by rw [← e5]; exact q2)
  · rw [x5, x5, z 4 (by omega), z 4 (by omega)]
    exact h7 i i' q (by rw [← e5]; exact q2)
  · rw [x5, z 4 (by omega), z 6 (by omega), z 0 (by omega), p2]
    exact h8 i (by rw [← e5]; exact hi)
  · exact (h9 t (by rw [← n2]; exact ht)).fr e.2.2.1
theorem zFi.fr {b : Nat} {σ' σ : zSt} (e : zFr b σ' σ) (hL : ∀ t, t < 6 → ∀ o x, sL σ' t o x = sL σ t o x) (h : zFi b σ) : zFi b σ' := by
  have e5 : sZ σ' (5 + 4 * b) = sZ σ (5 + 4 * b) := zSx_Z e.1 (zQb_no (Or.inl rfl))
  have x5 : ∀ i, lx σ' (5 + 4 * b) i = lx σ (5 + 4 * b) i := zSx_lx e.1 (zQb_no (Or.inl rfl))
  have n2 : sN σ' = sN σ := e.1.1
  have z : ∀ q, q = 6 ∨ q = 8 ∨ q = 13 ∨ q = 15 ∨ q = 19 → ∀ o x, sI σ' q o x = sI σ q o x := fun q hq => e.2.2.1 q (by unfold zst; omega)
  have hlm : ∀ t, v_isLimited σ' t = v_isLimited σ t ∧ v_wholeLimit σ' t = v_wholeLimit σ t := fun t => by
    have : v_isLimited σ' t = v_isLimited σ t := by
      unfold v_isLimited
      rw [z 8 (by omega)]
    unfold v_wholeLimit
    rw [this, z 13 (by omega), z 15 (by omega)]
    exact ⟨rfl, rfl⟩
  obtain ⟨g1, g2, g3⟩ := h
  refine ⟨fun i hi => ?_, fun t ht hc => ⟨?_, ?_⟩, fun t ht hd i hi => ?_⟩
  · have := g1 i (by rw [← e5]; exact hi)
    unfold zF1 at this ⊢
    rw [x5, hL 0 (by decide), z 6 (by omega), zSm_congr (g := fun t => (sL σ 1 (lx σ (5 + 4 * b) i) t).toInt) (fun t _ => by rw [hL 1 (by decide)])]
    refine ⟨this.1, fun e he => ?_, this.2.2⟩
    rw [hL 1 (by decide)]
    exact this.2.1 e he
  · have := (g2 t (by rw [← n2]; exact ht) (by rw [← z 19 (by omega)]; exact hc)).1
    unfold zF2 at this ⊢
    rw [(hlm _).1, (hlm _).2, hL 2 (by decide), hL 3 (by decide), hL 4 (by decide), hL 5 (by decide), z 13 (by omega), z 15 (by omega)]
    exact this
  · have := (g2 t (by rw [← n2]; exact ht) (by rw [← z 19 (by omega)]; exact hc)).2
    rw [hL 3 (by decide), this, e5]
    exact zSm_congr (fun i _ => by rw [x5, hL 1 (by decide)])
  · rw [hL 1 (by decide), x5]
    exact g3 t ht (by rw [← n2, ← z 19 (by omega)]; exact hd) i (by rw [← e5]; exact hi)
theorem layer_int {σ : zSt} {t : Nat} (hv : zVt σ t) {x : Int64} (h0 : 0 ≤ x.toInt) (h1 : x.toInt ≤ 1000000000) : (v_layerOf σ t x).toInt = max 0 (min (x.toInt - (sI σ 12 t 0).toInt) (sI σ 13 t 0).toInt) := by
  obtain ⟨-, h12, h13, -⟩ := hv
  have e1 : (x - (sI σ 12 t 0).toInt64).toInt = x.toInt - (sI σ 12 t 0).toInt := by rw [l_sub (by rw [l_of]; omega) (by rw [l_of]; omega), l_of]
  have e2 := l_mn (x - (sI σ 12 t 0).toInt64) (sI σ 13 t 0).toInt64
  have e3 := l_mx 0 (zmnl (x - (sI σ 12 t 0).toInt64) (sI σ 13 t 0).toInt64)
  rw [e1, l_of] at e2
  rw [l_0] at e3
  unfold v_layerOf
  omega
theorem wanted_ok {σ : zSt} {t k : Nat} (hv : zVt σ t) (hl : 0 ≤ (sL σ 0 k 0).toInt ∧ (sL σ 0 k 0).toInt ≤ 1000000) (hp : 1 ≤ (sI σ 0 (sP σ k) 0).toInt ∧ (sI σ 0 (sP σ k) 0).toInt ≤ 1000000) : 0 ≤ (v_wantedOf σ t k).toInt ∧ (v_wantedOf σ t k).toInt ≤ (sL σ 0 k 0).toInt := by
  have hla := layer_int hv hl.1 (by omega)
  obtain ⟨hq, h12, h13, hs, -⟩ := hv
  unfold v_wantedOf
  by_cases c1 : sI σ 8 t 0 = 113
  · have hq := hq c1
    rw [if_pos c1]
    have m1 : 0 ≤ (sL σ 0 k 0).toInt * (sI σ 12 t 0).toInt := Int.mul_nonneg hl.1 hq.1
    have m2 : (sL σ 0 k 0).toInt * (sI σ 12 t 0).toInt ≤ (sL σ 0 k 0).toInt * 100 := Int.mul_le_mul_of_nonneg_left hq.2 hl.1
    have e1 : (sL σ 0 k 0 * (sI σ 12 t 0).toInt64).toInt = (sL σ 0 k 0).toInt * (sI σ 12 t 0).toInt := by rw [l_mul (by rw [l_of]; omega) (by rw [l_of]; omega), l_of]
    have h100 : (100 : Int64).toInt = 100 := rfl
    rw [l_div (by rw [e1]; exact m1) (by rw [h100]; decide), e1, h100]
    omega
  · rw [if_neg c1]
    by_cases c2 : sI σ 8 t 0 = 115
    · rw [if_pos c2]
      have hs := hs c2
      by_cases c3 : sI σ 0 (sP σ k) 0 ≤ sI σ 12 t 0
      · rw [if_pos c3]
        exact ⟨Int.le_refl _, hl.1⟩
      · rw [if_neg c3]
        have c3 : (sI σ 12 t 0).toInt < (sI σ 0 (sP σ k) 0).toInt := by
          have h9 : ¬ (sI σ 0 (sP σ k) 0).toInt ≤ (sI σ 12 t 0).toInt := fun q => c3 (w_le.mpr q)
          omega
        have m0 : 0 ≤ (sI σ 12 t 0).toInt * (sI σ 13 t 0).toInt := Int.mul_nonneg h12.1 (by omega)
        have m1 : (sI σ 12 t 0).toInt * (sI σ 13 t 0).toInt ≤ 1000000 * 20 := Int.mul_le_mul h12.2 hs (by omega) (by decide)
        have e1 : (sI σ 12 t 0 * sI σ 13 t 0).toInt = (sI σ 12 t 0).toInt * (sI σ 13 t 0).toInt := w_mul' (by omega) (by omega)
        have e2 : (sI σ 0 (sP σ k) 0 - sI σ 12 t 0).toInt = (sI σ 0 (sP σ k) 0).toInt - (sI σ 12 t 0).toInt := w_sub' (by omega) (by omega)
        have e3 := w_mn (sI σ 0 (sP σ k) 0 - sI σ 12 t 0) (sI σ 12 t 0 * sI σ 13 t 0)
        rw [e1, e2] at e3
        generalize zmn (sI σ 0 (sP σ k) 0 - sI σ 12 t 0) (sI σ 12 t 0 * sI σ 13 t 0) = M at e3 ⊢
        have b0 : 0 ≤ (sL σ 0 k 0).toInt * M.toInt := Int.mul_nonneg hl.1 (by omega)
        have b1 : (sL σ 0 k 0).toInt * M.toInt ≤ (sL σ 0 k 0).toInt * (sI σ 0 (sP σ k) 0).toInt := Int.mul_le_mul_of_nonneg_left (by omega) hl.1
        have b2 : (sL σ 0 k 0).toInt * (sI σ 0 (sP σ k) 0).toInt ≤ 1000000 * 1000000 := Int.mul_le_mul hl.2 hp.2 (by omega) (by decide)
        have e4 : (sL σ 0 k 0 * M.toInt64).toInt = (sL σ 0 k 0).toInt * M.toInt := by rw [l_mul (by rw [l_of]; omega) (by rw [l_of]; omega), l_of]
        rw [l_div (by rw [e4]; exact b0) (by rw [l_of]; omega), e4, l_of]
        exact ⟨Int.ediv_nonneg b0 (by omega), Int.ediv_le_of_le_mul (by omega) b1⟩
    · rw [if_neg c2]
      omega
theorem covers_c {σ : zSt} {t k : Nat} (h : ¬ v_covers σ t k = 0) : sI σ 19 t 0 = 0 := by
  unfold v_covers at h
  split at h
  · split at h
    · assumption
    · exact absurd rfl h
  · split at h
    · split at h
      · assumption
      · exact absurd rfl h
    · split at h
      · assumption
      · exact absurd rfl h
theorem fr_1 {b : Nat} {σ' σ : zSt} (e1 : σ'.1 = σ.1) (e2 : σ'.2.2 = σ.2.2) : zFr b σ' σ := zFr.of1 e1 e2
/-- one loss -/
theorem sl_ok {b i0 : Nat} {σ : zSt} (hq : zQf b σ) (h : zFi b σ) (hi0 : i0 < sZ σ (5 + 4 * b)) : ∀ i, i ≤ sN σ 2 → zQf b (slI σ b (lx σ (5 + 4 * b) i0) i) ∧ zFi b (slI σ b (lx σ (5 + 4 * b) i0) i)
  | 0, _ => ⟨hq, h⟩
  | i + 1, hi => by
    obtain ⟨q1, f1⟩ := sl_ok hq h hi0 i (by omega)
    have e1 := slI_1 σ b (lx σ (5 + 4 * b) i0) i
    have e2 := slI_22 σ b (lx σ (5 + 4 * b) i0) i
    have hx : lx σ (6 + 4 * b) i = 8 * b + i := hq.1.2.2.2 i (by omega)
    have hm8 : (8 * b + i) % 8 = i := by have := hq.1.1; have := hq.1.2.1; omega
    have hfin : ∀ S, (S = slI σ b (lx σ (5 + 4 * b) i0) i → zQf b S ∧ zFi b S) := fun S e => e ▸ ⟨q1, f1⟩
    show zQf b (if v_forEach (slI σ b (lx σ (5 + 4 * b) i0) i) ((lx σ (6 + 4 * b) i) % 8) = 0 then _ else _) ∧ zFi b (if v_forEach (slI σ b (lx σ (5 + 4 * b) i0) i) ((lx σ (6 + 4 * b) i) % 8) = 0 then _ else _)
    rw [hx, hm8]
    by_cases c1 : v_forEach (slI σ b (lx σ (5 + 4 * b) i0) i) i = 0
    · rw [if_pos c1]
      exact ⟨q1, f1⟩
    · rw [if_neg c1]
      by_cases c2 : v_covers (slI σ b (lx σ (5 + 4 * b) i0) i) i (lx σ (5 + 4 * b) i0) = 0
      · rw [if_pos c2]
        exact ⟨q1, f1⟩
      · rw [if_neg c2]
        have hc := covers_c c2
        generalize slI σ b (lx σ (5 + 4 * b) i0) i = S at *
        have ex : lx S (5 + 4 * b) i0 = lx σ (5 + 4 * b) i0 := by unfold lx; rw [show sE S = sE σ from congrArg (fun z => z.1) e2]
        have eZ : sZ S = sZ σ := congrArg (fun z => z.2.1) e2
        have eN : sN S = sN σ := congrArg (fun z => z.2.2.2.2.1) e2
        have hi0S : i0 < sZ S (5 + 4 * b) := by rw [eZ]; exact hi0
        have hiS : i < sN S 2 := by rw [eN]; omega
        rw [← ex] at c2 ⊢
        have hk := f1.1 i0 hi0S
        have ha := q1.2.2.2.2.1 i0 hi0S
        have hv := q1.2.2.2.2.2 i hiS
        have hF2 := (f1.2.1 i hiS hc).1
        have hw := wanted_ok hv ⟨hk.1, (hk.b ha.2.1.2).1⟩ ha.2.2
        have hm := l_mn (v_wantedOf S i (lx S (5 + 4 * b) i0)) (sL S 2 (8 * b + i) 0)
        have hwl := (wl_int hv).2.2
        have hF2' := hF2
        unfold zF2 at hF2'
        rw [hm8] at hF2'
        generalize zmnl (v_wantedOf S i (lx S (5 + 4 * b) i0)) (sL S 2 (8 * b + i) 0) = A at hm ⊢
        have t1 := take_ok q1 f1 hi0S hiS hc (x := A) (by omega) (by omega) (by omega)
        have tq : zQf b (s_takeFrom S (8 * b + i) (lx S (5 + 4 * b) i0) A) := q1.fr (fr_1 (take_I _ _ _ _) (take_2 _ _ _ _))
        have r3 : (sL (s_takeFrom S (8 * b + i) (lx S (5 + 4 * b) i0) A) 3 (8 * b + i) 0).toInt = (sL S 3 (8 * b + i) 0).toInt + A.toInt := by
          rw [take_L, if_pos ⟨rfl, rfl, rfl⟩]
          exact l_add (by omega) (by omega)
        have r4 : sL (s_takeFrom S (8 * b + i) (lx S (5 + 4 * b) i0) A) 4 (8 * b + i) 0 = sL S 4 (8 * b + i) 0 := by
          rw [take_L, if_neg (fun q => by omega), if_neg (fun q => by omega), if_neg (fun q => by omega), if_neg (fun q => by omega)]
        exact ⟨tq.fr (fr_1 (refill_I _ _ _ _) (refill_2 _ _ _ _)), refill_ok tq t1 hiS hc (by omega) (by rw [r3, r4]; omega) ha.1⟩
/-- all losses -/
theorem rnC_ok {b : Nat} {σ : zSt} (hq : zQf b σ) (h : zFi b σ) : ∀ i, i ≤ sZ σ (5 + 4 * b) → zQf b (rnC σ b i) ∧ zFi b (rnC σ b i)
  | 0, _ => ⟨hq, h⟩
  | i + 1, hi => by
    obtain ⟨q1, f1⟩ := rnC_ok hq h i (by omega)
    have e2 := rnC_22 σ b i
    have ex : lx (rnC σ b i) (5 + 4 * b) i = lx σ (5 + 4 * b) i := by unfold lx; rw [show sE (rnC σ b i) = sE σ from congrArg (fun z => z.1) e2]
    have eZ : sZ (rnC σ b i) = sZ σ := congrArg (fun z => z.2.1) e2
    have g := sl_ok q1 f1 (i0 := i) (by rw [eZ]; omega) (sN (rnC σ b i) 2) (Nat.le_refl _)
    rw [ex] at g
    show zQf b (slI (rnC σ b i) b (lx σ (5 + 4 * b) i) (sZ (rnC σ b i) (6 + 4 * b))) ∧ zFi b (slI (rnC σ b i) b (lx σ (5 + 4 * b) i) (sZ (rnC σ b i) (6 + 4 * b)))
    rw [q1.1.2.2.1]
    exact g
