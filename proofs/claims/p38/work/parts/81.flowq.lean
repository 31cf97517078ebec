/-! the flow's numbers: what stays while losses go through treaties -/
theorem take_L (σ : zSt) (j k : Nat) (x : Int64) (t o e : Nat) : sL (s_takeFrom σ j k x) t o e = if t = 3 ∧ o = j ∧ e = 0 then sL σ 3 j 0 + x else if t = 2 ∧ o = j ∧ e = 0 then sL σ 2 j 0 - x else if t = 1 ∧ o = k ∧ e = j % 8 then sL σ 1 k (j % 8) + x else if t = 0 ∧ o = k ∧ e = 0 then sL σ 0 k 0 - x else sL σ t o e := rfl
theorem take_I (σ : zSt) (j k : Nat) (x : Int64) : (s_takeFrom σ j k x).1 = σ.1 := rfl
theorem take_2 (σ : zSt) (j k : Nat) (x : Int64) : (s_takeFrom σ j k x).2.2 = σ.2.2 := rfl
/-- what is reinstated of x -/
def zag (σ : zSt) (j : Nat) (x : Int64) : Int64 := zmnl x ((sI σ 13 (j % 8) 0).toInt64 * (sI σ 15 (j % 8) 0).toInt64 - sL σ 4 j 0)
theorem price_i {σ σ' : zSt} (h : σ'.1 = σ.1) (t : Nat) (x : Int64) (day : Int32) : v_priceOf σ' t x day = v_priceOf σ t x day := by
  unfold v_priceOf
  rw [show sI σ' = sI σ from h]
theorem refill_L (σ : zSt) (j : Nat) (x : Int64) (day : Int32) (t o e : Nat) : sL (s_refill σ j x day) t o e = if v_isLimited σ (j % 8) = 0 then sL σ t o e else if t = 5 ∧ o = j ∧ e = 0 then sL σ 5 j 0 + v_priceOf σ (j % 8) (zag σ j x) day else if t = 4 ∧ o = j ∧ e = 0 then sL σ 4 j 0 + zag σ j x else sL σ t o e := by
  unfold s_refill
  split
  · rfl
  · rw [price_i (σ := σ) (σ' := uL σ 4 j 0 (sL σ 4 j 0 + zmnl x ((sI σ 13 (j % 8) 0).toInt64 * (sI σ 15 (j % 8) 0).toInt64 - sL σ 4 j 0))) rfl]
    rfl
theorem refill_I (σ : zSt) (j : Nat) (x : Int64) (day : Int32) : (s_refill σ j x day).1 = σ.1 := by
  unfold s_refill
  split <;> rfl
theorem refill_2 (σ : zSt) (j : Nat) (x : Int64) (day : Int32) : (s_refill σ j x day).2.2 = σ.2.2 := by
  unfold s_refill
  split <;> rfl
/-- the terms of a treaty are in their ranges -/
def zVt (σ : zSt) (t : Nat) : Prop := (sI σ 8 t 0 = 113 → 0 ≤ (sI σ 12 t 0).toInt ∧ (sI σ 12 t 0).toInt ≤ 100) ∧ (0 ≤ (sI σ 12 t 0).toInt ∧ (sI σ 12 t 0).toInt ≤ 1000000) ∧ (1 ≤ (sI σ 13 t 0).toInt ∧ (sI σ 13 t 0).toInt ≤ 1000000) ∧ (sI σ 8 t 0 = 115 → (sI σ 13 t 0).toInt ≤ 20) ∧
  (0 ≤ (sI σ 10 t 0).toInt ∧ (sI σ 10 t 0).toInt ≤ (sI σ 11 t 0).toInt ∧ (sI σ 11 t 0).toInt ≤ 999) ∧ (1 ≤ (sI σ 14 t 0).toInt ∧ (sI σ 14 t 0).toInt ≤ 9) ∧ (0 ≤ (sI σ 15 t 0).toInt ∧ (sI σ 15 t 0).toInt ≤ 5) ∧ (0 ≤ (sI σ 16 t 0).toInt ∧ (sI σ 16 t 0).toInt ≤ 200) ∧ (0 ≤ (sI σ 18 t 0).toInt ∧ (sI σ 18 t 0).toInt ≤ 1000000)
/-- the flow's losses and covers, as they stand while it runs: n losses, in order of days, none twice -/
def zQf (b : Nat) (σ : zSt) : Prop := (b < 2 ∧ sN σ 2 ≤ 8 ∧ sZ σ (6 + 4 * b) = sN σ 2 ∧ ∀ i, i < sN σ 2 → lx σ (6 + 4 * b) i = 8 * b + i) ∧ sZ σ (5 + 4 * b) ≤ 30 ∧
  (∀ i i', i < i' → i' < sZ σ (5 + 4 * b) → lx σ (5 + 4 * b) i ≠ lx σ (5 + 4 * b) i') ∧
  (∀ i i', i < i' → i' < sZ σ (5 + 4 * b) → (sI σ 4 (lx σ (5 + 4 * b) i) 0).toInt ≤ (sI σ 4 (lx σ (5 + 4 * b) i') 0).toInt) ∧
  (∀ i, i < sZ σ (5 + 4 * b) → (0 ≤ (sI σ 4 (lx σ (5 + 4 * b) i) 0).toInt ∧ (sI σ 4 (lx σ (5 + 4 * b) i) 0).toInt ≤ 999) ∧ (0 ≤ (sI σ 6 (lx σ (5 + 4 * b) i) 0).toInt ∧ (sI σ 6 (lx σ (5 + 4 * b) i) 0).toInt ≤ 1000000) ∧ (1 ≤ (sI σ 0 (sP σ (lx σ (5 + 4 * b) i)) 0).toInt ∧ (sI σ 0 (sP σ (lx σ (5 + 4 * b) i)) 0).toInt ≤ 1000000)) ∧
  ∀ t, t < sN σ 2 → zVt σ t
/-- one loss: what is left and what is taken -/
def zF1 (σ : zSt) (k : Nat) : Prop := 0 ≤ (sL σ 0 k 0).toInt ∧ (∀ t, t < 8 → 0 ≤ (sL σ 1 k t).toInt) ∧ (sL σ 0 k 0).toInt + zSm (fun t => (sL σ 1 k t).toInt) 8 = (sI σ 6 k 0).toInt
/-- one cover that isn't commuted, its reinstatements -/
def zF2 (σ : zSt) (j : Nat) : Prop := (0 ≤ (sL σ 2 j 0).toInt ∧ (sL σ 2 j 0).toInt + (sL σ 3 j 0).toInt = (v_wholeLimit σ (j % 8)).toInt) ∧ (0 ≤ (sL σ 4 j 0).toInt ∧ (sL σ 4 j 0).toInt ≤ (sL σ 3 j 0).toInt) ∧
  (v_isLimited σ (j % 8) ≠ 0 → (sL σ 4 j 0).toInt ≤ (sI σ 13 (j % 8) 0).toInt * (sI σ 15 (j % 8) 0).toInt) ∧ (v_isLimited σ (j % 8) = 0 → (sL σ 4 j 0).toInt = 0) ∧ 0 ≤ (sL σ 5 j 0).toInt ∧ (sL σ 5 j 0).toInt ≤ 2000000000 * (sL σ 4 j 0).toInt
def zFi (b : Nat) (σ : zSt) : Prop := (∀ i, i < sZ σ (5 + 4 * b) → zF1 σ (lx σ (5 + 4 * b) i)) ∧
  (∀ t, t < sN σ 2 → sI σ 19 t 0 = 0 → zF2 σ (8 * b + t) ∧ (sL σ 3 (8 * b + t) 0).toInt = zSm (fun i => (sL σ 1 (lx σ (5 + 4 * b) i) t).toInt) (sZ σ (5 + 4 * b))) ∧
  ∀ t, t < 8 → (sN σ 2 ≤ t ∨ sI σ 19 t 0 ≠ 0) → ∀ i, i < sZ σ (5 + 4 * b) → sL σ 1 (lx σ (5 + 4 * b) i) t = 0
theorem zF1.b {σ : zSt} {k : Nat} (h : zF1 σ k) (ha : (sI σ 6 k 0).toInt ≤ 1000000) : (sL σ 0 k 0).toInt ≤ 1000000 ∧ ∀ t, t < 8 → (sL σ 1 k t).toInt ≤ 1000000 := by
  have h0 := zSm_nn (f := fun t => (sL σ 1 k t).toInt) (n := 8) h.2.1
  have := h.2.2
  refine ⟨by have := h.1; omega, fun t ht => ?_⟩
  have h1 := zSm_le1 (f := fun t => (sL σ 1 k t).toInt) ht h.2.1
  have := h.1
  have h1 : (sL σ 1 k t).toInt ≤ zSm (fun t => (sL σ 1 k t).toInt) 8 := h1
  omega
theorem lim_i {σ σ' : zSt} (h : σ'.1 = σ.1) (t : Nat) : v_isLimited σ' t = v_isLimited σ t ∧ v_wholeLimit σ' t = v_wholeLimit σ t := by
  unfold v_wholeLimit v_isLimited
  rw [show sI σ' = sI σ from h]
  exact ⟨rfl, rfl⟩
theorem wl_int {σ : zSt} {t : Nat} (hv : zVt σ t) : (v_isLimited σ t = 0 → (v_wholeLimit σ t).toInt = 1000000000000) ∧ (v_isLimited σ t ≠ 0 → (v_wholeLimit σ t).toInt = (sI σ 13 t 0).toInt * (1 + (sI σ 15 t 0).toInt)) ∧ 0 ≤ (v_wholeLimit σ t).toInt ∧ (v_wholeLimit σ t).toInt ≤ 1000000000000 := by
  obtain ⟨-, -, h13, -, -, -, h15, -, -⟩ := hv
  have e1 : ((1 : Int32) + sI σ 15 t 0).toInt = 1 + (sI σ 15 t 0).toInt := by
    rw [w_add' (by have : (1 : Int32).toInt = 1 := rfl; omega) (by have : (1 : Int32).toInt = 1 := rfl; omega)]
    rfl
  have b1 : 0 ≤ (sI σ 13 t 0).toInt * (1 + (sI σ 15 t 0).toInt) := Int.mul_nonneg (by omega) (by omega)
  have b2 : (sI σ 13 t 0).toInt * (1 + (sI σ 15 t 0).toInt) ≤ 1000000 * 6 := Int.mul_le_mul (by omega) (by omega) (by omega) (by omega)
  unfold v_wholeLimit
  by_cases c : v_isLimited σ t = 0
  · rw [if_pos c]
    exact ⟨fun _ => rfl, fun h => absurd c h, by decide, by decide⟩
  · rw [if_neg c]
    have e2 : ((sI σ 13 t 0).toInt64 * (1 + sI σ 15 t 0).toInt64).toInt = (sI σ 13 t 0).toInt * (1 + (sI σ 15 t 0).toInt) := by
      rw [l_mul (by rw [l_of, l_of, e1]; omega) (by rw [l_of, l_of, e1]; omega), l_of, l_of, e1]
    exact ⟨fun h => absurd h c, fun _ => e2, by omega, by omega⟩
/-- a step that takes x of the i-th loss for the treaty t -/
theorem take_ok {b : Nat} {σ : zSt} (hq : zQf b σ) (h : zFi b σ) {i t : Nat} (hi : i < sZ σ (5 + 4 * b)) (ht : t < sN σ 2) (hc : sI σ 19 t 0 = 0) {x : Int64} (h0 : 0 ≤ x.toInt) (hl : x.toInt ≤ (sL σ 0 (lx σ (5 + 4 * b) i) 0).toInt) (hm : x.toInt ≤ (sL σ 2 (8 * b + t) 0).toInt) : zFi b (s_takeFrom σ (8 * b + t) (lx σ (5 + 4 * b) i) x) := by
  obtain ⟨g1, g2, g3⟩ := h
  have hb := hq.1.1
  have ht8 : t < 8 := Nat.lt_of_lt_of_le ht hq.1.2.1
  have hm8 : (8 * b + t) % 8 = t := by omega
  have hne : ∀ i', i' < sZ σ (5 + 4 * b) → i' ≠ i → lx σ (5 + 4 * b) i' ≠ lx σ (5 + 4 * b) i := fun i' h1 h2 => by
    rcases Nat.lt_or_gt_of_ne h2 with h | h
    · exact hq.2.2.1 i' i h hi
    · exact fun e => hq.2.2.1 i i' h h1 e.symm
  have hk := g1 i hi
  have ha := (hq.2.2.2.2.1 i hi).2.1
  have hkb := hk.b ha.2
  have hF2 := (g2 t ht hc).1
  have hwl := (wl_int (hq.2.2.2.2.2 t ht)).2.2
  unfold zF2 at hF2
  rw [hm8] at hF2
  have eL0 : (sL σ 0 (lx σ (5 + 4 * b) i) 0 - x).toInt = (sL σ 0 (lx σ (5 + 4 * b) i) 0).toInt - x.toInt := l_sub (by omega) (by omega)
  have eL1 : (sL σ 1 (lx σ (5 + 4 * b) i) t + x).toInt = (sL σ 1 (lx σ (5 + 4 * b) i) t).toInt + x.toInt := by
    have := hkb.2 t ht8
    have := hk.2.1 t ht8
    exact l_add (by omega) (by omega)
  have eL2 : (sL σ 2 (8 * b + t) 0 - x).toInt = (sL σ 2 (8 * b + t) 0).toInt - x.toInt := l_sub (by omega) (by omega)
  have eL3 : (sL σ 3 (8 * b + t) 0 + x).toInt = (sL σ 3 (8 * b + t) 0).toInt + x.toInt := l_add (by omega) (by omega)
  have r0 : ∀ k, sL (s_takeFrom σ (8 * b + t) (lx σ (5 + 4 * b) i) x) 0 k 0 = if k = lx σ (5 + 4 * b) i then sL σ 0 (lx σ (5 + 4 * b) i) 0 - x else sL σ 0 k 0 := fun k => by
    rw [take_L, if_neg (fun q => by omega), if_neg (fun q => by omega), if_neg (fun q => by omega)]
    by_cases e : k = lx σ (5 + 4 * b) i
    · rw [if_pos ⟨rfl, e, rfl⟩, if_pos e]
    · rw [if_neg (fun q => e q.2.1), if_neg e]
  have r1 : ∀ k e, sL (s_takeFrom σ (8 * b + t) (lx σ (5 + 4 * b) i) x) 1 k e = if k = lx σ (5 + 4 * b) i ∧ e = t then sL σ 1 (lx σ (5 + 4 * b) i) t + x else sL σ 1 k e := fun k e => by
    rw [take_L, if_neg (fun q => by omega), if_neg (fun q => by omega), hm8]
    by_cases c : k = lx σ (5 + 4 * b) i ∧ e = t
    · rw [if_pos ⟨rfl, c.1, c.2⟩, if_pos c]
    · rw [if_neg (fun q => c q.2), if_neg c, if_neg (fun q => by omega)]
  have r2 : ∀ j, sL (s_takeFrom σ (8 * b + t) (lx σ (5 + 4 * b) i) x) 2 j 0 = if j = 8 * b + t then sL σ 2 (8 * b + t) 0 - x else sL σ 2 j 0 := fun j => by
    rw [take_L, if_neg (fun q => by omega)]
    by_cases e : j = 8 * b + t
    · rw [if_pos ⟨rfl, e, rfl⟩, if_pos e]
    · rw [if_neg (fun q => e q.2.1), if_neg (fun q => by omega), if_neg (fun q => by omega), if_neg e]
  have r3 : ∀ j, sL (s_takeFrom σ (8 * b + t) (lx σ (5 + 4 * b) i) x) 3 j 0 = if j = 8 * b + t then sL σ 3 (8 * b + t) 0 + x else sL σ 3 j 0 := fun j => by
    rw [take_L]
    by_cases e : j = 8 * b + t
    · rw [if_pos ⟨rfl, e, rfl⟩, if_pos e]
    · rw [if_neg (fun q => e q.2.1), if_neg (fun q => by omega), if_neg (fun q => by omega), if_neg (fun q => by omega), if_neg e]
  have r45 : ∀ q j, q = 4 ∨ q = 5 → sL (s_takeFrom σ (8 * b + t) (lx σ (5 + 4 * b) i) x) q j 0 = sL σ q j 0 := fun q j hq => by
    rw [take_L, if_neg (fun q => by omega), if_neg (fun q => by omega), if_neg (fun q => by omega), if_neg (fun q => by omega)]
  refine ⟨fun i' hi' => ?_, fun t' ht' hc' => ⟨?_, ?_⟩, fun t' ht' hd i' hi' => ?_⟩
  · have hi' : i' < sZ σ (5 + 4 * b) := hi'
    have h1 := g1 i' hi'
    show zF1 (s_takeFrom σ (8 * b + t) (lx σ (5 + 4 * b) i) x) (lx σ (5 + 4 * b) i')
    unfold zF1
    rw [show sI (s_takeFrom σ (8 * b + t) (lx σ (5 + 4 * b) i) x) = sI σ from rfl]
    by_cases e : i' = i
    · subst e
      refine ⟨?_, fun e he => ?_, ?_⟩
      · rw [r0, if_pos rfl, eL0]
        omega
      · rw [r1]
        by_cases c : e = t
        · rw [if_pos ⟨rfl, c⟩, eL1]
          have := h1.2.1 t ht8
          omega
        · rw [if_neg (fun q => c q.2)]
          exact h1.2.1 e he
      · have hs := zSm_upd (f := fun e => (sL (s_takeFrom σ (8 * b + t) (lx σ (5 + 4 * b) i') x) 1 (lx σ (5 + 4 * b) i') e).toInt) (g := fun e => (sL σ 1 (lx σ (5 + 4 * b) i') e).toInt) ht8 (fun e _ hne => by
          show (sL (s_takeFrom σ (8 * b + t) (lx σ (5 + 4 * b) i') x) 1 (lx σ (5 + 4 * b) i') e).toInt = _
          rw [r1, if_neg (fun q => hne q.2)])
        have hs2 : (sL (s_takeFrom σ (8 * b + t) (lx σ (5 + 4 * b) i') x) 1 (lx σ (5 + 4 * b) i') t).toInt = (sL σ 1 (lx σ (5 + 4 * b) i') t).toInt + x.toInt := by rw [r1, if_pos ⟨rfl, rfl⟩, eL1]
        have := h1.2.2
        rw [r0, if_pos rfl, eL0, hs]
        show _ + (_ + (sL (s_takeFrom σ (8 * b + t) (lx σ (5 + 4 * b) i') x) 1 (lx σ (5 + 4 * b) i') t).toInt - (sL σ 1 (lx σ (5 + 4 * b) i') t).toInt) = _
        omega
    · have hn := hne i' hi' e
      refine ⟨?_, fun e he => ?_, ?_⟩
      · rw [r0, if_neg hn]
        exact h1.1
      · rw [r1, if_neg (fun q => hn q.1)]
        exact h1.2.1 e he
      · rw [r0, if_neg hn, zSm_congr (g := fun t => (sL σ 1 (lx σ (5 + 4 * b) i') t).toInt) (fun e _ => by rw [r1, if_neg (fun q => hn q.1)])]
        exact h1.2.2
  · have hlm := lim_i (σ := σ) (σ' := s_takeFrom σ (8 * b + t) (lx σ (5 + 4 * b) i) x) rfl ((8 * b + t') % 8)
    have h2 := (g2 t' ht' hc').1
    unfold zF2 at h2 ⊢
    rw [hlm.1, hlm.2, r2, r3, r45 4 _ (Or.inl rfl), r45 5 _ (Or.inr rfl)]
    rw [show sI (s_takeFrom σ (8 * b + t) (lx σ (5 + 4 * b) i) x) = sI σ from rfl]
    by_cases e : 8 * b + t' = 8 * b + t
    · have e : t' = t := by omega
      subst e
      rw [if_pos rfl, if_pos rfl, eL2, eL3]
      exact ⟨⟨by omega, by omega⟩, ⟨h2.2.1.1, by omega⟩, h2.2.2⟩
    · rw [if_neg e, if_neg e]
      exact h2
  · have h2 := (g2 t' ht' hc').2
    show (sL (s_takeFrom σ (8 * b + t) (lx σ (5 + 4 * b) i) x) 3 (8 * b + t') 0).toInt = zSm (fun i' => (sL (s_takeFrom σ (8 * b + t) (lx σ (5 + 4 * b) i) x) 1 (lx σ (5 + 4 * b) i') t').toInt) (sZ σ (5 + 4 * b))
    rw [r3]
    by_cases e : 8 * b + t' = 8 * b + t
    · have e : t' = t := by omega
      subst e
      have hs := zSm_upd (f := fun i' => (sL (s_takeFrom σ (8 * b + t') (lx σ (5 + 4 * b) i) x) 1 (lx σ (5 + 4 * b) i') t').toInt) (g := fun i' => (sL σ 1 (lx σ (5 + 4 * b) i') t').toInt) hi (fun i' hi' hn => by
        show (sL (s_takeFrom σ (8 * b + t') (lx σ (5 + 4 * b) i) x) 1 (lx σ (5 + 4 * b) i') t').toInt = _
        rw [r1, if_neg (fun q => hne i' hi' hn q.1)])
      have hs2 : (sL (s_takeFrom σ (8 * b + t') (lx σ (5 + 4 * b) i) x) 1 (lx σ (5 + 4 * b) i) t').toInt = (sL σ 1 (lx σ (5 + 4 * b) i) t').toInt + x.toInt := by rw [r1, if_pos ⟨rfl, rfl⟩, eL1]
      rw [if_pos rfl, eL3, hs]
      show _ = _ + (sL (s_takeFrom σ (8 * b + t') (lx σ (5 + 4 * b) i) x) 1 (lx σ (5 + 4 * b) i) t').toInt - (sL σ 1 (lx σ (5 + 4 * b) i) t').toInt
      omega
    · rw [if_neg e, h2]
      refine zSm_congr (fun i' _ => ?_)
      rw [r1, if_neg (fun q => e (by rw [q.2]))]
  · show sL (s_takeFrom σ (8 * b + t) (lx σ (5 + 4 * b) i) x) 1 (lx σ (5 + 4 * b) i') t' = 0
    have hd2 : sN σ 2 ≤ t' ∨ sI σ 19 t' 0 ≠ 0 := hd
    have hn : t' ≠ t := fun e => by
      subst e
      rcases hd2 with h | h
      · omega
      · exact h hc
    rw [r1, if_neg (fun q => hn q.2)]
    exact g3 t' ht' hd2 i' hi'
theorem price_ok {σ : zSt} {t : Nat} (hv : zVt σ t) {x : Int64} {d : Int32} (h0 : 0 ≤ x.toInt) (h1 : x.toInt ≤ (sI σ 13 t 0).toInt * 5) (hd : 0 ≤ d.toInt ∧ d.toInt ≤ 999) : 0 ≤ (v_priceOf σ t x d).toInt ∧ (v_priceOf σ t x d).toInt ≤ 2000000000 * x.toInt := by
  obtain ⟨-, -, h13, -, h10, -, -, h16, h18⟩ := hv
  have hx5 : x.toInt ≤ 5000000 := by omega
  have m1 : 0 ≤ (sI σ 18 t 0).toInt * x.toInt := Int.mul_nonneg h18.1 h0
  have m2 : (sI σ 18 t 0).toInt * x.toInt ≤ 1000000 * x.toInt := Int.mul_le_mul_of_nonneg_right h18.2 h0
  have e1 : ((sI σ 18 t 0).toInt64 * x).toInt = (sI σ 18 t 0).toInt * x.toInt := by
    rw [l_mul (by rw [l_of]; omega) (by rw [l_of]; omega), l_of]
  have m3 : 0 ≤ (sI σ 18 t 0).toInt * x.toInt * (sI σ 16 t 0).toInt := Int.mul_nonneg m1 h16.1
  have m4 : (sI σ 18 t 0).toInt * x.toInt * (sI σ 16 t 0).toInt ≤ (1000000 * x.toInt) * 200 := Int.mul_le_mul m2 h16.2 h16.1 (by omega)
  have e2 : ((sI σ 18 t 0).toInt64 * x * (sI σ 16 t 0).toInt64).toInt = (sI σ 18 t 0).toInt * x.toInt * (sI σ 16 t 0).toInt := by
    rw [l_mul (by rw [e1, l_of]; omega) (by rw [e1, l_of]; omega), e1, l_of]
  have e3 : ((sI σ 13 t 0).toInt64 * 100).toInt = (sI σ 13 t 0).toInt * 100 := by
    have : (100 : Int64).toInt = 100 := rfl
    rw [l_mul (by rw [l_of, this]; omega) (by rw [l_of, this]; omega), l_of, this]
  have e4 : ((sI σ 18 t 0).toInt64 * x * (sI σ 16 t 0).toInt64 / ((sI σ 13 t 0).toInt64 * 100)).toInt = (sI σ 18 t 0).toInt * x.toInt * (sI σ 16 t 0).toInt / ((sI σ 13 t 0).toInt * 100) := by
    rw [l_div (by rw [e2]; exact m3) (by rw [e3]; omega), e2, e3]
  have c0 : 0 ≤ (sI σ 18 t 0).toInt * x.toInt * (sI σ 16 t 0).toInt / ((sI σ 13 t 0).toInt * 100) := Int.ediv_nonneg m3 (by omega)
  have c1 : (sI σ 18 t 0).toInt * x.toInt * (sI σ 16 t 0).toInt / ((sI σ 13 t 0).toInt * 100) ≤ 2000000 * x.toInt := by
    refine Int.le_of_lt_add_one (Int.ediv_lt_of_lt_mul (by omega) ?_)
    have : (2000000 * x.toInt + 1) * 100 ≤ (2000000 * x.toInt + 1) * ((sI σ 13 t 0).toInt * 100) := Int.mul_le_mul_of_nonneg_left (by omega) (by omega)
    omega
  unfold v_priceOf
  by_cases c : sI σ 17 t 0 = 0
  · rw [if_pos c, e4]
    omega
  · rw [if_neg c]
    generalize ((sI σ 18 t 0).toInt64 * x * (sI σ 16 t 0).toInt64 / ((sI σ 13 t 0).toInt64 * 100)) = C at e4 ⊢
    have f1 : (sI σ 11 t 0 - d + 1).toInt = (sI σ 11 t 0).toInt - d.toInt + 1 := by
      have o : (1 : Int32).toInt = 1 := rfl
      have s1 : (sI σ 11 t 0 - d).toInt = (sI σ 11 t 0).toInt - d.toInt := w_sub' (by omega) (by omega)
      rw [w_add' (by omega) (by omega), s1, o]
    have f2 := w_mx 0 (sI σ 11 t 0 - d + 1)
    have f3 : (0 : Int32).toInt = 0 := rfl
    rw [f1, f3] at f2
    have f4 : (sI σ 11 t 0 - sI σ 10 t 0 + 1).toInt = (sI σ 11 t 0).toInt - (sI σ 10 t 0).toInt + 1 := by
      have o : (1 : Int32).toInt = 1 := rfl
      have s1 : (sI σ 11 t 0 - sI σ 10 t 0).toInt = (sI σ 11 t 0).toInt - (sI σ 10 t 0).toInt := w_sub' (by omega) (by omega)
      rw [w_add' (by omega) (by omega), s1, o]
    generalize zmx 0 (sI σ 11 t 0 - d + 1) = D at f2 ⊢
    have k0 : 0 ≤ C.toInt * D.toInt := Int.mul_nonneg (by omega) (by omega)
    have k1 : C.toInt * D.toInt ≤ (2000000 * x.toInt) * 1000 := Int.mul_le_mul (by omega) (by omega) (by omega) (by omega)
    have e5 : (C * D.toInt64).toInt = C.toInt * D.toInt := by
      rw [l_mul (by rw [l_of]; omega) (by rw [l_of]; omega), l_of]
    rw [l_div (by rw [e5]; exact k0) (by rw [l_of, f4]; omega), e5, l_of, f4]
    refine ⟨Int.ediv_nonneg k0 (by omega), Int.le_trans (Int.ediv_le_self _ k0) (by omega)⟩
theorem zag_ok {σ : zSt} {j : Nat} (hv : zVt σ (j % 8)) {x : Int64} (h0 : 0 ≤ x.toInt) (h4 : 0 ≤ (sL σ 4 j 0).toInt ∧ (sL σ 4 j 0).toInt ≤ (sI σ 13 (j % 8) 0).toInt * (sI σ 15 (j % 8) 0).toInt) : 0 ≤ (zag σ j x).toInt ∧ (zag σ j x).toInt ≤ x.toInt ∧ (sL σ 4 j 0).toInt + (zag σ j x).toInt ≤ (sI σ 13 (j % 8) 0).toInt * (sI σ 15 (j % 8) 0).toInt ∧ (zag σ j x).toInt ≤ (sI σ 13 (j % 8) 0).toInt * 5 := by
  obtain ⟨-, -, h13, -, -, -, h15, -, -⟩ := hv
  have b2 : (sI σ 13 (j % 8) 0).toInt * (sI σ 15 (j % 8) 0).toInt ≤ (sI σ 13 (j % 8) 0).toInt * 5 := Int.mul_le_mul_of_nonneg_left h15.2 (by omega)
  have e1 : ((sI σ 13 (j % 8) 0).toInt64 * (sI σ 15 (j % 8) 0).toInt64).toInt = (sI σ 13 (j % 8) 0).toInt * (sI σ 15 (j % 8) 0).toInt := by
    rw [l_mul (by rw [l_of, l_of]; omega) (by rw [l_of, l_of]; omega), l_of, l_of]
  have e2 : ((sI σ 13 (j % 8) 0).toInt64 * (sI σ 15 (j % 8) 0).toInt64 - sL σ 4 j 0).toInt = (sI σ 13 (j % 8) 0).toInt * (sI σ 15 (j % 8) 0).toInt - (sL σ 4 j 0).toInt := by
    rw [l_sub (by omega) (by omega), e1]
  have e3 := l_mn x ((sI σ 13 (j % 8) 0).toInt64 * (sI σ 15 (j % 8) 0).toInt64 - sL σ 4 j 0)
  rw [e2] at e3
  unfold zag
  omega
/-- a step that reinstates what was taken -/
theorem refill_ok {b : Nat} {σ : zSt} (hq : zQf b σ) (h : zFi b σ) {t : Nat} (ht : t < sN σ 2) (hc : sI σ 19 t 0 = 0) {x : Int64} {d : Int32} (h0 : 0 ≤ x.toInt) (hx : (sL σ 4 (8 * b + t) 0).toInt + x.toInt ≤ (sL σ 3 (8 * b + t) 0).toInt) (hd : 0 ≤ d.toInt ∧ d.toInt ≤ 999) : zFi b (s_refill σ (8 * b + t) x d) := by
  obtain ⟨g1, g2, g3⟩ := h
  have hb := hq.1.1
  have ht8 : t < 8 := Nat.lt_of_lt_of_le ht hq.1.2.1
  have hm8 : (8 * b + t) % 8 = t := by omega
  by_cases hl : v_isLimited σ ((8 * b + t) % 8) = 0
  · have e : s_refill σ (8 * b + t) x d = σ := if_pos hl
    rw [e]
    exact ⟨g1, g2, g3⟩
  · have hF2 := (g2 t ht hc).1
    have hv := hq.2.2.2.2.2 t ht
    have hz := zag_ok (σ := σ) (j := 8 * b + t) (by rw [hm8]; exact hv) h0 ⟨hF2.2.1.1, hF2.2.2.1 hl⟩
    have hz5 := hz.2.2.2
    rw [hm8] at hz5
    have hp := price_ok hv (x := zag σ (8 * b + t) x) (d := d) hz.1 hz5 hd
    have h13 := hv.2.2.1
    have b5 : (sI σ 13 ((8 * b + t) % 8) 0).toInt * (sI σ 15 ((8 * b + t) % 8) 0).toInt ≤ 1000000 * 5 := by
      rw [hm8]
      exact Int.mul_le_mul h13.2 hv.2.2.2.2.2.2.1.2 hv.2.2.2.2.2.2.1.1 (by decide)
    have i1 := refill_I σ (8 * b + t) x d
    have i2 := refill_2 σ (8 * b + t) x d
    have iI : sI (s_refill σ (8 * b + t) x d) = sI σ := i1
    have ilx : lx (s_refill σ (8 * b + t) x d) = lx σ := by unfold lx; rw [show sE (s_refill σ (8 * b + t) x d) = sE σ from congrArg (fun z => z.1) i2]
    have iZ : sZ (s_refill σ (8 * b + t) x d) = sZ σ := congrArg (fun z => z.2.1) i2
    have iN : sN (s_refill σ (8 * b + t) x d) = sN σ := congrArg (fun z => z.2.2.2.2.1) i2
    have rL : ∀ q o e, q ≠ 4 → q ≠ 5 → sL (s_refill σ (8 * b + t) x d) q o e = sL σ q o e := fun q o e h1 h2 => by
      rw [refill_L, if_neg hl, if_neg (fun z => h2 z.1), if_neg (fun z => h1 z.1)]
    have r4 : ∀ o, sL (s_refill σ (8 * b + t) x d) 4 o 0 = if o = 8 * b + t then sL σ 4 (8 * b + t) 0 + zag σ (8 * b + t) x else sL σ 4 o 0 := fun o => by
      rw [refill_L, if_neg hl, if_neg (fun z => by omega)]
      by_cases e : o = 8 * b + t
      · rw [if_pos ⟨rfl, e, rfl⟩, if_pos e]
      · rw [if_neg (fun z => e z.2.1), if_neg e]
    have r5 : ∀ o, sL (s_refill σ (8 * b + t) x d) 5 o 0 = if o = 8 * b + t then sL σ 5 (8 * b + t) 0 + v_priceOf σ t (zag σ (8 * b + t) x) d else sL σ 5 o 0 := fun o => by
      rw [refill_L, if_neg hl, hm8]
      by_cases e : o = 8 * b + t
      · rw [if_pos ⟨rfl, e, rfl⟩, if_pos e]
      · rw [if_neg (fun z => e z.2.1), if_neg (fun z => by omega), if_neg e]
    unfold zFi
    rw [ilx, iZ, iN, iI]
    refine ⟨fun i hi => ?_, fun t' ht' hc' => ⟨?_, ?_⟩, fun t' ht' hd i hi => ?_⟩
    · have := g1 i hi
      unfold zF1 at this ⊢
      rw [rL 0 _ _ (by decide) (by decide), iI, zSm_congr (g := fun t => (sL σ 1 (lx σ (5 + 4 * b) i) t).toInt) (fun e _ => by rw [rL 1 _ _ (by decide) (by decide)])]
      refine ⟨this.1, fun e he => ?_, this.2.2⟩
      rw [rL 1 _ _ (by decide) (by decide)]
      exact this.2.1 e he
    · have h2 := (g2 t' ht' hc').1
      have hlm := lim_i (σ := σ) (σ' := s_refill σ (8 * b + t) x d) i1 ((8 * b + t') % 8)
      unfold zF2 at h2 ⊢
      rw [hlm.1, hlm.2, iI, rL 2 _ _ (by decide) (by decide), rL 3 _ _ (by decide) (by decide), r4, r5]
      by_cases e : 8 * b + t' = 8 * b + t
      · have e : t' = t := by omega
        subst e
        have a4 : (sL σ 4 (8 * b + t') 0 + zag σ (8 * b + t') x).toInt = (sL σ 4 (8 * b + t') 0).toInt + (zag σ (8 * b + t') x).toInt := l_add (by omega) (by omega)
        have a5 : (sL σ 5 (8 * b + t') 0 + v_priceOf σ t' (zag σ (8 * b + t') x) d).toInt = (sL σ 5 (8 * b + t') 0).toInt + (v_priceOf σ t' (zag σ (8 * b + t') x) d).toInt := l_add (by omega) (by omega)
        rw [if_pos rfl, if_pos rfl, a4, a5]
        refine ⟨h2.1, ⟨by omega, by omega⟩, fun _ => by omega, fun q => absurd q hl, by omega, by omega⟩
      · rw [if_neg e, if_neg e]
        exact h2
    · have h2 := (g2 t' ht' hc').2
      rw [rL 3 _ _ (by decide) (by decide), h2]
      exact zSm_congr (fun i _ => by rw [rL 1 _ _ (by decide) (by decide)])
    · rw [rL 1 _ _ (by decide) (by decide)]
      exact g3 t' ht' hd i hi
