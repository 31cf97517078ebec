/-! add, with or without growth; states that differ in some lists -/
set_option maxRecDepth 100000 in
set_option maxHeartbeats 4000000 in
theorem c_addR6 {G : zG} {ad : Nat → Nat → Nat} {σ : zSt} (q x : Nat) (hq : zLok σ q) (hf : sZ σ q < sC σ q) (hx : zlv σ (zeK q) x) : zC G yJx4a65c_add_9ea2d cJx4a65c_add_9ea2d 2 (some FieldType.boolean) 6 152 0 0 [.ref (ad 28 q), .ref (ad (zeK q) x)] (zP G ad σ) (some (.int 1)) (zP G ad (s_add σ q x)) := by
  refine zC_of (by decide) (Nat.le_of_ble_eq_true rfl) (fun X K E hnm => ?_)
  show zV G X 2 (zP G ad σ) 0 0 0 [(0, .ref (ad 28 q)), (1, .ref (ad (zeK q) x))] []
  have hz := hq.2.1
  refine zV.opn (fun aa => ?_)
  refine zi_aload_n K (dJx4a65c_add_9ea2d 0 rfl) 0 rfl ?_
  refine zi_dup K (dJx4a65c_add_9ea2d 1 rfl) rfl ?_
  refine zg0_mod K hq.1 w_85 (dJx4a65c_add_9ea2d 2 rfl) ?_
  refine zi_iconst K (dJx4a65c_add_9ea2d 3 rfl) zk_i1 ?_
  refine zi_iadd K (dJx4a65c_add_9ea2d 4 rfl) ?_
  refine zp0_mod K hq.1 w_85 (dJx4a65c_add_9ea2d 5 rfl) ?_
  refine zi_aload_n K (dJx4a65c_add_9ea2d 6 rfl) 0 rfl ?_
  refine zi_aload_n K (dJx4a65c_add_9ea2d 7 rfl) 1 rfl ?_
  refine zi_aload_n K (dJx4a65c_add_9ea2d 8 rfl) 0 rfl ?_
  refine zg0_data K hq.1 w_82 (dJx4a65c_add_9ea2d 9 rfl) ?_
  show zV G X 2 (zP0 G ad aa (uM σ q (sM σ q + 1))) 0 0 _ _ [.ref (if sC σ q = 0 then G.2.2.2.2 0 else aa q), _, _]
  rw [if_neg (show ¬ sC σ q = 0 by omega)]
  refine zi_aload_n K (dJx4a65c_add_9ea2d 10 rfl) 0 rfl ?_
  refine zg0_size K hq.1 w_83 (dJx4a65c_add_9ea2d 11 rfl) ?_
  refine zi_callV K (na := 3) [] [] (c_addpR (ad := ad) (aa := aa) (σ := uM σ q (sM σ q + 1)) q x hq hf hx) (dJx4a65c_add_9ea2d 12 rfl) w_439 w_441 w_4 w_28 w_442 (by decide +kernel) rfl (fun H h => zi_recv K (zr0_LST h hq.1).1 rfl) (fun H h => h) ⟨Nat.le_of_ble_eq_true rfl, Nat.le_of_ble_eq_true rfl⟩ ⟨Nat.le_refl _, Nat.le_refl _⟩ (Nat.le_of_ble_eq_true rfl) rfl rfl ?_
  refine zi_iconst K (dJx4a65c_add_9ea2d 13 rfl) zk_i1 ?_
  exact zi_zret K E (dJx4a65c_add_9ea2d 14 rfl) (Nat.le_refl _) (Nat.le_refl _) rfl rfl (fun H h => by unfold s_add; rw [if_neg (by omega)]; exact h)
theorem sgc_add (σ : zSt) (q x : Nat) : sgc (s_add σ q x) = sgc σ + (if sZ σ q = sC σ q then 1 else 0) := by
  unfold s_add
  split <;> rfl
theorem sgs_add (σ : zSt) (q x : Nat) : sgs (s_add σ q x) = sgs σ + (if sZ σ q = sC σ q then zgC (sC σ q) else 0) := by
  unfold s_add
  split <;> rfl
theorem c_addA {G : zG} {ad : Nat → Nat → Nat} {σ : zSt} (q x kd : Nat) (hk : zeK q = kd) (hq : zLok σ q) (h2 : sC σ q = 0 ∨ 2 ≤ sC σ q) (hx : zlv σ kd x) : zC G yJx4a65c_add_9ea2d cJx4a65c_add_9ea2d 2 (some FieldType.boolean) 6 152 (sgc (s_add σ q x) - sgc σ) (sgs (s_add σ q x) - sgs σ) [.ref (ad 28 q), .ref (ad kd x)] (zP G ad σ) (some (.int 1)) (zP G ad (s_add σ q x)) := by
  subst hk
  rw [sgc_add, sgs_add, Nat.add_sub_cancel_left, Nat.add_sub_cancel_left]
  by_cases hf : sZ σ q = sC σ q
  · rw [if_pos hf, if_pos hf]
    exact c_addG q x hq hf h2 hx
  · rw [if_neg hf, if_neg hf]
    exact c_addR6 q x hq (by have := hq.2.1; omega) hx
/-- two states that differ in numbers and in the lists of Q -/
def zSx (Q : Nat → Prop) (σ' σ : zSt) : Prop := sN σ' = sN σ ∧ sP σ' = sP σ ∧ ∀ q, ¬ Q q → sE σ' q = sE σ q ∧ sZ σ' q = sZ σ q ∧ sC σ' q = sC σ q
theorem zSx.rf {Q : Nat → Prop} {σ : zSt} : zSx Q σ σ := ⟨rfl, rfl, fun _ _ => ⟨rfl, rfl, rfl⟩⟩
theorem zSx.trans {Q : Nat → Prop} {a b c : zSt} (h : zSx Q a b) (k : zSx Q b c) : zSx Q a c := ⟨h.1.trans k.1, h.2.1.trans k.2.1, fun q hq => ⟨(h.2.2 q hq).1.trans (k.2.2 q hq).1, (h.2.2 q hq).2.1.trans (k.2.2 q hq).2.1, (h.2.2 q hq).2.2.trans (k.2.2 q hq).2.2⟩⟩
theorem zSx.of {Q : Nat → Prop} {σ σ' : zSt} (e : σ'.2.2 = σ.2.2) : zSx Q σ' σ := by
  obtain ⟨a, b, c⟩ := σ
  obtain ⟨a', b', c'⟩ := σ'
  cases e
  exact ⟨rfl, rfl, fun _ _ => ⟨rfl, rfl, rfl⟩⟩
theorem zSx_C {Q : Nat → Prop} {σ σ' : zSt} (e : zSx Q σ' σ) {k : Nat} (h : zlC σ k) : zlC σ' k := by
  unfold zlC at *
  rw [e.1]
  exact h
theorem zSx_V {Q : Nat → Prop} {σ σ' : zSt} (e : zSx Q σ' σ) {k : Nat} (h : zlV σ k) : zlV σ' k := by
  unfold zlV at *
  rw [e.1]
  exact h
theorem zSx_N {Q : Nat → Prop} {σ σ' : zSt} (e : zSx Q σ' σ) {k q : Nat} (h : k < sN σ q) : k < sN σ' q := by
  rw [e.1]
  exact h
theorem zSx_P {Q : Nat → Prop} {σ σ' : zSt} (e : zSx Q σ' σ) {k q : Nat} (h : sP σ k < sN σ q) : sP σ' k < sN σ' q := by
  rw [e.1, e.2.1]
  exact h
theorem zSx_Z {Q : Nat → Prop} {σ σ' : zSt} (e : zSx Q σ' σ) {q : Nat} (hq : ¬ Q q) : sZ σ' q = sZ σ q := (e.2.2 q hq).2.1
theorem zSx_E {Q : Nat → Prop} {σ σ' : zSt} (e : zSx Q σ' σ) {q : Nat} (hq : ¬ Q q) (i : Nat) : sE σ' q i = sE σ q i := congrFun (e.2.2 q hq).1 i
theorem zSx_LW {Q : Nat → Prop} {σ σ' : zSt} (e : zSx Q σ' σ) {q : Nat} (hq : ¬ Q q) (h : zLW σ q) : zLW σ' q := by
  obtain ⟨h1, h2, h3⟩ := e.2.2 q hq
  refine ⟨⟨h.1.1, by rw [h2, h3]; exact h.1.2.1, by rw [h3]; exact h.1.2.2.1, fun j hj => ?_, fun j x hx => ?_⟩, fun i hi => ?_⟩
  · rw [h1]
    exact h.1.2.2.2.1 j (by rw [h2] at hj; exact hj)
  · rw [h1] at hx
    exact zlv_u e.1 (h.1.2.2.2.2 j x hx)
  · rw [h1]
    exact h.2 i (by rw [h2] at hi; exact hi)
theorem s_add_sx (σ : zSt) (q x : Nat) (Q : Nat → Prop) (hq : Q q) : zSx Q (s_add σ q x) σ := by
  unfold s_add s_addE
  split
  · refine ⟨rfl, rfl, fun p hp => ?_⟩
    have hpq : ¬ p = q := fun e => hp (e ▸ hq)
    exact ⟨funext fun j => if_neg (fun z => hpq z.1), if_neg hpq, if_neg hpq⟩
  · refine ⟨rfl, rfl, fun p hp => ?_⟩
    have hpq : ¬ p = q := fun e => hp (e ▸ hq)
    exact ⟨funext fun j => if_neg (fun z => hpq z.1), if_neg hpq, rfl⟩
theorem zclr_sx (σ : zSt) (q : Nat) (Q : Nat → Prop) (hq : Q q) (i : Nat) : zSx Q (zclr σ q i) σ := by
  induction i with
  | zero => exact zSx.rf
  | succ i ih =>
    refine zSx.trans (b := zclr σ q i) ⟨rfl, rfl, fun p hp => ?_⟩ ih
    have hpq : ¬ p = q := fun e => hp (e ▸ hq)
    exact ⟨funext fun j => if_neg (fun z => hpq z.1), rfl, rfl⟩
theorem s_clear_sx (σ : zSt) (q : Nat) (Q : Nat → Prop) (hq : Q q) : zSx Q (s_clear σ q) σ := by
  refine (zclr_sx _ q Q hq _).trans ⟨rfl, rfl, fun p hp => ?_⟩
  have hpq : ¬ p = q := fun e => hp (e ▸ hq)
  exact ⟨rfl, if_neg hpq, rfl⟩
/-- a list that add keeps in order; cleared, it is in order and empty -/
theorem zLW_add {σ : zSt} {q x : Nat} (h : zLW σ q) (hc : zgC (sC σ q) < 1000) (h2 : sC σ q = 0 ∨ 2 ≤ sC σ q) (hx : zlv σ (zeK q) x) : zLW (s_add σ q x) q ∧ sZ (s_add σ q x) q = sZ σ q + 1 ∧ ∀ j, sE (s_add σ q x) q j = if j = sZ σ q then some x else sE σ q j := by
  have hE : ∀ j, sE (s_add σ q x) q j = if j = sZ σ q then some x else sE σ q j := by
    intro j
    unfold s_add s_addE
    by_cases e : j = sZ σ q
    · rw [if_pos e]
      split
      · exact if_pos ⟨rfl, e⟩
      · exact if_pos ⟨rfl, e⟩
    · rw [if_neg e]
      split
      · exact if_neg (fun z => e z.2)
      · exact if_neg (fun z => e z.2)
  have hZ : sZ (s_add σ q x) q = sZ σ q + 1 := by
    unfold s_add s_addE
    split
    · exact if_pos rfl
    · exact if_pos rfl
  have hC : sC (s_add σ q x) q = if sZ σ q = sC σ q then zgC (sC σ q) else sC σ q := by
    unfold s_add s_addE
    split
    · exact if_pos rfl
    · rfl
  have hg : sC σ q < zgC (sC σ q) := by unfold zgC; split <;> omega
  refine ⟨⟨⟨h.1.1, ?_, ?_, fun j hj => ?_, fun j y hy => ?_⟩, fun i hi => ?_⟩, hZ, hE⟩
  · rw [hZ, hC]
    have := h.1.2.1
    split <;> omega
  · rw [hC]
    have := h.1.2.2.1
    split <;> omega
  · rw [hZ] at hj
    rw [hE, if_neg (by omega)]
    exact h.1.2.2.2.1 j (by omega)
  · rw [hE] at hy
    refine zlv_u (σ := σ) (σ' := s_add σ q x) (by unfold s_add s_addE; split <;> rfl) ?_
    by_cases e : j = sZ σ q
    · rw [if_pos e] at hy
      cases hy
      exact hx
    · rw [if_neg e] at hy
      exact h.1.2.2.2.2 j y hy
  · rw [hE]
    by_cases e : i = sZ σ q
    · rw [if_pos e]; rfl
    · rw [if_neg e]
      exact h.2 i (by rw [hZ] at hi; omega)
theorem zclr_E (σ : zSt) (q : Nat) (i j : Nat) : sE (zclr σ q i) q j = if j < i then none else sE σ q j := by
  induction i with
  | zero => exact (if_neg (Nat.not_lt_zero _)).symm
  | succ i ih =>
    show (if q = q ∧ j = i then none else sE (zclr σ q i) q j) = _
    by_cases e : j = i
    · rw [if_pos ⟨rfl, e⟩, if_pos (by omega)]
    · rw [if_neg (fun z => e z.2), ih]
      by_cases e2 : j < i
      · rw [if_pos e2, if_pos (by omega)]
      · rw [if_neg e2, if_neg (by omega)]
theorem zLW_clear {σ : zSt} {q : Nat} (h : zLW σ q) : zLW (s_clear σ q) q ∧ sZ (s_clear σ q) q = 0 ∧ sC (s_clear σ q) q = sC σ q := by
  have hE : ∀ j, sE (s_clear σ q) q j = none := by
    intro j
    unfold s_clear
    rw [zclr_E]
    by_cases e : j < sZ σ q
    · exact if_pos e
    · rw [if_neg e]
      exact h.1.2.2.2.1 j (by omega)
  have hZ0 : ∀ i, sZ (zclr (uZ (uM σ q (sM σ q + 1)) q 0) q i) q = 0 := by
    intro i
    induction i with
    | zero => exact if_pos rfl
    | succ i ih => exact ih
  have hZ : sZ (s_clear σ q) q = 0 := hZ0 _
  have hC : sC (s_clear σ q) q = sC σ q := by
    unfold s_clear
    rw [zclr_C]
    rfl
  refine ⟨⟨⟨h.1.1, by rw [hZ]; exact Nat.zero_le _, by rw [hC]; exact h.1.2.2.1, fun j _ => hE j, fun j x hx => by rw [hE j] at hx; cases hx⟩, fun i hi => by rw [hZ] at hi; exact absurd hi (Nat.not_lt_zero _)⟩, hZ, hC⟩
