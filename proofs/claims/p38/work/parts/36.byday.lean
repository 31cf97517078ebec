/-! a loss laid in by its day -/
set_option maxRecDepth 100000 in
set_option maxHeartbeats 4000000 in
theorem c_insR5 {G : zG} {ad : Nat → Nat → Nat} {σ : zSt} (q i x : Nat) (hq : zLok σ q) (hi : i ≤ sZ σ q) (hf : sZ σ q < sC σ q) (hx : zlv σ (zeK q) x) : zC G yJx4a65c_add_7a177 cJx4a65c_add_7a177 5 none 5 129 0 0 [.ref (ad 28 q), .int (nI i), .ref (ad (zeK q) x)] (zP G ad σ) none (zP G ad (s_ins σ q i x)) := by
  refine zC_of (by decide) (Nat.le_of_ble_eq_true rfl) (fun X K E hnm => ?_)
  show zV G X 5 (zP G ad σ) 0 0 0 [(0, .ref (ad 28 q)), (1, .int (nI i)), (2, .ref (ad (zeK q) x))] []
  have hz := hq.2.1
  have hc3 := hq.2.2.1
  refine zV.opn (fun aa => ?_)
  refine zi_aload_n K (dJx4a65c_add_7a177 0 rfl) 0 rfl ?_
  refine zi_iload_n K (dJx4a65c_add_7a177 1 rfl) 1 rfl ?_
  refine zi_callV K (na := 1) [] [] (c_rangeAdd (ad := ad) (aa := aa) (σ := σ) q i hq hi) (dJx4a65c_add_7a177 2 rfl) w_820 w_822 w_18 w_28 w_823 (by decide +kernel) rfl (fun H h => zi_recv K (zr0_LST h hq.1).1 rfl) (fun H h => h) ⟨Nat.le_of_ble_eq_true rfl, Nat.le_of_ble_eq_true rfl⟩ ⟨Nat.zero_le _, Nat.zero_le _⟩ (Nat.le_of_ble_eq_true rfl) rfl rfl ?_
  refine zi_aload_n K (dJx4a65c_add_7a177 3 rfl) 0 rfl ?_
  refine zi_dup K (dJx4a65c_add_7a177 4 rfl) rfl ?_
  refine zg0_mod K hq.1 w_85 (dJx4a65c_add_7a177 5 rfl) ?_
  refine zi_iconst K (dJx4a65c_add_7a177 6 rfl) zk_i1 ?_
  refine zi_iadd K (dJx4a65c_add_7a177 7 rfl) ?_
  refine zp0_mod K hq.1 w_85 (dJx4a65c_add_7a177 8 rfl) ?_
  refine zi_aload_n K (dJx4a65c_add_7a177 9 rfl) 0 rfl ?_
  refine zg0_size K hq.1 w_83 (dJx4a65c_add_7a177 10 rfl) ?_
  refine zi_dup K (dJx4a65c_add_7a177 11 rfl) rfl ?_
  refine zi_istore_n K [(3, .int (nI (sZ σ q))), (0, .ref (ad 28 q)), (1, .int (nI i)), (2, .ref (ad (zeK q) x))] (dJx4a65c_add_7a177 12 rfl) (by decide) rfl ?_
  refine zi_aload_n K (dJx4a65c_add_7a177 13 rfl) 1 rfl ?_
  refine zg0_data K hq.1 w_82 (dJx4a65c_add_7a177 14 rfl) ?_
  show zV G X 5 (zP0 G ad aa (uM σ q (sM σ q + 1))) _ _ _ _ [.ref (if sC σ q = 0 then G.2.2.2.2 0 else aa q), _]
  rw [if_neg (show ¬ sC σ q = 0 by omega)]
  have hqS : q < 13 ∧ 0 < sC (uM σ q (sM σ q + 1)) q := ⟨hq.1, show 0 < sC σ q by omega⟩
  have hCS : sC (uM σ q (sM σ q + 1)) q = sC σ q := rfl
  refine zi_dup K (dJx4a65c_add_7a177 15 rfl) rfl ?_
  refine zi_astore K [(4, .ref (aa q)), (3, .int (nI (sZ σ q))), (0, .ref (ad 28 q)), (1, .int (nI i)), (2, .ref (ad (zeK q) x))] (dJx4a65c_add_7a177 16 rfl) (by decide) rfl ?_
  refine zi_alen (t0 := 3) (N := sC σ q) K rfl (fun H h => (zr0_LARR h hqS).1) (dJx4a65c_add_7a177 17 rfl) ?_
  refine zi_icmp_ne K 38 (dJx4a65c_add_7a177 18 rfl) rfl (fun _ => ?_) (fun h => absurd ((nI_eq (a := sZ σ q) (b := sC σ q) (by omega) (by omega)).mp h) (by omega))
  refine zi_aload K (dJx4a65c_add_7a177 22 rfl) 0 rfl ?_
  refine zi_iload_n K (dJx4a65c_add_7a177 23 rfl) 3 rfl ?_
  refine zi_aload K (dJx4a65c_add_7a177 24 rfl) 0 rfl ?_
  refine zi_iload_n K (dJx4a65c_add_7a177 25 rfl) 3 rfl ?_
  refine zi_iconst K (dJx4a65c_add_7a177 26 rfl) zk_i1 ?_
  refine zi_iadd K (dJx4a65c_add_7a177 27 rfl) ?_
  refine zi_iload_n K (dJx4a65c_add_7a177 28 rfl) 1 rfl ?_
  refine zi_iload_n K (dJx4a65c_add_7a177 29 rfl) 3 rfl ?_
  refine zi_isub K (dJx4a65c_add_7a177 30 rfl) ?_
  rw [nI_1, pk_sub hi]
  refine zi_acopy (sp := i) (dp := i + 1) (m := sZ σ q - i) (n0 := sC (uM σ q (sM σ q + 1)) q) (n1 := sC (uM σ q (sM σ q + 1)) q) (f := fun j => (sE σ q j).map (ad (zeK q))) (g := fun j => (sE σ q j).map (ad (zeK q))) (P' := zP0 G ad aa (uSh (uM σ q (sM σ q + 1)) q i)) K [] w_1056 (fun H h => (zr0_LARR h hqS).1) (fun H h => zr0_LARR h hqS) (by omega) (by omega) (by omega) (by omega) (fun H h y hy z hz => by
    cases hx0 : sE σ q (i + y) with
    | none => rw [hx0] at hz; cases hz
    | some x0 =>
      rw [hx0] at hz
      cases hz
      exact zeK_obj h (zlv_u (σ := σ) (σ' := (uM σ q (sM σ q + 1))) rfl (hq.2.2.2.2 (i + y) x0 hx0))) ⟨Nat.le_of_ble_eq_true rfl, Nat.le_of_ble_eq_true rfl⟩ (dJx4a65c_add_7a177 31 rfl) (fun H H1 h ha _ oq => h.setSh hqS ha oq) ?_
  refine zi_aload K (dJx4a65c_add_7a177 32 rfl) 0 rfl ?_
  refine zi_iload_n K (dJx4a65c_add_7a177 33 rfl) 3 rfl ?_
  refine zi_aload_n K (dJx4a65c_add_7a177 34 rfl) 4 rfl ?_
  refine zs0_arr (σ := uSh (uM σ q (sM σ q + 1)) q i) K hqS (show i < sC (uM σ q (sM σ q + 1)) q by omega) (show sC (uM σ q (sM σ q + 1)) q < 2 ^ 31 by omega) (zlv_u (σ := σ) (σ' := uSh (uM σ q (sM σ q + 1)) q i) rfl hx) (dJx4a65c_add_7a177 35 rfl) ?_
  refine zi_aload_n K (dJx4a65c_add_7a177 36 rfl) 2 rfl ?_
  refine zi_iload_n K (dJx4a65c_add_7a177 37 rfl) 1 rfl ?_
  refine zi_iconst K (dJx4a65c_add_7a177 38 rfl) zk_i1 ?_
  refine zi_iadd K (dJx4a65c_add_7a177 39 rfl) ?_
  refine zp0_size K (m := sZ σ q + 1) (nI_1 _) hq.1 w_83 (dJx4a65c_add_7a177 40 rfl) ?_
  exact zi_vret K E (dJx4a65c_add_7a177 41 rfl) (Nat.le_refl _) (Nat.le_refl _) rfl (fun H h => ⟨aa, by unfold s_ins; rw [if_neg (by omega)]; exact h⟩)
theorem ins_gc (σ : zSt) (q i x : Nat) : sgc (s_ins σ q i x) = sgc σ + (if sZ σ q = sC σ q then 1 else 0) ∧ sgs (s_ins σ q i x) = sgs σ + (if sZ σ q = sC σ q then zgC (sC σ q) else 0) := by
  unfold s_ins
  split <;> exact ⟨rfl, rfl⟩
theorem c_insA {G : zG} {ad : Nat → Nat → Nat} {σ : zSt} (q i x kd : Nat) (hk : zeK q = kd) (hq : zLok σ q) (hi : i ≤ sZ σ q) (h2 : sC σ q = 0 ∨ 2 ≤ sC σ q) (hx : zlv σ kd x) : zC G yJx4a65c_add_7a177 cJx4a65c_add_7a177 5 none 5 129 (sgc (s_ins σ q i x) - sgc σ) (sgs (s_ins σ q i x) - sgs σ) [.ref (ad 28 q), .int (nI i), .ref (ad kd x)] (zP G ad σ) none (zP G ad (s_ins σ q i x)) := by
  subst hk
  rw [(ins_gc σ q i x).1, (ins_gc σ q i x).2, Nat.add_sub_cancel_left, Nat.add_sub_cancel_left]
  by_cases hf : sZ σ q = sC σ q
  · rw [if_pos hf, if_pos hf]
    exact c_insG q i x hq hi hf h2 hx
  · rw [if_neg hf, if_neg hf]
    exact c_insR5 q i x hq hi (by have := hq.2.1; omega) hx
theorem s_ins_sx (σ : zSt) (q i x : Nat) (Q : Nat → Prop) (hq : Q q) : zSx Q (s_ins σ q i x) σ := by
  unfold s_ins s_insE
  split
  · refine ⟨rfl, rfl, fun p hp => ?_⟩
    have hpq : ¬ p = q := fun e => hp (e ▸ hq)
    exact ⟨funext fun j => (if_neg (fun z => hpq z.1)).trans (if_neg (fun z => hpq z.1)), if_neg hpq, if_neg hpq⟩
  · refine ⟨rfl, rfl, fun p hp => ?_⟩
    have hpq : ¬ p = q := fun e => hp (e ▸ hq)
    exact ⟨funext fun j => (if_neg (fun z => hpq z.1)).trans (if_neg (fun z => hpq z.1)), if_neg hpq, rfl⟩
theorem s_ins_I (σ : zSt) (q i x : Nat) : (s_ins σ q i x).1 = σ.1 ∧ (s_ins σ q i x).2.1 = σ.2.1 := by
  unfold s_ins s_insE
  split <;> exact ⟨rfl, rfl⟩
theorem s_ins_Z (σ : zSt) (q i x : Nat) : sZ (s_ins σ q i x) q = sZ σ q + 1 ∧ sC (s_ins σ q i x) q = if sZ σ q = sC σ q then zgC (sC σ q) else sC σ q := by
  unfold s_ins s_insE
  split
  · exact ⟨if_pos rfl, if_pos rfl⟩
  · exact ⟨if_pos rfl, rfl⟩
theorem s_ins_E (σ : zSt) (q i x : Nat) (hi : i ≤ sZ σ q) (j : Nat) : sE (s_ins σ q i x) q j = if j = i then some x else if i < j ∧ j ≤ sZ σ q then sE σ q (j - 1) else sE σ q j := by
  have key : ∀ τ : zSt, sE τ = sE σ → sZ τ q = sZ σ q → sE (s_insE τ q i x) q j = if j = i then some x else if i < j ∧ j ≤ sZ σ q then sE σ q (j - 1) else sE σ q j := by
    intro τ h1 h2
    show (if q = q ∧ j = i then some x else if q = q ∧ i + 1 ≤ j ∧ j < i + 1 + (sZ τ q - i) then sE τ q (i + (j - (i + 1))) else sE τ q j) = _
    rw [h1, h2]
    by_cases e : j = i
    · rw [if_pos ⟨rfl, e⟩, if_pos e]
    · rw [if_neg (fun z => e z.2), if_neg e]
      by_cases f : i < j ∧ j ≤ sZ σ q
      · rw [if_pos ⟨rfl, by omega, by omega⟩, if_pos f, show i + (j - (i + 1)) = j - 1 by omega]
      · rw [if_neg (fun z => f ⟨by omega, by omega⟩), if_neg f]
  unfold s_ins
  split
  · exact key _ rfl rfl
  · exact key _ rfl rfl
theorem zLC_ins {σ : zSt} {q i x : Nat} (h : zLC σ q) (hi : i ≤ sZ σ q) (hz : sZ σ q < 33) (hx : zlv σ (zeK q) x) : zLC (s_ins σ q i x) q ∧ sgc (s_ins σ q i x) + zpc (sC σ q) = sgc σ + zpc (sC (s_ins σ q i x) q) ∧ sgs (s_ins σ q i x) + zps (sC σ q) = sgs σ + zps (sC (s_ins σ q i x) q) := by
  obtain ⟨hZ, hC⟩ := s_ins_Z σ q i x
  have hE := s_ins_E σ q i x hi
  have hg : sC σ q < zgC (sC σ q) := by
    rcases h.2 with h | h | h | h | h <;> rw [h] <;> decide
  have hN : sN (s_ins σ q i x) = sN σ := (s_ins_sx σ q i x (fun y => y = q) rfl).1
  have hg2 : zgC (sC σ q) < 1000 := by
    rcases h.2 with h | h | h | h | h <;> rw [h] <;> decide
  obtain ⟨g1, g2⟩ := ins_gc σ q i x
  refine ⟨⟨⟨⟨h.1.1.1, ?_, ?_, fun j hj => ?_, fun j y hy => ?_⟩, fun j hj => ?_⟩, ?_⟩, ?_, ?_⟩
  · rw [hZ, hC]
    have := h.1.1.2.1
    split <;> omega
  · rw [hC]
    have := h.1.1.2.2.1
    split <;> omega
  · rw [hZ] at hj
    rw [hE, if_neg (by omega), if_neg (by omega)]
    exact h.1.1.2.2.2.1 j (by omega)
  · rw [hE] at hy
    refine zlv_u (σ := σ) (σ' := s_ins σ q i x) hN ?_
    by_cases e : j = i
    · rw [if_pos e] at hy
      cases hy
      exact hx
    · rw [if_neg e] at hy
      by_cases f : i < j ∧ j ≤ sZ σ q
      · rw [if_pos f] at hy
        exact h.1.1.2.2.2.2 (j - 1) y hy
      · rw [if_neg f] at hy
        exact h.1.1.2.2.2.2 j y hy
  · rw [hE]
    rw [hZ] at hj
    by_cases e : j = i
    · rw [if_pos e]; rfl
    · rw [if_neg e]
      by_cases f : i < j ∧ j ≤ sZ σ q
      · rw [if_pos f]; exact h.1.2 (j - 1) (by omega)
      · rw [if_neg f]; exact h.1.2 j (by omega)
  · rw [hC]
    split
    · exact (zch_g h.2 (by omega)).1
    · exact h.2
  · rw [hC, g1]
    split
    · rw [(zch_g h.2 (by omega)).2.1]; omega
    · omega
  · rw [hC, g2]
    split
    · rw [(zch_g h.2 (by omega)).2.2.1]; omega
    · omega
theorem nI_dm {m : Nat} (h : 0 < m) : nI m - 1 = nI (m - 1) := by
  obtain ⟨k, rfl⟩ : ∃ k, m = k + 1 := ⟨m - 1, by omega⟩
  exact nI_pred k
set_option maxRecDepth 100000 in
set_option maxHeartbeats 4000000 in
theorem c_addByDay {G : zG} {ad : Nat → Nat → Nat} {σ : zSt} (b k : Nat) (hb : b < 2) (hk : zlC σ k) (h5 : zLC σ (5 + 4 * b)) (h30 : sZ σ (5 + 4 * b) ≤ 30) : zC G yX2_addByDay cX2_addByDay 4 none 6 153 (sgc (s_ins σ (5 + 4 * b) (abI σ b k (sZ σ (5 + 4 * b) + 1) (sZ σ (5 + 4 * b))) k) - sgc σ) (sgs (s_ins σ (5 + 4 * b) (abI σ b k (sZ σ (5 + 4 * b) + 1) (sZ σ (5 + 4 * b))) k) - sgs σ) [.ref (ad 11 b), .ref (ad 2 k)] (zP G ad σ) none (zP G ad (s_ins σ (5 + 4 * b) (abI σ b k (sZ σ (5 + 4 * b) + 1) (sZ σ (5 + 4 * b))) k)) := by
  refine zC_of (by decide) (Nat.le_of_ble_eq_true rfl) (fun X K E hnm => ?_)
  show zV G X 4 (zP G ad σ) 0 0 0 [(0, .ref (ad 11 b)), (1, .ref (ad 2 k))] []
  refine zV.wd (k' := sgc σ - sgc σ) (n' := sgs σ - sgs σ) (Nat.zero_le _) (Nat.zero_le _) ?_
  refine zi_aload_n K (dX2_addByDay 0 rfl) 0 rfl ?_
  refine zg_FL_claims K hb w_132 (dX2_addByDay 1 rfl) ?_
  refine zi_callV K (na := 0) [] [.int (nI (sZ σ (5 + 4 * b)))] (c_sizeN (σ := σ) (5 + 4 * b) (sZ σ (5 + 4 * b)) (zL_ok h5.1).1 rfl) (dX2_addByDay 2 rfl) w_351 w_231 w_232 w_28 w_233 (by decide +kernel) rfl (fun H h => zrecv_LST K (zL_ok h5.1).1 h) (fun H h => h) ⟨Nat.le_of_ble_eq_true rfl, Nat.le_of_ble_eq_true rfl⟩ ⟨(zq3 (show sgc σ ≤ sgc (s_ins σ (5 + 4 * b) (abI σ b k (sZ σ (5 + 4 * b) + 1) (sZ σ (5 + 4 * b))) k) ∧ sgs σ ≤ sgs (s_ins σ (5 + 4 * b) (abI σ b k (sZ σ (5 + 4 * b) + 1) (sZ σ (5 + 4 * b))) k) from by rw [(ins_gc σ (5 + 4 * b) (abI σ b k (sZ σ (5 + 4 * b) + 1) (sZ σ (5 + 4 * b))) k).1, (ins_gc σ (5 + 4 * b) (abI σ b k (sZ σ (5 + 4 * b) + 1) (sZ σ (5 + 4 * b))) k).2]; omega).1), (zq3 (show sgc σ ≤ sgc (s_ins σ (5 + 4 * b) (abI σ b k (sZ σ (5 + 4 * b) + 1) (sZ σ (5 + 4 * b))) k) ∧ sgs σ ≤ sgs (s_ins σ (5 + 4 * b) (abI σ b k (sZ σ (5 + 4 * b) + 1) (sZ σ (5 + 4 * b))) k) from by rw [(ins_gc σ (5 + 4 * b) (abI σ b k (sZ σ (5 + 4 * b) + 1) (sZ σ (5 + 4 * b))) k).1, (ins_gc σ (5 + 4 * b) (abI σ b k (sZ σ (5 + 4 * b) + 1) (sZ σ (5 + 4 * b))) k).2]; omega).2)⟩ (Nat.le_of_ble_eq_true rfl) rfl rfl ?_
  refine zi_istore_n K [(2, .int (nI (sZ σ (5 + 4 * b)))), (0, .ref (ad 11 b)), (1, .ref (ad 2 k))] (dX2_addByDay 3 rfl) (by decide) rfl ?_
  refine zi_aload_n K (dX2_addByDay 4 rfl) 1 rfl ?_
  refine zg_FL_claims K hb w_132 (dX2_addByDay 5 rfl) ?_
  refine zi_callV K (na := 0) [] [.int (nI (sZ σ (5 + 4 * b)))] (c_sizeN (σ := σ) (5 + 4 * b) (sZ σ (5 + 4 * b)) (zL_ok h5.1).1 rfl) (dX2_addByDay 6 rfl) w_351 w_231 w_232 w_28 w_233 (by decide +kernel) rfl (fun H h => zrecv_LST K (zL_ok h5.1).1 h) (fun H h => h) ⟨Nat.le_of_ble_eq_true rfl, Nat.le_of_ble_eq_true rfl⟩ ⟨(zq3 (show sgc σ ≤ sgc (s_ins σ (5 + 4 * b) (abI σ b k (sZ σ (5 + 4 * b) + 1) (sZ σ (5 + 4 * b))) k) ∧ sgs σ ≤ sgs (s_ins σ (5 + 4 * b) (abI σ b k (sZ σ (5 + 4 * b) + 1) (sZ σ (5 + 4 * b))) k) from by rw [(ins_gc σ (5 + 4 * b) (abI σ b k (sZ σ (5 + 4 * b) + 1) (sZ σ (5 + 4 * b))) k).1, (ins_gc σ (5 + 4 * b) (abI σ b k (sZ σ (5 + 4 * b) + 1) (sZ σ (5 + 4 * b))) k).2]; omega).1), (zq3 (show sgc σ ≤ sgc (s_ins σ (5 + 4 * b) (abI σ b k (sZ σ (5 + 4 * b) + 1) (sZ σ (5 + 4 * b))) k) ∧ sgs σ ≤ sgs (s_ins σ (5 + 4 * b) (abI σ b k (sZ σ (5 + 4 * b) + 1) (sZ σ (5 + 4 * b))) k) from by rw [(ins_gc σ (5 + 4 * b) (abI σ b k (sZ σ (5 + 4 * b) + 1) (sZ σ (5 + 4 * b))) k).1, (ins_gc σ (5 + 4 * b) (abI σ b k (sZ σ (5 + 4 * b) + 1) (sZ σ (5 + 4 * b))) k).2]; omega).2)⟩ (Nat.le_of_ble_eq_true rfl) rfl rfl ?_
  refine zi_iconst K (dX2_addByDay 7 rfl) zk_i1 ?_
  refine zi_isub K (dX2_addByDay 8 rfl) ?_
  refine zi_istore_n K [(3, .int ((nI (sZ σ (5 + 4 * b))) - 1)), (2, .int (nI (sZ σ (5 + 4 * b)))), (0, .ref (ad 11 b)), (1, .ref (ad 2 k))] (dX2_addByDay 9 rfl) (by decide) rfl ?_
  refine zV.pick [2, 3, 1, 0] (lo' := [(0, .ref (ad 11 b)), (1, .ref (ad 2 k)), (2, .int (nI (sZ σ (5 + 4 * b)))), (3, .int ((nI (sZ σ (5 + 4 * b))) - 1))]) rfl ?_
  refine zV.lov (lo' := [(0, .ref (ad 11 b)), (1, .ref (ad 2 k)), (2, .int (nI (sZ σ (5 + 4 * b)))), (3, .int (nI (sZ σ (5 + 4 * b)) - 1))]) (rfl) ?_
  suffices hloop18 : ∀ (r : Nat) (m : Nat), m < r → (m ≤ sZ σ (5 + 4 * b) ∧ (abI σ b k (sZ σ (5 + 4 * b) + 1) (sZ σ (5 + 4 * b))) = abI σ b k (m + 1) m) → zV G X 4 (zP G ad σ) (sgc σ - sgc σ) (sgs σ - sgs σ) 18 [(0, .ref (ad 11 b)), (1, .ref (ad 2 k)), (2, .int (nI m)), (3, .int (nI m - 1))] [] from hloop18 ((sZ σ (5 + 4 * b)) + 1) (sZ σ (5 + 4 * b)) (Nat.lt_succ_self _) ⟨Nat.le_refl _, rfl⟩
  intro r
  induction r with
  | zero => intro m h; exact absurd h (Nat.not_lt_zero _)
  | succ r ih18 =>
    intro m hr18 hv18
    refine zi_iload_n K (dX2_addByDay 10 rfl) 3 rfl ?_
    refine zi_if_lt K 51 (dX2_addByDay 11 rfl) rfl (fun h19_0 => ?_) (fun h19_0 => ?_)
    · skip
      have hm : m = 0 := Nat.eq_zero_of_not_pos (fun q => absurd h19_0 (by rw [nI_dm q]; exact nI_pos (by omega)))
      have hP : m = (abI σ b k (sZ σ (5 + 4 * b) + 1) (sZ σ (5 + 4 * b))) := by rw [hv18.2, hm]; simp only [abI, if_true]
      subst hP
      refine zi_aload_n K (dX2_addByDay 25 rfl) 0 rfl ?_
      refine zg_FL_claims K hb w_132 (dX2_addByDay 26 rfl) ?_
      refine zi_iload_n K (dX2_addByDay 27 rfl) 2 rfl ?_
      refine zi_aload_n K (dX2_addByDay 28 rfl) 1 rfl ?_
      refine zi_callV K (na := 2) [] [] (c_insA (σ := σ) (5 + 4 * b) (abI σ b k (sZ σ (5 + 4 * b) + 1) (sZ σ (5 + 4 * b))) k 2 (zeK5 hb) (zL_ok h5.1) (abI_le _ _ _ _ _) (zLC_2 h5) hk) (dX2_addByDay 29 rfl) w_816 w_817 w_818 w_28 w_819 (by decide +kernel) rfl (fun H h => zrecv_LST K (zL_ok h5.1).1 h) (fun H h => h) ⟨Nat.le_of_ble_eq_true rfl, Nat.le_of_ble_eq_true rfl⟩ ⟨(zq1 (zLeR σ).1 (show sgc σ ≤ sgc (s_ins σ (5 + 4 * b) (abI σ b k (sZ σ (5 + 4 * b) + 1) (sZ σ (5 + 4 * b))) k) ∧ sgs σ ≤ sgs (s_ins σ (5 + 4 * b) (abI σ b k (sZ σ (5 + 4 * b) + 1) (sZ σ (5 + 4 * b))) k) from by rw [(ins_gc σ (5 + 4 * b) (abI σ b k (sZ σ (5 + 4 * b) + 1) (sZ σ (5 + 4 * b))) k).1, (ins_gc σ (5 + 4 * b) (abI σ b k (sZ σ (5 + 4 * b) + 1) (sZ σ (5 + 4 * b))) k).2]; omega).1 (zLeR _).1), (zq1 (zLeR σ).2 (show sgc σ ≤ sgc (s_ins σ (5 + 4 * b) (abI σ b k (sZ σ (5 + 4 * b) + 1) (sZ σ (5 + 4 * b))) k) ∧ sgs σ ≤ sgs (s_ins σ (5 + 4 * b) (abI σ b k (sZ σ (5 + 4 * b) + 1) (sZ σ (5 + 4 * b))) k) from by rw [(ins_gc σ (5 + 4 * b) (abI σ b k (sZ σ (5 + 4 * b) + 1) (sZ σ (5 + 4 * b))) k).1, (ins_gc σ (5 + 4 * b) (abI σ b k (sZ σ (5 + 4 * b) + 1) (sZ σ (5 + 4 * b))) k).2]; omega).2 (zLeR _).2)⟩ (Nat.le_of_ble_eq_true rfl) rfl rfl ?_
      have e1 : zSx (fun y => y = 5 + 4 * b ∨ False) (s_ins σ (5 + 4 * b) (abI σ b k (sZ σ (5 + 4 * b) + 1) (sZ σ (5 + 4 * b))) k) σ := (s_ins_sx σ (5 + 4 * b) (abI σ b k (sZ σ (5 + 4 * b) + 1) (sZ σ (5 + 4 * b))) k (fun y => y = 5 + 4 * b ∨ False) (Or.inl rfl)).trans zSx.rf
      refine zV.wd (k' := sgc (s_ins σ (5 + 4 * b) (abI σ b k (sZ σ (5 + 4 * b) + 1) (sZ σ (5 + 4 * b))) k) - sgc σ) (n' := sgs (s_ins σ (5 + 4 * b) (abI σ b k (sZ σ (5 + 4 * b) + 1) (sZ σ (5 + 4 * b))) k) - sgs σ) (zq2 (zLeR σ).1 (show sgc σ ≤ sgc (s_ins σ (5 + 4 * b) (abI σ b k (sZ σ (5 + 4 * b) + 1) (sZ σ (5 + 4 * b))) k) ∧ sgs σ ≤ sgs (s_ins σ (5 + 4 * b) (abI σ b k (sZ σ (5 + 4 * b) + 1) (sZ σ (5 + 4 * b))) k) from by rw [(ins_gc σ (5 + 4 * b) (abI σ b k (sZ σ (5 + 4 * b) + 1) (sZ σ (5 + 4 * b))) k).1, (ins_gc σ (5 + 4 * b) (abI σ b k (sZ σ (5 + 4 * b) + 1) (sZ σ (5 + 4 * b))) k).2]; omega).1) (zq2 (zLeR σ).2 (show sgc σ ≤ sgc (s_ins σ (5 + 4 * b) (abI σ b k (sZ σ (5 + 4 * b) + 1) (sZ σ (5 + 4 * b))) k) ∧ sgs σ ≤ sgs (s_ins σ (5 + 4 * b) (abI σ b k (sZ σ (5 + 4 * b) + 1) (sZ σ (5 + 4 * b))) k) from by rw [(ins_gc σ (5 + 4 * b) (abI σ b k (sZ σ (5 + 4 * b) + 1) (sZ σ (5 + 4 * b))) k).1, (ins_gc σ (5 + 4 * b) (abI σ b k (sZ σ (5 + 4 * b) + 1) (sZ σ (5 + 4 * b))) k).2]; omega).2) ?_
      exact zi_vret K E (dX2_addByDay 30 rfl) (Nat.le_refl _) (Nat.le_refl _) rfl (fun H h => by exact h)
    · skip
      have hm0 : 0 < m := Nat.pos_of_ne_zero (fun e => h19_0 (by subst e; decide))
      refine zV.lov (lo' := [(0, .ref (ad 11 b)), (1, .ref (ad 2 k)), (2, .int (nI m)), (3, .int (nI (m - 1)))]) (by rw [nI_dm hm0]) ?_
      refine zi_aload_n K (dX2_addByDay 12 rfl) 0 rfl ?_
      refine zg_FL_claims K hb w_132 (dX2_addByDay 13 rfl) ?_
      refine zi_iload_n K (dX2_addByDay 14 rfl) 3 rfl ?_
      refine zi_callV K (na := 1) [] [.ref (ad 2 (lx σ (5 + 4 * b) (m - 1)))] (c_getK (σ := σ) (5 + 4 * b) (m - 1) (lx σ (5 + 4 * b) (m - 1)) 2 (zeK5 hb) (zL_ok h5.1) (by omega) (zL_x h5.1 (by omega))) (dX2_addByDay 15 rfl) w_352 w_310 w_311 w_28 w_312 (by decide +kernel) rfl (fun H h => zrecv_LST K (zL_ok h5.1).1 h) (fun H h => h) ⟨Nat.le_of_ble_eq_true rfl, Nat.le_of_ble_eq_true rfl⟩ ⟨(zq3 (show sgc σ ≤ sgc (s_ins σ (5 + 4 * b) (abI σ b k (sZ σ (5 + 4 * b) + 1) (sZ σ (5 + 4 * b))) k) ∧ sgs σ ≤ sgs (s_ins σ (5 + 4 * b) (abI σ b k (sZ σ (5 + 4 * b) + 1) (sZ σ (5 + 4 * b))) k) from by rw [(ins_gc σ (5 + 4 * b) (abI σ b k (sZ σ (5 + 4 * b) + 1) (sZ σ (5 + 4 * b))) k).1, (ins_gc σ (5 + 4 * b) (abI σ b k (sZ σ (5 + 4 * b) + 1) (sZ σ (5 + 4 * b))) k).2]; omega).1), (zq3 (show sgc σ ≤ sgc (s_ins σ (5 + 4 * b) (abI σ b k (sZ σ (5 + 4 * b) + 1) (sZ σ (5 + 4 * b))) k) ∧ sgs σ ≤ sgs (s_ins σ (5 + 4 * b) (abI σ b k (sZ σ (5 + 4 * b) + 1) (sZ σ (5 + 4 * b))) k) from by rw [(ins_gc σ (5 + 4 * b) (abI σ b k (sZ σ (5 + 4 * b) + 1) (sZ σ (5 + 4 * b))) k).1, (ins_gc σ (5 + 4 * b) (abI σ b k (sZ σ (5 + 4 * b) + 1) (sZ σ (5 + 4 * b))) k).2]; omega).2)⟩ (Nat.le_of_ble_eq_true rfl) rfl rfl ?_
      refine zi_cast K (fun H h => (zr_CL (σ := σ) (zL_lv h5.1 (by omega) (zeK5 hb)) H h).1) rfl w_353 (dX2_addByDay 16 rfl) ?_
      refine zg_CL_day K (zL_lv h5.1 (by omega) (zeK5 hb)) w_748 (dX2_addByDay 17 rfl) ?_
      refine zi_aload_n K (dX2_addByDay 18 rfl) 1 rfl ?_
      refine zg_CL_day K hk w_748 (dX2_addByDay 19 rfl) ?_
      refine zi_icmp_le K 51 (dX2_addByDay 20 rfl) rfl (fun h40_1 => ?_) (fun h40_1 => ?_)
      · skip
        have hP : m = (abI σ b k (sZ σ (5 + 4 * b) + 1) (sZ σ (5 + 4 * b))) := by rw [hv18.2]; simp only [abI, if_neg (Nat.ne_of_gt hm0), if_pos h40_1]
        subst hP
        refine zi_aload_n K (dX2_addByDay 25 rfl) 0 rfl ?_
        refine zg_FL_claims K hb w_132 (dX2_addByDay 26 rfl) ?_
        refine zi_iload_n K (dX2_addByDay 27 rfl) 2 rfl ?_
        refine zi_aload_n K (dX2_addByDay 28 rfl) 1 rfl ?_
        refine zi_callV K (na := 2) [] [] (c_insA (σ := σ) (5 + 4 * b) (abI σ b k (sZ σ (5 + 4 * b) + 1) (sZ σ (5 + 4 * b))) k 2 (zeK5 hb) (zL_ok h5.1) (abI_le _ _ _ _ _) (zLC_2 h5) hk) (dX2_addByDay 29 rfl) w_816 w_817 w_818 w_28 w_819 (by decide +kernel) rfl (fun H h => zrecv_LST K (zL_ok h5.1).1 h) (fun H h => h) ⟨Nat.le_of_ble_eq_true rfl, Nat.le_of_ble_eq_true rfl⟩ ⟨(zq1 (zLeR σ).1 (show sgc σ ≤ sgc (s_ins σ (5 + 4 * b) (abI σ b k (sZ σ (5 + 4 * b) + 1) (sZ σ (5 + 4 * b))) k) ∧ sgs σ ≤ sgs (s_ins σ (5 + 4 * b) (abI σ b k (sZ σ (5 + 4 * b) + 1) (sZ σ (5 + 4 * b))) k) from by rw [(ins_gc σ (5 + 4 * b) (abI σ b k (sZ σ (5 + 4 * b) + 1) (sZ σ (5 + 4 * b))) k).1, (ins_gc σ (5 + 4 * b) (abI σ b k (sZ σ (5 + 4 * b) + 1) (sZ σ (5 + 4 * b))) k).2]; omega).1 (zLeR _).1), (zq1 (zLeR σ).2 (show sgc σ ≤ sgc (s_ins σ (5 + 4 * b) (abI σ b k (sZ σ (5 + 4 * b) + 1) (sZ σ (5 + 4 * b))) k) ∧ sgs σ ≤ sgs (s_ins σ (5 + 4 * b) (abI σ b k (sZ σ (5 + 4 * b) + 1) (sZ σ (5 + 4 * b))) k) from by rw [(ins_gc σ (5 + 4 * b) (abI σ b k (sZ σ (5 + 4 * b) + 1) (sZ σ (5 + 4 * b))) k).1, (ins_gc σ (5 + 4 * b) (abI σ b k (sZ σ (5 + 4 * b) + 1) (sZ σ (5 + 4 * b))) k).2]; omega).2 (zLeR _).2)⟩ (Nat.le_of_ble_eq_true rfl) rfl rfl ?_
        have e2 : zSx (fun y => y = 5 + 4 * b ∨ False) (s_ins σ (5 + 4 * b) (abI σ b k (sZ σ (5 + 4 * b) + 1) (sZ σ (5 + 4 * b))) k) σ := (s_ins_sx σ (5 + 4 * b) (abI σ b k (sZ σ (5 + 4 * b) + 1) (sZ σ (5 + 4 * b))) k (fun y => y = 5 + 4 * b ∨ False) (Or.inl rfl)).trans zSx.rf
        refine zV.wd (k' := sgc (s_ins σ (5 + 4 * b) (abI σ b k (sZ σ (5 + 4 * b) + 1) (sZ σ (5 + 4 * b))) k) - sgc σ) (n' := sgs (s_ins σ (5 + 4 * b) (abI σ b k (sZ σ (5 + 4 * b) + 1) (sZ σ (5 + 4 * b))) k) - sgs σ) (zq2 (zLeR σ).1 (show sgc σ ≤ sgc (s_ins σ (5 + 4 * b) (abI σ b k (sZ σ (5 + 4 * b) + 1) (sZ σ (5 + 4 * b))) k) ∧ sgs σ ≤ sgs (s_ins σ (5 + 4 * b) (abI σ b k (sZ σ (5 + 4 * b) + 1) (sZ σ (5 + 4 * b))) k) from by rw [(ins_gc σ (5 + 4 * b) (abI σ b k (sZ σ (5 + 4 * b) + 1) (sZ σ (5 + 4 * b))) k).1, (ins_gc σ (5 + 4 * b) (abI σ b k (sZ σ (5 + 4 * b) + 1) (sZ σ (5 + 4 * b))) k).2]; omega).1) (zq2 (zLeR σ).2 (show sgc σ ≤ sgc (s_ins σ (5 + 4 * b) (abI σ b k (sZ σ (5 + 4 * b) + 1) (sZ σ (5 + 4 * b))) k) ∧ sgs σ ≤ sgs (s_ins σ (5 + 4 * b) (abI σ b k (sZ σ (5 + 4 * b) + 1) (sZ σ (5 + 4 * b))) k) from by rw [(ins_gc σ (5 + 4 * b) (abI σ b k (sZ σ (5 + 4 * b) + 1) (sZ σ (5 + 4 * b))) k).1, (ins_gc σ (5 + 4 * b) (abI σ b k (sZ σ (5 + 4 * b) + 1) (sZ σ (5 + 4 * b))) k).2]; omega).2) ?_
        exact zi_vret K E (dX2_addByDay 30 rfl) (Nat.le_refl _) (Nat.le_refl _) rfl (fun H h => by exact h)
      · skip
        refine zi_iload_n K (dX2_addByDay 21 rfl) 3 rfl ?_
        refine zi_istore_n K [(2, .int (nI (m - 1))), (0, .ref (ad 11 b)), (1, .ref (ad 2 k)), (3, .int (nI (m - 1)))] (dX2_addByDay 22 rfl) (by decide) rfl ?_
        refine zi_iinc K (v := (nI (m - 1)) + (-1)) [(3, .int ((nI (m - 1)) + (-1))), (2, .int (nI (m - 1))), (0, .ref (ad 11 b)), (1, .ref (ad 2 k))] (dX2_addByDay 23 rfl) 3 rfl (zk_a _ zk_im1) (by decide) rfl ?_
        refine zi_goto K 18 (dX2_addByDay 24 rfl) rfl ?_
        refine zV.pick [2, 3, 1, 0] (lo' := [(0, .ref (ad 11 b)), (1, .ref (ad 2 k)), (2, .int (nI (m - 1))), (3, .int ((nI (m - 1)) + (-1)))]) rfl ?_
        refine zV.lov (lo' := [(0, .ref (ad 11 b)), (1, .ref (ad 2 k)), (2, .int (nI (m - 1))), (3, .int (nI (m - 1) - 1))]) (by rw [Int32.sub_eq_add_neg]) ?_
        exact ih18 (m - 1) (by omega) ⟨by omega, by rw [hv18.2, show m - 1 + 1 = m by omega]; simp only [abI, if_neg (Nat.ne_of_gt hm0), if_neg h40_1]⟩
