/-! a policy, a scenario: where there is room -/
def s_policy (σ : zSt) (v1 v2 v3 v4 : Int32) : zSt := (s_add (aCLd (s_add (aPOL σ v1 v2 v3 v4) 0 (sN σ 0)) (sN σ 0)) 4 (30 + sN σ 4))
theorem policy_pre {σ : zSt} (v1 v2 v3 v4 : Int32) (h : zW σ) (h12 : sN σ 0 < 12) : (zRL (aPOL σ v1 v2 v3 v4) ∧ zRL (s_add (aPOL σ v1 v2 v3 v4) 0 (sN σ 0)) ∧ zRL (aCLd (s_add (aPOL σ v1 v2 v3 v4) 0 (sN σ 0)) (sN σ 0)) ∧ zRL (s_add (aCLd (s_add (aPOL σ v1 v2 v3 v4) 0 (sN σ 0)) (sN σ 0)) 4 (30 + sN σ 4))) ∧ (zlv (aPOL σ v1 v2 v3 v4) 1 (sN σ 0) ∧ zlv (s_add (aPOL σ v1 v2 v3 v4) 0 (sN σ 0)) 1 (sN σ 0) ∧ zlv (aCLd (s_add (aPOL σ v1 v2 v3 v4) 0 (sN σ 0)) (sN σ 0)) 2 (30 + sN σ 4)) ∧ (sN (s_add (aPOL σ v1 v2 v3 v4) 0 (sN σ 0)) 4 = sN σ 4 ∧ sN (s_add (aPOL σ v1 v2 v3 v4) 0 (sN σ 0)) 1 ≤ 30) ∧ sZ (s_add (aCLd (s_add (aPOL σ v1 v2 v3 v4) 0 (sN σ 0)) (sN σ 0)) 4 (30 + sN σ 4)) 0 = sN σ 0 + 1 := by
  have hz0 := h.1.2.1.1
  have hz4 := h.1.2.2.2.2.2.1
  have h1 := h.1.2.2.1.2
  have r1 : zRL (aPOL σ v1 v2 v3 v4) := rl_aPOL v1 v2 v3 v4 h.rl
  have l1 : zlv (aPOL σ v1 v2 v3 v4) 1 (sN σ 0) := show sN σ 0 < sN (aPOL σ v1 v2 v3 v4) 0 by rw [aPOL_N, if_pos rfl]; omega
  have z1 : sZ (aPOL σ v1 v2 v3 v4) 0 = sN σ 0 := hz0
  have r2 : zRL (s_add (aPOL σ v1 v2 v3 v4) 0 (sN σ 0)) := r1.add (by decide) (by omega) l1
  have n2 : ∀ p, sN (s_add (aPOL σ v1 v2 v3 v4) 0 (sN σ 0)) p = if p = 0 then sN σ 0 + 1 else sN σ p := fun p => by rw [add_N, aPOL_N]
  have l2 : zlv (s_add (aPOL σ v1 v2 v3 v4) 0 (sN σ 0)) 1 (sN σ 0) := show sN σ 0 < sN (s_add (aPOL σ v1 v2 v3 v4) 0 (sN σ 0)) 0 by rw [n2, if_pos rfl]; omega
  have n24 : sN (s_add (aPOL σ v1 v2 v3 v4) 0 (sN σ 0)) 4 = sN σ 4 := by rw [n2]; rfl
  have n21 : sN (s_add (aPOL σ v1 v2 v3 v4) 0 (sN σ 0)) 1 ≤ 30 := by rw [n2]; exact h1
  have r3 : zRL (aCLd (s_add (aPOL σ v1 v2 v3 v4) 0 (sN σ 0)) (sN σ 0)) := rl_aCLd (sN σ 0) l2 r2
  have z3 : sZ (aCLd (s_add (aPOL σ v1 v2 v3 v4) 0 (sN σ 0)) (sN σ 0)) 4 = sN σ 0 := by rw [aCLd_Z, add_Z]; exact hz4.1
  have l3 : zlv (aCLd (s_add (aPOL σ v1 v2 v3 v4) 0 (sN σ 0)) (sN σ 0)) 2 (30 + sN σ 4) := Or.inr ⟨by omega, by rw [aCLd_N, if_pos rfl, n24]; omega⟩
  have r4 : zRL (s_add (aCLd (s_add (aPOL σ v1 v2 v3 v4) 0 (sN σ 0)) (sN σ 0)) 4 (30 + sN σ 4)) := r3.add (by decide) (by omega) l3
  exact ⟨⟨r1, r2, r3, r4⟩, ⟨l1, l2, l3⟩, ⟨n24, n21⟩, by rw [add_Z, if_neg (by decide), aCLd_Z, add_Z, if_pos rfl, z1]⟩
def v_policy (σ : zSt) (v1 v2 v3 v4 : Int32) : Int32 := (nI (sN σ 0 + 1)) - 1
set_option maxRecDepth 100000 in
set_option maxHeartbeats 4000000 in
theorem c_policy {G : zG} {ad : Nat → Nat → Nat} {σ : zSt} (v1 v2 v3 v4 : Int32) (hw : zW σ) (h12 : sN σ 0 < 12) (hv1 : v_isOut σ v1 1 1000000 = 0) (hv2 : v_isOut σ v2 0 3 = 0) (hv3 : ¬ v_isSpan σ v3 v4 = 0) : zC G yX8_policy cX8_policy 6 (some FieldType.int) 20 300 (sgc (s_add (aCLd (s_add (aPOL σ v1 v2 v3 v4) 0 (sN σ 0)) (sN σ 0)) 4 (30 + sN σ 4)) - sgc σ) (sgs (s_add (aCLd (s_add (aPOL σ v1 v2 v3 v4) 0 (sN σ 0)) (sN σ 0)) 4 (30 + sN σ 4)) - sgs σ) [.ref (ad 0 0), .int v1, .int v2, .int v3, .int v4] (zP G ad σ) (some (.int (v_policy σ v1 v2 v3 v4))) (fun H => ∃ ad2 : Nat → Nat → Nat, ad2 0 0 = ad 0 0 ∧ zP G ad2 (s_add (aCLd (s_add (aPOL σ v1 v2 v3 v4) 0 (sN σ 0)) (sN σ 0)) 4 (30 + sN σ 4)) H) := by
  refine zC_of (by decide) (Nat.le_of_ble_eq_true rfl) (fun X K E hnm => ?_)
  show zV G X 6 (zP G ad σ) 0 0 0 [(0, .ref (ad 0 0)), (1, .int v1), (2, .int v2), (3, .int v3), (4, .int v4)] []
  have hp := policy_pre v1 v2 v3 v4 hw h12
  refine zV.wd (k' := sgc σ - sgc σ) (n' := sgs σ - sgs σ) (Nat.zero_le _) (Nat.zero_le _) ?_
  refine zi_iload_n K (dX8_policy 0 rfl) 1 rfl ?_
  refine zi_iconst K (dX8_policy 1 rfl) zk_i1 ?_
  refine zi_ldc K (dX8_policy 2 rfl) w_671 ?_
  refine zi_callS K (na := 3) (As := [.int v1, .int 1, .int 1000000]) [] [.int (v_isOut σ v1 1 1000000)] (c_isOut  v1 1 1000000) (dX8_policy 3 rfl) w_234 w_235 w_25 w_236 (by decide +kernel) rfl (fun H h => h) ⟨Nat.le_of_ble_eq_true rfl, Nat.le_of_ble_eq_true rfl⟩ ⟨(zq3 (zLeT (zLeT (zLeT (aPOL_le σ v1 v2 v3 v4) (s_add_mono (aPOL σ v1 v2 v3 v4) 0 (sN σ 0))) (aCLd_le (s_add (aPOL σ v1 v2 v3 v4) 0 (sN σ 0)) (sN σ 0))) (s_add_mono (aCLd (s_add (aPOL σ v1 v2 v3 v4) 0 (sN σ 0)) (sN σ 0)) 4 (30 + sN σ 4))).1), (zq3 (zLeT (zLeT (zLeT (aPOL_le σ v1 v2 v3 v4) (s_add_mono (aPOL σ v1 v2 v3 v4) 0 (sN σ 0))) (aCLd_le (s_add (aPOL σ v1 v2 v3 v4) 0 (sN σ 0)) (sN σ 0))) (s_add_mono (aCLd (s_add (aPOL σ v1 v2 v3 v4) 0 (sN σ 0)) (sN σ 0)) 4 (30 + sN σ 4))).2)⟩ (Nat.le_of_ble_eq_true rfl) rfl rfl ?_
  refine zi_if_ne K 28 (dX8_policy 4 rfl) rfl (fun h7_0 => ?_) (fun h7_0 => ?_)
  · exact absurd hv1 h7_0
  refine zi_iload_n K (dX8_policy 5 rfl) 2 rfl ?_
  refine zi_iconst K (dX8_policy 6 rfl) zk_i0 ?_
  refine zi_iconst K (dX8_policy 7 rfl) zk_i3 ?_
  refine zi_callS K (na := 3) (As := [.int v2, .int 0, .int 3]) [] [.int (v_isOut σ v2 0 3)] (c_isOut  v2 0 3) (dX8_policy 8 rfl) w_234 w_235 w_25 w_236 (by decide +kernel) rfl (fun H h => h) ⟨Nat.le_of_ble_eq_true rfl, Nat.le_of_ble_eq_true rfl⟩ ⟨(zq3 (zLeT (zLeT (zLeT (aPOL_le σ v1 v2 v3 v4) (s_add_mono (aPOL σ v1 v2 v3 v4) 0 (sN σ 0))) (aCLd_le (s_add (aPOL σ v1 v2 v3 v4) 0 (sN σ 0)) (sN σ 0))) (s_add_mono (aCLd (s_add (aPOL σ v1 v2 v3 v4) 0 (sN σ 0)) (sN σ 0)) 4 (30 + sN σ 4))).1), (zq3 (zLeT (zLeT (zLeT (aPOL_le σ v1 v2 v3 v4) (s_add_mono (aPOL σ v1 v2 v3 v4) 0 (sN σ 0))) (aCLd_le (s_add (aPOL σ v1 v2 v3 v4) 0 (sN σ 0)) (sN σ 0))) (s_add_mono (aCLd (s_add (aPOL σ v1 v2 v3 v4) 0 (sN σ 0)) (sN σ 0)) 4 (30 + sN σ 4))).2)⟩ (Nat.le_of_ble_eq_true rfl) rfl rfl ?_
  refine zi_if_ne K 28 (dX8_policy 9 rfl) rfl (fun h16_0 => ?_) (fun h16_0 => ?_)
  · exact absurd hv2 h16_0
  refine zi_iload_n K (dX8_policy 10 rfl) 3 rfl ?_
  refine zi_iload K (dX8_policy 11 rfl) 4 rfl ?_
  refine zi_callS K (na := 2) (As := [.int v3, .int v4]) [] [.int (v_isSpan σ v3 v4)] (c_isSpan  v3 v4) (dX8_policy 12 rfl) w_672 w_673 w_25 w_674 (by decide +kernel) rfl (fun H h => h) ⟨Nat.le_of_ble_eq_true rfl, Nat.le_of_ble_eq_true rfl⟩ ⟨(zq3 (zLeT (zLeT (zLeT (aPOL_le σ v1 v2 v3 v4) (s_add_mono (aPOL σ v1 v2 v3 v4) 0 (sN σ 0))) (aCLd_le (s_add (aPOL σ v1 v2 v3 v4) 0 (sN σ 0)) (sN σ 0))) (s_add_mono (aCLd (s_add (aPOL σ v1 v2 v3 v4) 0 (sN σ 0)) (sN σ 0)) 4 (30 + sN σ 4))).1), (zq3 (zLeT (zLeT (zLeT (aPOL_le σ v1 v2 v3 v4) (s_add_mono (aPOL σ v1 v2 v3 v4) 0 (sN σ 0))) (aCLd_le (s_add (aPOL σ v1 v2 v3 v4) 0 (sN σ 0)) (sN σ 0))) (s_add_mono (aCLd (s_add (aPOL σ v1 v2 v3 v4) 0 (sN σ 0)) (sN σ 0)) 4 (30 + sN σ 4))).2)⟩ (Nat.le_of_ble_eq_true rfl) rfl rfl ?_
  refine zi_if_ne K 38 (dX8_policy 13 rfl) rfl (fun h25_0 => ?_) (fun h25_0 => ?_)
  rotate_left
  · exact absurd h25_0 hv3
  refine zi_aload_n K (dX8_policy 19 rfl) 0 rfl ?_
  refine zg_O_policies K rfl w_194 (dX8_policy 20 rfl) ?_
  refine zi_callV K (na := 0) [] [.int (nI (sN σ 0))] (c_sizeN (σ := σ) 0 (sN σ 0) (by decide) hw.1.2.1.1) (dX8_policy 21 rfl) w_230 w_231 w_232 w_28 w_233 (by decide +kernel) rfl (fun H h => zrecv_LST K (by decide) h) (fun H h => h) ⟨Nat.le_of_ble_eq_true rfl, Nat.le_of_ble_eq_true rfl⟩ ⟨(zq3 (zLeT (zLeT (zLeT (aPOL_le σ v1 v2 v3 v4) (s_add_mono (aPOL σ v1 v2 v3 v4) 0 (sN σ 0))) (aCLd_le (s_add (aPOL σ v1 v2 v3 v4) 0 (sN σ 0)) (sN σ 0))) (s_add_mono (aCLd (s_add (aPOL σ v1 v2 v3 v4) 0 (sN σ 0)) (sN σ 0)) 4 (30 + sN σ 4))).1), (zq3 (zLeT (zLeT (zLeT (aPOL_le σ v1 v2 v3 v4) (s_add_mono (aPOL σ v1 v2 v3 v4) 0 (sN σ 0))) (aCLd_le (s_add (aPOL σ v1 v2 v3 v4) 0 (sN σ 0)) (sN σ 0))) (s_add_mono (aCLd (s_add (aPOL σ v1 v2 v3 v4) 0 (sN σ 0)) (sN σ 0)) 4 (30 + sN σ 4))).2)⟩ (Nat.le_of_ble_eq_true rfl) rfl rfl ?_
  refine zi_bipush K (dX8_policy 22 rfl) zk_b12 ?_
  refine zi_icmp_lt K 60 (dX8_policy 23 rfl) rfl (fun h47_0 => ?_) (fun h47_0 => ?_)
  rotate_left
  · exact absurd (nI_lt (b := 12) h12 (by decide)) h47_0
  refine zV.imp (P' := zPx G (bZ G ad σ) []) (fun H h => zP.px h) ?_
  refine zx_new (C := RX4) (T := TX4) (N := 4) (ci := 4) bZ_ok K rfl inX4 tyX4 tyX4_ok w_707 w_708 w_37 [.int 0, .int 0, .int 0, .int 0] (fun j hj => by rcases (show j = 0 ∨ j = 1 ∨ j = 2 ∨ j = 3 by omega) with rfl | rfl | rfl | rfl <;> rfl) ⟨zqn1 (zLeR σ).1 (aPOL_gc σ v1 v2 v3 v4).1 (zLeT (zLeT (s_add_mono (aPOL σ v1 v2 v3 v4) 0 (sN σ 0)) (aCLd_le (s_add (aPOL σ v1 v2 v3 v4) 0 (sN σ 0)) (sN σ 0))) (s_add_mono (aCLd (s_add (aPOL σ v1 v2 v3 v4) 0 (sN σ 0)) (sN σ 0)) 4 (30 + sN σ 4))).1, zqn1 (zLeR σ).2 (aPOL_gc σ v1 v2 v3 v4).2 (zLeT (zLeT (s_add_mono (aPOL σ v1 v2 v3 v4) 0 (sN σ 0)) (aCLd_le (s_add (aPOL σ v1 v2 v3 v4) 0 (sN σ 0)) (sN σ 0))) (s_add_mono (aCLd (s_add (aPOL σ v1 v2 v3 v4) 0 (sN σ 0)) (sN σ 0)) 4 (30 + sN σ 4))).2⟩ (dX8_policy 29 rfl) (fun y1 => ?_)
  refine zi_dup K (dX8_policy 30 rfl) rfl ?_
  refine zi_iload_n K (dX8_policy 31 rfl) 1 rfl ?_
  refine zi_iload_n K (dX8_policy 32 rfl) 2 rfl ?_
  refine zi_iload_n K (dX8_policy 33 rfl) 3 rfl ?_
  refine zi_iload K (dX8_policy 34 rfl) 4 rfl ?_
  refine zi_callI K (na := 4) (As := [.int v1, .int v2, .int v3, .int v4]) [.ref y1] [.ref y1] (n_policy (ws := []) bZ_ok y1 v1 v2 v3 v4) (dX8_policy 35 rfl) w_709 w_710 w_37 w_711 (by decide +kernel) rfl rfl (fun H h => h) ⟨Nat.le_of_ble_eq_true rfl, Nat.le_of_ble_eq_true rfl⟩ ⟨zqn2 (zLeR σ).1 (aPOL_gc σ v1 v2 v3 v4).1 (zLeT (zLeT (s_add_mono (aPOL σ v1 v2 v3 v4) 0 (sN σ 0)) (aCLd_le (s_add (aPOL σ v1 v2 v3 v4) 0 (sN σ 0)) (sN σ 0))) (s_add_mono (aCLd (s_add (aPOL σ v1 v2 v3 v4) 0 (sN σ 0)) (sN σ 0)) 4 (30 + sN σ 4))).1, zqn2 (zLeR σ).2 (aPOL_gc σ v1 v2 v3 v4).2 (zLeT (zLeT (s_add_mono (aPOL σ v1 v2 v3 v4) 0 (sN σ 0)) (aCLd_le (s_add (aPOL σ v1 v2 v3 v4) 0 (sN σ 0)) (sN σ 0))) (s_add_mono (aCLd (s_add (aPOL σ v1 v2 v3 v4) 0 (sN σ 0)) (sN σ 0)) 4 (30 + sN σ 4))).2⟩ (Nat.le_of_ble_eq_true rfl) rfl rfl ?_
  refine zx_adPOL (σ := σ) v1 v2 v3 v4 y1 hw.rl.1  (fun ad1 hag1 e1_1 => ?_)
  refine zV.wd (k' := sgc (aPOL σ v1 v2 v3 v4) - sgc σ) (n' := sgs (aPOL σ v1 v2 v3 v4) - sgs σ) (zqn3 (zLeR σ).1 (aPOL_gc σ v1 v2 v3 v4).1) (zqn3 (zLeR σ).2 (aPOL_gc σ v1 v2 v3 v4).2) ?_
  refine zV.lov (lo' := [(0, .ref (ad1 0 0)), (1, .int v1), (2, .int v2), (3, .int v3), (4, .int v4)]) (by rw [hag1 0 0 rfl (by decide)]) ?_
  refine zV.stv (st' := [.ref (ad1 1 (sN σ 0))]) (by rw [e1_1]) ?_
  refine zi_astore K [(5, .ref (ad1 1 (sN σ 0))), (0, .ref (ad1 0 0)), (1, .int v1), (2, .int v2), (3, .int v3), (4, .int v4)] (dX8_policy 36 rfl) (by decide) rfl ?_
  refine zi_aload_n K (dX8_policy 37 rfl) 1 rfl ?_
  refine zg_O_policies K rfl w_194 (dX8_policy 38 rfl) ?_
  refine zi_aload K (dX8_policy 39 rfl) 0 rfl ?_
  refine zi_callV K (na := 1) [] [.int 1] (c_addA (σ := (aPOL σ v1 v2 v3 v4)) 0 (sN σ 0) 1 rfl (hp.1.1.2 0 (by decide)).1.1 (zLC_2 (hp.1.1.2 0 (by decide))) hp.2.1.1) (dX8_policy 40 rfl) w_617 w_436 w_437 w_28 w_438 (by decide +kernel) rfl (fun H h => zrecv_LST K (by decide) h) (fun H h => h) ⟨Nat.le_of_ble_eq_true rfl, Nat.le_of_ble_eq_true rfl⟩ ⟨(zq1 (aPOL_le σ v1 v2 v3 v4).1 (s_add_mono (aPOL σ v1 v2 v3 v4) 0 (sN σ 0)).1 (zLeT (aCLd_le (s_add (aPOL σ v1 v2 v3 v4) 0 (sN σ 0)) (sN σ 0)) (s_add_mono (aCLd (s_add (aPOL σ v1 v2 v3 v4) 0 (sN σ 0)) (sN σ 0)) 4 (30 + sN σ 4))).1), (zq1 (aPOL_le σ v1 v2 v3 v4).2 (s_add_mono (aPOL σ v1 v2 v3 v4) 0 (sN σ 0)).2 (zLeT (aCLd_le (s_add (aPOL σ v1 v2 v3 v4) 0 (sN σ 0)) (sN σ 0)) (s_add_mono (aCLd (s_add (aPOL σ v1 v2 v3 v4) 0 (sN σ 0)) (sN σ 0)) 4 (30 + sN σ 4))).2)⟩ (Nat.le_of_ble_eq_true rfl) rfl rfl ?_
  refine zV.wd (k' := sgc (s_add (aPOL σ v1 v2 v3 v4) 0 (sN σ 0)) - sgc σ) (n' := sgs (s_add (aPOL σ v1 v2 v3 v4) 0 (sN σ 0)) - sgs σ) (zq2 (aPOL_le σ v1 v2 v3 v4).1 (s_add_mono (aPOL σ v1 v2 v3 v4) 0 (sN σ 0)).1) (zq2 (aPOL_le σ v1 v2 v3 v4).2 (s_add_mono (aPOL σ v1 v2 v3 v4) 0 (sN σ 0)).2) ?_
  refine zi_pop K (dX8_policy 41 rfl) rfl ?_
  refine zi_aload_n K (dX8_policy 42 rfl) 1 rfl ?_
  refine zg_O_damages K rfl w_198 (dX8_policy 43 rfl) ?_
  refine zV.imp (P' := zPx G (bZ G ad1 (s_add (aPOL σ v1 v2 v3 v4) 0 (sN σ 0))) []) (fun H h => zP.px h) ?_
  refine zx_new (C := RX0) (T := TX0) (N := 7) (ci := 0) bZ_ok K rfl inX0 tyX0 tyX0_ok w_603 w_731 w_42 [.null, .null, .null, .int 0, .int 0, .int 0, .long 0] (fun j hj => by rcases (show j = 0 ∨ j = 1 ∨ j = 2 ∨ j = 3 ∨ j = 4 ∨ j = 5 ∨ j = 6 by omega) with rfl | rfl | rfl | rfl | rfl | rfl | rfl <;> rfl) ⟨zqn1 (zLeT (aPOL_le σ v1 v2 v3 v4) (s_add_mono (aPOL σ v1 v2 v3 v4) 0 (sN σ 0))).1 (aCLd_gc (s_add (aPOL σ v1 v2 v3 v4) 0 (sN σ 0)) (sN σ 0)).1 (s_add_mono (aCLd (s_add (aPOL σ v1 v2 v3 v4) 0 (sN σ 0)) (sN σ 0)) 4 (30 + sN σ 4)).1, zqn1 (zLeT (aPOL_le σ v1 v2 v3 v4) (s_add_mono (aPOL σ v1 v2 v3 v4) 0 (sN σ 0))).2 (aCLd_gc (s_add (aPOL σ v1 v2 v3 v4) 0 (sN σ 0)) (sN σ 0)).2 (s_add_mono (aCLd (s_add (aPOL σ v1 v2 v3 v4) 0 (sN σ 0)) (sN σ 0)) 4 (30 + sN σ 4)).2⟩ (dX8_policy 44 rfl) (fun y2 => ?_)
  refine zi_dup K (dX8_policy 45 rfl) rfl ?_
  refine zi_aload K (dX8_policy 46 rfl) 0 rfl ?_
  refine zi_callI K (na := 1) (As := [.ref (ad1 1 (sN σ 0))]) [.ref y2, .ref (ad1 28 4)] [.ref y2, .ref (ad1 28 4)] (n_claim (ws := []) bZ_ok y2 (ad1 1 (sN σ 0))) (dX8_policy 47 rfl) w_732 w_733 w_42 w_734 (by decide +kernel) rfl rfl (fun H h => h) ⟨Nat.le_of_ble_eq_true rfl, Nat.le_of_ble_eq_true rfl⟩ ⟨zqn2 (zLeT (aPOL_le σ v1 v2 v3 v4) (s_add_mono (aPOL σ v1 v2 v3 v4) 0 (sN σ 0))).1 (aCLd_gc (s_add (aPOL σ v1 v2 v3 v4) 0 (sN σ 0)) (sN σ 0)).1 (s_add_mono (aCLd (s_add (aPOL σ v1 v2 v3 v4) 0 (sN σ 0)) (sN σ 0)) 4 (30 + sN σ 4)).1, zqn2 (zLeT (aPOL_le σ v1 v2 v3 v4) (s_add_mono (aPOL σ v1 v2 v3 v4) 0 (sN σ 0))).2 (aCLd_gc (s_add (aPOL σ v1 v2 v3 v4) 0 (sN σ 0)) (sN σ 0)).2 (s_add_mono (aCLd (s_add (aPOL σ v1 v2 v3 v4) 0 (sN σ 0)) (sN σ 0)) 4 (30 + sN σ 4)).2⟩ (Nat.le_of_ble_eq_true rfl) rfl rfl ?_
  refine zV.ex (fun y2_x1 => ?_)
  refine zV.ex (fun y2_x2 => ?_)
  refine zx_adCLd (σ := (s_add (aPOL σ v1 v2 v3 v4) 0 (sN σ 0))) (sN σ 0) y2 y2_x2 y2_x1 hp.1.2.1.1 hp.2.1.2.1 hp.2.2.1.2 (fun ad2 hag2 e2_2 e2_4 e2_3 => ?_)
  refine zV.wd (k' := sgc (aCLd (s_add (aPOL σ v1 v2 v3 v4) 0 (sN σ 0)) (sN σ 0)) - sgc σ) (n' := sgs (aCLd (s_add (aPOL σ v1 v2 v3 v4) 0 (sN σ 0)) (sN σ 0)) - sgs σ) (zqn3 (zLeT (aPOL_le σ v1 v2 v3 v4) (s_add_mono (aPOL σ v1 v2 v3 v4) 0 (sN σ 0))).1 (aCLd_gc (s_add (aPOL σ v1 v2 v3 v4) 0 (sN σ 0)) (sN σ 0)).1) (zqn3 (zLeT (aPOL_le σ v1 v2 v3 v4) (s_add_mono (aPOL σ v1 v2 v3 v4) 0 (sN σ 0))).2 (aCLd_gc (s_add (aPOL σ v1 v2 v3 v4) 0 (sN σ 0)) (sN σ 0)).2) ?_
  refine zV.lov (lo' := [(5, .ref (ad2 1 (sN σ 0))), (0, .ref (ad2 0 0)), (1, .int v1), (2, .int v2), (3, .int v3), (4, .int v4)]) (by rw [hag2 0 0 rfl (by decide), hag2 1 (sN σ 0) hp.2.1.2.1 (by decide)]) ?_
  refine zV.stv (st' := [.ref (ad2 2 (30 + sN σ 4)), .ref (ad2 28 4)]) (by rw [← hp.2.2.1.1, e2_2, hag2 28 4 (show (4 : Nat) < 13 by decide) (by decide)]) ?_
  refine zi_callV K (na := 1) [] [.int 1] (c_addA (σ := (aCLd (s_add (aPOL σ v1 v2 v3 v4) 0 (sN σ 0)) (sN σ 0))) 4 (30 + sN σ 4) 2 rfl (hp.1.2.2.1.2 4 (by decide)).1.1 (zLC_2 (hp.1.2.2.1.2 4 (by decide))) hp.2.1.2.2) (dX8_policy 48 rfl) w_617 w_436 w_437 w_28 w_438 (by decide +kernel) rfl (fun H h => zrecv_LST K (by decide) h) (fun H h => h) ⟨Nat.le_of_ble_eq_true rfl, Nat.le_of_ble_eq_true rfl⟩ ⟨(zq1 (zLeT (zLeT (aPOL_le σ v1 v2 v3 v4) (s_add_mono (aPOL σ v1 v2 v3 v4) 0 (sN σ 0))) (aCLd_le (s_add (aPOL σ v1 v2 v3 v4) 0 (sN σ 0)) (sN σ 0))).1 (s_add_mono (aCLd (s_add (aPOL σ v1 v2 v3 v4) 0 (sN σ 0)) (sN σ 0)) 4 (30 + sN σ 4)).1 (zLeR _).1), (zq1 (zLeT (zLeT (aPOL_le σ v1 v2 v3 v4) (s_add_mono (aPOL σ v1 v2 v3 v4) 0 (sN σ 0))) (aCLd_le (s_add (aPOL σ v1 v2 v3 v4) 0 (sN σ 0)) (sN σ 0))).2 (s_add_mono (aCLd (s_add (aPOL σ v1 v2 v3 v4) 0 (sN σ 0)) (sN σ 0)) 4 (30 + sN σ 4)).2 (zLeR _).2)⟩ (Nat.le_of_ble_eq_true rfl) rfl rfl ?_
  refine zV.wd (k' := sgc (s_add (aCLd (s_add (aPOL σ v1 v2 v3 v4) 0 (sN σ 0)) (sN σ 0)) 4 (30 + sN σ 4)) - sgc σ) (n' := sgs (s_add (aCLd (s_add (aPOL σ v1 v2 v3 v4) 0 (sN σ 0)) (sN σ 0)) 4 (30 + sN σ 4)) - sgs σ) (zq2 (zLeT (zLeT (aPOL_le σ v1 v2 v3 v4) (s_add_mono (aPOL σ v1 v2 v3 v4) 0 (sN σ 0))) (aCLd_le (s_add (aPOL σ v1 v2 v3 v4) 0 (sN σ 0)) (sN σ 0))).1 (s_add_mono (aCLd (s_add (aPOL σ v1 v2 v3 v4) 0 (sN σ 0)) (sN σ 0)) 4 (30 + sN σ 4)).1) (zq2 (zLeT (zLeT (aPOL_le σ v1 v2 v3 v4) (s_add_mono (aPOL σ v1 v2 v3 v4) 0 (sN σ 0))) (aCLd_le (s_add (aPOL σ v1 v2 v3 v4) 0 (sN σ 0)) (sN σ 0))).2 (s_add_mono (aCLd (s_add (aPOL σ v1 v2 v3 v4) 0 (sN σ 0)) (sN σ 0)) 4 (30 + sN σ 4)).2) ?_
  refine zi_pop K (dX8_policy 49 rfl) rfl ?_
  refine zi_aload_n K (dX8_policy 50 rfl) 1 rfl ?_
  refine zg_O_policies K rfl w_194 (dX8_policy 51 rfl) ?_
  refine zi_callV K (na := 0) [] [.int (nI (sN σ 0 + 1))] (c_sizeN (σ := (s_add (aCLd (s_add (aPOL σ v1 v2 v3 v4) 0 (sN σ 0)) (sN σ 0)) 4 (30 + sN σ 4))) 0 (sN σ 0 + 1) (by decide) hp.2.2.2) (dX8_policy 52 rfl) w_230 w_231 w_232 w_28 w_233 (by decide +kernel) rfl (fun H h => zrecv_LST K (by decide) h) (fun H h => h) ⟨Nat.le_of_ble_eq_true rfl, Nat.le_of_ble_eq_true rfl⟩ ⟨(zq3 (zLeR _).1), (zq3 (zLeR _).2)⟩ (Nat.le_of_ble_eq_true rfl) rfl rfl ?_
  refine zi_iconst K (dX8_policy 53 rfl) zk_i1 ?_
  refine zi_isub K (dX8_policy 54 rfl) ?_
  exact zi_iret K E (dX8_policy 55 rfl) (Nat.le_refl _) (Nat.le_refl _) rfl (fun H h => ⟨ad2, by rw [hag2 0 0 rfl (by decide), hag1 0 0 rfl (by decide)], h⟩)
