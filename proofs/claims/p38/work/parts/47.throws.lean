/-! the methods that throw, as the law meets them -/
theorem isOut_no {σ : zSt} {n : Nat} (hn : n < 2 ^ 30) : ¬ v_isOut σ (nI n) 0 (nI n - 1) = 0 := by
  unfold v_isOut
  rcases Nat.eq_zero_or_pos n with e | e
  · subst e
    decide
  · obtain ⟨m, rfl⟩ : ∃ m, n = m + 1 := ⟨n - 1, by omega⟩
    rw [nI_pred, if_neg (nI_pos (by omega)), if_neg (fun h => ?_)]
    · decide
    · exact absurd ((nI_leI (by omega) (by omega)).mp h) (by omega)
set_option maxRecDepth 100000 in
set_option maxHeartbeats 4000000 in
theorem t_policy {G : zG} {ad : Nat → Nat → Nat} {σ : zSt} (v1 v2 v3 v4 : Int32) (hw : zW σ) (hN : sN σ 0 = 12) (hv1 : v_isOut σ v1 1 1000000 = 0) (hv2 : v_isOut σ v2 0 3 = 0) (hv3 : ¬ v_isSpan σ v3 v4 = 0) : zCX G yX8_policy cX8_policy 6 (some FieldType.int) 20 300 1 6 [.ref (ad 0 0), .int v1, .int v2, .int v3, .int v4] (zP G ad σ) "java/lang/IllegalStateException" (zP G ad σ) := by
  refine zCX_of (by decide) (Nat.le_of_ble_eq_true rfl) (fun X K hx => ?_)
  show zV G X 6 (zP G ad σ) 0 0 0 [(0, .ref (ad 0 0)), (1, .int v1), (2, .int v2), (3, .int v3), (4, .int v4)] []
  refine zi_iload_n K (dX8_policy 0 rfl) 1 rfl ?_
  refine zi_iconst K (dX8_policy 1 rfl) zk_i1 ?_
  refine zi_ldc K (dX8_policy 2 rfl) w_671 ?_
  refine zi_callS K (na := 3) (As := [.int v1, .int 1, .int 1000000]) [] [.int (v_isOut σ v1 1 1000000)] (c_isOut  v1 1 1000000) (dX8_policy 3 rfl) w_234 w_235 w_25 w_236 (by decide +kernel) rfl (fun H h => h) ⟨Nat.le_of_ble_eq_true rfl, Nat.le_of_ble_eq_true rfl⟩ ⟨Nat.le_of_ble_eq_true rfl, Nat.le_of_ble_eq_true rfl⟩ (Nat.le_of_ble_eq_true rfl) rfl rfl ?_
  refine zi_if_ne K 28 (dX8_policy 4 rfl) rfl (fun h7_0 => ?_) (fun h7_0 => ?_)
  · exact absurd hv1 h7_0
  refine zi_iload_n K (dX8_policy 5 rfl) 2 rfl ?_
  refine zi_iconst K (dX8_policy 6 rfl) zk_i0 ?_
  refine zi_iconst K (dX8_policy 7 rfl) zk_i3 ?_
  refine zi_callS K (na := 3) (As := [.int v2, .int 0, .int 3]) [] [.int (v_isOut σ v2 0 3)] (c_isOut  v2 0 3) (dX8_policy 8 rfl) w_234 w_235 w_25 w_236 (by decide +kernel) rfl (fun H h => h) ⟨Nat.le_of_ble_eq_true rfl, Nat.le_of_ble_eq_true rfl⟩ ⟨Nat.le_of_ble_eq_true rfl, Nat.le_of_ble_eq_true rfl⟩ (Nat.le_of_ble_eq_true rfl) rfl rfl ?_
  refine zi_if_ne K 28 (dX8_policy 9 rfl) rfl (fun h16_0 => ?_) (fun h16_0 => ?_)
  · exact absurd hv2 h16_0
  refine zi_iload_n K (dX8_policy 10 rfl) 3 rfl ?_
  refine zi_iload K (dX8_policy 11 rfl) 4 rfl ?_
  refine zi_callS K (na := 2) (As := [.int v3, .int v4]) [] [.int (v_isSpan σ v3 v4)] (c_isSpan  v3 v4) (dX8_policy 12 rfl) w_672 w_673 w_25 w_674 (by decide +kernel) rfl (fun H h => h) ⟨Nat.le_of_ble_eq_true rfl, Nat.le_of_ble_eq_true rfl⟩ ⟨Nat.le_of_ble_eq_true rfl, Nat.le_of_ble_eq_true rfl⟩ (Nat.le_of_ble_eq_true rfl) rfl rfl ?_
  refine zi_if_ne K 38 (dX8_policy 13 rfl) rfl (fun h25_0 => ?_) (fun h25_0 => ?_)
  rotate_left
  · exact absurd h25_0 hv3
  refine zi_aload_n K (dX8_policy 19 rfl) 0 rfl ?_
  refine zg_O_policies K rfl w_194 (dX8_policy 20 rfl) ?_
  refine zi_callV K (na := 0) [] [.int (nI (sZ σ 0))] (c_sizeN (σ := σ) 0 (sZ σ 0) (zL_ok (hw.1.1 0 (by omega)).1).1 rfl) (dX8_policy 21 rfl) w_230 w_231 w_232 w_28 w_233 (by decide +kernel) rfl (fun H h => zrecv_LST K (zL_ok (hw.1.1 0 (by omega)).1).1 h) (fun H h => h) ⟨Nat.le_of_ble_eq_true rfl, Nat.le_of_ble_eq_true rfl⟩ ⟨Nat.le_of_ble_eq_true rfl, Nat.le_of_ble_eq_true rfl⟩ (Nat.le_of_ble_eq_true rfl) rfl rfl ?_
  refine zi_bipush K (dX8_policy 22 rfl) zk_b12 ?_
  refine zi_icmp_lt K 60 (dX8_policy 23 rfl) rfl (fun h47_0 => ?_) (fun h47_0 => ?_)
  · exact absurd h47_0 (show ¬ nI (sZ σ 0) < 12 from by rw [hw.1.2.1.1, hN]; decide)
  exact zi_throw K hx (by decide +kernel) zwc_ISE zwi_ISE (List.mem_of_getElem? (i := 1) rfl) (zth_ISE K.2.2.2.2.1 K.2.2.2.2.2.1) zto_ISE (dX8_policy 24 rfl) (dX8_policy 25 rfl) (dX8_policy 26 rfl) (dX8_policy 27 rfl) (dX8_policy 28 rfl) ⟨Nat.le_of_ble_eq_true rfl, Nat.le_of_ble_eq_true rfl⟩ ⟨Nat.le_of_ble_eq_true rfl, Nat.le_of_ble_eq_true rfl⟩ ⟨Nat.le_refl _, Nat.le_refl _⟩ zP.thr
set_option maxRecDepth 100000 in
set_option maxHeartbeats 4000000 in
theorem t_scenario {G : zG} {ad : Nat → Nat → Nat} {σ : zSt} (v1 v2 : Int32) (hw : zW σ) (hN : sN σ 3 = 12) (hv1 : v_isOut σ v1 0 999 = 0) (hv2 : v_isOut σ v2 1 9 = 0) : zCX G yX8_scenario cX8_scenario 3 (some FieldType.int) 20 300 1 6 [.ref (ad 0 0), .int v1, .int v2] (zP G ad σ) "java/lang/IllegalStateException" (zP G ad σ) := by
  refine zCX_of (by decide) (Nat.le_of_ble_eq_true rfl) (fun X K hx => ?_)
  show zV G X 3 (zP G ad σ) 0 0 0 [(0, .ref (ad 0 0)), (1, .int v1), (2, .int v2)] []
  refine zi_iload_n K (dX8_scenario 0 rfl) 1 rfl ?_
  refine zi_iconst K (dX8_scenario 1 rfl) zk_i0 ?_
  refine zi_sipush K (dX8_scenario 2 rfl) zk_s999 ?_
  refine zi_callS K (na := 3) (As := [.int v1, .int 0, .int 999]) [] [.int (v_isOut σ v1 0 999)] (c_isOut  v1 0 999) (dX8_scenario 3 rfl) w_234 w_235 w_25 w_236 (by decide +kernel) rfl (fun H h => h) ⟨Nat.le_of_ble_eq_true rfl, Nat.le_of_ble_eq_true rfl⟩ ⟨Nat.le_of_ble_eq_true rfl, Nat.le_of_ble_eq_true rfl⟩ (Nat.le_of_ble_eq_true rfl) rfl rfl ?_
  refine zi_if_ne K 21 (dX8_scenario 4 rfl) rfl (fun h8_0 => ?_) (fun h8_0 => ?_)
  · exact absurd hv1 h8_0
  refine zi_iload_n K (dX8_scenario 5 rfl) 2 rfl ?_
  refine zi_iconst K (dX8_scenario 6 rfl) zk_i1 ?_
  refine zi_bipush K (dX8_scenario 7 rfl) zk_b9 ?_
  refine zi_callS K (na := 3) (As := [.int v2, .int 1, .int 9]) [] [.int (v_isOut σ v2 1 9)] (c_isOut  v2 1 9) (dX8_scenario 8 rfl) w_234 w_235 w_25 w_236 (by decide +kernel) rfl (fun H h => h) ⟨Nat.le_of_ble_eq_true rfl, Nat.le_of_ble_eq_true rfl⟩ ⟨Nat.le_of_ble_eq_true rfl, Nat.le_of_ble_eq_true rfl⟩ (Nat.le_of_ble_eq_true rfl) rfl rfl ?_
  refine zi_if_eq K 32 (dX8_scenario 9 rfl) rfl (fun h18_0 => ?_) (fun h18_0 => ?_)
  rotate_left
  · exact absurd hv2 h18_0
  refine zi_aload_n K (dX8_scenario 15 rfl) 0 rfl ?_
  refine zg_O_scenarios K rfl w_197 (dX8_scenario 16 rfl) ?_
  refine zi_callV K (na := 0) [] [.int (nI (sZ σ 3))] (c_sizeN (σ := σ) 3 (sZ σ 3) (zL_ok (hw.1.1 3 (by omega)).1).1 rfl) (dX8_scenario 17 rfl) w_230 w_231 w_232 w_28 w_233 (by decide +kernel) rfl (fun H h => zrecv_LST K (zL_ok (hw.1.1 3 (by omega)).1).1 h) (fun H h => h) ⟨Nat.le_of_ble_eq_true rfl, Nat.le_of_ble_eq_true rfl⟩ ⟨Nat.le_of_ble_eq_true rfl, Nat.le_of_ble_eq_true rfl⟩ (Nat.le_of_ble_eq_true rfl) rfl rfl ?_
  refine zi_bipush K (dX8_scenario 18 rfl) zk_b12 ?_
  refine zi_icmp_lt K 55 (dX8_scenario 19 rfl) rfl (fun h41_0 => ?_) (fun h41_0 => ?_)
  · exact absurd h41_0 (show ¬ nI (sZ σ 3) < 12 from by rw [hw.1.2.2.2.2.1.1, hN]; decide)
  exact zi_throwW K hx (by decide +kernel) zwc_ISE zwi_ISE (List.mem_of_getElem? (i := 13) rfl) (zth_ISE K.2.2.2.2.1 K.2.2.2.2.2.1) zto_ISE (dX8_scenario 20 rfl) (dX8_scenario 21 rfl) (dX8_scenario 22 rfl) (dX8_scenario 23 rfl) (dX8_scenario 24 rfl) ⟨Nat.le_of_ble_eq_true rfl, Nat.le_of_ble_eq_true rfl⟩ ⟨Nat.le_of_ble_eq_true rfl, Nat.le_of_ble_eq_true rfl⟩ ⟨Nat.le_refl _, Nat.le_refl _⟩ zP.thr
set_option maxRecDepth 100000 in
set_option maxHeartbeats 4000000 in
theorem t_treaty {G : zG} {ad : Nat → Nat → Nat} {σ : zSt} (v2 v3 v4 v5 v6 v7 : Int32) (hw : zW σ) (hN : sN σ 2 = 8) (h1 : ¬ v_isSpan σ v4 v5 = 0) (h2 : ¬ v_isBasis σ v3 = 0) (h3 : ¬ v_fitsKind σ v2 v6 v7 = 0) : zCX G yX8_treaty cX8_treaty 8 (some FieldType.int) 20 300 1 6 [.ref (ad 0 0), .int v2, .int v3, .int v4, .int v5, .int v6, .int v7] (zP G ad σ) "java/lang/IllegalStateException" (zP G ad σ) := by
  refine zCX_of (by decide) (Nat.le_of_ble_eq_true rfl) (fun X K hx => ?_)
  show zV G X 8 (zP G ad σ) 0 0 0 [(0, .ref (ad 0 0)), (1, .int v2), (2, .int v3), (3, .int v4), (4, .int v5), (5, .int v6), (6, .int v7)] []
  refine zi_iload_n K (dX8_treaty_p0 0 rfl) 3 rfl ?_
  refine zi_iload K (dX8_treaty_p0 1 rfl) 4 rfl ?_
  refine zi_callS K (na := 2) (As := [.int v4, .int v5]) [] [.int (v_isSpan σ v4 v5)] (c_isSpan  v4 v5) (dX8_treaty_p0 2 rfl) w_672 w_673 w_25 w_674 (by decide +kernel) rfl (fun H h => h) ⟨Nat.le_of_ble_eq_true rfl, Nat.le_of_ble_eq_true rfl⟩ ⟨Nat.le_of_ble_eq_true rfl, Nat.le_of_ble_eq_true rfl⟩ (Nat.le_of_ble_eq_true rfl) rfl rfl ?_
  refine zi_if_eq K 27 (dX8_treaty_p0 3 rfl) rfl (fun h6_0 => ?_) (fun h6_0 => ?_)
  · exact absurd h6_0 h1
  refine zi_iload_n K (dX8_treaty_p0 4 rfl) 2 rfl ?_
  refine zi_callS K (na := 1) (As := [.int v3]) [] [.int (v_isBasis σ v3)] (c_isBasis  v3) (dX8_treaty_p0 5 rfl) w_1079 w_1080 w_25 w_1081 (by decide +kernel) rfl (fun H h => h) ⟨Nat.le_of_ble_eq_true rfl, Nat.le_of_ble_eq_true rfl⟩ ⟨Nat.le_of_ble_eq_true rfl, Nat.le_of_ble_eq_true rfl⟩ (Nat.le_of_ble_eq_true rfl) rfl rfl ?_
  refine zi_if_eq K 27 (dX8_treaty_p0 6 rfl) rfl (fun h13_0 => ?_) (fun h13_0 => ?_)
  · exact absurd h13_0 h2
  refine zi_iload_n K (dX8_treaty_p0 7 rfl) 1 rfl ?_
  refine zi_iload K (dX8_treaty_p0 8 rfl) 5 rfl ?_
  refine zi_iload K (dX8_treaty_p0 9 rfl) 6 rfl ?_
  refine zi_callS K (na := 3) (As := [.int v2, .int v6, .int v7]) [] [.int (v_fitsKind σ v2 v6 v7)] (c_fitsKind  v2 v6 v7) (dX8_treaty_p0 10 rfl) w_1082 w_1083 w_25 w_1084 (by decide +kernel) rfl (fun H h => h) ⟨Nat.le_of_ble_eq_true rfl, Nat.le_of_ble_eq_true rfl⟩ ⟨Nat.le_of_ble_eq_true rfl, Nat.le_of_ble_eq_true rfl⟩ (Nat.le_of_ble_eq_true rfl) rfl rfl ?_
  refine zi_if_ne K 37 (dX8_treaty_p0 11 rfl) rfl (fun h24_0 => ?_) (fun h24_0 => ?_)
  rotate_left
  · exact absurd h24_0 h3
  refine zi_aload_n K (dX8_treaty_p0 17 rfl) 0 rfl ?_
  refine zg_O_terms K rfl w_196 (dX8_treaty_p0 18 rfl) ?_
  refine zi_callV K (na := 0) [] [.int (nI (sZ σ 2))] (c_sizeN (σ := σ) 2 (sZ σ 2) (zL_ok (hw.1.1 2 (by omega)).1).1 rfl) (dX8_treaty_p0 19 rfl) w_230 w_231 w_232 w_28 w_233 (by decide +kernel) rfl (fun H h => zrecv_LST K (zL_ok (hw.1.1 2 (by omega)).1).1 h) (fun H h => h) ⟨Nat.le_of_ble_eq_true rfl, Nat.le_of_ble_eq_true rfl⟩ ⟨Nat.le_of_ble_eq_true rfl, Nat.le_of_ble_eq_true rfl⟩ (Nat.le_of_ble_eq_true rfl) rfl rfl ?_
  refine zi_bipush K (dX8_treaty_p0 20 rfl) zk_b8 ?_
  refine zi_icmp_lt K 59 (dX8_treaty_p0 21 rfl) rfl (fun h46_0 => ?_) (fun h46_0 => ?_)
  · exact absurd h46_0 (show ¬ nI (sZ σ 2) < 8 from by rw [hw.1.2.2.2.1.1, hN]; decide)
  exact zi_throw K hx (by decide +kernel) zwc_ISE zwi_ISE (List.mem_of_getElem? (i := 6) rfl) (zth_ISE K.2.2.2.2.1 K.2.2.2.2.2.1) zto_ISE (dX8_treaty_p0 22 rfl) (dX8_treaty_p0 23 rfl) (dX8_treaty_p0 24 rfl) (dX8_treaty_p0 25 rfl) (dX8_treaty_p0 26 rfl) ⟨Nat.le_of_ble_eq_true rfl, Nat.le_of_ble_eq_true rfl⟩ ⟨Nat.le_of_ble_eq_true rfl, Nat.le_of_ble_eq_true rfl⟩ ⟨Nat.le_refl _, Nat.le_refl _⟩ zP.thr
set_option maxRecDepth 100000 in
set_option maxHeartbeats 4000000 in
theorem t_lossU {G : zG} {ad : Nat → Nat → Nat} {σ : zSt} (p : Nat) (v2 v3 v4 : Int32) (hw : zW σ) (hp : p < sN σ 0) (hs : ¬ v_isSpan σ v2 v3 = 0) (hv4 : v_isOut σ v4 0 1000000 = 0) (hf : v_inForce σ p v2 = 0) : zCX G yX8_loss cX8_loss 7 (some FieldType.int) 20 300 1 6 [.ref (ad 0 0), .int (nI p), .int v2, .int v3, .int v4] (zP G ad σ) "java/lang/UnsupportedOperationException" (zP G ad σ) := by
  refine zCX_of (by decide) (Nat.le_of_ble_eq_true rfl) (fun X K hx => ?_)
  show zV G X 7 (zP G ad σ) 0 0 0 [(0, .ref (ad 0 0)), (1, .int (nI p)), (2, .int v2), (3, .int v3), (4, .int v4)] []
  refine zi_iload_n K (dX8_loss_p0 0 rfl) 1 rfl ?_
  refine zi_iconst K (dX8_loss_p0 1 rfl) zk_i0 ?_
  refine zi_aload_n K (dX8_loss_p0 2 rfl) 0 rfl ?_
  refine zg_O_policies K rfl w_194 (dX8_loss_p0 3 rfl) ?_
  refine zi_callV K (na := 0) [.int 0, .int (nI p)] [.int (nI (sZ σ 0)), .int 0, .int (nI p)] (c_sizeN (σ := σ) 0 (sZ σ 0) (zL_ok (hw.1.1 0 (by omega)).1).1 rfl) (dX8_loss_p0 4 rfl) w_230 w_231 w_232 w_28 w_233 (by decide +kernel) rfl (fun H h => zrecv_LST K (zL_ok (hw.1.1 0 (by omega)).1).1 h) (fun H h => h) ⟨Nat.le_of_ble_eq_true rfl, Nat.le_of_ble_eq_true rfl⟩ ⟨Nat.le_of_ble_eq_true rfl, Nat.le_of_ble_eq_true rfl⟩ (Nat.le_of_ble_eq_true rfl) rfl rfl ?_
  refine zi_iconst K (dX8_loss_p0 5 rfl) zk_i1 ?_
  refine zi_isub K (dX8_loss_p0 6 rfl) ?_
  refine zi_callS K (na := 3) (As := [.int (nI p), .int 0, .int ((nI (sZ σ 0)) - 1)]) [] [.int (v_isOut σ (nI p) 0 ((nI (sZ σ 0)) - 1))] (c_isOut  (nI p) 0 ((nI (sZ σ 0)) - 1)) (dX8_loss_p0 7 rfl) w_234 w_235 w_25 w_236 (by decide +kernel) rfl (fun H h => h) ⟨Nat.le_of_ble_eq_true rfl, Nat.le_of_ble_eq_true rfl⟩ ⟨Nat.le_of_ble_eq_true rfl, Nat.le_of_ble_eq_true rfl⟩ (Nat.le_of_ble_eq_true rfl) rfl rfl ?_
  refine zi_if_eq K 27 (dX8_loss_p0 8 rfl) rfl (fun h14_0 => ?_) (fun h14_0 => ?_)
  rotate_left
  · exact absurd (isOut_ok (i := p) (n := sZ σ 0) (by rw [hw.1.2.1.1]; exact hp) (by have := hw.1.2.1.1; have := hw.1.2.1.2; omega)) h14_0
  refine zi_iload_n K (dX8_loss_p0 14 rfl) 2 rfl ?_
  refine zi_iload_n K (dX8_loss_p0 15 rfl) 3 rfl ?_
  refine zi_callS K (na := 2) (As := [.int v2, .int v3]) [] [.int (v_isSpan σ v2 v3)] (c_isSpan  v2 v3) (dX8_loss_p0 16 rfl) w_672 w_673 w_25 w_674 (by decide +kernel) rfl (fun H h => h) ⟨Nat.le_of_ble_eq_true rfl, Nat.le_of_ble_eq_true rfl⟩ ⟨Nat.le_of_ble_eq_true rfl, Nat.le_of_ble_eq_true rfl⟩ (Nat.le_of_ble_eq_true rfl) rfl rfl ?_
  refine zi_if_eq K 46 (dX8_loss_p0 17 rfl) rfl (fun h32_0 => ?_) (fun h32_0 => ?_)
  · exact absurd h32_0 hs
  refine zi_iload K (dX8_loss_p0 18 rfl) 4 rfl ?_
  refine zi_iconst K (dX8_loss_p0 19 rfl) zk_i0 ?_
  refine zi_ldc K (dX8_loss_p0 20 rfl) w_671 ?_
  refine zi_callS K (na := 3) (As := [.int v4, .int 0, .int 1000000]) [] [.int (v_isOut σ v4 0 1000000)] (c_isOut  v4 0 1000000) (dX8_loss_p0 21 rfl) w_234 w_235 w_25 w_236 (by decide +kernel) rfl (fun H h => h) ⟨Nat.le_of_ble_eq_true rfl, Nat.le_of_ble_eq_true rfl⟩ ⟨Nat.le_of_ble_eq_true rfl, Nat.le_of_ble_eq_true rfl⟩ (Nat.le_of_ble_eq_true rfl) rfl rfl ?_
  refine zi_if_eq K 56 (dX8_loss_p0 22 rfl) rfl (fun h43_0 => ?_) (fun h43_0 => ?_)
  rotate_left
  · exact absurd hv4 h43_0
  refine zi_aload_n K (dX8_loss_p0 28 rfl) 0 rfl ?_
  refine zg_O_policies K rfl w_194 (dX8_loss_p0 29 rfl) ?_
  refine zi_iload_n K (dX8_loss_p0 30 rfl) 1 rfl ?_
  refine zi_callV K (na := 1) [] [.ref (ad 1 p)] (c_getK (σ := σ) 0 p p 1 rfl (hw.rl.2 0 (by decide)).1.1 (by rw [hw.1.2.1.1]; exact hp) (by rw [zL_x (hw.rl.2 0 (by decide)).1 (by rw [hw.1.2.1.1]; exact hp), hw.2.1.1 p hp])) (dX8_loss_p0 31 rfl) w_309 w_310 w_311 w_28 w_312 (by decide +kernel) rfl (fun H h => zrecv_LST K (by decide) h) (fun H h => h) ⟨Nat.le_of_ble_eq_true rfl, Nat.le_of_ble_eq_true rfl⟩ ⟨Nat.le_of_ble_eq_true rfl, Nat.le_of_ble_eq_true rfl⟩ (Nat.le_of_ble_eq_true rfl) rfl rfl ?_
  refine zi_cast K (fun H h => (zr_POL (σ := σ) hp H h).1) rfl w_707 (dX8_loss_p0 32 rfl) ?_
  refine zi_astore K [(5, .ref (ad 1 p)), (0, .ref (ad 0 0)), (1, .int (nI p)), (2, .int v2), (3, .int v3), (4, .int v4)] (dX8_loss_p0 33 rfl) (by decide) rfl ?_
  refine zi_aload K (dX8_loss_p0 34 rfl) 0 rfl ?_
  refine zi_iload_n K (dX8_loss_p0 35 rfl) 3 rfl ?_
  refine zi_callV K (na := 1) [] [.int (v_inForce σ p v2)] (c_inForce  p v2 hp) (dX8_loss_p0 36 rfl) w_809 w_609 w_610 w_37 w_611 (by decide +kernel) rfl (fun H h => zi_recv K (zr_POL (σ := σ) hp H h).1 rfl) (fun H h => h) ⟨Nat.le_of_ble_eq_true rfl, Nat.le_of_ble_eq_true rfl⟩ ⟨Nat.le_of_ble_eq_true rfl, Nat.le_of_ble_eq_true rfl⟩ (Nat.le_of_ble_eq_true rfl) rfl rfl ?_
  refine zi_if_ne K 88 (dX8_loss_p0 37 rfl) rfl (fun h75_0 => ?_) (fun h75_0 => ?_)
  · exact absurd hf h75_0
  exact zi_throw K hx (by decide +kernel) zwc_UOE zwi_UOE (List.mem_of_getElem? (i := 4) rfl) (zth_UOE K.2.2.2.2.1 K.2.2.2.2.2.1) zto_UOE (dX8_loss_p0 38 rfl) (dX8_loss_p0 39 rfl) (dX8_loss_p0 40 rfl) (dX8_loss_p0 41 rfl) (dX8_loss_p0 42 rfl) ⟨Nat.le_of_ble_eq_true rfl, Nat.le_of_ble_eq_true rfl⟩ ⟨Nat.le_of_ble_eq_true rfl, Nat.le_of_ble_eq_true rfl⟩ ⟨Nat.le_refl _, Nat.le_refl _⟩ zP.thr
set_option maxRecDepth 100000 in
set_option maxHeartbeats 4000000 in
theorem t_lossS {G : zG} {ad : Nat → Nat → Nat} {σ : zSt} (p : Nat) (v2 v3 v4 : Int32) (hw : zW σ) (hp : p < sN σ 0) (hs : ¬ v_isSpan σ v2 v3 = 0) (hv4 : v_isOut σ v4 0 1000000 = 0) (hf : ¬ v_inForce σ p v2 = 0) (hN : sN σ 1 = 30) : zCX G yX8_loss cX8_loss 7 (some FieldType.int) 20 300 1 6 [.ref (ad 0 0), .int (nI p), .int v2, .int v3, .int v4] (zP G ad σ) "java/lang/IllegalStateException" (zP G ad σ) := by
  refine zCX_of (by decide) (Nat.le_of_ble_eq_true rfl) (fun X K hx => ?_)
  show zV G X 7 (zP G ad σ) 0 0 0 [(0, .ref (ad 0 0)), (1, .int (nI p)), (2, .int v2), (3, .int v3), (4, .int v4)] []
  refine zi_iload_n K (dX8_loss_p0 0 rfl) 1 rfl ?_
  refine zi_iconst K (dX8_loss_p0 1 rfl) zk_i0 ?_
  refine zi_aload_n K (dX8_loss_p0 2 rfl) 0 rfl ?_
  refine zg_O_policies K rfl w_194 (dX8_loss_p0 3 rfl) ?_
  refine zi_callV K (na := 0) [.int 0, .int (nI p)] [.int (nI (sZ σ 0)), .int 0, .int (nI p)] (c_sizeN (σ := σ) 0 (sZ σ 0) (zL_ok (hw.1.1 0 (by omega)).1).1 rfl) (dX8_loss_p0 4 rfl) w_230 w_231 w_232 w_28 w_233 (by decide +kernel) rfl (fun H h => zrecv_LST K (zL_ok (hw.1.1 0 (by omega)).1).1 h) (fun H h => h) ⟨Nat.le_of_ble_eq_true rfl, Nat.le_of_ble_eq_true rfl⟩ ⟨Nat.le_of_ble_eq_true rfl, Nat.le_of_ble_eq_true rfl⟩ (Nat.le_of_ble_eq_true rfl) rfl rfl ?_
  refine zi_iconst K (dX8_loss_p0 5 rfl) zk_i1 ?_
  refine zi_isub K (dX8_loss_p0 6 rfl) ?_
  refine zi_callS K (na := 3) (As := [.int (nI p), .int 0, .int ((nI (sZ σ 0)) - 1)]) [] [.int (v_isOut σ (nI p) 0 ((nI (sZ σ 0)) - 1))] (c_isOut  (nI p) 0 ((nI (sZ σ 0)) - 1)) (dX8_loss_p0 7 rfl) w_234 w_235 w_25 w_236 (by decide +kernel) rfl (fun H h => h) ⟨Nat.le_of_ble_eq_true rfl, Nat.le_of_ble_eq_true rfl⟩ ⟨Nat.le_of_ble_eq_true rfl, Nat.le_of_ble_eq_true rfl⟩ (Nat.le_of_ble_eq_true rfl) rfl rfl ?_
  refine zi_if_eq K 27 (dX8_loss_p0 8 rfl) rfl (fun h14_0 => ?_) (fun h14_0 => ?_)
  rotate_left
  · exact absurd (isOut_ok (i := p) (n := sZ σ 0) (by rw [hw.1.2.1.1]; exact hp) (by have := hw.1.2.1.1; have := hw.1.2.1.2; omega)) h14_0
  refine zi_iload_n K (dX8_loss_p0 14 rfl) 2 rfl ?_
  refine zi_iload_n K (dX8_loss_p0 15 rfl) 3 rfl ?_
  refine zi_callS K (na := 2) (As := [.int v2, .int v3]) [] [.int (v_isSpan σ v2 v3)] (c_isSpan  v2 v3) (dX8_loss_p0 16 rfl) w_672 w_673 w_25 w_674 (by decide +kernel) rfl (fun H h => h) ⟨Nat.le_of_ble_eq_true rfl, Nat.le_of_ble_eq_true rfl⟩ ⟨Nat.le_of_ble_eq_true rfl, Nat.le_of_ble_eq_true rfl⟩ (Nat.le_of_ble_eq_true rfl) rfl rfl ?_
  refine zi_if_eq K 46 (dX8_loss_p0 17 rfl) rfl (fun h32_0 => ?_) (fun h32_0 => ?_)
  · exact absurd h32_0 hs
  refine zi_iload K (dX8_loss_p0 18 rfl) 4 rfl ?_
  refine zi_iconst K (dX8_loss_p0 19 rfl) zk_i0 ?_
  refine zi_ldc K (dX8_loss_p0 20 rfl) w_671 ?_
  refine zi_callS K (na := 3) (As := [.int v4, .int 0, .int 1000000]) [] [.int (v_isOut σ v4 0 1000000)] (c_isOut  v4 0 1000000) (dX8_loss_p0 21 rfl) w_234 w_235 w_25 w_236 (by decide +kernel) rfl (fun H h => h) ⟨Nat.le_of_ble_eq_true rfl, Nat.le_of_ble_eq_true rfl⟩ ⟨Nat.le_of_ble_eq_true rfl, Nat.le_of_ble_eq_true rfl⟩ (Nat.le_of_ble_eq_true rfl) rfl rfl ?_
  refine zi_if_eq K 56 (dX8_loss_p0 22 rfl) rfl (fun h43_0 => ?_) (fun h43_0 => ?_)
  rotate_left
  · exact absurd hv4 h43_0
  refine zi_aload_n K (dX8_loss_p0 28 rfl) 0 rfl ?_
  refine zg_O_policies K rfl w_194 (dX8_loss_p0 29 rfl) ?_
  refine zi_iload_n K (dX8_loss_p0 30 rfl) 1 rfl ?_
  refine zi_callV K (na := 1) [] [.ref (ad 1 p)] (c_getK (σ := σ) 0 p p 1 rfl (hw.rl.2 0 (by decide)).1.1 (by rw [hw.1.2.1.1]; exact hp) (by rw [zL_x (hw.rl.2 0 (by decide)).1 (by rw [hw.1.2.1.1]; exact hp), hw.2.1.1 p hp])) (dX8_loss_p0 31 rfl) w_309 w_310 w_311 w_28 w_312 (by decide +kernel) rfl (fun H h => zrecv_LST K (by decide) h) (fun H h => h) ⟨Nat.le_of_ble_eq_true rfl, Nat.le_of_ble_eq_true rfl⟩ ⟨Nat.le_of_ble_eq_true rfl, Nat.le_of_ble_eq_true rfl⟩ (Nat.le_of_ble_eq_true rfl) rfl rfl ?_
  refine zi_cast K (fun H h => (zr_POL (σ := σ) hp H h).1) rfl w_707 (dX8_loss_p0 32 rfl) ?_
  refine zi_astore K [(5, .ref (ad 1 p)), (0, .ref (ad 0 0)), (1, .int (nI p)), (2, .int v2), (3, .int v3), (4, .int v4)] (dX8_loss_p0 33 rfl) (by decide) rfl ?_
  refine zi_aload K (dX8_loss_p0 34 rfl) 0 rfl ?_
  refine zi_iload_n K (dX8_loss_p0 35 rfl) 3 rfl ?_
  refine zi_callV K (na := 1) [] [.int (v_inForce σ p v2)] (c_inForce  p v2 hp) (dX8_loss_p0 36 rfl) w_809 w_609 w_610 w_37 w_611 (by decide +kernel) rfl (fun H h => zi_recv K (zr_POL (σ := σ) hp H h).1 rfl) (fun H h => h) ⟨Nat.le_of_ble_eq_true rfl, Nat.le_of_ble_eq_true rfl⟩ ⟨Nat.le_of_ble_eq_true rfl, Nat.le_of_ble_eq_true rfl⟩ (Nat.le_of_ble_eq_true rfl) rfl rfl ?_
  refine zi_if_ne K 88 (dX8_loss_p0 37 rfl) rfl (fun h75_0 => ?_) (fun h75_0 => ?_)
  rotate_left
  · exact absurd h75_0 hf
  refine zi_aload_n K (dX8_loss_p0 43 rfl) 1 rfl ?_
  refine zg_O_claims K rfl w_195 (dX8_loss_p0 44 rfl) ?_
  refine zi_callV K (na := 0) [] [.int (nI (sZ σ 1))] (c_sizeN (σ := σ) 1 (sZ σ 1) (zL_ok (hw.1.1 1 (by omega)).1).1 rfl) (dX8_loss_p0 45 rfl) w_230 w_231 w_232 w_28 w_233 (by decide +kernel) rfl (fun H h => zrecv_LST K (zL_ok (hw.1.1 1 (by omega)).1).1 h) (fun H h => h) ⟨Nat.le_of_ble_eq_true rfl, Nat.le_of_ble_eq_true rfl⟩ ⟨Nat.le_of_ble_eq_true rfl, Nat.le_of_ble_eq_true rfl⟩ (Nat.le_of_ble_eq_true rfl) rfl rfl ?_
  refine zi_bipush K (dX8_loss_p0 46 rfl) zk_b30 ?_
  refine zi_icmp_lt K 110 (dX8_loss_p0 47 rfl) rfl (fun h97_0 => ?_) (fun h97_0 => ?_)
  · exact absurd h97_0 (show ¬ nI (sZ σ 1) < 30 from by rw [hw.1.2.2.1.1, hN]; decide)
  exact zi_throw K hx (by decide +kernel) zwc_ISE zwi_ISE (List.mem_of_getElem? (i := 5) rfl) (zth_ISE K.2.2.2.2.1 K.2.2.2.2.2.1) zto_ISE (dX8_loss_p0 48 rfl) (dX8_loss_p0 49 rfl) (dX8_loss_p1 0 rfl) (dX8_loss_p1 1 rfl) (dX8_loss_p1 2 rfl) ⟨Nat.le_of_ble_eq_true rfl, Nat.le_of_ble_eq_true rfl⟩ ⟨Nat.le_of_ble_eq_true rfl, Nat.le_of_ble_eq_true rfl⟩ ⟨Nat.le_refl _, Nat.le_refl _⟩ zP.thr
set_option maxRecDepth 100000 in
set_option maxHeartbeats 4000000 in
theorem t_reinstate {G : zG} {ad : Nat → Nat → Nat} {σ : zSt} (t : Nat) (m p z : Int32) (hw : zW σ) (ht : t < sN σ 2) (hm : v_isOut σ m 0 5 = 0) (hp : v_isOut σ p 0 200 = 0) (hz : (narrow .boolean (.int z) = .int z ∧ fits .boolean (.int z) = true)) (hl : v_isLimited σ t = 0) : zCX G yX8_reinstate cX8_reinstate 7 (some FieldType.int) 20 300 1 6 [.ref (ad 0 0), .int (nI t), .int m, .int p, .int z] (zP G ad σ) "java/lang/UnsupportedOperationException" (zP G ad σ) := by
  refine zCX_of (by decide) (Nat.le_of_ble_eq_true rfl) (fun X K hx => ?_)
  show zV G X 7 (zP G ad σ) 0 0 0 [(0, .ref (ad 0 0)), (1, .int (nI t)), (2, .int m), (3, .int p), (4, .int z)] []
  refine zi_aload_n K (dX8_reinstate 0 rfl) 0 rfl ?_
  refine zi_iload_n K (dX8_reinstate 1 rfl) 1 rfl ?_
  refine zi_callV K (na := 1) [] [.ref (ad 5 t)] (c_treatyAtW (σ := σ) t hw ht) (dX8_reinstate 2 rfl) w_226 w_228 w_0 w_25 w_229 (by decide +kernel) rfl (fun H h => zi_recv K (zr_O (σ := σ) rfl H h).1 rfl) (fun H h => h) ⟨Nat.le_of_ble_eq_true rfl, Nat.le_of_ble_eq_true rfl⟩ ⟨Nat.le_of_ble_eq_true rfl, Nat.le_of_ble_eq_true rfl⟩ (Nat.le_of_ble_eq_true rfl) rfl rfl ?_
  refine zi_astore K [(5, .ref (ad 5 t)), (0, .ref (ad 0 0)), (1, .int (nI t)), (2, .int m), (3, .int p), (4, .int z)] (dX8_reinstate 3 rfl) (by decide) rfl ?_
  refine zi_iload_n K (dX8_reinstate 4 rfl) 3 rfl ?_
  refine zi_iconst K (dX8_reinstate 5 rfl) zk_i0 ?_
  refine zi_iconst K (dX8_reinstate 6 rfl) zk_i5 ?_
  refine zi_callS K (na := 3) (As := [.int m, .int 0, .int 5]) [] [.int (v_isOut σ m 0 5)] (c_isOut  m 0 5) (dX8_reinstate 7 rfl) w_234 w_235 w_25 w_236 (by decide +kernel) rfl (fun H h => h) ⟨Nat.le_of_ble_eq_true rfl, Nat.le_of_ble_eq_true rfl⟩ ⟨Nat.le_of_ble_eq_true rfl, Nat.le_of_ble_eq_true rfl⟩ (Nat.le_of_ble_eq_true rfl) rfl rfl ?_
  refine zi_if_ne K 27 (dX8_reinstate 8 rfl) rfl (fun h13_0 => ?_) (fun h13_0 => ?_)
  · exact absurd hm h13_0
  refine zi_iload_n K (dX8_reinstate 9 rfl) 4 rfl ?_
  refine zi_iconst K (dX8_reinstate 10 rfl) zk_i0 ?_
  refine zi_sipush K (dX8_reinstate 11 rfl) zk_s200 ?_
  refine zi_callS K (na := 3) (As := [.int p, .int 0, .int 200]) [] [.int (v_isOut σ p 0 200)] (c_isOut  p 0 200) (dX8_reinstate 12 rfl) w_234 w_235 w_25 w_236 (by decide +kernel) rfl (fun H h => h) ⟨Nat.le_of_ble_eq_true rfl, Nat.le_of_ble_eq_true rfl⟩ ⟨Nat.le_of_ble_eq_true rfl, Nat.le_of_ble_eq_true rfl⟩ (Nat.le_of_ble_eq_true rfl) rfl rfl ?_
  refine zi_if_eq K 37 (dX8_reinstate 13 rfl) rfl (fun h24_0 => ?_) (fun h24_0 => ?_)
  rotate_left
  · exact absurd hp h24_0
  refine zi_aload K (dX8_reinstate 19 rfl) 0 rfl ?_
  refine zi_callV K (na := 0) [] [.int (v_isLimited σ t)] (c_isLimited  t ht) (dX8_reinstate 20 rfl) w_1206 w_375 w_376 w_55 w_377 (by decide +kernel) rfl (fun H h => zi_recv K (zr_TR (σ := σ) ht H h).1 rfl) (fun H h => h) ⟨Nat.le_of_ble_eq_true rfl, Nat.le_of_ble_eq_true rfl⟩ ⟨Nat.le_of_ble_eq_true rfl, Nat.le_of_ble_eq_true rfl⟩ (Nat.le_of_ble_eq_true rfl) rfl rfl ?_
  refine zi_if_ne K 55 (dX8_reinstate 21 rfl) rfl (fun h42_0 => ?_) (fun h42_0 => ?_)
  · exact absurd hl h42_0
  exact zi_throw K hx (by decide +kernel) zwc_UOE zwi_UOE (List.mem_of_getElem? (i := 9) rfl) (zth_UOE K.2.2.2.2.1 K.2.2.2.2.2.1) zto_UOE (dX8_reinstate 22 rfl) (dX8_reinstate 23 rfl) (dX8_reinstate 24 rfl) (dX8_reinstate 25 rfl) (dX8_reinstate 26 rfl) ⟨Nat.le_of_ble_eq_true rfl, Nat.le_of_ble_eq_true rfl⟩ ⟨Nat.le_of_ble_eq_true rfl, Nat.le_of_ble_eq_true rfl⟩ ⟨Nat.le_refl _, Nat.le_refl _⟩ zP.thr
set_option maxRecDepth 100000 in
set_option maxHeartbeats 4000000 in
theorem t_share {G : zG} {ad : Nat → Nat → Nat} {σ : zSt} (t r : Nat) (s : Int32) (hw : zW σ) (ht : t < sN σ 2) (hr : r < 5) (hs : v_isOut σ s 0 100 = 0) (ha : ¬ v_allShares σ t - sI σ 21 t r + s ≤ 100) : zCX G yX8_share cX8_share 6 (some FieldType.int) 20 300 1 6 [.ref (ad 0 0), .int (nI t), .int (nI r), .int s] (zP G ad σ) "java/lang/UnsupportedOperationException" (zP G ad σ) := by
  refine zCX_of (by decide) (Nat.le_of_ble_eq_true rfl) (fun X K hx => ?_)
  show zV G X 6 (zP G ad σ) 0 0 0 [(0, .ref (ad 0 0)), (1, .int (nI t)), (2, .int (nI r)), (3, .int s)] []
  refine zi_aload_n K (dX8_share 0 rfl) 0 rfl ?_
  refine zi_iload_n K (dX8_share 1 rfl) 1 rfl ?_
  refine zi_callV K (na := 1) [] [.ref (ad 5 t)] (c_treatyAtW (σ := σ) t hw ht) (dX8_share 2 rfl) w_226 w_228 w_0 w_25 w_229 (by decide +kernel) rfl (fun H h => zi_recv K (zr_O (σ := σ) rfl H h).1 rfl) (fun H h => h) ⟨Nat.le_of_ble_eq_true rfl, Nat.le_of_ble_eq_true rfl⟩ ⟨Nat.le_of_ble_eq_true rfl, Nat.le_of_ble_eq_true rfl⟩ (Nat.le_of_ble_eq_true rfl) rfl rfl ?_
  refine zi_astore K [(4, .ref (ad 5 t)), (0, .ref (ad 0 0)), (1, .int (nI t)), (2, .int (nI r)), (3, .int s)] (dX8_share 3 rfl) (by decide) rfl ?_
  refine zi_iload_n K (dX8_share 4 rfl) 3 rfl ?_
  refine zi_callS K (na := 1) (As := [.int (nI r)]) [] [] (c_checkRe (σ := σ) r hr) (dX8_share 5 rfl) w_1223 w_1224 w_25 w_1225 (by decide +kernel) rfl (fun H h => h) ⟨Nat.le_of_ble_eq_true rfl, Nat.le_of_ble_eq_true rfl⟩ ⟨Nat.le_of_ble_eq_true rfl, Nat.le_of_ble_eq_true rfl⟩ (Nat.le_of_ble_eq_true rfl) rfl rfl ?_
  refine zi_iload_n K (dX8_share 6 rfl) 4 rfl ?_
  refine zi_iconst K (dX8_share 7 rfl) zk_i0 ?_
  refine zi_bipush K (dX8_share 8 rfl) zk_b100 ?_
  refine zi_callS K (na := 3) (As := [.int s, .int 0, .int 100]) [] [.int (v_isOut σ s 0 100)] (c_isOut  s 0 100) (dX8_share 9 rfl) w_234 w_235 w_25 w_236 (by decide +kernel) rfl (fun H h => h) ⟨Nat.le_of_ble_eq_true rfl, Nat.le_of_ble_eq_true rfl⟩ ⟨Nat.le_of_ble_eq_true rfl, Nat.le_of_ble_eq_true rfl⟩ (Nat.le_of_ble_eq_true rfl) rfl rfl ?_
  refine zi_if_eq K 31 (dX8_share 10 rfl) rfl (fun h18_0 => ?_) (fun h18_0 => ?_)
  rotate_left
  · exact absurd hs h18_0
  refine zi_aload K (dX8_share 16 rfl) 0 rfl ?_
  refine zg_TR_shares K ht w_1105 (dX8_share 17 rfl) ?_
  refine zi_iload_n K (dX8_share 18 rfl) 3 rfl ?_
  refine zl_SHR K ht r rfl hr (dX8_share 19 rfl) ?_
  refine zi_istore K [(5, .int (sI σ 21 t r)), (4, .ref (ad 5 t)), (0, .ref (ad 0 0)), (1, .int (nI t)), (2, .int (nI r)), (3, .int s)] (dX8_share 20 rfl) (by decide) rfl ?_
  refine zi_aload K (dX8_share 21 rfl) 1 rfl ?_
  refine zi_callV K (na := 0) [] [.int (v_allShares σ t)] (c_allShares  t ht) (dX8_share 22 rfl) w_1228 w_1229 w_1230 w_55 w_1231 (by decide +kernel) rfl (fun H h => zi_recv K (zr_TR (σ := σ) ht H h).1 rfl) (fun H h => h) ⟨Nat.le_of_ble_eq_true rfl, Nat.le_of_ble_eq_true rfl⟩ ⟨Nat.le_of_ble_eq_true rfl, Nat.le_of_ble_eq_true rfl⟩ (Nat.le_of_ble_eq_true rfl) rfl rfl ?_
  refine zi_iload K (dX8_share 23 rfl) 0 rfl ?_
  refine zi_isub K (dX8_share 24 rfl) ?_
  refine zi_iload_n K (dX8_share 25 rfl) 5 rfl ?_
  refine zi_iadd K (dX8_share 26 rfl) ?_
  refine zi_bipush K (dX8_share 27 rfl) zk_b100 ?_
  refine zi_icmp_le K 65 (dX8_share 28 rfl) rfl (fun h52_0 => ?_) (fun h52_0 => ?_)
  · exact absurd h52_0 ha
  exact zi_throw K hx (by decide +kernel) zwc_UOE zwi_UOE (List.mem_of_getElem? (i := 7) rfl) (zth_UOE K.2.2.2.2.1 K.2.2.2.2.2.1) zto_UOE (dX8_share 29 rfl) (dX8_share 30 rfl) (dX8_share 31 rfl) (dX8_share 32 rfl) (dX8_share 33 rfl) ⟨Nat.le_of_ble_eq_true rfl, Nat.le_of_ble_eq_true rfl⟩ ⟨Nat.le_of_ble_eq_true rfl, Nat.le_of_ble_eq_true rfl⟩ ⟨Nat.le_refl _, Nat.le_refl _⟩ zP.thr
set_option maxRecDepth 100000 in
set_option maxHeartbeats 4000000 in
theorem t_commute {G : zG} {ad : Nat → Nat → Nat} {σ : zSt} (t : Nat) (p : Int32) (hw : zW σ) (ht : t < sN σ 2) (hp : v_isOut σ p 0 1000000 = 0) (hcm : ¬ sI σ 19 (t % 8) 0 = 0) : zCX G yX8_commute cX8_commute 4 (some FieldType.long) 14 403 1 6 [.ref (ad 0 0), .int (nI t), .int p] (zP G ad σ) "java/lang/UnsupportedOperationException" (zP G ad σ) := by
  refine zCX_of (by decide) (Nat.le_of_ble_eq_true rfl) (fun X K hx => ?_)
  show zV G X 4 (zP G ad σ) 0 0 0 [(0, .ref (ad 0 0)), (1, .int (nI t)), (2, .int p)] []
  refine zi_aload_n K (dX8_commute 0 rfl) 0 rfl ?_
  refine zi_iload_n K (dX8_commute 1 rfl) 1 rfl ?_
  refine zi_callV K (na := 1) [] [.ref (ad 7 t)] (c_coverAtW (σ := σ) t hw ht) (dX8_commute 2 rfl) w_1240 w_1242 w_21 w_25 w_1243 (by decide +kernel) rfl (fun H h => zi_recv K (zr_O (σ := σ) rfl H h).1 rfl) (fun H h => h) ⟨Nat.le_of_ble_eq_true rfl, Nat.le_of_ble_eq_true rfl⟩ ⟨Nat.le_of_ble_eq_true rfl, Nat.le_of_ble_eq_true rfl⟩ (Nat.le_of_ble_eq_true rfl) rfl rfl ?_
  refine zi_astore_n K [(3, .ref (ad 7 t)), (0, .ref (ad 0 0)), (1, .int (nI t)), (2, .int p)] (dX8_commute 3 rfl) (by decide) rfl ?_
  refine zi_iload_n K (dX8_commute 4 rfl) 3 rfl ?_
  refine zi_iconst K (dX8_commute 5 rfl) zk_i0 ?_
  refine zi_ldc K (dX8_commute 6 rfl) w_671 ?_
  refine zi_callS K (na := 3) (As := [.int p, .int 0, .int 1000000]) [] [.int (v_isOut σ p 0 1000000)] (c_isOut  p 0 1000000) (dX8_commute 7 rfl) w_234 w_235 w_25 w_236 (by decide +kernel) rfl (fun H h => h) ⟨Nat.le_of_ble_eq_true rfl, Nat.le_of_ble_eq_true rfl⟩ ⟨Nat.le_of_ble_eq_true rfl, Nat.le_of_ble_eq_true rfl⟩ (Nat.le_of_ble_eq_true rfl) rfl rfl ?_
  refine zi_if_eq K 26 (dX8_commute 8 rfl) rfl (fun h13_0 => ?_) (fun h13_0 => ?_)
  rotate_left
  · exact absurd hp h13_0
  refine zi_aload_n K (dX8_commute 14 rfl) 0 rfl ?_
  refine zg_COV_treaty K (hw.V ht).1 w_1163 (dX8_commute 15 rfl) ?_
  refine zg_TR_isCommuted K (hw.cv _ (hw.V ht).1) w_1121 (dX8_commute 16 rfl) ?_
  refine zi_if_eq K 46 (dX8_commute 17 rfl) rfl (fun h33_0 => ?_) (fun h33_0 => ?_)
  · exact absurd h33_0 hcm
  exact zi_throw K hx (by decide +kernel) zwc_UOE zwi_UOE (List.mem_of_getElem? (i := 8) rfl) (zth_UOE K.2.2.2.2.1 K.2.2.2.2.2.1) zto_UOE (dX8_commute 18 rfl) (dX8_commute 19 rfl) (dX8_commute 20 rfl) (dX8_commute 21 rfl) (dX8_commute 22 rfl) ⟨Nat.le_of_ble_eq_true rfl, Nat.le_of_ble_eq_true rfl⟩ ⟨Nat.le_of_ble_eq_true rfl, Nat.le_of_ble_eq_true rfl⟩ ⟨Nat.le_refl _, Nat.le_refl _⟩ zP.thr
set_option maxRecDepth 100000 in
set_option maxHeartbeats 4000000 in
theorem t_limitU {G : zG} {ad : Nat → Nat → Nat} {σ : zSt} (t : Nat) (hw : zW σ) (ht : t < sN σ 2) (hl : v_isLimited σ (t % 8) = 0) : zCX G yX8_limit cX8_limit 3 (some FieldType.long) 14 403 1 6 [.ref (ad 0 0), .int (nI t)] (zP G ad σ) "java/lang/UnsupportedOperationException" (zP G ad σ) := by
  refine zCX_of (by decide) (Nat.le_of_ble_eq_true rfl) (fun X K hx => ?_)
  show zV G X 3 (zP G ad σ) 0 0 0 [(0, .ref (ad 0 0)), (1, .int (nI t))] []
  refine zi_aload_n K (dX8_limit 0 rfl) 0 rfl ?_
  refine zi_iload_n K (dX8_limit 1 rfl) 1 rfl ?_
  refine zi_callV K (na := 1) [] [.ref (ad 7 t)] (c_coverAtW (σ := σ) t hw ht) (dX8_limit 2 rfl) w_1240 w_1242 w_21 w_25 w_1243 (by decide +kernel) rfl (fun H h => zi_recv K (zr_O (σ := σ) rfl H h).1 rfl) (fun H h => h) ⟨Nat.le_of_ble_eq_true rfl, Nat.le_of_ble_eq_true rfl⟩ ⟨Nat.le_of_ble_eq_true rfl, Nat.le_of_ble_eq_true rfl⟩ (Nat.le_of_ble_eq_true rfl) rfl rfl ?_
  refine zi_astore_n K [(2, .ref (ad 7 t)), (0, .ref (ad 0 0)), (1, .int (nI t))] (dX8_limit 3 rfl) (by decide) rfl ?_
  refine zi_aload_n K (dX8_limit 4 rfl) 0 rfl ?_
  refine zg_COV_treaty K (hw.V ht).1 w_1163 (dX8_limit 5 rfl) ?_
  refine zi_callV K (na := 0) [] [.int (v_isLimited σ (t % 8))] (c_isLimited  (t % 8) (hw.cv _ (hw.V ht).1)) (dX8_limit 6 rfl) w_1206 w_375 w_376 w_55 w_377 (by decide +kernel) rfl (fun H h => zi_recv K (zr_TR (σ := σ) (hw.cv _ (hw.V ht).1) H h).1 rfl) (fun H h => h) ⟨Nat.le_of_ble_eq_true rfl, Nat.le_of_ble_eq_true rfl⟩ ⟨Nat.le_of_ble_eq_true rfl, Nat.le_of_ble_eq_true rfl⟩ (Nat.le_of_ble_eq_true rfl) rfl rfl ?_
  refine zi_if_ne K 26 (dX8_limit 7 rfl) rfl (fun h13_0 => ?_) (fun h13_0 => ?_)
  · exact absurd hl h13_0
  exact zi_throw K hx (by decide +kernel) zwc_UOE zwi_UOE (List.mem_of_getElem? (i := 10) rfl) (zth_UOE K.2.2.2.2.1 K.2.2.2.2.2.1) zto_UOE (dX8_limit 8 rfl) (dX8_limit 9 rfl) (dX8_limit 10 rfl) (dX8_limit 11 rfl) (dX8_limit 12 rfl) ⟨Nat.le_of_ble_eq_true rfl, Nat.le_of_ble_eq_true rfl⟩ ⟨Nat.le_of_ble_eq_true rfl, Nat.le_of_ble_eq_true rfl⟩ ⟨Nat.le_refl _, Nat.le_refl _⟩ zP.thr
set_option maxRecDepth 100000 in
set_option maxHeartbeats 4000000 in
theorem t_limitS {G : zG} {ad : Nat → Nat → Nat} {σ : zSt} (t : Nat) (hw : zW σ) (ht : t < sN σ 2) (hl : ¬ v_isLimited σ (t % 8) = 0) (hcm : ¬ sI σ 19 (t % 8) 0 = 0) : zCX G yX8_limit cX8_limit 3 (some FieldType.long) 14 403 1 6 [.ref (ad 0 0), .int (nI t)] (zP G ad σ) "java/lang/IllegalStateException" (zP G ad σ) := by
  refine zCX_of (by decide) (Nat.le_of_ble_eq_true rfl) (fun X K hx => ?_)
  show zV G X 3 (zP G ad σ) 0 0 0 [(0, .ref (ad 0 0)), (1, .int (nI t))] []
  refine zi_aload_n K (dX8_limit 0 rfl) 0 rfl ?_
  refine zi_iload_n K (dX8_limit 1 rfl) 1 rfl ?_
  refine zi_callV K (na := 1) [] [.ref (ad 7 t)] (c_coverAtW (σ := σ) t hw ht) (dX8_limit 2 rfl) w_1240 w_1242 w_21 w_25 w_1243 (by decide +kernel) rfl (fun H h => zi_recv K (zr_O (σ := σ) rfl H h).1 rfl) (fun H h => h) ⟨Nat.le_of_ble_eq_true rfl, Nat.le_of_ble_eq_true rfl⟩ ⟨Nat.le_of_ble_eq_true rfl, Nat.le_of_ble_eq_true rfl⟩ (Nat.le_of_ble_eq_true rfl) rfl rfl ?_
  refine zi_astore_n K [(2, .ref (ad 7 t)), (0, .ref (ad 0 0)), (1, .int (nI t))] (dX8_limit 3 rfl) (by decide) rfl ?_
  refine zi_aload_n K (dX8_limit 4 rfl) 0 rfl ?_
  refine zg_COV_treaty K (hw.V ht).1 w_1163 (dX8_limit 5 rfl) ?_
  refine zi_callV K (na := 0) [] [.int (v_isLimited σ (t % 8))] (c_isLimited  (t % 8) (hw.cv _ (hw.V ht).1)) (dX8_limit 6 rfl) w_1206 w_375 w_376 w_55 w_377 (by decide +kernel) rfl (fun H h => zi_recv K (zr_TR (σ := σ) (hw.cv _ (hw.V ht).1) H h).1 rfl) (fun H h => h) ⟨Nat.le_of_ble_eq_true rfl, Nat.le_of_ble_eq_true rfl⟩ ⟨Nat.le_of_ble_eq_true rfl, Nat.le_of_ble_eq_true rfl⟩ (Nat.le_of_ble_eq_true rfl) rfl rfl ?_
  refine zi_if_ne K 26 (dX8_limit 7 rfl) rfl (fun h13_0 => ?_) (fun h13_0 => ?_)
  rotate_left
  · exact absurd h13_0 hl
  refine zi_aload_n K (dX8_limit 13 rfl) 0 rfl ?_
  refine zg_COV_treaty K (hw.V ht).1 w_1163 (dX8_limit 14 rfl) ?_
  refine zg_TR_isCommuted K (hw.cv _ (hw.V ht).1) w_1121 (dX8_limit 15 rfl) ?_
  refine zi_if_eq K 46 (dX8_limit 16 rfl) rfl (fun h33_0 => ?_) (fun h33_0 => ?_)
  · exact absurd h33_0 hcm
  exact zi_throw K hx (by decide +kernel) zwc_ISE zwi_ISE (List.mem_of_getElem? (i := 11) rfl) (zth_ISE K.2.2.2.2.1 K.2.2.2.2.2.1) zto_ISE (dX8_limit 17 rfl) (dX8_limit 18 rfl) (dX8_limit 19 rfl) (dX8_limit 20 rfl) (dX8_limit 21 rfl) ⟨Nat.le_of_ble_eq_true rfl, Nat.le_of_ble_eq_true rfl⟩ ⟨Nat.le_of_ble_eq_true rfl, Nat.le_of_ble_eq_true rfl⟩ ⟨Nat.le_refl _, Nat.le_refl _⟩ zP.thr
set_option maxRecDepth 100000 in
set_option maxHeartbeats 4000000 in
theorem t_claimAt {G : zG} {ad : Nat → Nat → Nat} {σ : zSt}  (hw : zW σ) : zCX G yX8_claimAt cX8_claimAt 2 (some (FieldType.object "Layertreaty$Claim")) 6 82 1 6 [.ref (ad 0 0), .int (nI (sN σ 1))] (zP G ad σ) "java/lang/IndexOutOfBoundsException" (zP G ad σ) := by
  refine zCX_of (by decide) (Nat.le_of_ble_eq_true rfl) (fun X K hx => ?_)
  show zV G X 2 (zP G ad σ) 0 0 0 [(0, .ref (ad 0 0)), (1, .int (nI (sN σ 1)))] []
  refine zi_iload_n K (dX8_claimAt 0 rfl) 1 rfl ?_
  refine zi_iconst K (dX8_claimAt 1 rfl) zk_i0 ?_
  refine zi_aload_n K (dX8_claimAt 2 rfl) 0 rfl ?_
  refine zg_O_claims K rfl w_195 (dX8_claimAt 3 rfl) ?_
  refine zi_callV K (na := 0) [.int 0, .int (nI (sN σ 1))] [.int (nI (sZ σ 1)), .int 0, .int (nI (sN σ 1))] (c_sizeN (σ := σ) 1 (sZ σ 1) (zL_ok (hw.1.1 1 (by omega)).1).1 rfl) (dX8_claimAt 4 rfl) w_230 w_231 w_232 w_28 w_233 (by decide +kernel) rfl (fun H h => zrecv_LST K (zL_ok (hw.1.1 1 (by omega)).1).1 h) (fun H h => h) ⟨Nat.le_of_ble_eq_true rfl, Nat.le_of_ble_eq_true rfl⟩ ⟨Nat.le_of_ble_eq_true rfl, Nat.le_of_ble_eq_true rfl⟩ (Nat.le_of_ble_eq_true rfl) rfl rfl ?_
  refine zi_iconst K (dX8_claimAt 5 rfl) zk_i1 ?_
  refine zi_isub K (dX8_claimAt 6 rfl) ?_
  refine zi_callS K (na := 3) (As := [.int (nI (sN σ 1)), .int 0, .int ((nI (sZ σ 1)) - 1)]) [] [.int (v_isOut σ (nI (sN σ 1)) 0 ((nI (sZ σ 1)) - 1))] (c_isOut  (nI (sN σ 1)) 0 ((nI (sZ σ 1)) - 1)) (dX8_claimAt 7 rfl) w_234 w_235 w_25 w_236 (by decide +kernel) rfl (fun H h => h) ⟨Nat.le_of_ble_eq_true rfl, Nat.le_of_ble_eq_true rfl⟩ ⟨Nat.le_of_ble_eq_true rfl, Nat.le_of_ble_eq_true rfl⟩ (Nat.le_of_ble_eq_true rfl) rfl rfl ?_
  refine zi_if_eq K 28 (dX8_claimAt 8 rfl) rfl (fun h14_0 => ?_) (fun h14_0 => ?_)
  · exact absurd (show v_isOut σ (nI (sN σ 1)) 0 (nI (sZ σ 1) - 1) = 0 from h14_0) (by rw [hw.1.2.2.1.1]; exact isOut_no (by have := hw.1.2.2.1.2; omega))
  exact zi_throwW K hx (by decide +kernel) zwc_IOB zwi_IOB (List.mem_of_getElem? (i := 14) rfl) (zth_IOB K.2.2.2.2.1 K.2.2.2.2.2.1) zto_IOB (dX8_claimAt 9 rfl) (dX8_claimAt 10 rfl) (dX8_claimAt 11 rfl) (dX8_claimAt 12 rfl) (dX8_claimAt 13 rfl) ⟨Nat.le_of_ble_eq_true rfl, Nat.le_of_ble_eq_true rfl⟩ ⟨Nat.le_of_ble_eq_true rfl, Nat.le_of_ble_eq_true rfl⟩ ⟨Nat.le_refl _, Nat.le_refl _⟩ zP.thr
set_option maxRecDepth 100000 in
set_option maxHeartbeats 4000000 in
theorem t_coverAt {G : zG} {ad : Nat → Nat → Nat} {σ : zSt} (m0 : Nat) (hw : zW σ) (hm0 : m0 = sN σ 2) : zCX G yX8_coverAt cX8_coverAt 2 (some (FieldType.object "Layertreaty$Cover")) 6 82 1 6 [.ref (ad 0 0), .int (nI m0)] (zP G ad σ) "java/lang/IndexOutOfBoundsException" (zP G ad σ) := by
  refine zCX_of (by decide) (Nat.le_of_ble_eq_true rfl) (fun X K hx => ?_)
  show zV G X 2 (zP G ad σ) 0 0 0 [(0, .ref (ad 0 0)), (1, .int (nI m0))] []
  refine zi_iload_n K (dX8_coverAt 0 rfl) 1 rfl ?_
  refine zi_iconst K (dX8_coverAt 1 rfl) zk_i0 ?_
  refine zi_aload_n K (dX8_coverAt 2 rfl) 0 rfl ?_
  refine zg_O_real K rfl w_199 (dX8_coverAt 3 rfl) ?_
  refine zg_FL_covers K (by decide) w_135 (dX8_coverAt 4 rfl) ?_
  refine zi_callV K (na := 0) [.int 0, .int (nI m0)] [.int (nI (sZ σ 6)), .int 0, .int (nI m0)] (c_sizeN (σ := σ) 6 (sZ σ 6) (zL_ok (hw.1.1 6 (by omega)).1).1 rfl) (dX8_coverAt 5 rfl) w_230 w_231 w_232 w_28 w_233 (by decide +kernel) rfl (fun H h => zrecv_LST K (zL_ok (hw.1.1 6 (by omega)).1).1 h) (fun H h => h) ⟨Nat.le_of_ble_eq_true rfl, Nat.le_of_ble_eq_true rfl⟩ ⟨Nat.le_of_ble_eq_true rfl, Nat.le_of_ble_eq_true rfl⟩ (Nat.le_of_ble_eq_true rfl) rfl rfl ?_
  refine zi_iconst K (dX8_coverAt 6 rfl) zk_i1 ?_
  refine zi_isub K (dX8_coverAt 7 rfl) ?_
  refine zi_callS K (na := 3) (As := [.int (nI m0), .int 0, .int ((nI (sZ σ 6)) - 1)]) [] [.int (v_isOut σ (nI m0) 0 ((nI (sZ σ 6)) - 1))] (c_isOut  (nI m0) 0 ((nI (sZ σ 6)) - 1)) (dX8_coverAt 8 rfl) w_234 w_235 w_25 w_236 (by decide +kernel) rfl (fun H h => h) ⟨Nat.le_of_ble_eq_true rfl, Nat.le_of_ble_eq_true rfl⟩ ⟨Nat.le_of_ble_eq_true rfl, Nat.le_of_ble_eq_true rfl⟩ (Nat.le_of_ble_eq_true rfl) rfl rfl ?_
  refine zi_if_eq K 30 (dX8_coverAt 9 rfl) rfl (fun h17_0 => ?_) (fun h17_0 => ?_)
  · exact absurd (show v_isOut σ (nI m0) 0 (nI (sZ σ 6) - 1) = 0 from h17_0) (by rw [hw.1.2.2.2.2.2.2.2.1.1, ← hm0]; exact isOut_no (by have := hw.1.2.2.2.1.2; omega))
  exact zi_throw K hx (by decide +kernel) zwc_IOB zwi_IOB (List.mem_of_getElem? (i := 15) rfl) (zth_IOB K.2.2.2.2.1 K.2.2.2.2.2.1) zto_IOB (dX8_coverAt 10 rfl) (dX8_coverAt 11 rfl) (dX8_coverAt 12 rfl) (dX8_coverAt 13 rfl) (dX8_coverAt 14 rfl) ⟨Nat.le_of_ble_eq_true rfl, Nat.le_of_ble_eq_true rfl⟩ ⟨Nat.le_of_ble_eq_true rfl, Nat.le_of_ble_eq_true rfl⟩ ⟨Nat.le_refl _, Nat.le_refl _⟩ zP.thr
set_option maxRecDepth 100000 in
set_option maxHeartbeats 4000000 in
theorem t_hasEvents {G : zG} {ad : Nat → Nat → Nat} {σ : zSt} (t : Nat) (ht : t < sN σ 2) (he : ¬ sI σ 8 t 0 = 101) : zCX G yX8_checkHasEvents cX8_checkHasEvents 1 none 6 82 1 6 [.ref (ad 5 t)] (zP G ad σ) "java/lang/UnsupportedOperationException" (zP G ad σ) := by
  refine zCX_of (by decide) (Nat.le_of_ble_eq_true rfl) (fun X K hx => ?_)
  show zV G X 1 (zP G ad σ) 0 0 0 [(0, .ref (ad 5 t))] []
  refine zi_aload_n K (dX8_checkHasEvents 0 rfl) 0 rfl ?_
  refine zg_TR_kind K ht w_1097 (dX8_checkHasEvents 1 rfl) ?_
  refine zi_bipush K (dX8_checkHasEvents 2 rfl) zk_b101 ?_
  refine zi_icmp_eq K 20 (dX8_checkHasEvents 3 rfl) rfl (fun h6_0 => ?_) (fun h6_0 => ?_)
  · exact absurd h6_0 he
  exact zi_throwW K hx (by decide +kernel) zwc_UOE zwi_UOE (List.mem_of_getElem? (i := 12) rfl) (zth_UOE K.2.2.2.2.1 K.2.2.2.2.2.1) zto_UOE (dX8_checkHasEvents 4 rfl) (dX8_checkHasEvents 5 rfl) (dX8_checkHasEvents 6 rfl) (dX8_checkHasEvents 7 rfl) (dX8_checkHasEvents 8 rfl) ⟨Nat.le_of_ble_eq_true rfl, Nat.le_of_ble_eq_true rfl⟩ ⟨Nat.le_of_ble_eq_true rfl, Nat.le_of_ble_eq_true rfl⟩ ⟨Nat.le_refl _, Nat.le_refl _⟩ zP.thr
set_option maxRecDepth 100000 in
set_option maxHeartbeats 4000000 in
theorem t_left {G : zG} {ad : Nat → Nat → Nat} {σ : zSt}  (hw : zW σ) : zCX G yX8_left cX8_left 3 (some FieldType.long) 14 403 1 6 [.ref (ad 0 0), .int (nI (sN σ 1))] (zP G ad σ) "java/lang/IndexOutOfBoundsException" (zP G ad σ) := by
  refine zCX_of (by decide) (Nat.le_of_ble_eq_true rfl) (fun X K hx => ?_)
  show zV G X 3 (zP G ad σ) 0 0 0 [(0, .ref (ad 0 0)), (1, .int (nI (sN σ 1)))] []
  refine zi_aload_n K (dX8_left 0 rfl) 0 rfl ?_
  refine zi_iload_n K (dX8_left 1 rfl) 1 rfl ?_
  exact zi_callVXo K hx (na := 1) [] (t_claimAt (G := G) (ad := ad) (σ := σ) hw) (dX8_left 2 rfl) w_1066 w_1068 w_20 w_25 w_1069 (by decide +kernel) rfl (fun H h => zi_recv K (zr_O (σ := σ) rfl H h).1 rfl) (fun H h => h) ⟨Nat.le_of_ble_eq_true rfl, Nat.le_of_ble_eq_true rfl⟩ ⟨Nat.le_of_ble_eq_true rfl, Nat.le_of_ble_eq_true rfl⟩ (Nat.le_of_ble_eq_true rfl) rfl (fun H h => h) ⟨Nat.le_refl _, Nat.le_refl _⟩
set_option maxRecDepth 100000 in
set_option maxHeartbeats 4000000 in
theorem t_events {G : zG} {ad : Nat → Nat → Nat} {σ : zSt} (t z : Nat) (hw : zW σ) (ht : t < sN σ 2) (hz : v_isOut σ (nI z) 0 3 = 0) (he : ¬ sI σ 8 (t % 8) 0 = 101) : zCX G yX8_events cX8_events 4 (some FieldType.int) 14 403 1 6 [.ref (ad 0 0), .int (nI t), .int (nI z)] (zP G ad σ) "java/lang/UnsupportedOperationException" (zP G ad σ) := by
  refine zCX_of (by decide) (Nat.le_of_ble_eq_true rfl) (fun X K hx => ?_)
  show zV G X 4 (zP G ad σ) 0 0 0 [(0, .ref (ad 0 0)), (1, .int (nI t)), (2, .int (nI z))] []
  refine zi_aload_n K (dX8_events 0 rfl) 0 rfl ?_
  refine zi_iload_n K (dX8_events 1 rfl) 1 rfl ?_
  refine zi_callV K (na := 1) [] [.ref (ad 7 t)] (c_coverAtW (σ := σ) t hw ht) (dX8_events 2 rfl) w_1240 w_1242 w_21 w_25 w_1243 (by decide +kernel) rfl (fun H h => zi_recv K (zr_O (σ := σ) rfl H h).1 rfl) (fun H h => h) ⟨Nat.le_of_ble_eq_true rfl, Nat.le_of_ble_eq_true rfl⟩ ⟨Nat.le_of_ble_eq_true rfl, Nat.le_of_ble_eq_true rfl⟩ (Nat.le_of_ble_eq_true rfl) rfl rfl ?_
  refine zi_astore_n K [(3, .ref (ad 7 t)), (0, .ref (ad 0 0)), (1, .int (nI t)), (2, .int (nI z))] (dX8_events 3 rfl) (by decide) rfl ?_
  refine zi_iload_n K (dX8_events 4 rfl) 3 rfl ?_
  refine zi_iconst K (dX8_events 5 rfl) zk_i0 ?_
  refine zi_iconst K (dX8_events 6 rfl) zk_i3 ?_
  refine zi_callS K (na := 3) (As := [.int (nI z), .int 0, .int 3]) [] [.int (v_isOut σ (nI z) 0 3)] (c_isOut  (nI z) 0 3) (dX8_events 7 rfl) w_234 w_235 w_25 w_236 (by decide +kernel) rfl (fun H h => h) ⟨Nat.le_of_ble_eq_true rfl, Nat.le_of_ble_eq_true rfl⟩ ⟨Nat.le_of_ble_eq_true rfl, Nat.le_of_ble_eq_true rfl⟩ (Nat.le_of_ble_eq_true rfl) rfl rfl ?_
  refine zi_if_eq K 26 (dX8_events 8 rfl) rfl (fun h12_0 => ?_) (fun h12_0 => ?_)
  rotate_left
  · exact absurd hz h12_0
  refine zi_aload_n K (dX8_events 14 rfl) 0 rfl ?_
  refine zg_COV_treaty K (hw.V ht).1 w_1163 (dX8_events 15 rfl) ?_
  exact zi_callSXo K hx (na := 1) (As := [.ref (ad 5 (t % 8))]) [] (t_hasEvents (G := G) (ad := ad) (σ := σ) (t % 8) (hw.cv _ (hw.V ht).1) he) (dX8_events 16 rfl) w_324 w_325 w_25 w_326 (by decide +kernel) rfl (fun H h => h) ⟨Nat.le_of_ble_eq_true rfl, Nat.le_of_ble_eq_true rfl⟩ ⟨Nat.le_of_ble_eq_true rfl, Nat.le_of_ble_eq_true rfl⟩ (Nat.le_of_ble_eq_true rfl) rfl (fun H h => h) ⟨Nat.le_refl _, Nat.le_refl _⟩
theorem zt_1c {x : Nat} : 0 + x ≤ x + 1 := by omega
theorem zt_1s {y : Nat} : 0 + y ≤ y + 6 := by omega
theorem zt_2c {x : Nat} : 0 + x + 1 ≤ x + 1 := by omega
theorem zt_2s {y : Nat} : 0 + y + 6 ≤ y + 6 := by omega
set_option maxRecDepth 100000 in
set_option maxHeartbeats 4000000 in
theorem t_taken {G : zG} {ad : Nat → Nat → Nat} {σ : zSt}  (hw : zW σ) : zCX G yX8_taken cX8_taken 2 (some FieldType.long) 14 403 (sgc (s_settle σ) - sgc σ + 1) (sgs (s_settle σ) - sgs σ + 6) [.ref (ad 0 0), .int (nI (sN σ 2))] (zP G ad σ) "java/lang/IndexOutOfBoundsException" (zP G ad (s_settle σ)) := by
  refine zCX_of (by decide) (Nat.le_of_ble_eq_true rfl) (fun X K hx => ?_)
  show zV G X 2 (zP G ad σ) 0 0 0 [(0, .ref (ad 0 0)), (1, .int (nI (sN σ 2)))] []
  refine zi_aload_n K (dX8_taken 0 rfl) 0 rfl ?_
  refine zi_callV K (na := 0) [] [] (c_settle (σ := σ) hw.wf0) (dX8_taken 1 rfl) w_546 w_548 w_13 w_25 w_549 (by decide +kernel) rfl (fun H h => zi_recv K (zr_O (σ := σ) rfl H h).1 rfl) (fun H h => h) ⟨Nat.le_of_ble_eq_true rfl, Nat.le_of_ble_eq_true rfl⟩ ⟨zt_1c, zt_1s⟩ (Nat.le_of_ble_eq_true rfl) rfl rfl ?_
  have e1 : zSx zQd (s_settle σ) σ := ((settle_W hw).2.1).trans zSx.rf
  refine zi_aload_n K (dX8_taken 2 rfl) 0 rfl ?_
  refine zi_iload_n K (dX8_taken 3 rfl) 1 rfl ?_
  exact zi_callVXo K hx (na := 1) [] (t_coverAt (G := G) (ad := ad) (σ := s_settle σ) (sN σ 2) (settle_W hw).1 (congrFun (settle_W hw).2.1.1 2).symm) (dX8_taken 4 rfl) w_1240 w_1242 w_21 w_25 w_1243 (by decide +kernel) rfl (fun H h => zi_recv K (zr_O (σ := (s_settle σ)) rfl H h).1 rfl) (fun H h => h) ⟨Nat.le_of_ble_eq_true rfl, Nat.le_of_ble_eq_true rfl⟩ ⟨zt_2c, zt_2s⟩ (Nat.le_of_ble_eq_true rfl) rfl (fun H h => h) ⟨Nat.le_refl _, Nat.le_refl _⟩
