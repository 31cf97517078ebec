/-! the law's branch of scenarios -/
set_option maxRecDepth 100000 in
set_option maxHeartbeats 8000000 in
theorem b_scenario {G : zG} {X : zX} {bs Ls o a : Nat} {ys : Nat → Int32} {σ : zSt} {f : Nat → Int32} {B i : Nat} {cmt : Int64} {rm : Room} (K : zK G X cL_law "LayertreatyLaw" 21 (some .boolean) rm) (Y : zY G bs Ls ys (xs X)) (hL9 : Ls ≤ 260) (hi9 : i < 50) (hR9 : 60 ≤ rm.frames ∧ 2000 ≤ rm.locals) (hw : zW σ) (hB00 : sgc σ + B ≤ rm.cells ∧ sgs σ + 6 * B ≤ rm.slots) (hB0 : sgc (σ) + (B + 1) ≤ rm.cells ∧ sgs (σ) + 6 * (B + 1) ≤ rm.slots) (hok : sN σ 3 < 12 → zW (s_scenario σ (nI (zsm Ls ys (8 * i + 1) 40)) (nI (1 + zsm Ls ys (8 * i + 2) 9))) ∧ sN σ 3 < sN (s_scenario σ (nI (zsm Ls ys (8 * i + 1) 40)) (nI (1 + zsm Ls ys (8 * i + 2) 9))) 3 ∧ zW (s_play (s_scenario σ (nI (zsm Ls ys (8 * i + 1) 40)) (nI (1 + zsm Ls ys (8 * i + 2) 9))) (sN σ 3)) ∧ sN σ 3 < sN (s_play (s_scenario σ (nI (zsm Ls ys (8 * i + 1) 40)) (nI (1 + zsm Ls ys (8 * i + 2) 9))) (sN σ 3)) 3 ∧ zW (s_damage (s_play (s_scenario σ (nI (zsm Ls ys (8 * i + 1) 40)) (nI (1 + zsm Ls ys (8 * i + 2) 9))) (sN σ 3)) (sN σ 3) (zsm Ls ys (8 * i + 3) 4) (nI (zsm Ls ys (8 * i + 4) 101))) ∧ sN σ 3 < sN (s_damage (s_play (s_scenario σ (nI (zsm Ls ys (8 * i + 1) 40)) (nI (1 + zsm Ls ys (8 * i + 2) 9))) (sN σ 3)) (sN σ 3) (zsm Ls ys (8 * i + 3) 4) (nI (zsm Ls ys (8 * i + 4) 101))) 3 ∧ v_scNet (s_scenario σ (nI (zsm Ls ys (8 * i + 1) 40)) (nI (1 + zsm Ls ys (8 * i + 2) 9))) (sN σ 3) = 0 ∧ v_damage (s_play (s_scenario σ (nI (zsm Ls ys (8 * i + 1) 40)) (nI (1 + zsm Ls ys (8 * i + 2) 9))) (sN σ 3)) (sN σ 3) (zsm Ls ys (8 * i + 3) 4) (nI (zsm Ls ys (8 * i + 4) 101)) = 0 ∧ ¬ v_scNet (s_damage (s_play (s_scenario σ (nI (zsm Ls ys (8 * i + 1) 40)) (nI (1 + zsm Ls ys (8 * i + 2) 9))) (sN σ 3)) (sN σ 3) (zsm Ls ys (8 * i + 3) 4) (nI (zsm Ls ys (8 * i + 4) 101))) (sN σ 3) < 0 ∧ (sgc (s_scenario σ (nI (zsm Ls ys (8 * i + 1) 40)) (nI (1 + zsm Ls ys (8 * i + 2) 9))) + (B + 0) ≤ rm.cells ∧ sgs (s_scenario σ (nI (zsm Ls ys (8 * i + 1) 40)) (nI (1 + zsm Ls ys (8 * i + 2) 9))) + 6 * (B + 0) ≤ rm.slots) ∧ (sgc (s_play (s_scenario σ (nI (zsm Ls ys (8 * i + 1) 40)) (nI (1 + zsm Ls ys (8 * i + 2) 9))) (sN σ 3)) + (B + 0) ≤ rm.cells ∧ sgs (s_play (s_scenario σ (nI (zsm Ls ys (8 * i + 1) 40)) (nI (1 + zsm Ls ys (8 * i + 2) 9))) (sN σ 3)) + 6 * (B + 0) ≤ rm.slots) ∧ (sgc (s_damage (s_play (s_scenario σ (nI (zsm Ls ys (8 * i + 1) 40)) (nI (1 + zsm Ls ys (8 * i + 2) 9))) (sN σ 3)) (sN σ 3) (zsm Ls ys (8 * i + 3) 4) (nI (zsm Ls ys (8 * i + 4) 101))) + (B + 0) ≤ rm.cells ∧ sgs (s_damage (s_play (s_scenario σ (nI (zsm Ls ys (8 * i + 1) 40)) (nI (1 + zsm Ls ys (8 * i + 2) 9))) (sN σ 3)) (sN σ 3) (zsm Ls ys (8 * i + 3) 4) (nI (zsm Ls ys (8 * i + 4) 101))) + 6 * (B + 0) ≤ rm.slots) ∧ (sgc (s_play (s_damage (s_play (s_scenario σ (nI (zsm Ls ys (8 * i + 1) 40)) (nI (1 + zsm Ls ys (8 * i + 2) 9))) (sN σ 3)) (sN σ 3) (zsm Ls ys (8 * i + 3) 4) (nI (zsm Ls ys (8 * i + 4) 101))) (sN σ 3)) + (B + 0) ≤ rm.cells ∧ sgs (s_play (s_damage (s_play (s_scenario σ (nI (zsm Ls ys (8 * i + 1) 40)) (nI (1 + zsm Ls ys (8 * i + 2) 9))) (sN σ 3)) (sN σ 3) (zsm Ls ys (8 * i + 3) 4) (nI (zsm Ls ys (8 * i + 4) 101))) (sN σ 3)) + 6 * (B + 0) ≤ rm.slots))
    (kkA : sN σ 3 < 12 → zVf G X 21 (zLw G o a (s_play (s_damage (s_play (s_scenario σ (nI (zsm Ls ys (8 * i + 1) 40)) (nI (1 + zsm Ls ys (8 * i + 2) 9))) (sN σ 3)) (sN σ 3) (zsm Ls ys (8 * i + 3) 4) (nI (zsm Ls ys (8 * i + 4) 101))) (sN σ 3)) f B) 1296 [(0, .ref bs), (1, .ref a), (2, .int (nI (sN σ 0))), (3, .int (nI (sN σ 1))), (4, .int (nI (sN σ 2))), (5, .int (nI (sN σ 3 + 1))), (6, .long cmt), (8, .ref o), (9, .int (nI i))] []) (kkB : zVf G X 21 (zLw G o a σ f (B + 1)) 1296 [(0, .ref bs), (1, .ref a), (2, .int (nI (sN σ 0))), (3, .int (nI (sN σ 1))), (4, .int (nI (sN σ 2))), (5, .int (nI (sN σ 3))), (6, .long cmt), (8, .ref o), (9, .int (nI i))] []) : zVf G X 21 (zLw G o a σ f B) 1115 [(0, .ref bs), (1, .ref a), (2, .int (nI (sN σ 0))), (3, .int (nI (sN σ 1))), (4, .int (nI (sN σ 2))), (5, .int (nI (sN σ 3))), (6, .long cmt), (8, .ref o), (9, .int (nI i)), (10, .int (nI (8 * i)))] [] := by
  intro k n
  refine zi_aload_n K (dL_law_p11 47 rfl) 1 rfl ?_
  refine zi_aload_n K (dL_law_p11 48 rfl) 0 rfl ?_
  refine zi_iload K (dL_law_p11 49 rfl) 9 rfl ?_
  refine zi_iconst K (dL_law_p12 0 rfl) zk_i1 ?_
  refine zi_iadd K (dL_law_p12 1 rfl) ?_
  refine zi_eqi (v := nI ((8 * i) + 1)) (nI_add (8 * i) 1) ?_
  refine zi_bipush K (dL_law_p12 2 rfl) zk_b40 ?_
  refine zV.rmk (fun H h => h.1) (fun hk9 => ?_)
  refine zl_some K Y hL9 ((8 * i) + 1) 40 (by omega) (by omega) (by omega) (dL_law_p12 3 rfl) ⟨by omega, by omega, by omega, by omega⟩ (Nat.le_of_ble_eq_true rfl) ?_
  refine zi_iconst K (dL_law_p12 4 rfl) zk_i1 ?_
  refine zi_aload_n K (dL_law_p12 5 rfl) 0 rfl ?_
  refine zi_iload K (dL_law_p12 6 rfl) 9 rfl ?_
  refine zi_iconst K (dL_law_p12 7 rfl) zk_i2 ?_
  refine zi_iadd K (dL_law_p12 8 rfl) ?_
  refine zi_eqi (v := nI ((8 * i) + 2)) (nI_add (8 * i) 2) ?_
  refine zi_bipush K (dL_law_p12 9 rfl) zk_b9 ?_
  refine zV.rmk (fun H h => h.1) (fun hk9 => ?_)
  refine zl_some K Y hL9 ((8 * i) + 2) 9 (by omega) (by omega) (by omega) (dL_law_p12 10 rfl) ⟨by omega, by omega, by omega, by omega⟩ (Nat.le_of_ble_eq_true rfl) ?_
  refine zi_iadd K (dL_law_p12 11 rfl) ?_
  refine zi_eqi (v := nI (1 + (zsm Ls ys ((8 * i) + 2) 9))) (nI_add 1 (zsm Ls ys ((8 * i) + 2) 9)) ?_
  have q1 := zsm_lt (Ls := Ls) (ys := ys) (i := 8 * i + 1) (m := 40) (by omega)
  have q2 := zsm_lt (Ls := Ls) (ys := ys) (i := 8 * i + 2) (m := 9) (by omega)
  rcases Nat.lt_or_ge (sN σ 3) 12 with hc | hc
  · skip
    obtain ⟨hw1, hc1, hw2, hc2, hw3, hc3, hn0, hd0, hn1, hB1, hB2, hB3, hB4⟩ := hok hc
    refine zw_callSW K (f := f) (B := B) (σ := σ) (σ' := s_scenario σ (nI (zsm Ls ys (8 * i + 1) 40)) (nI (1 + zsm Ls ys (8 * i + 2) 9))) (As := [.ref a, .int (nI (zsm Ls ys ((8 * i) + 1) 40)), .int (nI (1 + (zsm Ls ys ((8 * i) + 2) 9)))]) (na := 3) [] [.int (v_scenario σ (nI (zsm Ls ys (8 * i + 1) 40)) (nI (1 + zsm Ls ys (8 * i + 2) 9)))] (e_scenario (nI (zsm Ls ys (8 * i + 1) 40)) (nI (1 + zsm Ls ys (8 * i + 2) 9)) hw hc (isOut_nI (lo := 0) (hi := 999) (by omega) (by omega) (by omega)) (isOut_nI (lo := 1) (hi := 9) (by omega) (by omega) (by omega)) (scenario_le σ (nI (zsm Ls ys (8 * i + 1) 40)) (nI (1 + zsm Ls ys (8 * i + 2) 9)))) (dL_law_p12 12 rfl) w_1300 w_1301 w_24 w_1302 (by decide +kernel) rfl ⟨by omega, by omega⟩ hB1 (Nat.le_of_ble_eq_true rfl) rfl rfl ?_ k n
    show zVf G X 21 (zLw G o a (s_scenario σ (nI (zsm Ls ys (8 * i + 1) 40)) (nI (1 + zsm Ls ys (8 * i + 2) 9))) f B) 1141 [(0, .ref bs), (1, .ref a), (2, .int (nI (sN σ 0))), (3, .int (nI (sN σ 1))), (4, .int (nI (sN σ 2))), (5, .int (nI (sN σ 3))), (6, .long cmt), (8, .ref o), (9, .int (nI i)), (10, .int (nI (8 * i)))] [.int (v_scenario σ (nI (zsm Ls ys (8 * i + 1) 40)) (nI (1 + zsm Ls ys (8 * i + 2) 9)))]
    intro k n
    refine zi_eqi (v := nI (sN σ 3)) (nI_pred (sN σ 3)) ?_
    refine zi_istore K [(14, .int (nI (sN σ 3))), (0, .ref bs), (1, .ref a), (2, .int (nI (sN σ 0))), (3, .int (nI (sN σ 1))), (4, .int (nI (sN σ 2))), (5, .int (nI (sN σ 3))), (6, .long cmt), (8, .ref o), (9, .int (nI i)), (10, .int (nI (8 * i)))] (dL_law_p12 13 rfl) (by decide) rfl ?_
    refine zi_iload K (dL_law_p12 14 rfl) 0 rfl ?_
    refine zi_iload K (dL_law_p12 15 rfl) 6 rfl ?_
    refine zi_bipush K (dL_law_p12 16 rfl) zk_b12 ?_
    refine zi_icmp_ne K 1157 (dL_law_p12 17 rfl) rfl (fun h1149_0 => ?_) (fun h1149_0 => ?_)
    rotate_left
    · exact absurd h1149_0 (fun h9 => absurd (nI_lt (b := 12) hc (by decide)) (by rw [h9]; decide))
    refine zi_iload K (dL_law_p12 20 rfl) 6 rfl ?_
    refine zi_icmp_eq K 1164 (dL_law_p12 21 rfl) rfl (fun h1159_0 => ?_) (fun h1159_0 => ?_)
    rotate_left
    · exact absurd rfl h1159_0
    refine zi_iload K (dL_law_p12 24 rfl) 6 rfl ?_
    refine zi_iload K (dL_law_p12 25 rfl) 0 rfl ?_
    refine zi_if_ge K 1175 (dL_law_p12 26 rfl) rfl (fun h1168_0 => ?_) (fun h1168_0 => ?_)
    rotate_left
    · exact absurd (nI_pos' (n := sN σ 3) (by omega)) h1168_0
    refine zi_iconst K (dL_law_p12 29 rfl) zk_i1 ?_
    refine zi_iadd K (dL_law_p12 30 rfl) ?_
    refine zi_eqi (v := nI ((sN σ 3) + 1)) (nI_add (sN σ 3) 1) ?_
    refine zi_istore K [(5, .int (nI ((sN σ 3) + 1))), (14, .int (nI (sN σ 3))), (0, .ref bs), (1, .ref a), (2, .int (nI (sN σ 0))), (3, .int (nI (sN σ 1))), (4, .int (nI (sN σ 2))), (6, .long cmt), (8, .ref o), (9, .int (nI i)), (10, .int (nI (8 * i)))] (dL_law_p12 31 rfl) (by decide) rfl ?_
    refine zi_iload K (dL_law_p12 32 rfl) 1 rfl ?_
    refine zi_if_lt K 1236 (dL_law_p12 33 rfl) rfl (fun h1181_0 => ?_) (fun h1181_0 => ?_)
    · exact absurd h1181_0 (nI_pos (n := sN σ 3) (by omega))
    refine zi_aload_n K (dL_law_p12 34 rfl) 3 rfl ?_
    refine zi_iload K (dL_law_p12 35 rfl) 1 rfl ?_
    refine zw_callSW K (f := f) (B := B) (σ := s_scenario σ (nI (zsm Ls ys (8 * i + 1) 40)) (nI (1 + zsm Ls ys (8 * i + 2) 9))) (σ' := s_play (s_scenario σ (nI (zsm Ls ys (8 * i + 1) 40)) (nI (1 + zsm Ls ys (8 * i + 2) 9))) (sN σ 3)) (As := [.ref a, .int (nI (sN σ 3))]) (na := 2) [] [.long (v_scNet (s_scenario σ (nI (zsm Ls ys (8 * i + 1) 40)) (nI (1 + zsm Ls ys (8 * i + 2) 9))) (sN σ 3))] (e_scenarioNet (sN σ 3) hw1 hc1) (dL_law_p12 36 rfl) w_1344 w_1345 w_24 w_1346 (by decide +kernel) rfl ⟨by omega, by omega⟩ hB2 (Nat.le_of_ble_eq_true rfl) rfl rfl ?_ k n
    show zVf G X 21 (zLw G o a (s_play (s_scenario σ (nI (zsm Ls ys (8 * i + 1) 40)) (nI (1 + zsm Ls ys (8 * i + 2) 9))) (sN σ 3)) f B) 1190 [(5, .int (nI ((sN σ 3) + 1))), (14, .int (nI (sN σ 3))), (0, .ref bs), (1, .ref a), (2, .int (nI (sN σ 0))), (3, .int (nI (sN σ 1))), (4, .int (nI (sN σ 2))), (6, .long cmt), (8, .ref o), (9, .int (nI i)), (10, .int (nI (8 * i)))] [.long (v_scNet (s_scenario σ (nI (zsm Ls ys (8 * i + 1) 40)) (nI (1 + zsm Ls ys (8 * i + 2) 9))) (sN σ 3))]
    intro k n
    refine zi_lconst K (dL_law_p12 37 rfl) zk_l0 ?_
    refine zi_lif_ne K 1234 (dL_law_p12 38 rfl) (dL_law_p12 39 rfl) rfl (fun h1191_0 => ?_) (fun h1191_0 => ?_)
    · exact absurd hn0 h1191_0
    refine zi_aload_n K (dL_law_p12 40 rfl) 3 rfl ?_
    refine zi_iload K (dL_law_p12 41 rfl) 1 rfl ?_
    refine zi_aload_n K (dL_law_p12 42 rfl) 2 rfl ?_
    refine zi_iload K (dL_law_p12 43 rfl) 10 rfl ?_
    refine zi_iconst K (dL_law_p12 44 rfl) zk_i3 ?_
    refine zi_iadd K (dL_law_p12 45 rfl) ?_
    refine zi_eqi (v := nI ((8 * i) + 3)) (nI_add (8 * i) 3) ?_
    refine zi_iconst K (dL_law_p12 46 rfl) zk_i4 ?_
    refine zV.rmk (fun H h => h.1) (fun hk9 => ?_)
    refine zl_some K Y hL9 ((8 * i) + 3) 4 (by omega) (by omega) (by omega) (dL_law_p12 47 rfl) ⟨by omega, by omega, by omega, by omega⟩ (Nat.le_of_ble_eq_true rfl) ?_
    refine zi_aload_n K (dL_law_p12 48 rfl) 2 rfl ?_
    refine zi_iload K (dL_law_p12 49 rfl) 10 rfl ?_
    refine zi_iconst K (dL_law_p13 0 rfl) zk_i4 ?_
    refine zi_iadd K (dL_law_p13 1 rfl) ?_
    refine zi_eqi (v := nI ((8 * i) + 4)) (nI_add (8 * i) 4) ?_
    refine zi_bipush K (dL_law_p13 2 rfl) zk_b101 ?_
    refine zV.rmk (fun H h => h.1) (fun hk9 => ?_)
    refine zl_some K Y hL9 ((8 * i) + 4) 101 (by omega) (by omega) (by omega) (dL_law_p13 3 rfl) ⟨by omega, by omega, by omega, by omega⟩ (Nat.le_of_ble_eq_true rfl) ?_
    have q3 := zsm_lt (Ls := Ls) (ys := ys) (i := 8 * i + 3) (m := 4) (by omega)
    have q4 := zsm_lt (Ls := Ls) (ys := ys) (i := 8 * i + 4) (m := 101) (by omega)
    refine zw_callSW K (f := f) (B := B) (σ := s_play (s_scenario σ (nI (zsm Ls ys (8 * i + 1) 40)) (nI (1 + zsm Ls ys (8 * i + 2) 9))) (sN σ 3)) (σ' := s_damage (s_play (s_scenario σ (nI (zsm Ls ys (8 * i + 1) 40)) (nI (1 + zsm Ls ys (8 * i + 2) 9))) (sN σ 3)) (sN σ 3) (zsm Ls ys (8 * i + 3) 4) (nI (zsm Ls ys (8 * i + 4) 101))) (As := [.ref a, .int (nI (sN σ 3)), .int (nI (zsm Ls ys ((8 * i) + 3) 4)), .int (nI (zsm Ls ys ((8 * i) + 4) 101))]) (na := 4) [] [.int (v_damage (s_play (s_scenario σ (nI (zsm Ls ys (8 * i + 1) 40)) (nI (1 + zsm Ls ys (8 * i + 2) 9))) (sN σ 3)) (sN σ 3) (zsm Ls ys (8 * i + 3) 4) (nI (zsm Ls ys (8 * i + 4) 101)))] (e_damage (sN σ 3) (zsm Ls ys (8 * i + 3) 4) (nI (zsm Ls ys (8 * i + 4) 101)) hw2 hc2 q3 (isOut_nI (lo := 0) (hi := 3) (by omega) (by omega) (by omega)) (isOut_nI (lo := 0) (hi := 100) (by omega) (by omega) (by omega))) (dL_law_p13 4 rfl) w_1331 w_1332 w_24 w_1333 (by decide +kernel) rfl ⟨by omega, by omega⟩ hB3 (Nat.le_of_ble_eq_true rfl) rfl rfl ?_ k n
    show zVf G X 21 (zLw G o a (s_damage (s_play (s_scenario σ (nI (zsm Ls ys (8 * i + 1) 40)) (nI (1 + zsm Ls ys (8 * i + 2) 9))) (sN σ 3)) (sN σ 3) (zsm Ls ys (8 * i + 3) 4) (nI (zsm Ls ys (8 * i + 4) 101))) f B) 1220 [(5, .int (nI ((sN σ 3) + 1))), (14, .int (nI (sN σ 3))), (0, .ref bs), (1, .ref a), (2, .int (nI (sN σ 0))), (3, .int (nI (sN σ 1))), (4, .int (nI (sN σ 2))), (6, .long cmt), (8, .ref o), (9, .int (nI i)), (10, .int (nI (8 * i)))] [.int (v_damage (s_play (s_scenario σ (nI (zsm Ls ys (8 * i + 1) 40)) (nI (1 + zsm Ls ys (8 * i + 2) 9))) (sN σ 3)) (sN σ 3) (zsm Ls ys (8 * i + 3) 4) (nI (zsm Ls ys (8 * i + 4) 101)))]
    intro k n
    refine zi_if_ne K 1234 (dL_law_p13 5 rfl) rfl (fun h1220_0 => ?_) (fun h1220_0 => ?_)
    · exact absurd hd0 h1220_0
    refine zi_aload_n K (dL_law_p13 6 rfl) 3 rfl ?_
    refine zi_iload K (dL_law_p13 7 rfl) 1 rfl ?_
    refine zw_callSW K (f := f) (B := B) (σ := s_damage (s_play (s_scenario σ (nI (zsm Ls ys (8 * i + 1) 40)) (nI (1 + zsm Ls ys (8 * i + 2) 9))) (sN σ 3)) (sN σ 3) (zsm Ls ys (8 * i + 3) 4) (nI (zsm Ls ys (8 * i + 4) 101))) (σ' := s_play (s_damage (s_play (s_scenario σ (nI (zsm Ls ys (8 * i + 1) 40)) (nI (1 + zsm Ls ys (8 * i + 2) 9))) (sN σ 3)) (sN σ 3) (zsm Ls ys (8 * i + 3) 4) (nI (zsm Ls ys (8 * i + 4) 101))) (sN σ 3)) (As := [.ref a, .int (nI (sN σ 3))]) (na := 2) [] [.long (v_scNet (s_damage (s_play (s_scenario σ (nI (zsm Ls ys (8 * i + 1) 40)) (nI (1 + zsm Ls ys (8 * i + 2) 9))) (sN σ 3)) (sN σ 3) (zsm Ls ys (8 * i + 3) 4) (nI (zsm Ls ys (8 * i + 4) 101))) (sN σ 3))] (e_scenarioNet (sN σ 3) hw3 hc3) (dL_law_p13 8 rfl) w_1344 w_1345 w_24 w_1346 (by decide +kernel) rfl ⟨by omega, by omega⟩ hB4 (Nat.le_of_ble_eq_true rfl) rfl rfl ?_ k n
    show zVf G X 21 (zLw G o a (s_play (s_damage (s_play (s_scenario σ (nI (zsm Ls ys (8 * i + 1) 40)) (nI (1 + zsm Ls ys (8 * i + 2) 9))) (sN σ 3)) (sN σ 3) (zsm Ls ys (8 * i + 3) 4) (nI (zsm Ls ys (8 * i + 4) 101))) (sN σ 3)) f B) 1229 [(5, .int (nI ((sN σ 3) + 1))), (14, .int (nI (sN σ 3))), (0, .ref bs), (1, .ref a), (2, .int (nI (sN σ 0))), (3, .int (nI (sN σ 1))), (4, .int (nI (sN σ 2))), (6, .long cmt), (8, .ref o), (9, .int (nI i)), (10, .int (nI (8 * i)))] [.long (v_scNet (s_damage (s_play (s_scenario σ (nI (zsm Ls ys (8 * i + 1) 40)) (nI (1 + zsm Ls ys (8 * i + 2) 9))) (sN σ 3)) (sN σ 3) (zsm Ls ys (8 * i + 3) 4) (nI (zsm Ls ys (8 * i + 4) 101))) (sN σ 3))]
    intro k n
    refine zi_lconst K (dL_law_p13 9 rfl) zk_l0 ?_
    refine zi_lif_ge K 1236 (dL_law_p13 10 rfl) (dL_law_p13 11 rfl) rfl (fun h1230_0 => ?_) (fun h1230_0 => ?_)
    rotate_left
    · exact absurd h1230_0 hn1
    refine zi_goto K 1296 (dL_law_p13 14 rfl) rfl ?_
    refine zV.pick [2, 3, 4, 5, 6, 0, 7, 8, 9] (lo' := [(0, .ref bs), (1, .ref a), (2, .int (nI (sN σ 0))), (3, .int (nI (sN σ 1))), (4, .int (nI (sN σ 2))), (5, .int (nI ((sN σ 3) + 1))), (6, .long cmt), (8, .ref o), (9, .int (nI i))]) rfl ?_
    exact (kkA hc) k n
  · skip
    have hc : sN σ 3 = 12 := Nat.le_antisymm hw.1.2.2.2.2.1.2 hc
    refine zw_callSW K (f := f) (B := B) (σ := σ) (σ' := σ) (As := [.ref a, .int (nI (zsm Ls ys ((8 * i) + 1) 40)), .int (nI (1 + (zsm Ls ys ((8 * i) + 2) 9)))]) (na := 3) [] [.int (-1000000)] (e_scenarioF (nI (zsm Ls ys (8 * i + 1) 40)) (nI (1 + zsm Ls ys (8 * i + 2) 9)) hw hc (isOut_nI (lo := 0) (hi := 999) (by omega) (by omega) (by omega)) (isOut_nI (lo := 1) (hi := 9) (by omega) (by omega) (by omega))) (dL_law_p12 12 rfl) w_1300 w_1301 w_24 w_1302 (by decide +kernel) rfl ⟨by omega, by omega⟩ hB0 (Nat.le_of_ble_eq_true rfl) rfl rfl ?_ k n
    show zVf G X 21 (zLw G o a σ f (B + 1)) 1141 [(0, .ref bs), (1, .ref a), (2, .int (nI (sN σ 0))), (3, .int (nI (sN σ 1))), (4, .int (nI (sN σ 2))), (5, .int (nI (sN σ 3))), (6, .long cmt), (8, .ref o), (9, .int (nI i)), (10, .int (nI (8 * i)))] [.int (-1000000)]
    intro k n
    refine zi_istore K [(14, .int (-1000000)), (0, .ref bs), (1, .ref a), (2, .int (nI (sN σ 0))), (3, .int (nI (sN σ 1))), (4, .int (nI (sN σ 2))), (5, .int (nI (sN σ 3))), (6, .long cmt), (8, .ref o), (9, .int (nI i)), (10, .int (nI (8 * i)))] (dL_law_p12 13 rfl) (by decide) rfl ?_
    refine zi_iload K (dL_law_p12 14 rfl) 0 rfl ?_
    refine zi_iload K (dL_law_p12 15 rfl) 6 rfl ?_
    refine zi_bipush K (dL_law_p12 16 rfl) zk_b12 ?_
    refine zi_icmp_ne K 1157 (dL_law_p12 17 rfl) rfl (fun h1149_0 => ?_) (fun h1149_0 => ?_)
    · exact absurd (by rw [hc]; rfl) h1149_0
    refine zi_ldc K (dL_law_p12 18 rfl) w_777 ?_
    refine zi_goto K 1159 (dL_law_p12 19 rfl) rfl ?_
    refine zi_icmp_eq K 1164 (dL_law_p12 21 rfl) rfl (fun h1159_0 => ?_) (fun h1159_0 => ?_)
    rotate_left
    · exact absurd rfl h1159_0
    refine zi_iload K (dL_law_p12 24 rfl) 6 rfl ?_
    refine zi_iload K (dL_law_p12 25 rfl) 0 rfl ?_
    refine zi_if_ge K 1175 (dL_law_p12 26 rfl) rfl (fun h1168_0 => ?_) (fun h1168_0 => ?_)
    · exact absurd h1168_0 (by decide)
    refine zi_iconst K (dL_law_p12 27 rfl) zk_i0 ?_
    refine zi_goto K 1176 (dL_law_p12 28 rfl) rfl ?_
    refine zi_iadd K (dL_law_p12 30 rfl) ?_
    refine zi_eqi (v := nI ((sN σ 3) + 0)) (nI_add (sN σ 3) 0) ?_
    refine zi_istore K [(5, .int (nI ((sN σ 3) + 0))), (14, .int (-1000000)), (0, .ref bs), (1, .ref a), (2, .int (nI (sN σ 0))), (3, .int (nI (sN σ 1))), (4, .int (nI (sN σ 2))), (6, .long cmt), (8, .ref o), (9, .int (nI i)), (10, .int (nI (8 * i)))] (dL_law_p12 31 rfl) (by decide) rfl ?_
    refine zi_iload K (dL_law_p12 32 rfl) 1 rfl ?_
    refine zi_if_lt K 1236 (dL_law_p12 33 rfl) rfl (fun h1181_0 => ?_) (fun h1181_0 => ?_)
    rotate_left
    · exact absurd (by decide) h1181_0
    refine zi_goto K 1296 (dL_law_p13 14 rfl) rfl ?_
    refine zV.pick [2, 3, 4, 5, 6, 0, 7, 8, 9] (lo' := [(0, .ref bs), (1, .ref a), (2, .int (nI (sN σ 0))), (3, .int (nI (sN σ 1))), (4, .int (nI (sN σ 2))), (5, .int (nI ((sN σ 3) + 0))), (6, .long cmt), (8, .ref o), (9, .int (nI i))]) rfl ?_
    exact kkB k n
