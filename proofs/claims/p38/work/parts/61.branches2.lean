/-! the law's branches: losses, shares, links, amounts, reinstatements -/
set_option maxRecDepth 100000 in
set_option maxHeartbeats 8000000 in
theorem b_loss {G : zG} {X : zX} {bs Ls o a : Nat} {ys : Nat → Int32} {σ : zSt} {f : Nat → Int32} {B i : Nat} {cmt : Int64} {rm : Room} (K : zK G X cL_law "LayertreatyLaw" 21 (some .boolean) rm) (Y : zY G bs Ls ys (xs X)) (hL9 : Ls ≤ 260) (hi9 : i < 50) (hR9 : 60 ≤ rm.frames ∧ 2000 ≤ rm.locals) (hw : zW σ) (hp0 : 0 < sN σ 0) (hN0 : sN σ 0 ≤ 12) (hN1 : sN σ 1 ≤ 30) (hB : ¬ v_inForce σ (zsm Ls ys (8 * i + 1) (sN σ 0)) (nI (zsm Ls ys (8 * i + 2) 30)) = 0 → sN σ 1 < 30 → sgc (s_loss σ (zsm Ls ys (8 * i + 1) (sN σ 0)) (nI (zsm Ls ys (8 * i + 2) 30)) (nI (zsm Ls ys (8 * i + 2) 30 + zsm Ls ys (8 * i + 3) 9)) (nI (zsm Ls ys (8 * i + 4) 900))) + (B + 0) ≤ rm.cells ∧ sgs (s_loss σ (zsm Ls ys (8 * i + 1) (sN σ 0)) (nI (zsm Ls ys (8 * i + 2) 30)) (nI (zsm Ls ys (8 * i + 2) 30 + zsm Ls ys (8 * i + 3) 9)) (nI (zsm Ls ys (8 * i + 4) 900))) + 6 * (B + 0) ≤ rm.slots) (hB1 : sgc σ + (B + 1) ≤ rm.cells ∧ sgs σ + 6 * (B + 1) ≤ rm.slots)
    (kkA : ¬ v_inForce σ (zsm Ls ys (8 * i + 1) (sN σ 0)) (nI (zsm Ls ys (8 * i + 2) 30)) = 0 → sN σ 1 < 30 → zVf G X 21 (zLw G o a (s_loss σ (zsm Ls ys (8 * i + 1) (sN σ 0)) (nI (zsm Ls ys (8 * i + 2) 30)) (nI (zsm Ls ys (8 * i + 2) 30 + zsm Ls ys (8 * i + 3) 9)) (nI (zsm Ls ys (8 * i + 4) 900))) f B) 1296 [(0, .ref bs), (1, .ref a), (2, .int (nI (sN σ 0))), (3, .int (nI (sN σ 1 + 1))), (4, .int (nI (sN σ 2))), (5, .int (nI (sN σ 3))), (6, .long cmt), (8, .ref o), (9, .int (nI i))] []) (kkB : zVf G X 21 (zLw G o a σ f (B + 1)) 1296 [(0, .ref bs), (1, .ref a), (2, .int (nI (sN σ 0))), (3, .int (nI (sN σ 1))), (4, .int (nI (sN σ 2))), (5, .int (nI (sN σ 3))), (6, .long cmt), (8, .ref o), (9, .int (nI i))] []) : zVf G X 21 (zLw G o a σ f B) 215 [(0, .ref bs), (1, .ref a), (2, .int (nI (sN σ 0))), (3, .int (nI (sN σ 1))), (4, .int (nI (sN σ 2))), (5, .int (nI (sN σ 3))), (6, .long cmt), (8, .ref o), (9, .int (nI i)), (10, .int (nI (8 * i)))] [] := by
  intro k n
  refine zi_aload_n K (dL_law_p2 19 rfl) 0 rfl ?_
  refine zi_iload K (dL_law_p2 20 rfl) 9 rfl ?_
  refine zi_iconst K (dL_law_p2 21 rfl) zk_i2 ?_
  refine zi_iadd K (dL_law_p2 22 rfl) ?_
  refine zi_eqi (v := nI ((8 * i) + 2)) (nI_add (8 * i) 2) ?_
  refine zi_bipush K (dL_law_p2 23 rfl) zk_b30 ?_
  refine zV.rmk (fun H h => h.1) (fun hk9 => ?_)
  refine zl_some K Y hL9 ((8 * i) + 2) 30 (by omega) (by omega) (by omega) (dL_law_p2 24 rfl) ⟨by omega, by omega, by omega, by omega⟩ (Nat.le_of_ble_eq_true rfl) ?_
  refine zi_istore K [(14, .int (nI (zsm Ls ys ((8 * i) + 2) 30))), (0, .ref bs), (1, .ref a), (2, .int (nI (sN σ 0))), (3, .int (nI (sN σ 1))), (4, .int (nI (sN σ 2))), (5, .int (nI (sN σ 3))), (6, .long cmt), (8, .ref o), (9, .int (nI i)), (10, .int (nI (8 * i)))] (dL_law_p2 25 rfl) (by decide) rfl ?_
  refine zi_aload_n K (dL_law_p2 26 rfl) 2 rfl ?_
  refine zi_aload_n K (dL_law_p2 27 rfl) 1 rfl ?_
  refine zi_iload K (dL_law_p2 28 rfl) 10 rfl ?_
  refine zi_iconst K (dL_law_p2 29 rfl) zk_i1 ?_
  refine zi_iadd K (dL_law_p2 30 rfl) ?_
  refine zi_eqi (v := nI ((8 * i) + 1)) (nI_add (8 * i) 1) ?_
  refine zi_iload_n K (dL_law_p2 31 rfl) 3 rfl ?_
  refine zV.rmk (fun H h => h.1) (fun hk9 => ?_)
  refine zl_some K Y hL9 ((8 * i) + 1) (sN σ 0) (by omega) (by omega) (by omega) (dL_law_p2 32 rfl) ⟨by omega, by omega, by omega, by omega⟩ (Nat.le_of_ble_eq_true rfl) ?_
  refine zi_iload K (dL_law_p2 33 rfl) 0 rfl ?_
  refine zi_iload K (dL_law_p2 34 rfl) 0 rfl ?_
  refine zi_aload_n K (dL_law_p2 35 rfl) 1 rfl ?_
  refine zi_iload K (dL_law_p2 36 rfl) 10 rfl ?_
  refine zi_iconst K (dL_law_p2 37 rfl) zk_i3 ?_
  refine zi_iadd K (dL_law_p2 38 rfl) ?_
  refine zi_eqi (v := nI ((8 * i) + 3)) (nI_add (8 * i) 3) ?_
  refine zi_bipush K (dL_law_p2 39 rfl) zk_b9 ?_
  refine zV.rmk (fun H h => h.1) (fun hk9 => ?_)
  refine zl_some K Y hL9 ((8 * i) + 3) 9 (by omega) (by omega) (by omega) (dL_law_p2 40 rfl) ⟨by omega, by omega, by omega, by omega⟩ (Nat.le_of_ble_eq_true rfl) ?_
  refine zi_iadd K (dL_law_p2 41 rfl) ?_
  refine zi_eqi (v := nI ((zsm Ls ys ((8 * i) + 2) 30) + (zsm Ls ys ((8 * i) + 3) 9))) (nI_add (zsm Ls ys ((8 * i) + 2) 30) (zsm Ls ys ((8 * i) + 3) 9)) ?_
  refine zi_aload_n K (dL_law_p2 42 rfl) 1 rfl ?_
  refine zi_iload K (dL_law_p2 43 rfl) 10 rfl ?_
  refine zi_iconst K (dL_law_p2 44 rfl) zk_i4 ?_
  refine zi_iadd K (dL_law_p2 45 rfl) ?_
  refine zi_eqi (v := nI ((8 * i) + 4)) (nI_add (8 * i) 4) ?_
  refine zi_sipush K (dL_law_p2 46 rfl) zk_s900 ?_
  refine zV.rmk (fun H h => h.1) (fun hk9 => ?_)
  refine zl_some K Y hL9 ((8 * i) + 4) 900 (by omega) (by omega) (by omega) (dL_law_p2 47 rfl) ⟨by omega, by omega, by omega, by omega⟩ (Nat.le_of_ble_eq_true rfl) ?_
  have q1 := zsm_lt (Ls := Ls) (ys := ys) (i := 8 * i + 1) (m := sN σ 0) (by omega)
  have q2 := zsm_lt (Ls := Ls) (ys := ys) (i := 8 * i + 2) (m := 30) (by omega)
  have q3 := zsm_lt (Ls := Ls) (ys := ys) (i := 8 * i + 3) (m := 9) (by omega)
  have q4 := zsm_lt (Ls := Ls) (ys := ys) (i := 8 * i + 4) (m := 900) (by omega)
  by_cases hf : v_inForce σ (zsm Ls ys (8 * i + 1) (sN σ 0)) (nI (zsm Ls ys (8 * i + 2) 30)) = 0
  · skip
    refine zw_callSW K (f := f) (B := B) (σ := σ) (σ' := σ) (As := [.ref a, .int (nI (zsm Ls ys ((8 * i) + 1) (sN σ 0))), .int (nI (zsm Ls ys ((8 * i) + 2) 30)), .int (nI ((zsm Ls ys ((8 * i) + 2) 30) + (zsm Ls ys ((8 * i) + 3) 9))), .int (nI (zsm Ls ys ((8 * i) + 4) 900))]) (na := 5) [] [.int (-1500000)] (e_lossU (zsm Ls ys (8 * i + 1) (sN σ 0)) (nI (zsm Ls ys (8 * i + 2) 30)) (nI (zsm Ls ys (8 * i + 2) 30 + zsm Ls ys (8 * i + 3) 9)) (nI (zsm Ls ys (8 * i + 4) 900)) hw q1 (isSpan_nI (by omega) (by omega)) (isOut_nI (lo := 0) (hi := 1000000) (by omega) (by omega) (by omega)) hf) (dL_law_p2 48 rfl) w_778 w_779 w_24 w_780 (by decide +kernel) rfl ⟨by omega, by omega⟩ hB1 (Nat.le_of_ble_eq_true rfl) rfl rfl ?_ k n
    show zVf G X 21 (zLw G o a σ f (B + 1)) 266 [(14, .int (nI (zsm Ls ys ((8 * i) + 2) 30))), (0, .ref bs), (1, .ref a), (2, .int (nI (sN σ 0))), (3, .int (nI (sN σ 1))), (4, .int (nI (sN σ 2))), (5, .int (nI (sN σ 3))), (6, .long cmt), (8, .ref o), (9, .int (nI i)), (10, .int (nI (8 * i)))] [.int (-1500000)]
    intro k n
    refine zi_istore K [(15, .int (-1500000)), (14, .int (nI (zsm Ls ys ((8 * i) + 2) 30))), (0, .ref bs), (1, .ref a), (2, .int (nI (sN σ 0))), (3, .int (nI (sN σ 1))), (4, .int (nI (sN σ 2))), (5, .int (nI (sN σ 3))), (6, .long cmt), (8, .ref o), (9, .int (nI i)), (10, .int (nI (8 * i)))] (dL_law_p2 49 rfl) (by decide) rfl ?_
    refine zi_iload K (dL_law_p3 0 rfl) 0 rfl ?_
    refine zi_iload_n K (dL_law_p3 1 rfl) 5 rfl ?_
    refine zi_icmp_eq K 290 (dL_law_p3 2 rfl) rfl (fun h271_0 => ?_) (fun h271_0 => ?_)
    · skip
      refine zi_iload_n K (dL_law_p3 11 rfl) 5 rfl ?_
      refine zi_iload K (dL_law_p3 12 rfl) 0 rfl ?_
      refine zi_if_ge K 300 (dL_law_p3 13 rfl) rfl (fun h293_1 => ?_) (fun h293_1 => ?_)
      · exact absurd h293_1 (by decide)
      refine zi_iconst K (dL_law_p3 14 rfl) zk_i0 ?_
      refine zi_goto K 301 (dL_law_p3 15 rfl) rfl ?_
      refine zi_iadd K (dL_law_p3 17 rfl) ?_
      refine zi_eqi (v := nI ((sN σ 1) + 0)) (nI_add (sN σ 1) 0) ?_
      refine zi_istore_n K [(3, .int (nI ((sN σ 1) + 0))), (15, .int (-1500000)), (14, .int (nI (zsm Ls ys ((8 * i) + 2) 30))), (0, .ref bs), (1, .ref a), (2, .int (nI (sN σ 0))), (4, .int (nI (sN σ 2))), (5, .int (nI (sN σ 3))), (6, .long cmt), (8, .ref o), (9, .int (nI i)), (10, .int (nI (8 * i)))] (dL_law_p3 18 rfl) (by decide) rfl ?_
      refine zi_goto K 1296 (dL_law_p3 19 rfl) rfl ?_
      refine zV.pick [3, 4, 5, 0, 6, 7, 8, 9, 10] (lo' := [(0, .ref bs), (1, .ref a), (2, .int (nI (sN σ 0))), (3, .int (nI ((sN σ 1) + 0))), (4, .int (nI (sN σ 2))), (5, .int (nI (sN σ 3))), (6, .long cmt), (8, .ref o), (9, .int (nI i))]) rfl ?_
      exact kkB k n
    · skip
      refine zi_iload K (dL_law_p3 3 rfl) 0 rfl ?_
      refine zi_ldc K (dL_law_p3 4 rfl) w_1058 ?_
      refine zi_icmp_eq K 290 (dL_law_p3 5 rfl) rfl (fun h278_1 => ?_) (fun h278_1 => ?_)
      rotate_left
      · exact absurd rfl h278_1
      refine zi_iload_n K (dL_law_p3 11 rfl) 5 rfl ?_
      refine zi_iload K (dL_law_p3 12 rfl) 0 rfl ?_
      refine zi_if_ge K 300 (dL_law_p3 13 rfl) rfl (fun h293_1 => ?_) (fun h293_1 => ?_)
      · exact absurd h293_1 (by decide)
      refine zi_iconst K (dL_law_p3 14 rfl) zk_i0 ?_
      refine zi_goto K 301 (dL_law_p3 15 rfl) rfl ?_
      refine zi_iadd K (dL_law_p3 17 rfl) ?_
      refine zi_eqi (v := nI ((sN σ 1) + 0)) (nI_add (sN σ 1) 0) ?_
      refine zi_istore_n K [(3, .int (nI ((sN σ 1) + 0))), (15, .int (-1500000)), (14, .int (nI (zsm Ls ys ((8 * i) + 2) 30))), (0, .ref bs), (1, .ref a), (2, .int (nI (sN σ 0))), (4, .int (nI (sN σ 2))), (5, .int (nI (sN σ 3))), (6, .long cmt), (8, .ref o), (9, .int (nI i)), (10, .int (nI (8 * i)))] (dL_law_p3 18 rfl) (by decide) rfl ?_
      refine zi_goto K 1296 (dL_law_p3 19 rfl) rfl ?_
      refine zV.pick [3, 4, 5, 0, 6, 7, 8, 9, 10] (lo' := [(0, .ref bs), (1, .ref a), (2, .int (nI (sN σ 0))), (3, .int (nI ((sN σ 1) + 0))), (4, .int (nI (sN σ 2))), (5, .int (nI (sN σ 3))), (6, .long cmt), (8, .ref o), (9, .int (nI i))]) rfl ?_
      exact kkB k n
  · skip
    rcases Nat.lt_or_ge (sN σ 1) 30 with hc | hc
    · skip
      refine zw_callSW K (f := f) (B := B) (σ := σ) (σ' := s_loss σ (zsm Ls ys (8 * i + 1) (sN σ 0)) (nI (zsm Ls ys (8 * i + 2) 30)) (nI (zsm Ls ys (8 * i + 2) 30 + zsm Ls ys (8 * i + 3) 9)) (nI (zsm Ls ys (8 * i + 4) 900))) (As := [.ref a, .int (nI (zsm Ls ys ((8 * i) + 1) (sN σ 0))), .int (nI (zsm Ls ys ((8 * i) + 2) 30)), .int (nI ((zsm Ls ys ((8 * i) + 2) 30) + (zsm Ls ys ((8 * i) + 3) 9))), .int (nI (zsm Ls ys ((8 * i) + 4) 900))]) (na := 5) [] [.int (v_loss σ (zsm Ls ys (8 * i + 1) (sN σ 0)) (nI (zsm Ls ys (8 * i + 2) 30)) (nI (zsm Ls ys (8 * i + 2) 30 + zsm Ls ys (8 * i + 3) 9)) (nI (zsm Ls ys (8 * i + 4) 900)))] (e_loss (zsm Ls ys (8 * i + 1) (sN σ 0)) (nI (zsm Ls ys (8 * i + 2) 30)) (nI (zsm Ls ys (8 * i + 2) 30 + zsm Ls ys (8 * i + 3) 9)) (nI (zsm Ls ys (8 * i + 4) 900)) hw q1 (isSpan_nI (by omega) (by omega)) (isOut_nI (lo := 0) (hi := 1000000) (by omega) (by omega) (by omega)) hf hc (loss_le σ (zsm Ls ys (8 * i + 1) (sN σ 0)) (nI (zsm Ls ys (8 * i + 2) 30)) (nI (zsm Ls ys (8 * i + 2) 30 + zsm Ls ys (8 * i + 3) 9)) (nI (zsm Ls ys (8 * i + 4) 900)))) (dL_law_p2 48 rfl) w_778 w_779 w_24 w_780 (by decide +kernel) rfl ⟨by omega, by omega⟩ (hB hf hc) (Nat.le_of_ble_eq_true rfl) rfl rfl ?_ k n
      show zVf G X 21 (zLw G o a (s_loss σ (zsm Ls ys (8 * i + 1) (sN σ 0)) (nI (zsm Ls ys (8 * i + 2) 30)) (nI (zsm Ls ys (8 * i + 2) 30 + zsm Ls ys (8 * i + 3) 9)) (nI (zsm Ls ys (8 * i + 4) 900))) f B) 266 [(14, .int (nI (zsm Ls ys ((8 * i) + 2) 30))), (0, .ref bs), (1, .ref a), (2, .int (nI (sN σ 0))), (3, .int (nI (sN σ 1))), (4, .int (nI (sN σ 2))), (5, .int (nI (sN σ 3))), (6, .long cmt), (8, .ref o), (9, .int (nI i)), (10, .int (nI (8 * i)))] [.int (v_loss σ (zsm Ls ys (8 * i + 1) (sN σ 0)) (nI (zsm Ls ys (8 * i + 2) 30)) (nI (zsm Ls ys (8 * i + 2) 30 + zsm Ls ys (8 * i + 3) 9)) (nI (zsm Ls ys (8 * i + 4) 900)))]
      intro k n
      refine zi_eqi (v := nI (sN σ 1)) (nI_pred (sN σ 1)) ?_
      refine zi_istore K [(15, .int (nI (sN σ 1))), (14, .int (nI (zsm Ls ys ((8 * i) + 2) 30))), (0, .ref bs), (1, .ref a), (2, .int (nI (sN σ 0))), (3, .int (nI (sN σ 1))), (4, .int (nI (sN σ 2))), (5, .int (nI (sN σ 3))), (6, .long cmt), (8, .ref o), (9, .int (nI i)), (10, .int (nI (8 * i)))] (dL_law_p2 49 rfl) (by decide) rfl ?_
      refine zi_iload K (dL_law_p3 0 rfl) 0 rfl ?_
      refine zi_iload_n K (dL_law_p3 1 rfl) 5 rfl ?_
      refine zi_icmp_eq K 290 (dL_law_p3 2 rfl) rfl (fun h271_0 => ?_) (fun h271_0 => ?_)
      rotate_left
      · exact absurd rfl h271_0
      refine zi_iload_n K (dL_law_p3 11 rfl) 5 rfl ?_
      refine zi_iload K (dL_law_p3 12 rfl) 0 rfl ?_
      refine zi_if_ge K 300 (dL_law_p3 13 rfl) rfl (fun h293_0 => ?_) (fun h293_0 => ?_)
      rotate_left
      · exact absurd (nI_pos' (n := sN σ 1) (by omega)) h293_0
      refine zi_iconst K (dL_law_p3 16 rfl) zk_i1 ?_
      refine zi_iadd K (dL_law_p3 17 rfl) ?_
      refine zi_eqi (v := nI ((sN σ 1) + 1)) (nI_add (sN σ 1) 1) ?_
      refine zi_istore_n K [(3, .int (nI ((sN σ 1) + 1))), (15, .int (nI (sN σ 1))), (14, .int (nI (zsm Ls ys ((8 * i) + 2) 30))), (0, .ref bs), (1, .ref a), (2, .int (nI (sN σ 0))), (4, .int (nI (sN σ 2))), (5, .int (nI (sN σ 3))), (6, .long cmt), (8, .ref o), (9, .int (nI i)), (10, .int (nI (8 * i)))] (dL_law_p3 18 rfl) (by decide) rfl ?_
      refine zi_goto K 1296 (dL_law_p3 19 rfl) rfl ?_
      refine zV.pick [3, 4, 5, 0, 6, 7, 8, 9, 10] (lo' := [(0, .ref bs), (1, .ref a), (2, .int (nI (sN σ 0))), (3, .int (nI ((sN σ 1) + 1))), (4, .int (nI (sN σ 2))), (5, .int (nI (sN σ 3))), (6, .long cmt), (8, .ref o), (9, .int (nI i))]) rfl ?_
      exact kkA hf hc k n
    · skip
      have hc : sN σ 1 = 30 := Nat.le_antisymm hw.1.2.2.1.2 hc
      refine zw_callSW K (f := f) (B := B) (σ := σ) (σ' := σ) (As := [.ref a, .int (nI (zsm Ls ys ((8 * i) + 1) (sN σ 0))), .int (nI (zsm Ls ys ((8 * i) + 2) 30)), .int (nI ((zsm Ls ys ((8 * i) + 2) 30) + (zsm Ls ys ((8 * i) + 3) 9))), .int (nI (zsm Ls ys ((8 * i) + 4) 900))]) (na := 5) [] [.int (-1000000)] (e_lossF (zsm Ls ys (8 * i + 1) (sN σ 0)) (nI (zsm Ls ys (8 * i + 2) 30)) (nI (zsm Ls ys (8 * i + 2) 30 + zsm Ls ys (8 * i + 3) 9)) (nI (zsm Ls ys (8 * i + 4) 900)) hw q1 (isSpan_nI (by omega) (by omega)) (isOut_nI (lo := 0) (hi := 1000000) (by omega) (by omega) (by omega)) hf hc) (dL_law_p2 48 rfl) w_778 w_779 w_24 w_780 (by decide +kernel) rfl ⟨by omega, by omega⟩ hB1 (Nat.le_of_ble_eq_true rfl) rfl rfl ?_ k n
      show zVf G X 21 (zLw G o a σ f (B + 1)) 266 [(14, .int (nI (zsm Ls ys ((8 * i) + 2) 30))), (0, .ref bs), (1, .ref a), (2, .int (nI (sN σ 0))), (3, .int (nI (sN σ 1))), (4, .int (nI (sN σ 2))), (5, .int (nI (sN σ 3))), (6, .long cmt), (8, .ref o), (9, .int (nI i)), (10, .int (nI (8 * i)))] [.int (-1000000)]
      intro k n
      refine zi_istore K [(15, .int (-1000000)), (14, .int (nI (zsm Ls ys ((8 * i) + 2) 30))), (0, .ref bs), (1, .ref a), (2, .int (nI (sN σ 0))), (3, .int (nI (sN σ 1))), (4, .int (nI (sN σ 2))), (5, .int (nI (sN σ 3))), (6, .long cmt), (8, .ref o), (9, .int (nI i)), (10, .int (nI (8 * i)))] (dL_law_p2 49 rfl) (by decide) rfl ?_
      refine zi_iload K (dL_law_p3 0 rfl) 0 rfl ?_
      refine zi_iload_n K (dL_law_p3 1 rfl) 5 rfl ?_
      refine zi_icmp_eq K 290 (dL_law_p3 2 rfl) rfl (fun h271_0 => ?_) (fun h271_0 => ?_)
      · skip
        refine zi_iload_n K (dL_law_p3 11 rfl) 5 rfl ?_
        refine zi_iload K (dL_law_p3 12 rfl) 0 rfl ?_
        refine zi_if_ge K 300 (dL_law_p3 13 rfl) rfl (fun h293_1 => ?_) (fun h293_1 => ?_)
        · exact absurd h293_1 (by decide)
        refine zi_iconst K (dL_law_p3 14 rfl) zk_i0 ?_
        refine zi_goto K 301 (dL_law_p3 15 rfl) rfl ?_
        refine zi_iadd K (dL_law_p3 17 rfl) ?_
        refine zi_eqi (v := nI ((sN σ 1) + 0)) (nI_add (sN σ 1) 0) ?_
        refine zi_istore_n K [(3, .int (nI ((sN σ 1) + 0))), (15, .int (-1000000)), (14, .int (nI (zsm Ls ys ((8 * i) + 2) 30))), (0, .ref bs), (1, .ref a), (2, .int (nI (sN σ 0))), (4, .int (nI (sN σ 2))), (5, .int (nI (sN σ 3))), (6, .long cmt), (8, .ref o), (9, .int (nI i)), (10, .int (nI (8 * i)))] (dL_law_p3 18 rfl) (by decide) rfl ?_
        refine zi_goto K 1296 (dL_law_p3 19 rfl) rfl ?_
        refine zV.pick [3, 4, 5, 0, 6, 7, 8, 9, 10] (lo' := [(0, .ref bs), (1, .ref a), (2, .int (nI (sN σ 0))), (3, .int (nI ((sN σ 1) + 0))), (4, .int (nI (sN σ 2))), (5, .int (nI (sN σ 3))), (6, .long cmt), (8, .ref o), (9, .int (nI i))]) rfl ?_
        exact kkB k n
      · skip
        refine zi_iload K (dL_law_p3 3 rfl) 0 rfl ?_
        refine zi_ldc K (dL_law_p3 4 rfl) w_1058 ?_
        refine zi_icmp_eq K 290 (dL_law_p3 5 rfl) rfl (fun h278_1 => ?_) (fun h278_1 => ?_)
        · skip
          refine zi_iload_n K (dL_law_p3 11 rfl) 5 rfl ?_
          refine zi_iload K (dL_law_p3 12 rfl) 0 rfl ?_
          refine zi_if_ge K 300 (dL_law_p3 13 rfl) rfl (fun h293_2 => ?_) (fun h293_2 => ?_)
          · exact absurd h293_2 (by decide)
          refine zi_iconst K (dL_law_p3 14 rfl) zk_i0 ?_
          refine zi_goto K 301 (dL_law_p3 15 rfl) rfl ?_
          refine zi_iadd K (dL_law_p3 17 rfl) ?_
          refine zi_eqi (v := nI ((sN σ 1) + 0)) (nI_add (sN σ 1) 0) ?_
          refine zi_istore_n K [(3, .int (nI ((sN σ 1) + 0))), (15, .int (-1000000)), (14, .int (nI (zsm Ls ys ((8 * i) + 2) 30))), (0, .ref bs), (1, .ref a), (2, .int (nI (sN σ 0))), (4, .int (nI (sN σ 2))), (5, .int (nI (sN σ 3))), (6, .long cmt), (8, .ref o), (9, .int (nI i)), (10, .int (nI (8 * i)))] (dL_law_p3 18 rfl) (by decide) rfl ?_
          refine zi_goto K 1296 (dL_law_p3 19 rfl) rfl ?_
          refine zV.pick [3, 4, 5, 0, 6, 7, 8, 9, 10] (lo' := [(0, .ref bs), (1, .ref a), (2, .int (nI (sN σ 0))), (3, .int (nI ((sN σ 1) + 0))), (4, .int (nI (sN σ 2))), (5, .int (nI (sN σ 3))), (6, .long cmt), (8, .ref o), (9, .int (nI i))]) rfl ?_
          exact kkB k n
        · skip
          refine zi_iload K (dL_law_p3 6 rfl) 0 rfl ?_
          refine zi_ldc K (dL_law_p3 7 rfl) w_777 ?_
          refine zi_icmp_eq K 290 (dL_law_p3 8 rfl) rfl (fun h285_2 => ?_) (fun h285_2 => ?_)
          rotate_left
          · exact absurd rfl h285_2
          refine zi_iload_n K (dL_law_p3 11 rfl) 5 rfl ?_
          refine zi_iload K (dL_law_p3 12 rfl) 0 rfl ?_
          refine zi_if_ge K 300 (dL_law_p3 13 rfl) rfl (fun h293_2 => ?_) (fun h293_2 => ?_)
          · exact absurd h293_2 (by decide)
          refine zi_iconst K (dL_law_p3 14 rfl) zk_i0 ?_
          refine zi_goto K 301 (dL_law_p3 15 rfl) rfl ?_
          refine zi_iadd K (dL_law_p3 17 rfl) ?_
          refine zi_eqi (v := nI ((sN σ 1) + 0)) (nI_add (sN σ 1) 0) ?_
          refine zi_istore_n K [(3, .int (nI ((sN σ 1) + 0))), (15, .int (-1000000)), (14, .int (nI (zsm Ls ys ((8 * i) + 2) 30))), (0, .ref bs), (1, .ref a), (2, .int (nI (sN σ 0))), (4, .int (nI (sN σ 2))), (5, .int (nI (sN σ 3))), (6, .long cmt), (8, .ref o), (9, .int (nI i)), (10, .int (nI (8 * i)))] (dL_law_p3 18 rfl) (by decide) rfl ?_
          refine zi_goto K 1296 (dL_law_p3 19 rfl) rfl ?_
          refine zV.pick [3, 4, 5, 0, 6, 7, 8, 9, 10] (lo' := [(0, .ref bs), (1, .ref a), (2, .int (nI (sN σ 0))), (3, .int (nI ((sN σ 1) + 0))), (4, .int (nI (sN σ 2))), (5, .int (nI (sN σ 3))), (6, .long cmt), (8, .ref o), (9, .int (nI i))]) rfl ?_
          exact kkB k n
set_option maxRecDepth 100000 in
set_option maxHeartbeats 8000000 in
theorem b_share {G : zG} {X : zX} {bs Ls o a : Nat} {ys : Nat → Int32} {σ : zSt} {f : Nat → Int32} {B i : Nat} {cmt : Int64} {rm : Room} (K : zK G X cL_law "LayertreatyLaw" 21 (some .boolean) rm) (Y : zY G bs Ls ys (xs X)) (hL9 : Ls ≤ 260) (hi9 : i < 50) (hR9 : 60 ≤ rm.frames ∧ 2000 ≤ rm.locals) (hw : zW σ) {t r : Nat} (ht : t < sN σ 2) (hr : r < 5) (hg : 0 ≤ v_share σ t r (nI (zsm Ls ys (8 * i + 3) 70))) (hB : sgc (s_share σ t r (nI (zsm Ls ys (8 * i + 3) 70))) + (B + 0) ≤ rm.cells ∧ sgs (s_share σ t r (nI (zsm Ls ys (8 * i + 3) 70))) + 6 * (B + 0) ≤ rm.slots) (hB1 : sgc σ + (B + 1) ≤ rm.cells ∧ sgs σ + 6 * (B + 1) ≤ rm.slots)
    (kkA : v_allShares σ t - sI σ 21 t r + (nI (zsm Ls ys (8 * i + 3) 70)) ≤ 100 → zVf G X 21 (zLw G o a (s_share σ t r (nI (zsm Ls ys (8 * i + 3) 70))) f B) 1296 [(0, .ref bs), (1, .ref a), (2, .int (nI (sN σ 0))), (3, .int (nI (sN σ 1))), (4, .int (nI (sN σ 2))), (5, .int (nI (sN σ 3))), (6, .long cmt), (8, .ref o), (9, .int (nI i))] []) (kkB : zVf G X 21 (zLw G o a σ f (B + 1)) 1296 [(0, .ref bs), (1, .ref a), (2, .int (nI (sN σ 0))), (3, .int (nI (sN σ 1))), (4, .int (nI (sN σ 2))), (5, .int (nI (sN σ 3))), (6, .long cmt), (8, .ref o), (9, .int (nI i))] []) : zVf G X 21 (zLw G o a σ f B) 493 [(0, .ref bs), (1, .ref a), (2, .int (nI (sN σ 0))), (3, .int (nI (sN σ 1))), (4, .int (nI (sN σ 2))), (5, .int (nI (sN σ 3))), (6, .long cmt), (8, .ref o), (9, .int (nI i)), (10, .int (nI (8 * i))), (12, .int (nI t)), (13, .int (nI r))] [] := by
  intro k n
  refine zi_aload_n K (dL_law_p5 20 rfl) 1 rfl ?_
  refine zi_iload K (dL_law_p5 21 rfl) 10 rfl ?_
  refine zi_iload K (dL_law_p5 22 rfl) 11 rfl ?_
  refine zi_aload_n K (dL_law_p5 23 rfl) 0 rfl ?_
  refine zi_iload K (dL_law_p5 24 rfl) 9 rfl ?_
  refine zi_iconst K (dL_law_p5 25 rfl) zk_i3 ?_
  refine zi_iadd K (dL_law_p5 26 rfl) ?_
  refine zi_eqi (v := nI ((8 * i) + 3)) (nI_add (8 * i) 3) ?_
  refine zi_bipush K (dL_law_p5 27 rfl) zk_b70 ?_
  refine zV.rmk (fun H h => h.1) (fun hk9 => ?_)
  refine zl_some K Y hL9 ((8 * i) + 3) 70 (by omega) (by omega) (by omega) (dL_law_p5 28 rfl) ⟨by omega, by omega, by omega, by omega⟩ (Nat.le_of_ble_eq_true rfl) ?_
  have q3 := zsm_lt (Ls := Ls) (ys := ys) (i := 8 * i + 3) (m := 70) (by omega)
  by_cases ha : v_allShares σ t - sI σ 21 t r + (nI (zsm Ls ys (8 * i + 3) 70)) ≤ 100
  · skip
    refine zw_callSW K (f := f) (B := B) (σ := σ) (σ' := s_share σ t r (nI (zsm Ls ys (8 * i + 3) 70))) (As := [.ref a, .int (nI t), .int (nI r), .int (nI (zsm Ls ys ((8 * i) + 3) 70))]) (na := 4) [] [.int (v_share σ t r (nI (zsm Ls ys (8 * i + 3) 70)))] (e_share t r (nI (zsm Ls ys (8 * i + 3) 70)) hw ht hr (isOut_nI (lo := 0) (hi := 100) (by omega) (by omega) (by omega)) ha) (dL_law_p5 29 rfl) w_1216 w_1217 w_24 w_1218 (by decide +kernel) rfl ⟨by omega, by omega⟩ hB (Nat.le_of_ble_eq_true rfl) rfl rfl ?_ k n
    show zVf G X 21 (zLw G o a (s_share σ t r (nI (zsm Ls ys (8 * i + 3) 70))) f B) 511 [(0, .ref bs), (1, .ref a), (2, .int (nI (sN σ 0))), (3, .int (nI (sN σ 1))), (4, .int (nI (sN σ 2))), (5, .int (nI (sN σ 3))), (6, .long cmt), (8, .ref o), (9, .int (nI i)), (10, .int (nI (8 * i))), (12, .int (nI t)), (13, .int (nI r))] [.int (v_share σ t r (nI (zsm Ls ys (8 * i + 3) 70)))]
    intro k n
    refine zi_istore K [(14, .int (v_share σ t r (nI (zsm Ls ys (8 * i + 3) 70)))), (0, .ref bs), (1, .ref a), (2, .int (nI (sN σ 0))), (3, .int (nI (sN σ 1))), (4, .int (nI (sN σ 2))), (5, .int (nI (sN σ 3))), (6, .long cmt), (8, .ref o), (9, .int (nI i)), (10, .int (nI (8 * i))), (12, .int (nI t)), (13, .int (nI r))] (dL_law_p5 30 rfl) (by decide) rfl ?_
    refine zi_iload K (dL_law_p5 31 rfl) 0 rfl ?_
    refine zi_if_ge K 527 (dL_law_p5 32 rfl) rfl (fun h515_0 => ?_) (fun h515_0 => ?_)
    rotate_left
    · exact absurd hg h515_0
    refine zi_goto K 1296 (dL_law_p5 38 rfl) rfl ?_
    refine zV.pick [1, 2, 3, 4, 5, 6, 7, 8, 9] (lo' := [(0, .ref bs), (1, .ref a), (2, .int (nI (sN σ 0))), (3, .int (nI (sN σ 1))), (4, .int (nI (sN σ 2))), (5, .int (nI (sN σ 3))), (6, .long cmt), (8, .ref o), (9, .int (nI i))]) rfl ?_
    exact (kkA ha) k n
  · skip
    refine zw_callSW K (f := f) (B := B) (σ := σ) (σ' := σ) (As := [.ref a, .int (nI t), .int (nI r), .int (nI (zsm Ls ys ((8 * i) + 3) 70))]) (na := 4) [] [.int (-1500000)] (e_shareF t r (nI (zsm Ls ys (8 * i + 3) 70)) hw ht hr (isOut_nI (lo := 0) (hi := 100) (by omega) (by omega) (by omega)) ha) (dL_law_p5 29 rfl) w_1216 w_1217 w_24 w_1218 (by decide +kernel) rfl ⟨by omega, by omega⟩ hB1 (Nat.le_of_ble_eq_true rfl) rfl rfl ?_ k n
    show zVf G X 21 (zLw G o a σ f (B + 1)) 511 [(0, .ref bs), (1, .ref a), (2, .int (nI (sN σ 0))), (3, .int (nI (sN σ 1))), (4, .int (nI (sN σ 2))), (5, .int (nI (sN σ 3))), (6, .long cmt), (8, .ref o), (9, .int (nI i)), (10, .int (nI (8 * i))), (12, .int (nI t)), (13, .int (nI r))] [.int (-1500000)]
    intro k n
    refine zi_istore K [(14, .int (-1500000)), (0, .ref bs), (1, .ref a), (2, .int (nI (sN σ 0))), (3, .int (nI (sN σ 1))), (4, .int (nI (sN σ 2))), (5, .int (nI (sN σ 3))), (6, .long cmt), (8, .ref o), (9, .int (nI i)), (10, .int (nI (8 * i))), (12, .int (nI t)), (13, .int (nI r))] (dL_law_p5 30 rfl) (by decide) rfl ?_
    refine zi_iload K (dL_law_p5 31 rfl) 0 rfl ?_
    refine zi_if_ge K 527 (dL_law_p5 32 rfl) rfl (fun h515_0 => ?_) (fun h515_0 => ?_)
    · exact absurd h515_0 (by decide)
    refine zi_iload K (dL_law_p5 33 rfl) 0 rfl ?_
    refine zi_ldc K (dL_law_p5 34 rfl) w_1058 ?_
    refine zi_icmp_eq K 527 (dL_law_p5 35 rfl) rfl (fun h522_0 => ?_) (fun h522_0 => ?_)
    rotate_left
    · exact absurd rfl h522_0
    refine zi_goto K 1296 (dL_law_p5 38 rfl) rfl ?_
    refine zV.pick [1, 2, 3, 4, 5, 6, 7, 8, 9] (lo' := [(0, .ref bs), (1, .ref a), (2, .int (nI (sN σ 0))), (3, .int (nI (sN σ 1))), (4, .int (nI (sN σ 2))), (5, .int (nI (sN σ 3))), (6, .long cmt), (8, .ref o), (9, .int (nI i))]) rfl ?_
    exact kkB k n
set_option maxRecDepth 100000 in
set_option maxHeartbeats 8000000 in
theorem b_setAmount {G : zG} {X : zX} {bs Ls o a : Nat} {ys : Nat → Int32} {σ : zSt} {f : Nat → Int32} {B i : Nat} {cmt : Int64} {rm : Room} (K : zK G X cL_law "LayertreatyLaw" 21 (some .boolean) rm) (Y : zY G bs Ls ys (xs X)) (hL9 : Ls ≤ 260) (hi9 : i < 50) (hR9 : 60 ≤ rm.frames ∧ 2000 ≤ rm.locals) (hw : zW σ) (hB0 : sgc σ + B ≤ rm.cells ∧ sgs σ + 6 * B ≤ rm.slots) (hl0 : 0 < sN σ 1) (hN1 : sN σ 1 ≤ 30) (hb0 : ¬ (v_setAmount σ (zsm Ls ys (8 * i + 1) (sN σ 1)) (nI (zsm Ls ys (8 * i + 2) 900))) < 0) (hb1 : v_isOut (s_setAmount σ (zsm Ls ys (8 * i + 1) (sN σ 1)) (nI (zsm Ls ys (8 * i + 2) 900))) (v_setAmount σ (zsm Ls ys (8 * i + 1) (sN σ 1)) (nI (zsm Ls ys (8 * i + 2) 900))) 0 1000000 = 0) (hw1 : zW (s_setAmount σ (zsm Ls ys (8 * i + 1) (sN σ 1)) (nI (zsm Ls ys (8 * i + 2) 900)))) (hk1 : zsm Ls ys (8 * i + 1) (sN σ 1) < sN (s_setAmount σ (zsm Ls ys (8 * i + 1) (sN σ 1)) (nI (zsm Ls ys (8 * i + 2) 900))) 1) (hv1 : v_setAmount (s_setAmount σ (zsm Ls ys (8 * i + 1) (sN σ 1)) (nI (zsm Ls ys (8 * i + 2) 900))) (zsm Ls ys (8 * i + 1) (sN σ 1)) (v_setAmount σ (zsm Ls ys (8 * i + 1) (sN σ 1)) (nI (zsm Ls ys (8 * i + 2) 900))) = nI (zsm Ls ys (8 * i + 2) 900)) (hB : sgc (s_setAmount σ (zsm Ls ys (8 * i + 1) (sN σ 1)) (nI (zsm Ls ys (8 * i + 2) 900))) + (B + 0) ≤ rm.cells ∧ sgs (s_setAmount σ (zsm Ls ys (8 * i + 1) (sN σ 1)) (nI (zsm Ls ys (8 * i + 2) 900))) + 6 * (B + 0) ≤ rm.slots) (hB2 : sgc (s_setAmount (s_setAmount σ (zsm Ls ys (8 * i + 1) (sN σ 1)) (nI (zsm Ls ys (8 * i + 2) 900))) (zsm Ls ys (8 * i + 1) (sN σ 1)) (v_setAmount σ (zsm Ls ys (8 * i + 1) (sN σ 1)) (nI (zsm Ls ys (8 * i + 2) 900)))) + (B + 0) ≤ rm.cells ∧ sgs (s_setAmount (s_setAmount σ (zsm Ls ys (8 * i + 1) (sN σ 1)) (nI (zsm Ls ys (8 * i + 2) 900))) (zsm Ls ys (8 * i + 1) (sN σ 1)) (v_setAmount σ (zsm Ls ys (8 * i + 1) (sN σ 1)) (nI (zsm Ls ys (8 * i + 2) 900)))) + 6 * (B + 0) ≤ rm.slots)
    (kk : zVf G X 21 (zLw G o a (s_setAmount (s_setAmount σ (zsm Ls ys (8 * i + 1) (sN σ 1)) (nI (zsm Ls ys (8 * i + 2) 900))) (zsm Ls ys (8 * i + 1) (sN σ 1)) (v_setAmount σ (zsm Ls ys (8 * i + 1) (sN σ 1)) (nI (zsm Ls ys (8 * i + 2) 900)))) f B) 1296 [(0, .ref bs), (1, .ref a), (2, .int (nI (sN σ 0))), (3, .int (nI (sN σ 1))), (4, .int (nI (sN σ 2))), (5, .int (nI (sN σ 3))), (6, .long cmt), (8, .ref o), (9, .int (nI i))] []) : zVf G X 21 (zLw G o a σ f B) 1046 [(0, .ref bs), (1, .ref a), (2, .int (nI (sN σ 0))), (3, .int (nI (sN σ 1))), (4, .int (nI (sN σ 2))), (5, .int (nI (sN σ 3))), (6, .long cmt), (8, .ref o), (9, .int (nI i)), (10, .int (nI (8 * i)))] [] := by
  intro k n
  refine zi_aload_n K (dL_law_p11 11 rfl) 0 rfl ?_
  refine zi_iload K (dL_law_p11 12 rfl) 9 rfl ?_
  refine zi_iconst K (dL_law_p11 13 rfl) zk_i1 ?_
  refine zi_iadd K (dL_law_p11 14 rfl) ?_
  refine zi_eqi (v := nI ((8 * i) + 1)) (nI_add (8 * i) 1) ?_
  refine zi_iload_n K (dL_law_p11 15 rfl) 3 rfl ?_
  refine zV.rmk (fun H h => h.1) (fun hk9 => ?_)
  refine zl_some K Y hL9 ((8 * i) + 1) (sN σ 1) (by omega) (by omega) (by omega) (dL_law_p11 16 rfl) ⟨by omega, by omega, by omega, by omega⟩ (Nat.le_of_ble_eq_true rfl) ?_
  refine zi_istore K [(14, .int (nI (zsm Ls ys ((8 * i) + 1) (sN σ 1)))), (0, .ref bs), (1, .ref a), (2, .int (nI (sN σ 0))), (3, .int (nI (sN σ 1))), (4, .int (nI (sN σ 2))), (5, .int (nI (sN σ 3))), (6, .long cmt), (8, .ref o), (9, .int (nI i)), (10, .int (nI (8 * i)))] (dL_law_p11 17 rfl) (by decide) rfl ?_
  refine zi_aload_n K (dL_law_p11 18 rfl) 2 rfl ?_
  refine zi_iload K (dL_law_p11 19 rfl) 0 rfl ?_
  refine zi_aload_n K (dL_law_p11 20 rfl) 1 rfl ?_
  refine zi_iload K (dL_law_p11 21 rfl) 10 rfl ?_
  refine zi_iconst K (dL_law_p11 22 rfl) zk_i2 ?_
  refine zi_iadd K (dL_law_p11 23 rfl) ?_
  refine zi_eqi (v := nI ((8 * i) + 2)) (nI_add (8 * i) 2) ?_
  refine zi_sipush K (dL_law_p11 24 rfl) zk_s900 ?_
  refine zV.rmk (fun H h => h.1) (fun hk9 => ?_)
  refine zl_some K Y hL9 ((8 * i) + 2) 900 (by omega) (by omega) (by omega) (dL_law_p11 25 rfl) ⟨by omega, by omega, by omega, by omega⟩ (Nat.le_of_ble_eq_true rfl) ?_
  have q1 := zsm_lt (Ls := Ls) (ys := ys) (i := 8 * i + 1) (m := sN σ 1) (by omega)
  have q2 := zsm_lt (Ls := Ls) (ys := ys) (i := 8 * i + 2) (m := 900) (by omega)
  refine zw_callSW K (f := f) (B := B) (σ := σ) (σ' := s_setAmount σ (zsm Ls ys (8 * i + 1) (sN σ 1)) (nI (zsm Ls ys (8 * i + 2) 900))) (As := [.ref a, .int (nI (zsm Ls ys ((8 * i) + 1) (sN σ 1))), .int (nI (zsm Ls ys ((8 * i) + 2) 900))]) (na := 3) [] [.int (v_setAmount σ (zsm Ls ys (8 * i + 1) (sN σ 1)) (nI (zsm Ls ys (8 * i + 2) 900)))] (e_setAmount (zsm Ls ys (8 * i + 1) (sN σ 1)) (nI (zsm Ls ys (8 * i + 2) 900)) hw q1 (isOut_nI (lo := 0) (hi := 1000000) (by omega) (by omega) (by omega))) (dL_law_p11 26 rfl) w_1059 w_1060 w_24 w_1061 (by decide +kernel) rfl ⟨by omega, by omega⟩ hB (Nat.le_of_ble_eq_true rfl) rfl rfl ?_ k n
  show zVf G X 21 (zLw G o a (s_setAmount σ (zsm Ls ys (8 * i + 1) (sN σ 1)) (nI (zsm Ls ys (8 * i + 2) 900))) f B) 1074 [(14, .int (nI (zsm Ls ys ((8 * i) + 1) (sN σ 1)))), (0, .ref bs), (1, .ref a), (2, .int (nI (sN σ 0))), (3, .int (nI (sN σ 1))), (4, .int (nI (sN σ 2))), (5, .int (nI (sN σ 3))), (6, .long cmt), (8, .ref o), (9, .int (nI i)), (10, .int (nI (8 * i)))] [.int (v_setAmount σ (zsm Ls ys (8 * i + 1) (sN σ 1)) (nI (zsm Ls ys (8 * i + 2) 900)))]
  intro k n
  refine zi_istore K [(15, .int (v_setAmount σ (zsm Ls ys (8 * i + 1) (sN σ 1)) (nI (zsm Ls ys (8 * i + 2) 900)))), (14, .int (nI (zsm Ls ys ((8 * i) + 1) (sN σ 1)))), (0, .ref bs), (1, .ref a), (2, .int (nI (sN σ 0))), (3, .int (nI (sN σ 1))), (4, .int (nI (sN σ 2))), (5, .int (nI (sN σ 3))), (6, .long cmt), (8, .ref o), (9, .int (nI i)), (10, .int (nI (8 * i)))] (dL_law_p11 27 rfl) (by decide) rfl ?_
  refine zi_iload K (dL_law_p11 28 rfl) 0 rfl ?_
  refine zi_if_lt K 1103 (dL_law_p11 29 rfl) rfl (fun h1078_0 => ?_) (fun h1078_0 => ?_)
  · exact absurd h1078_0 hb0
  refine zi_aload_n K (dL_law_p11 30 rfl) 3 rfl ?_
  refine zi_iload K (dL_law_p11 31 rfl) 1 rfl ?_
  refine zi_iload K (dL_law_p11 32 rfl) 0 rfl ?_
  refine zw_callSW K (f := f) (B := B) (σ := s_setAmount σ (zsm Ls ys (8 * i + 1) (sN σ 1)) (nI (zsm Ls ys (8 * i + 2) 900))) (σ' := s_setAmount (s_setAmount σ (zsm Ls ys (8 * i + 1) (sN σ 1)) (nI (zsm Ls ys (8 * i + 2) 900))) (zsm Ls ys (8 * i + 1) (sN σ 1)) (v_setAmount σ (zsm Ls ys (8 * i + 1) (sN σ 1)) (nI (zsm Ls ys (8 * i + 2) 900)))) (As := [.ref a, .int (nI (zsm Ls ys ((8 * i) + 1) (sN σ 1))), .int (v_setAmount σ (zsm Ls ys (8 * i + 1) (sN σ 1)) (nI (zsm Ls ys (8 * i + 2) 900)))]) (na := 3) [] [.int (v_setAmount (s_setAmount σ (zsm Ls ys (8 * i + 1) (sN σ 1)) (nI (zsm Ls ys (8 * i + 2) 900))) (zsm Ls ys (8 * i + 1) (sN σ 1)) (v_setAmount σ (zsm Ls ys (8 * i + 1) (sN σ 1)) (nI (zsm Ls ys (8 * i + 2) 900))))] (e_setAmount (zsm Ls ys (8 * i + 1) (sN σ 1)) (v_setAmount σ (zsm Ls ys (8 * i + 1) (sN σ 1)) (nI (zsm Ls ys (8 * i + 2) 900))) hw1 hk1 hb1) (dL_law_p11 33 rfl) w_1059 w_1060 w_24 w_1061 (by decide +kernel) rfl ⟨by omega, by omega⟩ hB2 (Nat.le_of_ble_eq_true rfl) rfl rfl ?_ k n
  show zVf G X 21 (zLw G o a (s_setAmount (s_setAmount σ (zsm Ls ys (8 * i + 1) (sN σ 1)) (nI (zsm Ls ys (8 * i + 2) 900))) (zsm Ls ys (8 * i + 1) (sN σ 1)) (v_setAmount σ (zsm Ls ys (8 * i + 1) (sN σ 1)) (nI (zsm Ls ys (8 * i + 2) 900)))) f B) 1089 [(15, .int (v_setAmount σ (zsm Ls ys (8 * i + 1) (sN σ 1)) (nI (zsm Ls ys (8 * i + 2) 900)))), (14, .int (nI (zsm Ls ys ((8 * i) + 1) (sN σ 1)))), (0, .ref bs), (1, .ref a), (2, .int (nI (sN σ 0))), (3, .int (nI (sN σ 1))), (4, .int (nI (sN σ 2))), (5, .int (nI (sN σ 3))), (6, .long cmt), (8, .ref o), (9, .int (nI i)), (10, .int (nI (8 * i)))] [.int (v_setAmount (s_setAmount σ (zsm Ls ys (8 * i + 1) (sN σ 1)) (nI (zsm Ls ys (8 * i + 2) 900))) (zsm Ls ys (8 * i + 1) (sN σ 1)) (v_setAmount σ (zsm Ls ys (8 * i + 1) (sN σ 1)) (nI (zsm Ls ys (8 * i + 2) 900))))]
  intro k n
  refine zi_eqi (v := nI (zsm Ls ys (8 * i + 2) 900)) hv1 ?_
  refine zi_aload_n K (dL_law_p11 34 rfl) 2 rfl ?_
  refine zi_iload K (dL_law_p11 35 rfl) 11 rfl ?_
  refine zi_iconst K (dL_law_p11 36 rfl) zk_i2 ?_
  refine zi_iadd K (dL_law_p11 37 rfl) ?_
  refine zi_eqi (v := nI ((8 * i) + 2)) (nI_add (8 * i) 2) ?_
  refine zi_sipush K (dL_law_p11 38 rfl) zk_s900 ?_
  refine zV.rmk (fun H h => h.1) (fun hk9 => ?_)
  refine zl_some K Y hL9 ((8 * i) + 2) 900 (by omega) (by omega) (by omega) (dL_law_p11 39 rfl) ⟨by omega, by omega, by omega, by omega⟩ (Nat.le_of_ble_eq_true rfl) ?_
  refine zi_icmp_eq K 1105 (dL_law_p11 40 rfl) rfl (fun h1100_0 => ?_) (fun h1100_0 => ?_)
  rotate_left
  · exact absurd rfl h1100_0
  refine zi_goto K 1296 (dL_law_p11 43 rfl) rfl ?_
  refine zV.pick [2, 3, 4, 5, 6, 7, 8, 9, 10] (lo' := [(0, .ref bs), (1, .ref a), (2, .int (nI (sN σ 0))), (3, .int (nI (sN σ 1))), (4, .int (nI (sN σ 2))), (5, .int (nI (sN σ 3))), (6, .long cmt), (8, .ref o), (9, .int (nI i))]) rfl ?_
  exact kk k n
