/-! the law's wrappers: what they answer, what they catch -/
theorem zt_0 {x : Nat} : 0 + x ≤ x := Nat.le_of_eq (Nat.zero_add _)
theorem w_664 : (.codeWith yL_policy cL_policy 6 (some FieldType.int) [(0, 9, 10, 19), (0, 9, 15, 22)] : Cond) ∈ zB := (zb_m3 (w := Cond.codeWith yL_policy cL_policy 6 (some FieldType.int) [(0, 9, 10, 19), (0, 9, 15, 22)]) (List.mem_of_getElem? (i := 160) rfl) rfl)
theorem l_policy {G : zG} {ad : Nat → Nat → Nat} {σ : zSt} {v1 v2 v3 v4 : Int32} {fr lc mc ms : Nat} {x : Int32} {Qp : Heap → Prop} (hc : zC G yX8_policy cX8_policy 6 (some FieldType.int) fr lc mc ms [.ref (ad 0 0), .int v1, .int v2, .int v3, .int v4] (zP G ad σ) (some (.int x)) Qp) : zCW G yL_policy cL_policy 6 (some FieldType.int) [(0, 9, 10, 19), (0, 9, 15, 22)] (fr + 1) (8 + (6 + 11) + lc) mc ms [.ref (ad 0 0), .int v1, .int v2, .int v3, .int v4] (zP G ad σ) (some (.int x)) Qp := by
  refine zCW_of (by decide) (Nat.le_of_ble_eq_true rfl) (fun X K E ht => ?_)
  show zV G X 6 (zP G ad σ) 0 0 0 [(0, .ref (ad 0 0)), (1, .int v1), (2, .int v2), (3, .int v3), (4, .int v4)] []
  refine zi_aload_n K (dL_policy 0 rfl) 0 rfl ?_
  refine zi_iload_n K (dL_policy 1 rfl) 1 rfl ?_
  refine zi_iload_n K (dL_policy 2 rfl) 2 rfl ?_
  refine zi_iload_n K (dL_policy 3 rfl) 3 rfl ?_
  refine zi_iload K (dL_policy 4 rfl) 4 rfl ?_
  refine zi_callV K (na := 4) [] [.int x] hc (dL_policy 5 rfl) w_667 w_668 w_669 w_25 w_670 (by decide +kernel) rfl (fun H h => zi_recv K (zr_O (σ := σ) rfl H h).1 rfl) (fun H h => h) ⟨Nat.le_refl _, Nat.le_refl _⟩ ⟨zt_0, zt_0⟩ (Nat.le_of_ble_eq_true rfl) rfl rfl ?_
  exact zi_iret K E (dL_policy 6 rfl) zt_0 zt_0 rfl (fun H h => h)
theorem l_policy_ISE {G : zG} {ad : Nat → Nat → Nat} {σ : zSt} {v1 v2 v3 v4 : Int32} {fr lc mc ms : Nat} {Qp : Heap → Prop} (hc : zCX G yX8_policy cX8_policy 6 (some FieldType.int) fr lc mc ms [.ref (ad 0 0), .int v1, .int v2, .int v3, .int v4] (zP G ad σ) "java/lang/IllegalStateException" Qp) : zCW G yL_policy cL_policy 6 (some FieldType.int) [(0, 9, 10, 19), (0, 9, 15, 22)] (fr + 1) (8 + (6 + 11) + lc) mc ms [.ref (ad 0 0), .int v1, .int v2, .int v3, .int v4] (zP G ad σ) (some (.int (-1000000))) Qp := by
  refine zCW_of (by decide) (Nat.le_of_ble_eq_true rfl) (fun X K E ht => ?_)
  show zV G X 6 (zP G ad σ) 0 0 0 [(0, .ref (ad 0 0)), (1, .int v1), (2, .int v2), (3, .int v3), (4, .int v4)] []
  refine zi_aload_n K (dL_policy 0 rfl) 0 rfl ?_
  refine zi_iload_n K (dL_policy 1 rfl) 1 rfl ?_
  refine zi_iload_n K (dL_policy 2 rfl) 2 rfl ?_
  refine zi_iload_n K (dL_policy 3 rfl) 3 rfl ?_
  refine zi_iload K (dL_policy 4 rfl) 4 rfl ?_
  refine zi_callVXc K ht (na := 4) [] hc (dL_policy 5 rfl) w_667 w_668 w_669 w_25 w_670 (by decide +kernel) rfl (fun H h => zi_recv K (zr_O (σ := σ) rfl H h).1 rfl) (fun H h => h) ⟨Nat.le_refl _, Nat.le_refl _⟩ ⟨zt_0, zt_0⟩ (Nat.le_of_ble_eq_true rfl) rfl [{ startPc := 0, endPc := 9, handlerPc := 10, catchType := 19 }] { startPc := 0, endPc := 9, handlerPc := 15, catchType := 22 } [] rfl (List.forall_mem_cons.mpr ⟨⟨by decide, _, w_665, List.mem_of_getElem? (i := 3) rfl⟩, (fun z hz => by cases hz)⟩) rfl (by decide) w_666 (by decide) (fun q9 => ?_)
  show zV G X 6 Qp (0 + mc) (0 + ms) 15 [(0, .ref (ad 0 0)), (1, .int v1), (2, .int v2), (3, .int v3), (4, .int v4)] [.ref q9]
  refine zi_astore K [(5, .ref q9), (0, .ref (ad 0 0)), (1, .int v1), (2, .int v2), (3, .int v3), (4, .int v4)] (dL_policy 10 rfl) (by decide) rfl ?_
  refine zi_ldc K (dL_policy 11 rfl) w_777 ?_
  exact zi_iret K E (dL_policy 12 rfl) zt_0 zt_0 rfl (fun H h => h)
theorem w_780 : (.codeWith yL_loss cL_loss 6 (some FieldType.int) [(0, 9, 10, 28), (0, 9, 15, 19), (0, 9, 20, 31), (0, 9, 25, 22)] : Cond) ∈ zB := (zb_m4 (w := Cond.codeWith yL_loss cL_loss 6 (some FieldType.int) [(0, 9, 10, 28), (0, 9, 15, 19), (0, 9, 20, 31), (0, 9, 25, 22)]) (List.mem_of_getElem? (i := 36) rfl) rfl)
theorem l_loss {G : zG} {ad : Nat → Nat → Nat} {σ : zSt} {v1 v2 v3 v4 : Int32} {fr lc mc ms : Nat} {x : Int32} {Qp : Heap → Prop} (hc : zC G yX8_loss cX8_loss 7 (some FieldType.int) fr lc mc ms [.ref (ad 0 0), .int v1, .int v2, .int v3, .int v4] (zP G ad σ) (some (.int x)) Qp) : zCW G yL_loss cL_loss 6 (some FieldType.int) [(0, 9, 10, 28), (0, 9, 15, 19), (0, 9, 20, 31), (0, 9, 25, 22)] (fr + 1) (8 + (7 + 11) + lc) mc ms [.ref (ad 0 0), .int v1, .int v2, .int v3, .int v4] (zP G ad σ) (some (.int x)) Qp := by
  refine zCW_of (by decide) (Nat.le_of_ble_eq_true rfl) (fun X K E ht => ?_)
  show zV G X 6 (zP G ad σ) 0 0 0 [(0, .ref (ad 0 0)), (1, .int v1), (2, .int v2), (3, .int v3), (4, .int v4)] []
  refine zi_aload_n K (dL_loss 0 rfl) 0 rfl ?_
  refine zi_iload_n K (dL_loss 1 rfl) 1 rfl ?_
  refine zi_iload_n K (dL_loss 2 rfl) 2 rfl ?_
  refine zi_iload_n K (dL_loss 3 rfl) 3 rfl ?_
  refine zi_iload K (dL_loss 4 rfl) 4 rfl ?_
  refine zi_callV K (na := 4) [] [.int x] hc (dL_loss 5 rfl) w_803 w_804 w_805 w_25 w_806 (by decide +kernel) rfl (fun H h => zi_recv K (zr_O (σ := σ) rfl H h).1 rfl) (fun H h => h) ⟨Nat.le_refl _, Nat.le_refl _⟩ ⟨zt_0, zt_0⟩ (Nat.le_of_ble_eq_true rfl) rfl rfl ?_
  exact zi_iret K E (dL_loss 6 rfl) zt_0 zt_0 rfl (fun H h => h)
theorem l_loss_UOE {G : zG} {ad : Nat → Nat → Nat} {σ : zSt} {v1 v2 v3 v4 : Int32} {fr lc mc ms : Nat} {Qp : Heap → Prop} (hc : zCX G yX8_loss cX8_loss 7 (some FieldType.int) fr lc mc ms [.ref (ad 0 0), .int v1, .int v2, .int v3, .int v4] (zP G ad σ) "java/lang/UnsupportedOperationException" Qp) : zCW G yL_loss cL_loss 6 (some FieldType.int) [(0, 9, 10, 28), (0, 9, 15, 19), (0, 9, 20, 31), (0, 9, 25, 22)] (fr + 1) (8 + (7 + 11) + lc) mc ms [.ref (ad 0 0), .int v1, .int v2, .int v3, .int v4] (zP G ad σ) (some (.int (-1500000))) Qp := by
  refine zCW_of (by decide) (Nat.le_of_ble_eq_true rfl) (fun X K E ht => ?_)
  show zV G X 6 (zP G ad σ) 0 0 0 [(0, .ref (ad 0 0)), (1, .int v1), (2, .int v2), (3, .int v3), (4, .int v4)] []
  refine zi_aload_n K (dL_loss 0 rfl) 0 rfl ?_
  refine zi_iload_n K (dL_loss 1 rfl) 1 rfl ?_
  refine zi_iload_n K (dL_loss 2 rfl) 2 rfl ?_
  refine zi_iload_n K (dL_loss 3 rfl) 3 rfl ?_
  refine zi_iload K (dL_loss 4 rfl) 4 rfl ?_
  refine zi_callVXc K ht (na := 4) [] hc (dL_loss 5 rfl) w_803 w_804 w_805 w_25 w_806 (by decide +kernel) rfl (fun H h => zi_recv K (zr_O (σ := σ) rfl H h).1 rfl) (fun H h => h) ⟨Nat.le_refl _, Nat.le_refl _⟩ ⟨zt_0, zt_0⟩ (Nat.le_of_ble_eq_true rfl) rfl [{ startPc := 0, endPc := 9, handlerPc := 10, catchType := 28 }, { startPc := 0, endPc := 9, handlerPc := 15, catchType := 19 }] { startPc := 0, endPc := 9, handlerPc := 20, catchType := 31 } [{ startPc := 0, endPc := 9, handlerPc := 25, catchType := 22 }] rfl (List.forall_mem_cons.mpr ⟨⟨by decide, _, w_781, List.mem_of_getElem? (i := 0) rfl⟩, (List.forall_mem_cons.mpr ⟨⟨by decide, _, w_665, List.mem_of_getElem? (i := 1) rfl⟩, (fun z hz => by cases hz)⟩)⟩) rfl (by decide) w_802 (by decide) (fun q9 => ?_)
  show zV G X 6 Qp (0 + mc) (0 + ms) 20 [(0, .ref (ad 0 0)), (1, .int v1), (2, .int v2), (3, .int v3), (4, .int v4)] [.ref q9]
  refine zi_astore K [(5, .ref q9), (0, .ref (ad 0 0)), (1, .int v1), (2, .int v2), (3, .int v3), (4, .int v4)] (dL_loss 13 rfl) (by decide) rfl ?_
  refine zi_ldc K (dL_loss 14 rfl) w_1058 ?_
  exact zi_iret K E (dL_loss 15 rfl) zt_0 zt_0 rfl (fun H h => h)
theorem l_loss_ISE {G : zG} {ad : Nat → Nat → Nat} {σ : zSt} {v1 v2 v3 v4 : Int32} {fr lc mc ms : Nat} {Qp : Heap → Prop} (hc : zCX G yX8_loss cX8_loss 7 (some FieldType.int) fr lc mc ms [.ref (ad 0 0), .int v1, .int v2, .int v3, .int v4] (zP G ad σ) "java/lang/IllegalStateException" Qp) : zCW G yL_loss cL_loss 6 (some FieldType.int) [(0, 9, 10, 28), (0, 9, 15, 19), (0, 9, 20, 31), (0, 9, 25, 22)] (fr + 1) (8 + (7 + 11) + lc) mc ms [.ref (ad 0 0), .int v1, .int v2, .int v3, .int v4] (zP G ad σ) (some (.int (-1000000))) Qp := by
  refine zCW_of (by decide) (Nat.le_of_ble_eq_true rfl) (fun X K E ht => ?_)
  show zV G X 6 (zP G ad σ) 0 0 0 [(0, .ref (ad 0 0)), (1, .int v1), (2, .int v2), (3, .int v3), (4, .int v4)] []
  refine zi_aload_n K (dL_loss 0 rfl) 0 rfl ?_
  refine zi_iload_n K (dL_loss 1 rfl) 1 rfl ?_
  refine zi_iload_n K (dL_loss 2 rfl) 2 rfl ?_
  refine zi_iload_n K (dL_loss 3 rfl) 3 rfl ?_
  refine zi_iload K (dL_loss 4 rfl) 4 rfl ?_
  refine zi_callVXc K ht (na := 4) [] hc (dL_loss 5 rfl) w_803 w_804 w_805 w_25 w_806 (by decide +kernel) rfl (fun H h => zi_recv K (zr_O (σ := σ) rfl H h).1 rfl) (fun H h => h) ⟨Nat.le_refl _, Nat.le_refl _⟩ ⟨zt_0, zt_0⟩ (Nat.le_of_ble_eq_true rfl) rfl [{ startPc := 0, endPc := 9, handlerPc := 10, catchType := 28 }, { startPc := 0, endPc := 9, handlerPc := 15, catchType := 19 }, { startPc := 0, endPc := 9, handlerPc := 20, catchType := 31 }] { startPc := 0, endPc := 9, handlerPc := 25, catchType := 22 } [] rfl (List.forall_mem_cons.mpr ⟨⟨by decide, _, w_781, List.mem_of_getElem? (i := 2) rfl⟩, (List.forall_mem_cons.mpr ⟨⟨by decide, _, w_665, List.mem_of_getElem? (i := 3) rfl⟩, (List.forall_mem_cons.mpr ⟨⟨by decide, _, w_802, List.mem_of_getElem? (i := 4) rfl⟩, (fun z hz => by cases hz)⟩)⟩)⟩) rfl (by decide) w_666 (by decide) (fun q9 => ?_)
  show zV G X 6 Qp (0 + mc) (0 + ms) 25 [(0, .ref (ad 0 0)), (1, .int v1), (2, .int v2), (3, .int v3), (4, .int v4)] [.ref q9]
  refine zi_astore K [(5, .ref q9), (0, .ref (ad 0 0)), (1, .int v1), (2, .int v2), (3, .int v3), (4, .int v4)] (dL_loss 16 rfl) (by decide) rfl ?_
  refine zi_ldc K (dL_loss 17 rfl) w_777 ?_
  exact zi_iret K E (dL_loss 18 rfl) zt_0 zt_0 rfl (fun H h => h)
theorem w_1061 : (.codeWith yL_setAmount cL_setAmount 4 (some FieldType.int) [(0, 6, 7, 28), (0, 6, 11, 19)] : Cond) ∈ zB := (zb_m5 (w := Cond.codeWith yL_setAmount cL_setAmount 4 (some FieldType.int) [(0, 6, 7, 28), (0, 6, 11, 19)]) (List.mem_of_getElem? (i := 77) rfl) rfl)
theorem l_setAmount {G : zG} {ad : Nat → Nat → Nat} {σ : zSt} {v1 v2 : Int32} {fr lc mc ms : Nat} {x : Int32} {Qp : Heap → Prop} (hc : zC G yX8_setAmount cX8_setAmount 5 (some FieldType.int) fr lc mc ms [.ref (ad 0 0), .int v1, .int v2] (zP G ad σ) (some (.int x)) Qp) : zCW G yL_setAmount cL_setAmount 4 (some FieldType.int) [(0, 6, 7, 28), (0, 6, 11, 19)] (fr + 1) (8 + (5 + 11) + lc) mc ms [.ref (ad 0 0), .int v1, .int v2] (zP G ad σ) (some (.int x)) Qp := by
  refine zCW_of (by decide) (Nat.le_of_ble_eq_true rfl) (fun X K E ht => ?_)
  show zV G X 4 (zP G ad σ) 0 0 0 [(0, .ref (ad 0 0)), (1, .int v1), (2, .int v2)] []
  refine zi_aload_n K (dL_setAmount 0 rfl) 0 rfl ?_
  refine zi_iload_n K (dL_setAmount 1 rfl) 1 rfl ?_
  refine zi_iload_n K (dL_setAmount 2 rfl) 2 rfl ?_
  refine zi_callV K (na := 2) [] [.int x] hc (dL_setAmount 3 rfl) w_1062 w_1063 w_1064 w_25 w_1065 (by decide +kernel) rfl (fun H h => zi_recv K (zr_O (σ := σ) rfl H h).1 rfl) (fun H h => h) ⟨Nat.le_refl _, Nat.le_refl _⟩ ⟨zt_0, zt_0⟩ (Nat.le_of_ble_eq_true rfl) rfl rfl ?_
  exact zi_iret K E (dL_setAmount 4 rfl) zt_0 zt_0 rfl (fun H h => h)
theorem w_1074 : (.codeWith yL_treaty cL_treaty 8 (some FieldType.int) [(0, 13, 14, 19), (0, 13, 19, 22)] : Cond) ∈ zB := (zb_m5 (w := Cond.codeWith yL_treaty cL_treaty 8 (some FieldType.int) [(0, 13, 14, 19), (0, 13, 19, 22)]) (List.mem_of_getElem? (i := 90) rfl) rfl)
theorem l_treaty {G : zG} {ad : Nat → Nat → Nat} {σ : zSt} {v1 v2 v3 v4 v5 v6 : Int32} {fr lc mc ms : Nat} {x : Int32} {Qp : Heap → Prop} (hc : zC G yX8_treaty cX8_treaty 8 (some FieldType.int) fr lc mc ms [.ref (ad 0 0), .int v1, .int v2, .int v3, .int v4, .int v5, .int v6] (zP G ad σ) (some (.int x)) Qp) : zCW G yL_treaty cL_treaty 8 (some FieldType.int) [(0, 13, 14, 19), (0, 13, 19, 22)] (fr + 1) (8 + (8 + 11) + lc) mc ms [.ref (ad 0 0), .int v1, .int v2, .int v3, .int v4, .int v5, .int v6] (zP G ad σ) (some (.int x)) Qp := by
  refine zCW_of (by decide) (Nat.le_of_ble_eq_true rfl) (fun X K E ht => ?_)
  show zV G X 8 (zP G ad σ) 0 0 0 [(0, .ref (ad 0 0)), (1, .int v1), (2, .int v2), (3, .int v3), (4, .int v4), (5, .int v5), (6, .int v6)] []
  refine zi_aload_n K (dL_treaty 0 rfl) 0 rfl ?_
  refine zi_iload_n K (dL_treaty 1 rfl) 1 rfl ?_
  refine zi_iload_n K (dL_treaty 2 rfl) 2 rfl ?_
  refine zi_iload_n K (dL_treaty 3 rfl) 3 rfl ?_
  refine zi_iload K (dL_treaty 4 rfl) 4 rfl ?_
  refine zi_iload K (dL_treaty 5 rfl) 5 rfl ?_
  refine zi_iload K (dL_treaty 6 rfl) 6 rfl ?_
  refine zi_callV K (na := 6) [] [.int x] hc (dL_treaty 7 rfl) w_1075 w_1076 w_1077 w_25 w_1078 (by decide +kernel) rfl (fun H h => zi_recv K (zr_O (σ := σ) rfl H h).1 rfl) (fun H h => h) ⟨Nat.le_refl _, Nat.le_refl _⟩ ⟨zt_0, zt_0⟩ (Nat.le_of_ble_eq_true rfl) rfl rfl ?_
  exact zi_iret K E (dL_treaty 8 rfl) zt_0 zt_0 rfl (fun H h => h)
theorem l_treaty_ISE {G : zG} {ad : Nat → Nat → Nat} {σ : zSt} {v1 v2 v3 v4 v5 v6 : Int32} {fr lc mc ms : Nat} {Qp : Heap → Prop} (hc : zCX G yX8_treaty cX8_treaty 8 (some FieldType.int) fr lc mc ms [.ref (ad 0 0), .int v1, .int v2, .int v3, .int v4, .int v5, .int v6] (zP G ad σ) "java/lang/IllegalStateException" Qp) : zCW G yL_treaty cL_treaty 8 (some FieldType.int) [(0, 13, 14, 19), (0, 13, 19, 22)] (fr + 1) (8 + (8 + 11) + lc) mc ms [.ref (ad 0 0), .int v1, .int v2, .int v3, .int v4, .int v5, .int v6] (zP G ad σ) (some (.int (-1000000))) Qp := by
  refine zCW_of (by decide) (Nat.le_of_ble_eq_true rfl) (fun X K E ht => ?_)
  show zV G X 8 (zP G ad σ) 0 0 0 [(0, .ref (ad 0 0)), (1, .int v1), (2, .int v2), (3, .int v3), (4, .int v4), (5, .int v5), (6, .int v6)] []
  refine zi_aload_n K (dL_treaty 0 rfl) 0 rfl ?_
  refine zi_iload_n K (dL_treaty 1 rfl) 1 rfl ?_
  refine zi_iload_n K (dL_treaty 2 rfl) 2 rfl ?_
  refine zi_iload_n K (dL_treaty 3 rfl) 3 rfl ?_
  refine zi_iload K (dL_treaty 4 rfl) 4 rfl ?_
  refine zi_iload K (dL_treaty 5 rfl) 5 rfl ?_
  refine zi_iload K (dL_treaty 6 rfl) 6 rfl ?_
  refine zi_callVXc K ht (na := 6) [] hc (dL_treaty 7 rfl) w_1075 w_1076 w_1077 w_25 w_1078 (by decide +kernel) rfl (fun H h => zi_recv K (zr_O (σ := σ) rfl H h).1 rfl) (fun H h => h) ⟨Nat.le_refl _, Nat.le_refl _⟩ ⟨zt_0, zt_0⟩ (Nat.le_of_ble_eq_true rfl) rfl [{ startPc := 0, endPc := 13, handlerPc := 14, catchType := 19 }] { startPc := 0, endPc := 13, handlerPc := 19, catchType := 22 } [] rfl (List.forall_mem_cons.mpr ⟨⟨by decide, _, w_665, List.mem_of_getElem? (i := 3) rfl⟩, (fun z hz => by cases hz)⟩) rfl (by decide) w_666 (by decide) (fun q9 => ?_)
  show zV G X 8 Qp (0 + mc) (0 + ms) 19 [(0, .ref (ad 0 0)), (1, .int v1), (2, .int v2), (3, .int v3), (4, .int v4), (5, .int v5), (6, .int v6)] [.ref q9]
  refine zi_astore K [(7, .ref q9), (0, .ref (ad 0 0)), (1, .int v1), (2, .int v2), (3, .int v3), (4, .int v4), (5, .int v5), (6, .int v6)] (dL_treaty 12 rfl) (by decide) rfl ?_
  refine zi_ldc K (dL_treaty 13 rfl) w_777 ?_
  exact zi_iret K E (dL_treaty 14 rfl) zt_0 zt_0 rfl (fun H h => h)
theorem w_1192 : (.codeWith yL_setDays cL_setDays 4 (some FieldType.int) [(0, 6, 7, 28), (0, 6, 11, 19)] : Cond) ∈ zB := (zb_m5 (w := Cond.codeWith yL_setDays cL_setDays 4 (some FieldType.int) [(0, 6, 7, 28), (0, 6, 11, 19)]) (List.mem_of_getElem? (i := 208) rfl) rfl)
theorem l_setDays {G : zG} {ad : Nat → Nat → Nat} {σ : zSt} {v1 v2 : Int32} {fr lc mc ms : Nat} {x : Int32} {Qp : Heap → Prop} (hc : zC G yX8_setDays cX8_setDays 5 (some FieldType.int) fr lc mc ms [.ref (ad 0 0), .int v1, .int v2] (zP G ad σ) (some (.int x)) Qp) : zCW G yL_setDays cL_setDays 4 (some FieldType.int) [(0, 6, 7, 28), (0, 6, 11, 19)] (fr + 1) (8 + (5 + 11) + lc) mc ms [.ref (ad 0 0), .int v1, .int v2] (zP G ad σ) (some (.int x)) Qp := by
  refine zCW_of (by decide) (Nat.le_of_ble_eq_true rfl) (fun X K E ht => ?_)
  show zV G X 4 (zP G ad σ) 0 0 0 [(0, .ref (ad 0 0)), (1, .int v1), (2, .int v2)] []
  refine zi_aload_n K (dL_setDays 0 rfl) 0 rfl ?_
  refine zi_iload_n K (dL_setDays 1 rfl) 1 rfl ?_
  refine zi_iload_n K (dL_setDays 2 rfl) 2 rfl ?_
  refine zi_callV K (na := 2) [] [.int x] hc (dL_setDays 3 rfl) w_1193 w_1194 w_1195 w_25 w_1196 (by decide +kernel) rfl (fun H h => zi_recv K (zr_O (σ := σ) rfl H h).1 rfl) (fun H h => h) ⟨Nat.le_refl _, Nat.le_refl _⟩ ⟨zt_0, zt_0⟩ (Nat.le_of_ble_eq_true rfl) rfl rfl ?_
  exact zi_iret K E (dL_setDays 4 rfl) zt_0 zt_0 rfl (fun H h => h)
theorem w_1200 : (.codeWith yL_reinstate cL_reinstate 6 (some FieldType.int) [(0, 9, 10, 28), (0, 9, 15, 19), (0, 9, 20, 31)] : Cond) ∈ zB := (zb_m5 (w := Cond.codeWith yL_reinstate cL_reinstate 6 (some FieldType.int) [(0, 9, 10, 28), (0, 9, 15, 19), (0, 9, 20, 31)]) (List.mem_of_getElem? (i := 216) rfl) rfl)
theorem l_reinstate {G : zG} {ad : Nat → Nat → Nat} {σ : zSt} {v1 v2 v3 v4 : Int32} {fr lc mc ms : Nat} {x : Int32} {Qp : Heap → Prop} (hc : zC G yX8_reinstate cX8_reinstate 7 (some FieldType.int) fr lc mc ms [.ref (ad 0 0), .int v1, .int v2, .int v3, .int v4] (zP G ad σ) (some (.int x)) Qp) : zCW G yL_reinstate cL_reinstate 6 (some FieldType.int) [(0, 9, 10, 28), (0, 9, 15, 19), (0, 9, 20, 31)] (fr + 1) (8 + (7 + 11) + lc) mc ms [.ref (ad 0 0), .int v1, .int v2, .int v3, .int v4] (zP G ad σ) (some (.int x)) Qp := by
  refine zCW_of (by decide) (Nat.le_of_ble_eq_true rfl) (fun X K E ht => ?_)
  show zV G X 6 (zP G ad σ) 0 0 0 [(0, .ref (ad 0 0)), (1, .int v1), (2, .int v2), (3, .int v3), (4, .int v4)] []
  refine zi_aload_n K (dL_reinstate 0 rfl) 0 rfl ?_
  refine zi_iload_n K (dL_reinstate 1 rfl) 1 rfl ?_
  refine zi_iload_n K (dL_reinstate 2 rfl) 2 rfl ?_
  refine zi_iload_n K (dL_reinstate 3 rfl) 3 rfl ?_
  refine zi_iload K (dL_reinstate 4 rfl) 4 rfl ?_
  refine zi_callV K (na := 4) [] [.int x] hc (dL_reinstate 5 rfl) w_1201 w_1202 w_1203 w_25 w_1204 (by decide +kernel) rfl (fun H h => zi_recv K (zr_O (σ := σ) rfl H h).1 rfl) (fun H h => h) ⟨Nat.le_refl _, Nat.le_refl _⟩ ⟨zt_0, zt_0⟩ (Nat.le_of_ble_eq_true rfl) rfl rfl ?_
  exact zi_iret K E (dL_reinstate 6 rfl) zt_0 zt_0 rfl (fun H h => h)
theorem l_reinstate_UOE {G : zG} {ad : Nat → Nat → Nat} {σ : zSt} {v1 v2 v3 v4 : Int32} {fr lc mc ms : Nat} {Qp : Heap → Prop} (hc : zCX G yX8_reinstate cX8_reinstate 7 (some FieldType.int) fr lc mc ms [.ref (ad 0 0), .int v1, .int v2, .int v3, .int v4] (zP G ad σ) "java/lang/UnsupportedOperationException" Qp) : zCW G yL_reinstate cL_reinstate 6 (some FieldType.int) [(0, 9, 10, 28), (0, 9, 15, 19), (0, 9, 20, 31)] (fr + 1) (8 + (7 + 11) + lc) mc ms [.ref (ad 0 0), .int v1, .int v2, .int v3, .int v4] (zP G ad σ) (some (.int (-1500000))) Qp := by
  refine zCW_of (by decide) (Nat.le_of_ble_eq_true rfl) (fun X K E ht => ?_)
  show zV G X 6 (zP G ad σ) 0 0 0 [(0, .ref (ad 0 0)), (1, .int v1), (2, .int v2), (3, .int v3), (4, .int v4)] []
  refine zi_aload_n K (dL_reinstate 0 rfl) 0 rfl ?_
  refine zi_iload_n K (dL_reinstate 1 rfl) 1 rfl ?_
  refine zi_iload_n K (dL_reinstate 2 rfl) 2 rfl ?_
  refine zi_iload_n K (dL_reinstate 3 rfl) 3 rfl ?_
  refine zi_iload K (dL_reinstate 4 rfl) 4 rfl ?_
  refine zi_callVXc K ht (na := 4) [] hc (dL_reinstate 5 rfl) w_1201 w_1202 w_1203 w_25 w_1204 (by decide +kernel) rfl (fun H h => zi_recv K (zr_O (σ := σ) rfl H h).1 rfl) (fun H h => h) ⟨Nat.le_refl _, Nat.le_refl _⟩ ⟨zt_0, zt_0⟩ (Nat.le_of_ble_eq_true rfl) rfl [{ startPc := 0, endPc := 9, handlerPc := 10, catchType := 28 }, { startPc := 0, endPc := 9, handlerPc := 15, catchType := 19 }] { startPc := 0, endPc := 9, handlerPc := 20, catchType := 31 } [] rfl (List.forall_mem_cons.mpr ⟨⟨by decide, _, w_781, List.mem_of_getElem? (i := 0) rfl⟩, (List.forall_mem_cons.mpr ⟨⟨by decide, _, w_665, List.mem_of_getElem? (i := 1) rfl⟩, (fun z hz => by cases hz)⟩)⟩) rfl (by decide) w_802 (by decide) (fun q9 => ?_)
  show zV G X 6 Qp (0 + mc) (0 + ms) 20 [(0, .ref (ad 0 0)), (1, .int v1), (2, .int v2), (3, .int v3), (4, .int v4)] [.ref q9]
  refine zi_astore K [(5, .ref q9), (0, .ref (ad 0 0)), (1, .int v1), (2, .int v2), (3, .int v3), (4, .int v4)] (dL_reinstate 13 rfl) (by decide) rfl ?_
  refine zi_ldc K (dL_reinstate 14 rfl) w_1058 ?_
  exact zi_iret K E (dL_reinstate 15 rfl) zt_0 zt_0 rfl (fun H h => h)
theorem w_1210 : (.codeWith yL_setPremium cL_setPremium 4 (some FieldType.int) [(0, 6, 7, 28), (0, 6, 11, 19)] : Cond) ∈ zB := (zb_m5 (w := Cond.codeWith yL_setPremium cL_setPremium 4 (some FieldType.int) [(0, 6, 7, 28), (0, 6, 11, 19)]) (List.mem_of_getElem? (i := 226) rfl) rfl)
theorem l_setPremium {G : zG} {ad : Nat → Nat → Nat} {σ : zSt} {v1 v2 : Int32} {fr lc mc ms : Nat} {x : Int32} {Qp : Heap → Prop} (hc : zC G yX8_setPremium cX8_setPremium 5 (some FieldType.int) fr lc mc ms [.ref (ad 0 0), .int v1, .int v2] (zP G ad σ) (some (.int x)) Qp) : zCW G yL_setPremium cL_setPremium 4 (some FieldType.int) [(0, 6, 7, 28), (0, 6, 11, 19)] (fr + 1) (8 + (5 + 11) + lc) mc ms [.ref (ad 0 0), .int v1, .int v2] (zP G ad σ) (some (.int x)) Qp := by
  refine zCW_of (by decide) (Nat.le_of_ble_eq_true rfl) (fun X K E ht => ?_)
  show zV G X 4 (zP G ad σ) 0 0 0 [(0, .ref (ad 0 0)), (1, .int v1), (2, .int v2)] []
  refine zi_aload_n K (dL_setPremium 0 rfl) 0 rfl ?_
  refine zi_iload_n K (dL_setPremium 1 rfl) 1 rfl ?_
  refine zi_iload_n K (dL_setPremium 2 rfl) 2 rfl ?_
  refine zi_callV K (na := 2) [] [.int x] hc (dL_setPremium 3 rfl) w_1211 w_1212 w_1213 w_25 w_1214 (by decide +kernel) rfl (fun H h => zi_recv K (zr_O (σ := σ) rfl H h).1 rfl) (fun H h => h) ⟨Nat.le_refl _, Nat.le_refl _⟩ ⟨zt_0, zt_0⟩ (Nat.le_of_ble_eq_true rfl) rfl rfl ?_
  exact zi_iret K E (dL_setPremium 4 rfl) zt_0 zt_0 rfl (fun H h => h)
theorem w_1218 : (.codeWith yL_share cL_share 5 (some FieldType.int) [(0, 7, 8, 28), (0, 7, 13, 19), (0, 7, 18, 31)] : Cond) ∈ zB := (zb_m5 (w := Cond.codeWith yL_share cL_share 5 (some FieldType.int) [(0, 7, 8, 28), (0, 7, 13, 19), (0, 7, 18, 31)]) (List.mem_of_getElem? (i := 234) rfl) rfl)
theorem l_share {G : zG} {ad : Nat → Nat → Nat} {σ : zSt} {v1 v2 v3 : Int32} {fr lc mc ms : Nat} {x : Int32} {Qp : Heap → Prop} (hc : zC G yX8_share cX8_share 6 (some FieldType.int) fr lc mc ms [.ref (ad 0 0), .int v1, .int v2, .int v3] (zP G ad σ) (some (.int x)) Qp) : zCW G yL_share cL_share 5 (some FieldType.int) [(0, 7, 8, 28), (0, 7, 13, 19), (0, 7, 18, 31)] (fr + 1) (8 + (6 + 11) + lc) mc ms [.ref (ad 0 0), .int v1, .int v2, .int v3] (zP G ad σ) (some (.int x)) Qp := by
  refine zCW_of (by decide) (Nat.le_of_ble_eq_true rfl) (fun X K E ht => ?_)
  show zV G X 5 (zP G ad σ) 0 0 0 [(0, .ref (ad 0 0)), (1, .int v1), (2, .int v2), (3, .int v3)] []
  refine zi_aload_n K (dL_share 0 rfl) 0 rfl ?_
  refine zi_iload_n K (dL_share 1 rfl) 1 rfl ?_
  refine zi_iload_n K (dL_share 2 rfl) 2 rfl ?_
  refine zi_iload_n K (dL_share 3 rfl) 3 rfl ?_
  refine zi_callV K (na := 3) [] [.int x] hc (dL_share 4 rfl) w_1219 w_1220 w_1221 w_25 w_1222 (by decide +kernel) rfl (fun H h => zi_recv K (zr_O (σ := σ) rfl H h).1 rfl) (fun H h => h) ⟨Nat.le_refl _, Nat.le_refl _⟩ ⟨zt_0, zt_0⟩ (Nat.le_of_ble_eq_true rfl) rfl rfl ?_
  exact zi_iret K E (dL_share 5 rfl) zt_0 zt_0 rfl (fun H h => h)
theorem l_share_UOE {G : zG} {ad : Nat → Nat → Nat} {σ : zSt} {v1 v2 v3 : Int32} {fr lc mc ms : Nat} {Qp : Heap → Prop} (hc : zCX G yX8_share cX8_share 6 (some FieldType.int) fr lc mc ms [.ref (ad 0 0), .int v1, .int v2, .int v3] (zP G ad σ) "java/lang/UnsupportedOperationException" Qp) : zCW G yL_share cL_share 5 (some FieldType.int) [(0, 7, 8, 28), (0, 7, 13, 19), (0, 7, 18, 31)] (fr + 1) (8 + (6 + 11) + lc) mc ms [.ref (ad 0 0), .int v1, .int v2, .int v3] (zP G ad σ) (some (.int (-1500000))) Qp := by
  refine zCW_of (by decide) (Nat.le_of_ble_eq_true rfl) (fun X K E ht => ?_)
  show zV G X 5 (zP G ad σ) 0 0 0 [(0, .ref (ad 0 0)), (1, .int v1), (2, .int v2), (3, .int v3)] []
  refine zi_aload_n K (dL_share 0 rfl) 0 rfl ?_
  refine zi_iload_n K (dL_share 1 rfl) 1 rfl ?_
  refine zi_iload_n K (dL_share 2 rfl) 2 rfl ?_
  refine zi_iload_n K (dL_share 3 rfl) 3 rfl ?_
  refine zi_callVXc K ht (na := 3) [] hc (dL_share 4 rfl) w_1219 w_1220 w_1221 w_25 w_1222 (by decide +kernel) rfl (fun H h => zi_recv K (zr_O (σ := σ) rfl H h).1 rfl) (fun H h => h) ⟨Nat.le_refl _, Nat.le_refl _⟩ ⟨zt_0, zt_0⟩ (Nat.le_of_ble_eq_true rfl) rfl [{ startPc := 0, endPc := 7, handlerPc := 8, catchType := 28 }, { startPc := 0, endPc := 7, handlerPc := 13, catchType := 19 }] { startPc := 0, endPc := 7, handlerPc := 18, catchType := 31 } [] rfl (List.forall_mem_cons.mpr ⟨⟨by decide, _, w_781, List.mem_of_getElem? (i := 0) rfl⟩, (List.forall_mem_cons.mpr ⟨⟨by decide, _, w_665, List.mem_of_getElem? (i := 1) rfl⟩, (fun z hz => by cases hz)⟩)⟩) rfl (by decide) w_802 (by decide) (fun q9 => ?_)
  show zV G X 5 Qp (0 + mc) (0 + ms) 18 [(0, .ref (ad 0 0)), (1, .int v1), (2, .int v2), (3, .int v3)] [.ref q9]
  refine zi_astore K [(4, .ref q9), (0, .ref (ad 0 0)), (1, .int v1), (2, .int v2), (3, .int v3)] (dL_share 12 rfl) (by decide) rfl ?_
  refine zi_ldc K (dL_share 13 rfl) w_1058 ?_
  exact zi_iret K E (dL_share 14 rfl) zt_0 zt_0 rfl (fun H h => h)
theorem w_1235 : (.codeWith yL_commute cL_commute 4 (some FieldType.long) [(0, 6, 7, 28), (0, 6, 12, 19), (0, 6, 17, 31)] : Cond) ∈ zB := (zb_m6 (w := Cond.codeWith yL_commute cL_commute 4 (some FieldType.long) [(0, 6, 7, 28), (0, 6, 12, 19), (0, 6, 17, 31)]) (List.mem_of_getElem? (i := 11) rfl) rfl)
theorem l_commute {G : zG} {ad : Nat → Nat → Nat} {σ : zSt} {v1 v2 : Int32} {fr lc mc ms : Nat} {x : Int64} {Qp : Heap → Prop} (hc : zC G yX8_commute cX8_commute 4 (some FieldType.long) fr lc mc ms [.ref (ad 0 0), .int v1, .int v2] (zP G ad σ) (some (.long x)) Qp) : zCW G yL_commute cL_commute 4 (some FieldType.long) [(0, 6, 7, 28), (0, 6, 12, 19), (0, 6, 17, 31)] (fr + 1) (8 + (4 + 11) + lc) mc ms [.ref (ad 0 0), .int v1, .int v2] (zP G ad σ) (some (.long x)) Qp := by
  refine zCW_of (by decide) (Nat.le_of_ble_eq_true rfl) (fun X K E ht => ?_)
  show zV G X 4 (zP G ad σ) 0 0 0 [(0, .ref (ad 0 0)), (1, .int v1), (2, .int v2)] []
  refine zi_aload_n K (dL_commute 0 rfl) 0 rfl ?_
  refine zi_iload_n K (dL_commute 1 rfl) 1 rfl ?_
  refine zi_iload_n K (dL_commute 2 rfl) 2 rfl ?_
  refine zi_callV K (na := 2) [] [.long x] hc (dL_commute 3 rfl) w_1236 w_1237 w_1238 w_25 w_1239 (by decide +kernel) rfl (fun H h => zi_recv K (zr_O (σ := σ) rfl H h).1 rfl) (fun H h => h) ⟨Nat.le_refl _, Nat.le_refl _⟩ ⟨zt_0, zt_0⟩ (Nat.le_of_ble_eq_true rfl) rfl rfl ?_
  exact zi_lret K E (dL_commute 4 rfl) zt_0 zt_0 rfl (fun H h => h)
theorem l_commute_UOE {G : zG} {ad : Nat → Nat → Nat} {σ : zSt} {v1 v2 : Int32} {fr lc mc ms : Nat} {Qp : Heap → Prop} (hc : zCX G yX8_commute cX8_commute 4 (some FieldType.long) fr lc mc ms [.ref (ad 0 0), .int v1, .int v2] (zP G ad σ) "java/lang/UnsupportedOperationException" Qp) : zCW G yL_commute cL_commute 4 (some FieldType.long) [(0, 6, 7, 28), (0, 6, 12, 19), (0, 6, 17, 31)] (fr + 1) (8 + (4 + 11) + lc) mc ms [.ref (ad 0 0), .int v1, .int v2] (zP G ad σ) (some (.long (-1500000))) Qp := by
  refine zCW_of (by decide) (Nat.le_of_ble_eq_true rfl) (fun X K E ht => ?_)
  show zV G X 4 (zP G ad σ) 0 0 0 [(0, .ref (ad 0 0)), (1, .int v1), (2, .int v2)] []
  refine zi_aload_n K (dL_commute 0 rfl) 0 rfl ?_
  refine zi_iload_n K (dL_commute 1 rfl) 1 rfl ?_
  refine zi_iload_n K (dL_commute 2 rfl) 2 rfl ?_
  refine zi_callVXc K ht (na := 2) [] hc (dL_commute 3 rfl) w_1236 w_1237 w_1238 w_25 w_1239 (by decide +kernel) rfl (fun H h => zi_recv K (zr_O (σ := σ) rfl H h).1 rfl) (fun H h => h) ⟨Nat.le_refl _, Nat.le_refl _⟩ ⟨zt_0, zt_0⟩ (Nat.le_of_ble_eq_true rfl) rfl [{ startPc := 0, endPc := 6, handlerPc := 7, catchType := 28 }, { startPc := 0, endPc := 6, handlerPc := 12, catchType := 19 }] { startPc := 0, endPc := 6, handlerPc := 17, catchType := 31 } [] rfl (List.forall_mem_cons.mpr ⟨⟨by decide, _, w_781, List.mem_of_getElem? (i := 0) rfl⟩, (List.forall_mem_cons.mpr ⟨⟨by decide, _, w_665, List.mem_of_getElem? (i := 1) rfl⟩, (fun z hz => by cases hz)⟩)⟩) rfl (by decide) w_802 (by decide) (fun q9 => ?_)
  show zV G X 4 Qp (0 + mc) (0 + ms) 17 [(0, .ref (ad 0 0)), (1, .int v1), (2, .int v2)] [.ref q9]
  refine zi_astore_n K [(3, .ref q9), (0, .ref (ad 0 0)), (1, .int v1), (2, .int v2)] (dL_commute 11 rfl) (by decide) rfl ?_
  refine zi_ldc2 K (dL_commute 12 rfl) w_1248 ?_
  exact zi_lret K E (dL_commute 13 rfl) zt_0 zt_0 rfl (fun H h => h)
theorem w_1251 : (.codeWith yL_left cL_left 3 (some FieldType.long) [(0, 5, 6, 28)] : Cond) ∈ zB := (zb_m6 (w := Cond.codeWith yL_left cL_left 3 (some FieldType.long) [(0, 5, 6, 28)]) (List.mem_of_getElem? (i := 27) rfl) rfl)
theorem l_left {G : zG} {ad : Nat → Nat → Nat} {σ : zSt} {v1 : Int32} {fr lc mc ms : Nat} {x : Int64} {Qp : Heap → Prop} (hc : zC G yX8_left cX8_left 3 (some FieldType.long) fr lc mc ms [.ref (ad 0 0), .int v1] (zP G ad σ) (some (.long x)) Qp) : zCW G yL_left cL_left 3 (some FieldType.long) [(0, 5, 6, 28)] (fr + 1) (8 + (3 + 11) + lc) mc ms [.ref (ad 0 0), .int v1] (zP G ad σ) (some (.long x)) Qp := by
  refine zCW_of (by decide) (Nat.le_of_ble_eq_true rfl) (fun X K E ht => ?_)
  show zV G X 3 (zP G ad σ) 0 0 0 [(0, .ref (ad 0 0)), (1, .int v1)] []
  refine zi_aload_n K (dL_left 0 rfl) 0 rfl ?_
  refine zi_iload_n K (dL_left 1 rfl) 1 rfl ?_
  refine zi_callV K (na := 1) [] [.long x] hc (dL_left 2 rfl) w_1252 w_1253 w_1254 w_25 w_1255 (by decide +kernel) rfl (fun H h => zi_recv K (zr_O (σ := σ) rfl H h).1 rfl) (fun H h => h) ⟨Nat.le_refl _, Nat.le_refl _⟩ ⟨zt_0, zt_0⟩ (Nat.le_of_ble_eq_true rfl) rfl rfl ?_
  exact zi_lret K E (dL_left 3 rfl) zt_0 zt_0 rfl (fun H h => h)
theorem l_left_IOB {G : zG} {ad : Nat → Nat → Nat} {σ : zSt} {v1 : Int32} {fr lc mc ms : Nat} {Qp : Heap → Prop} (hc : zCX G yX8_left cX8_left 3 (some FieldType.long) fr lc mc ms [.ref (ad 0 0), .int v1] (zP G ad σ) "java/lang/IndexOutOfBoundsException" Qp) : zCW G yL_left cL_left 3 (some FieldType.long) [(0, 5, 6, 28)] (fr + 1) (8 + (3 + 11) + lc) mc ms [.ref (ad 0 0), .int v1] (zP G ad σ) (some (.long (-2500000))) Qp := by
  refine zCW_of (by decide) (Nat.le_of_ble_eq_true rfl) (fun X K E ht => ?_)
  show zV G X 3 (zP G ad σ) 0 0 0 [(0, .ref (ad 0 0)), (1, .int v1)] []
  refine zi_aload_n K (dL_left 0 rfl) 0 rfl ?_
  refine zi_iload_n K (dL_left 1 rfl) 1 rfl ?_
  refine zi_callVXc K ht (na := 1) [] hc (dL_left 2 rfl) w_1252 w_1253 w_1254 w_25 w_1255 (by decide +kernel) rfl (fun H h => zi_recv K (zr_O (σ := σ) rfl H h).1 rfl) (fun H h => h) ⟨Nat.le_refl _, Nat.le_refl _⟩ ⟨zt_0, zt_0⟩ (Nat.le_of_ble_eq_true rfl) rfl [] { startPc := 0, endPc := 5, handlerPc := 6, catchType := 28 } [] rfl (fun z hz => by cases hz) rfl (by decide) w_781 (by decide) (fun q9 => ?_)
  show zV G X 3 Qp (0 + mc) (0 + ms) 6 [(0, .ref (ad 0 0)), (1, .int v1)] [.ref q9]
  refine zi_astore_n K [(2, .ref q9), (0, .ref (ad 0 0)), (1, .int v1)] (dL_left 4 rfl) (by decide) rfl ?_
  refine zi_ldc2 K (dL_left 5 rfl) w_1246 ?_
  exact zi_lret K E (dL_left 6 rfl) zt_0 zt_0 rfl (fun H h => h)
theorem w_1258 : (.codeWith yL_taken cL_taken 3 (some FieldType.long) [(0, 5, 6, 28)] : Cond) ∈ zB := (zb_m6 (w := Cond.codeWith yL_taken cL_taken 3 (some FieldType.long) [(0, 5, 6, 28)]) (List.mem_of_getElem? (i := 34) rfl) rfl)
theorem l_taken {G : zG} {ad : Nat → Nat → Nat} {σ : zSt} {v1 : Int32} {fr lc mc ms : Nat} {x : Int64} {Qp : Heap → Prop} (hc : zC G yX8_taken cX8_taken 2 (some FieldType.long) fr lc mc ms [.ref (ad 0 0), .int v1] (zP G ad σ) (some (.long x)) Qp) : zCW G yL_taken cL_taken 3 (some FieldType.long) [(0, 5, 6, 28)] (fr + 1) (8 + (2 + 11) + lc) mc ms [.ref (ad 0 0), .int v1] (zP G ad σ) (some (.long x)) Qp := by
  refine zCW_of (by decide) (Nat.le_of_ble_eq_true rfl) (fun X K E ht => ?_)
  show zV G X 3 (zP G ad σ) 0 0 0 [(0, .ref (ad 0 0)), (1, .int v1)] []
  refine zi_aload_n K (dL_taken 0 rfl) 0 rfl ?_
  refine zi_iload_n K (dL_taken 1 rfl) 1 rfl ?_
  refine zi_callV K (na := 1) [] [.long x] hc (dL_taken 2 rfl) w_1259 w_1260 w_1261 w_25 w_1262 (by decide +kernel) rfl (fun H h => zi_recv K (zr_O (σ := σ) rfl H h).1 rfl) (fun H h => h) ⟨Nat.le_refl _, Nat.le_refl _⟩ ⟨zt_0, zt_0⟩ (Nat.le_of_ble_eq_true rfl) rfl rfl ?_
  exact zi_lret K E (dL_taken 3 rfl) zt_0 zt_0 rfl (fun H h => h)
theorem l_taken_IOB {G : zG} {ad : Nat → Nat → Nat} {σ : zSt} {v1 : Int32} {fr lc mc ms : Nat} {Qp : Heap → Prop} (hc : zCX G yX8_taken cX8_taken 2 (some FieldType.long) fr lc mc ms [.ref (ad 0 0), .int v1] (zP G ad σ) "java/lang/IndexOutOfBoundsException" Qp) : zCW G yL_taken cL_taken 3 (some FieldType.long) [(0, 5, 6, 28)] (fr + 1) (8 + (2 + 11) + lc) mc ms [.ref (ad 0 0), .int v1] (zP G ad σ) (some (.long (-2500000))) Qp := by
  refine zCW_of (by decide) (Nat.le_of_ble_eq_true rfl) (fun X K E ht => ?_)
  show zV G X 3 (zP G ad σ) 0 0 0 [(0, .ref (ad 0 0)), (1, .int v1)] []
  refine zi_aload_n K (dL_taken 0 rfl) 0 rfl ?_
  refine zi_iload_n K (dL_taken 1 rfl) 1 rfl ?_
  refine zi_callVXc K ht (na := 1) [] hc (dL_taken 2 rfl) w_1259 w_1260 w_1261 w_25 w_1262 (by decide +kernel) rfl (fun H h => zi_recv K (zr_O (σ := σ) rfl H h).1 rfl) (fun H h => h) ⟨Nat.le_refl _, Nat.le_refl _⟩ ⟨zt_0, zt_0⟩ (Nat.le_of_ble_eq_true rfl) rfl [] { startPc := 0, endPc := 5, handlerPc := 6, catchType := 28 } [] rfl (fun z hz => by cases hz) rfl (by decide) w_781 (by decide) (fun q9 => ?_)
  show zV G X 3 Qp (0 + mc) (0 + ms) 6 [(0, .ref (ad 0 0)), (1, .int v1)] [.ref q9]
  refine zi_astore_n K [(2, .ref q9), (0, .ref (ad 0 0)), (1, .int v1)] (dL_taken 4 rfl) (by decide) rfl ?_
  refine zi_ldc2 K (dL_taken 5 rfl) w_1246 ?_
  exact zi_lret K E (dL_taken 6 rfl) zt_0 zt_0 rfl (fun H h => h)
theorem w_1402 : (.codeWith yL_takenFrom cL_takenFrom 4 (some FieldType.long) [(0, 6, 7, 28)] : Cond) ∈ zB := (zb_m6 (w := Cond.codeWith yL_takenFrom cL_takenFrom 4 (some FieldType.long) [(0, 6, 7, 28)]) (List.mem_of_getElem? (i := 178) rfl) rfl)
theorem l_takenFrom {G : zG} {ad : Nat → Nat → Nat} {σ : zSt} {v1 v2 : Int32} {fr lc mc ms : Nat} {x : Int64} {Qp : Heap → Prop} (hc : zC G yX8_takenFrom cX8_takenFrom 5 (some FieldType.long) fr lc mc ms [.ref (ad 0 0), .int v1, .int v2] (zP G ad σ) (some (.long x)) Qp) : zCW G yL_takenFrom cL_takenFrom 4 (some FieldType.long) [(0, 6, 7, 28)] (fr + 1) (8 + (5 + 11) + lc) mc ms [.ref (ad 0 0), .int v1, .int v2] (zP G ad σ) (some (.long x)) Qp := by
  refine zCW_of (by decide) (Nat.le_of_ble_eq_true rfl) (fun X K E ht => ?_)
  show zV G X 4 (zP G ad σ) 0 0 0 [(0, .ref (ad 0 0)), (1, .int v1), (2, .int v2)] []
  refine zi_aload_n K (dL_takenFrom 0 rfl) 0 rfl ?_
  refine zi_iload_n K (dL_takenFrom 1 rfl) 1 rfl ?_
  refine zi_iload_n K (dL_takenFrom 2 rfl) 2 rfl ?_
  refine zi_callV K (na := 2) [] [.long x] hc (dL_takenFrom 3 rfl) w_1403 w_1404 w_1405 w_25 w_1406 (by decide +kernel) rfl (fun H h => zi_recv K (zr_O (σ := σ) rfl H h).1 rfl) (fun H h => h) ⟨Nat.le_refl _, Nat.le_refl _⟩ ⟨zt_0, zt_0⟩ (Nat.le_of_ble_eq_true rfl) rfl rfl ?_
  exact zi_lret K E (dL_takenFrom 4 rfl) zt_0 zt_0 rfl (fun H h => h)
theorem w_1409 : (.codeWith yL_limit cL_limit 3 (some FieldType.long) [(0, 5, 6, 28), (0, 5, 11, 31), (0, 5, 16, 22)] : Cond) ∈ zB := (zb_m6 (w := Cond.codeWith yL_limit cL_limit 3 (some FieldType.long) [(0, 5, 6, 28), (0, 5, 11, 31), (0, 5, 16, 22)]) (List.mem_of_getElem? (i := 185) rfl) rfl)
theorem l_limit {G : zG} {ad : Nat → Nat → Nat} {σ : zSt} {v1 : Int32} {fr lc mc ms : Nat} {x : Int64} {Qp : Heap → Prop} (hc : zC G yX8_limit cX8_limit 3 (some FieldType.long) fr lc mc ms [.ref (ad 0 0), .int v1] (zP G ad σ) (some (.long x)) Qp) : zCW G yL_limit cL_limit 3 (some FieldType.long) [(0, 5, 6, 28), (0, 5, 11, 31), (0, 5, 16, 22)] (fr + 1) (8 + (3 + 11) + lc) mc ms [.ref (ad 0 0), .int v1] (zP G ad σ) (some (.long x)) Qp := by
  refine zCW_of (by decide) (Nat.le_of_ble_eq_true rfl) (fun X K E ht => ?_)
  show zV G X 3 (zP G ad σ) 0 0 0 [(0, .ref (ad 0 0)), (1, .int v1)] []
  refine zi_aload_n K (dL_limit 0 rfl) 0 rfl ?_
  refine zi_iload_n K (dL_limit 1 rfl) 1 rfl ?_
  refine zi_callV K (na := 1) [] [.long x] hc (dL_limit 2 rfl) w_1410 w_1411 w_1412 w_25 w_1413 (by decide +kernel) rfl (fun H h => zi_recv K (zr_O (σ := σ) rfl H h).1 rfl) (fun H h => h) ⟨Nat.le_refl _, Nat.le_refl _⟩ ⟨zt_0, zt_0⟩ (Nat.le_of_ble_eq_true rfl) rfl rfl ?_
  exact zi_lret K E (dL_limit 3 rfl) zt_0 zt_0 rfl (fun H h => h)
theorem l_limit_UOE {G : zG} {ad : Nat → Nat → Nat} {σ : zSt} {v1 : Int32} {fr lc mc ms : Nat} {Qp : Heap → Prop} (hc : zCX G yX8_limit cX8_limit 3 (some FieldType.long) fr lc mc ms [.ref (ad 0 0), .int v1] (zP G ad σ) "java/lang/UnsupportedOperationException" Qp) : zCW G yL_limit cL_limit 3 (some FieldType.long) [(0, 5, 6, 28), (0, 5, 11, 31), (0, 5, 16, 22)] (fr + 1) (8 + (3 + 11) + lc) mc ms [.ref (ad 0 0), .int v1] (zP G ad σ) (some (.long (-1500000))) Qp := by
  refine zCW_of (by decide) (Nat.le_of_ble_eq_true rfl) (fun X K E ht => ?_)
  show zV G X 3 (zP G ad σ) 0 0 0 [(0, .ref (ad 0 0)), (1, .int v1)] []
  refine zi_aload_n K (dL_limit 0 rfl) 0 rfl ?_
  refine zi_iload_n K (dL_limit 1 rfl) 1 rfl ?_
  refine zi_callVXc K ht (na := 1) [] hc (dL_limit 2 rfl) w_1410 w_1411 w_1412 w_25 w_1413 (by decide +kernel) rfl (fun H h => zi_recv K (zr_O (σ := σ) rfl H h).1 rfl) (fun H h => h) ⟨Nat.le_refl _, Nat.le_refl _⟩ ⟨zt_0, zt_0⟩ (Nat.le_of_ble_eq_true rfl) rfl [{ startPc := 0, endPc := 5, handlerPc := 6, catchType := 28 }] { startPc := 0, endPc := 5, handlerPc := 11, catchType := 31 } [{ startPc := 0, endPc := 5, handlerPc := 16, catchType := 22 }] rfl (List.forall_mem_cons.mpr ⟨⟨by decide, _, w_781, List.mem_of_getElem? (i := 0) rfl⟩, (fun z hz => by cases hz)⟩) rfl (by decide) w_802 (by decide) (fun q9 => ?_)
  show zV G X 3 Qp (0 + mc) (0 + ms) 11 [(0, .ref (ad 0 0)), (1, .int v1)] [.ref q9]
  refine zi_astore_n K [(2, .ref q9), (0, .ref (ad 0 0)), (1, .int v1)] (dL_limit 7 rfl) (by decide) rfl ?_
  refine zi_ldc2 K (dL_limit 8 rfl) w_1248 ?_
  exact zi_lret K E (dL_limit 9 rfl) zt_0 zt_0 rfl (fun H h => h)
theorem l_limit_ISE {G : zG} {ad : Nat → Nat → Nat} {σ : zSt} {v1 : Int32} {fr lc mc ms : Nat} {Qp : Heap → Prop} (hc : zCX G yX8_limit cX8_limit 3 (some FieldType.long) fr lc mc ms [.ref (ad 0 0), .int v1] (zP G ad σ) "java/lang/IllegalStateException" Qp) : zCW G yL_limit cL_limit 3 (some FieldType.long) [(0, 5, 6, 28), (0, 5, 11, 31), (0, 5, 16, 22)] (fr + 1) (8 + (3 + 11) + lc) mc ms [.ref (ad 0 0), .int v1] (zP G ad σ) (some (.long (-1000000))) Qp := by
  refine zCW_of (by decide) (Nat.le_of_ble_eq_true rfl) (fun X K E ht => ?_)
  show zV G X 3 (zP G ad σ) 0 0 0 [(0, .ref (ad 0 0)), (1, .int v1)] []
  refine zi_aload_n K (dL_limit 0 rfl) 0 rfl ?_
  refine zi_iload_n K (dL_limit 1 rfl) 1 rfl ?_
  refine zi_callVXc K ht (na := 1) [] hc (dL_limit 2 rfl) w_1410 w_1411 w_1412 w_25 w_1413 (by decide +kernel) rfl (fun H h => zi_recv K (zr_O (σ := σ) rfl H h).1 rfl) (fun H h => h) ⟨Nat.le_refl _, Nat.le_refl _⟩ ⟨zt_0, zt_0⟩ (Nat.le_of_ble_eq_true rfl) rfl [{ startPc := 0, endPc := 5, handlerPc := 6, catchType := 28 }, { startPc := 0, endPc := 5, handlerPc := 11, catchType := 31 }] { startPc := 0, endPc := 5, handlerPc := 16, catchType := 22 } [] rfl (List.forall_mem_cons.mpr ⟨⟨by decide, _, w_781, List.mem_of_getElem? (i := 2) rfl⟩, (List.forall_mem_cons.mpr ⟨⟨by decide, _, w_802, List.mem_of_getElem? (i := 4) rfl⟩, (fun z hz => by cases hz)⟩)⟩) rfl (by decide) w_666 (by decide) (fun q9 => ?_)
  show zV G X 3 Qp (0 + mc) (0 + ms) 16 [(0, .ref (ad 0 0)), (1, .int v1)] [.ref q9]
  refine zi_astore_n K [(2, .ref q9), (0, .ref (ad 0 0)), (1, .int v1)] (dL_limit 10 rfl) (by decide) rfl ?_
  refine zi_ldc2 K (dL_limit 11 rfl) w_1416 ?_
  exact zi_lret K E (dL_limit 12 rfl) zt_0 zt_0 rfl (fun H h => h)
theorem w_1419 : (.codeWith yL_reinstated cL_reinstated 3 (some FieldType.long) [(0, 5, 6, 28)] : Cond) ∈ zB := (zb_m6 (w := Cond.codeWith yL_reinstated cL_reinstated 3 (some FieldType.long) [(0, 5, 6, 28)]) (List.mem_of_getElem? (i := 195) rfl) rfl)
theorem l_reinstated {G : zG} {ad : Nat → Nat → Nat} {σ : zSt} {v1 : Int32} {fr lc mc ms : Nat} {x : Int64} {Qp : Heap → Prop} (hc : zC G yX8_reinstated cX8_reinstated 2 (some FieldType.long) fr lc mc ms [.ref (ad 0 0), .int v1] (zP G ad σ) (some (.long x)) Qp) : zCW G yL_reinstated cL_reinstated 3 (some FieldType.long) [(0, 5, 6, 28)] (fr + 1) (8 + (2 + 11) + lc) mc ms [.ref (ad 0 0), .int v1] (zP G ad σ) (some (.long x)) Qp := by
  refine zCW_of (by decide) (Nat.le_of_ble_eq_true rfl) (fun X K E ht => ?_)
  show zV G X 3 (zP G ad σ) 0 0 0 [(0, .ref (ad 0 0)), (1, .int v1)] []
  refine zi_aload_n K (dL_reinstated 0 rfl) 0 rfl ?_
  refine zi_iload_n K (dL_reinstated 1 rfl) 1 rfl ?_
  refine zi_callV K (na := 1) [] [.long x] hc (dL_reinstated 2 rfl) w_1420 w_1421 w_1422 w_25 w_1423 (by decide +kernel) rfl (fun H h => zi_recv K (zr_O (σ := σ) rfl H h).1 rfl) (fun H h => h) ⟨Nat.le_refl _, Nat.le_refl _⟩ ⟨zt_0, zt_0⟩ (Nat.le_of_ble_eq_true rfl) rfl rfl ?_
  exact zi_lret K E (dL_reinstated 3 rfl) zt_0 zt_0 rfl (fun H h => h)
theorem w_1265 : (.codeWith yL_owed cL_owed 3 (some FieldType.long) [(0, 5, 6, 28)] : Cond) ∈ zB := (zb_m6 (w := Cond.codeWith yL_owed cL_owed 3 (some FieldType.long) [(0, 5, 6, 28)]) (List.mem_of_getElem? (i := 41) rfl) rfl)
theorem l_owed {G : zG} {ad : Nat → Nat → Nat} {σ : zSt} {v1 : Int32} {fr lc mc ms : Nat} {x : Int64} {Qp : Heap → Prop} (hc : zC G yX8_owed cX8_owed 2 (some FieldType.long) fr lc mc ms [.ref (ad 0 0), .int v1] (zP G ad σ) (some (.long x)) Qp) : zCW G yL_owed cL_owed 3 (some FieldType.long) [(0, 5, 6, 28)] (fr + 1) (8 + (2 + 11) + lc) mc ms [.ref (ad 0 0), .int v1] (zP G ad σ) (some (.long x)) Qp := by
  refine zCW_of (by decide) (Nat.le_of_ble_eq_true rfl) (fun X K E ht => ?_)
  show zV G X 3 (zP G ad σ) 0 0 0 [(0, .ref (ad 0 0)), (1, .int v1)] []
  refine zi_aload_n K (dL_owed 0 rfl) 0 rfl ?_
  refine zi_iload_n K (dL_owed 1 rfl) 1 rfl ?_
  refine zi_callV K (na := 1) [] [.long x] hc (dL_owed 2 rfl) w_1266 w_1267 w_1268 w_25 w_1269 (by decide +kernel) rfl (fun H h => zi_recv K (zr_O (σ := σ) rfl H h).1 rfl) (fun H h => h) ⟨Nat.le_refl _, Nat.le_refl _⟩ ⟨zt_0, zt_0⟩ (Nat.le_of_ble_eq_true rfl) rfl rfl ?_
  exact zi_lret K E (dL_owed 3 rfl) zt_0 zt_0 rfl (fun H h => h)
theorem w_1272 : (.codeWith yL_events cL_events 4 (some FieldType.int) [(0, 6, 7, 28), (0, 6, 11, 19), (0, 6, 15, 31)] : Cond) ∈ zB := (zb_m6 (w := Cond.codeWith yL_events cL_events 4 (some FieldType.int) [(0, 6, 7, 28), (0, 6, 11, 19), (0, 6, 15, 31)]) (List.mem_of_getElem? (i := 48) rfl) rfl)
theorem l_events {G : zG} {ad : Nat → Nat → Nat} {σ : zSt} {v1 v2 : Int32} {fr lc mc ms : Nat} {x : Int32} {Qp : Heap → Prop} (hc : zC G yX8_events cX8_events 4 (some FieldType.int) fr lc mc ms [.ref (ad 0 0), .int v1, .int v2] (zP G ad σ) (some (.int x)) Qp) : zCW G yL_events cL_events 4 (some FieldType.int) [(0, 6, 7, 28), (0, 6, 11, 19), (0, 6, 15, 31)] (fr + 1) (8 + (4 + 11) + lc) mc ms [.ref (ad 0 0), .int v1, .int v2] (zP G ad σ) (some (.int x)) Qp := by
  refine zCW_of (by decide) (Nat.le_of_ble_eq_true rfl) (fun X K E ht => ?_)
  show zV G X 4 (zP G ad σ) 0 0 0 [(0, .ref (ad 0 0)), (1, .int v1), (2, .int v2)] []
  refine zi_aload_n K (dL_events 0 rfl) 0 rfl ?_
  refine zi_iload_n K (dL_events 1 rfl) 1 rfl ?_
  refine zi_iload_n K (dL_events 2 rfl) 2 rfl ?_
  refine zi_callV K (na := 2) [] [.int x] hc (dL_events 3 rfl) w_1273 w_1274 w_1275 w_25 w_1276 (by decide +kernel) rfl (fun H h => zi_recv K (zr_O (σ := σ) rfl H h).1 rfl) (fun H h => h) ⟨Nat.le_refl _, Nat.le_refl _⟩ ⟨zt_0, zt_0⟩ (Nat.le_of_ble_eq_true rfl) rfl rfl ?_
  exact zi_iret K E (dL_events 4 rfl) zt_0 zt_0 rfl (fun H h => h)
theorem l_events_UOE {G : zG} {ad : Nat → Nat → Nat} {σ : zSt} {v1 v2 : Int32} {fr lc mc ms : Nat} {Qp : Heap → Prop} (hc : zCX G yX8_events cX8_events 4 (some FieldType.int) fr lc mc ms [.ref (ad 0 0), .int v1, .int v2] (zP G ad σ) "java/lang/UnsupportedOperationException" Qp) : zCW G yL_events cL_events 4 (some FieldType.int) [(0, 6, 7, 28), (0, 6, 11, 19), (0, 6, 15, 31)] (fr + 1) (8 + (4 + 11) + lc) mc ms [.ref (ad 0 0), .int v1, .int v2] (zP G ad σ) (some (.int (-1500000))) Qp := by
  refine zCW_of (by decide) (Nat.le_of_ble_eq_true rfl) (fun X K E ht => ?_)
  show zV G X 4 (zP G ad σ) 0 0 0 [(0, .ref (ad 0 0)), (1, .int v1), (2, .int v2)] []
  refine zi_aload_n K (dL_events 0 rfl) 0 rfl ?_
  refine zi_iload_n K (dL_events 1 rfl) 1 rfl ?_
  refine zi_iload_n K (dL_events 2 rfl) 2 rfl ?_
  refine zi_callVXc K ht (na := 2) [] hc (dL_events 3 rfl) w_1273 w_1274 w_1275 w_25 w_1276 (by decide +kernel) rfl (fun H h => zi_recv K (zr_O (σ := σ) rfl H h).1 rfl) (fun H h => h) ⟨Nat.le_refl _, Nat.le_refl _⟩ ⟨zt_0, zt_0⟩ (Nat.le_of_ble_eq_true rfl) rfl [{ startPc := 0, endPc := 6, handlerPc := 7, catchType := 28 }, { startPc := 0, endPc := 6, handlerPc := 11, catchType := 19 }] { startPc := 0, endPc := 6, handlerPc := 15, catchType := 31 } [] rfl (List.forall_mem_cons.mpr ⟨⟨by decide, _, w_781, List.mem_of_getElem? (i := 0) rfl⟩, (List.forall_mem_cons.mpr ⟨⟨by decide, _, w_665, List.mem_of_getElem? (i := 1) rfl⟩, (fun z hz => by cases hz)⟩)⟩) rfl (by decide) w_802 (by decide) (fun q9 => ?_)
  show zV G X 4 Qp (0 + mc) (0 + ms) 15 [(0, .ref (ad 0 0)), (1, .int v1), (2, .int v2)] [.ref q9]
  refine zi_astore_n K [(3, .ref q9), (0, .ref (ad 0 0)), (1, .int v1), (2, .int v2)] (dL_events 11 rfl) (by decide) rfl ?_
  refine zi_ldc K (dL_events 12 rfl) w_1058 ?_
  exact zi_iret K E (dL_events 13 rfl) zt_0 zt_0 rfl (fun H h => h)
theorem w_1426 : (.codeWith yL_paid cL_paid 4 (some FieldType.long) [(0, 6, 7, 28)] : Cond) ∈ zB := (zb_m6 (w := Cond.codeWith yL_paid cL_paid 4 (some FieldType.long) [(0, 6, 7, 28)]) (List.mem_of_getElem? (i := 202) rfl) rfl)
theorem l_paid {G : zG} {ad : Nat → Nat → Nat} {σ : zSt} {v1 v2 : Int32} {fr lc mc ms : Nat} {x : Int64} {Qp : Heap → Prop} (hc : zC G yX8_paid cX8_paid 4 (some FieldType.long) fr lc mc ms [.ref (ad 0 0), .int v1, .int v2] (zP G ad σ) (some (.long x)) Qp) : zCW G yL_paid cL_paid 4 (some FieldType.long) [(0, 6, 7, 28)] (fr + 1) (8 + (4 + 11) + lc) mc ms [.ref (ad 0 0), .int v1, .int v2] (zP G ad σ) (some (.long x)) Qp := by
  refine zCW_of (by decide) (Nat.le_of_ble_eq_true rfl) (fun X K E ht => ?_)
  show zV G X 4 (zP G ad σ) 0 0 0 [(0, .ref (ad 0 0)), (1, .int v1), (2, .int v2)] []
  refine zi_aload_n K (dL_paid 0 rfl) 0 rfl ?_
  refine zi_iload_n K (dL_paid 1 rfl) 1 rfl ?_
  refine zi_iload_n K (dL_paid 2 rfl) 2 rfl ?_
  refine zi_callV K (na := 2) [] [.long x] hc (dL_paid 3 rfl) w_1427 w_1428 w_1429 w_25 w_1430 (by decide +kernel) rfl (fun H h => zi_recv K (zr_O (σ := σ) rfl H h).1 rfl) (fun H h => h) ⟨Nat.le_refl _, Nat.le_refl _⟩ ⟨zt_0, zt_0⟩ (Nat.le_of_ble_eq_true rfl) rfl rfl ?_
  exact zi_lret K E (dL_paid 4 rfl) zt_0 zt_0 rfl (fun H h => h)
theorem w_1280 : (.codeWith yL_lost cL_lost 3 (some FieldType.long) [(0, 5, 6, 28)] : Cond) ∈ zB := (zb_m6 (w := Cond.codeWith yL_lost cL_lost 3 (some FieldType.long) [(0, 5, 6, 28)]) (List.mem_of_getElem? (i := 56) rfl) rfl)
theorem l_lost {G : zG} {ad : Nat → Nat → Nat} {σ : zSt} {v1 : Int32} {fr lc mc ms : Nat} {x : Int64} {Qp : Heap → Prop} (hc : zC G yX8_lost cX8_lost 2 (some FieldType.long) fr lc mc ms [.ref (ad 0 0), .int v1] (zP G ad σ) (some (.long x)) Qp) : zCW G yL_lost cL_lost 3 (some FieldType.long) [(0, 5, 6, 28)] (fr + 1) (8 + (2 + 11) + lc) mc ms [.ref (ad 0 0), .int v1] (zP G ad σ) (some (.long x)) Qp := by
  refine zCW_of (by decide) (Nat.le_of_ble_eq_true rfl) (fun X K E ht => ?_)
  show zV G X 3 (zP G ad σ) 0 0 0 [(0, .ref (ad 0 0)), (1, .int v1)] []
  refine zi_aload_n K (dL_lost 0 rfl) 0 rfl ?_
  refine zi_iload_n K (dL_lost 1 rfl) 1 rfl ?_
  refine zi_callV K (na := 1) [] [.long x] hc (dL_lost 2 rfl) w_1281 w_1282 w_1283 w_25 w_1284 (by decide +kernel) rfl (fun H h => zi_recv K (zr_O (σ := σ) rfl H h).1 rfl) (fun H h => h) ⟨Nat.le_refl _, Nat.le_refl _⟩ ⟨zt_0, zt_0⟩ (Nat.le_of_ble_eq_true rfl) rfl rfl ?_
  exact zi_lret K E (dL_lost 3 rfl) zt_0 zt_0 rfl (fun H h => h)
theorem w_1287 : (.codeWith yL_comes cL_comes 3 (some FieldType.long) [(0, 5, 6, 28)] : Cond) ∈ zB := (zb_m6 (w := Cond.codeWith yL_comes cL_comes 3 (some FieldType.long) [(0, 5, 6, 28)]) (List.mem_of_getElem? (i := 63) rfl) rfl)
theorem l_comes {G : zG} {ad : Nat → Nat → Nat} {σ : zSt} {v1 : Int32} {fr lc mc ms : Nat} {x : Int64} {Qp : Heap → Prop} (hc : zC G yX8_comes cX8_comes 2 (some FieldType.long) fr lc mc ms [.ref (ad 0 0), .int v1] (zP G ad σ) (some (.long x)) Qp) : zCW G yL_comes cL_comes 3 (some FieldType.long) [(0, 5, 6, 28)] (fr + 1) (8 + (2 + 11) + lc) mc ms [.ref (ad 0 0), .int v1] (zP G ad σ) (some (.long x)) Qp := by
  refine zCW_of (by decide) (Nat.le_of_ble_eq_true rfl) (fun X K E ht => ?_)
  show zV G X 3 (zP G ad σ) 0 0 0 [(0, .ref (ad 0 0)), (1, .int v1)] []
  refine zi_aload_n K (dL_comes 0 rfl) 0 rfl ?_
  refine zi_iload_n K (dL_comes 1 rfl) 1 rfl ?_
  refine zi_callV K (na := 1) [] [.long x] hc (dL_comes 2 rfl) w_1288 w_1289 w_1290 w_25 w_1291 (by decide +kernel) rfl (fun H h => zi_recv K (zr_O (σ := σ) rfl H h).1 rfl) (fun H h => h) ⟨Nat.le_refl _, Nat.le_refl _⟩ ⟨zt_0, zt_0⟩ (Nat.le_of_ble_eq_true rfl) rfl rfl ?_
  exact zi_lret K E (dL_comes 3 rfl) zt_0 zt_0 rfl (fun H h => h)
theorem w_1294 : (.codeWith yL_stays cL_stays 3 (some FieldType.long) [(0, 5, 6, 28)] : Cond) ∈ zB := (zb_m6 (w := Cond.codeWith yL_stays cL_stays 3 (some FieldType.long) [(0, 5, 6, 28)]) (List.mem_of_getElem? (i := 70) rfl) rfl)
theorem l_stays {G : zG} {ad : Nat → Nat → Nat} {σ : zSt} {v1 : Int32} {fr lc mc ms : Nat} {x : Int64} {Qp : Heap → Prop} (hc : zC G yX8_stays cX8_stays 2 (some FieldType.long) fr lc mc ms [.ref (ad 0 0), .int v1] (zP G ad σ) (some (.long x)) Qp) : zCW G yL_stays cL_stays 3 (some FieldType.long) [(0, 5, 6, 28)] (fr + 1) (8 + (2 + 11) + lc) mc ms [.ref (ad 0 0), .int v1] (zP G ad σ) (some (.long x)) Qp := by
  refine zCW_of (by decide) (Nat.le_of_ble_eq_true rfl) (fun X K E ht => ?_)
  show zV G X 3 (zP G ad σ) 0 0 0 [(0, .ref (ad 0 0)), (1, .int v1)] []
  refine zi_aload_n K (dL_stays 0 rfl) 0 rfl ?_
  refine zi_iload_n K (dL_stays 1 rfl) 1 rfl ?_
  refine zi_callV K (na := 1) [] [.long x] hc (dL_stays 2 rfl) w_1295 w_1296 w_1297 w_25 w_1298 (by decide +kernel) rfl (fun H h => zi_recv K (zr_O (σ := σ) rfl H h).1 rfl) (fun H h => h) ⟨Nat.le_refl _, Nat.le_refl _⟩ ⟨zt_0, zt_0⟩ (Nat.le_of_ble_eq_true rfl) rfl rfl ?_
  exact zi_lret K E (dL_stays 3 rfl) zt_0 zt_0 rfl (fun H h => h)
theorem w_1302 : (.codeWith yL_scenario cL_scenario 4 (some FieldType.int) [(0, 6, 7, 19), (0, 6, 11, 22)] : Cond) ∈ zB := (zb_m6 (w := Cond.codeWith yL_scenario cL_scenario 4 (some FieldType.int) [(0, 6, 7, 19), (0, 6, 11, 22)]) (List.mem_of_getElem? (i := 78) rfl) rfl)
theorem l_scenario {G : zG} {ad : Nat → Nat → Nat} {σ : zSt} {v1 v2 : Int32} {fr lc mc ms : Nat} {x : Int32} {Qp : Heap → Prop} (hc : zC G yX8_scenario cX8_scenario 3 (some FieldType.int) fr lc mc ms [.ref (ad 0 0), .int v1, .int v2] (zP G ad σ) (some (.int x)) Qp) : zCW G yL_scenario cL_scenario 4 (some FieldType.int) [(0, 6, 7, 19), (0, 6, 11, 22)] (fr + 1) (8 + (3 + 11) + lc) mc ms [.ref (ad 0 0), .int v1, .int v2] (zP G ad σ) (some (.int x)) Qp := by
  refine zCW_of (by decide) (Nat.le_of_ble_eq_true rfl) (fun X K E ht => ?_)
  show zV G X 4 (zP G ad σ) 0 0 0 [(0, .ref (ad 0 0)), (1, .int v1), (2, .int v2)] []
  refine zi_aload_n K (dL_scenario 0 rfl) 0 rfl ?_
  refine zi_iload_n K (dL_scenario 1 rfl) 1 rfl ?_
  refine zi_iload_n K (dL_scenario 2 rfl) 2 rfl ?_
  refine zi_callV K (na := 2) [] [.int x] hc (dL_scenario 3 rfl) w_1303 w_1304 w_1305 w_25 w_1306 (by decide +kernel) rfl (fun H h => zi_recv K (zr_O (σ := σ) rfl H h).1 rfl) (fun H h => h) ⟨Nat.le_refl _, Nat.le_refl _⟩ ⟨zt_0, zt_0⟩ (Nat.le_of_ble_eq_true rfl) rfl rfl ?_
  exact zi_iret K E (dL_scenario 4 rfl) zt_0 zt_0 rfl (fun H h => h)
theorem l_scenario_ISE {G : zG} {ad : Nat → Nat → Nat} {σ : zSt} {v1 v2 : Int32} {fr lc mc ms : Nat} {Qp : Heap → Prop} (hc : zCX G yX8_scenario cX8_scenario 3 (some FieldType.int) fr lc mc ms [.ref (ad 0 0), .int v1, .int v2] (zP G ad σ) "java/lang/IllegalStateException" Qp) : zCW G yL_scenario cL_scenario 4 (some FieldType.int) [(0, 6, 7, 19), (0, 6, 11, 22)] (fr + 1) (8 + (3 + 11) + lc) mc ms [.ref (ad 0 0), .int v1, .int v2] (zP G ad σ) (some (.int (-1000000))) Qp := by
  refine zCW_of (by decide) (Nat.le_of_ble_eq_true rfl) (fun X K E ht => ?_)
  show zV G X 4 (zP G ad σ) 0 0 0 [(0, .ref (ad 0 0)), (1, .int v1), (2, .int v2)] []
  refine zi_aload_n K (dL_scenario 0 rfl) 0 rfl ?_
  refine zi_iload_n K (dL_scenario 1 rfl) 1 rfl ?_
  refine zi_iload_n K (dL_scenario 2 rfl) 2 rfl ?_
  refine zi_callVXc K ht (na := 2) [] hc (dL_scenario 3 rfl) w_1303 w_1304 w_1305 w_25 w_1306 (by decide +kernel) rfl (fun H h => zi_recv K (zr_O (σ := σ) rfl H h).1 rfl) (fun H h => h) ⟨Nat.le_refl _, Nat.le_refl _⟩ ⟨zt_0, zt_0⟩ (Nat.le_of_ble_eq_true rfl) rfl [{ startPc := 0, endPc := 6, handlerPc := 7, catchType := 19 }] { startPc := 0, endPc := 6, handlerPc := 11, catchType := 22 } [] rfl (List.forall_mem_cons.mpr ⟨⟨by decide, _, w_665, List.mem_of_getElem? (i := 3) rfl⟩, (fun z hz => by cases hz)⟩) rfl (by decide) w_666 (by decide) (fun q9 => ?_)
  show zV G X 4 Qp (0 + mc) (0 + ms) 11 [(0, .ref (ad 0 0)), (1, .int v1), (2, .int v2)] [.ref q9]
  refine zi_astore_n K [(3, .ref q9), (0, .ref (ad 0 0)), (1, .int v1), (2, .int v2)] (dL_scenario 8 rfl) (by decide) rfl ?_
  refine zi_ldc K (dL_scenario 9 rfl) w_777 ?_
  exact zi_iret K E (dL_scenario 10 rfl) zt_0 zt_0 rfl (fun H h => h)
theorem w_1333 : (.codeWith yL_damage cL_damage 5 (some FieldType.int) [(0, 7, 8, 28), (0, 7, 13, 19)] : Cond) ∈ zB := (zb_m6 (w := Cond.codeWith yL_damage cL_damage 5 (some FieldType.int) [(0, 7, 8, 28), (0, 7, 13, 19)]) (List.mem_of_getElem? (i := 109) rfl) rfl)
theorem l_damage {G : zG} {ad : Nat → Nat → Nat} {σ : zSt} {v1 v2 v3 : Int32} {fr lc mc ms : Nat} {x : Int32} {Qp : Heap → Prop} (hc : zC G yX8_damage cX8_damage 6 (some FieldType.int) fr lc mc ms [.ref (ad 0 0), .int v1, .int v2, .int v3] (zP G ad σ) (some (.int x)) Qp) : zCW G yL_damage cL_damage 5 (some FieldType.int) [(0, 7, 8, 28), (0, 7, 13, 19)] (fr + 1) (8 + (6 + 11) + lc) mc ms [.ref (ad 0 0), .int v1, .int v2, .int v3] (zP G ad σ) (some (.int x)) Qp := by
  refine zCW_of (by decide) (Nat.le_of_ble_eq_true rfl) (fun X K E ht => ?_)
  show zV G X 5 (zP G ad σ) 0 0 0 [(0, .ref (ad 0 0)), (1, .int v1), (2, .int v2), (3, .int v3)] []
  refine zi_aload_n K (dL_damage 0 rfl) 0 rfl ?_
  refine zi_iload_n K (dL_damage 1 rfl) 1 rfl ?_
  refine zi_iload_n K (dL_damage 2 rfl) 2 rfl ?_
  refine zi_iload_n K (dL_damage 3 rfl) 3 rfl ?_
  refine zi_callV K (na := 3) [] [.int x] hc (dL_damage 4 rfl) w_1334 w_1335 w_1336 w_25 w_1337 (by decide +kernel) rfl (fun H h => zi_recv K (zr_O (σ := σ) rfl H h).1 rfl) (fun H h => h) ⟨Nat.le_refl _, Nat.le_refl _⟩ ⟨zt_0, zt_0⟩ (Nat.le_of_ble_eq_true rfl) rfl rfl ?_
  exact zi_iret K E (dL_damage 5 rfl) zt_0 zt_0 rfl (fun H h => h)
theorem w_1346 : (.codeWith yL_scenarioNet cL_scenarioNet 3 (some FieldType.long) [(0, 5, 6, 28)] : Cond) ∈ zB := (zb_m6 (w := Cond.codeWith yL_scenarioNet cL_scenarioNet 3 (some FieldType.long) [(0, 5, 6, 28)]) (List.mem_of_getElem? (i := 122) rfl) rfl)
theorem l_scenarioNet {G : zG} {ad : Nat → Nat → Nat} {σ : zSt} {v1 : Int32} {fr lc mc ms : Nat} {x : Int64} {Qp : Heap → Prop} (hc : zC G yX8_scenarioNet cX8_scenarioNet 3 (some FieldType.long) fr lc mc ms [.ref (ad 0 0), .int v1] (zP G ad σ) (some (.long x)) Qp) : zCW G yL_scenarioNet cL_scenarioNet 3 (some FieldType.long) [(0, 5, 6, 28)] (fr + 1) (8 + (3 + 11) + lc) mc ms [.ref (ad 0 0), .int v1] (zP G ad σ) (some (.long x)) Qp := by
  refine zCW_of (by decide) (Nat.le_of_ble_eq_true rfl) (fun X K E ht => ?_)
  show zV G X 3 (zP G ad σ) 0 0 0 [(0, .ref (ad 0 0)), (1, .int v1)] []
  refine zi_aload_n K (dL_scenarioNet 0 rfl) 0 rfl ?_
  refine zi_iload_n K (dL_scenarioNet 1 rfl) 1 rfl ?_
  refine zi_callV K (na := 1) [] [.long x] hc (dL_scenarioNet 2 rfl) w_1347 w_1348 w_1349 w_25 w_1350 (by decide +kernel) rfl (fun H h => zi_recv K (zr_O (σ := σ) rfl H h).1 rfl) (fun H h => h) ⟨Nat.le_refl _, Nat.le_refl _⟩ ⟨zt_0, zt_0⟩ (Nat.le_of_ble_eq_true rfl) rfl rfl ?_
  exact zi_lret K E (dL_scenarioNet 3 rfl) zt_0 zt_0 rfl (fun H h => h)
theorem w_1353 : (.codeWith yL_tail cL_tail 3 (some FieldType.long) [(0, 5, 6, 19), (0, 5, 11, 93)] : Cond) ∈ zB := (zb_m6 (w := Cond.codeWith yL_tail cL_tail 3 (some FieldType.long) [(0, 5, 6, 19), (0, 5, 11, 93)]) (List.mem_of_getElem? (i := 129) rfl) rfl)
theorem l_tail {G : zG} {ad : Nat → Nat → Nat} {σ : zSt} {v1 : Int32} {fr lc mc ms : Nat} {x : Int64} {Qp : Heap → Prop} (hc : zC G yX8_tail cX8_tail 8 (some FieldType.long) fr lc mc ms [.ref (ad 0 0), .int v1] (zP G ad σ) (some (.long x)) Qp) : zCW G yL_tail cL_tail 3 (some FieldType.long) [(0, 5, 6, 19), (0, 5, 11, 93)] (fr + 1) (8 + (8 + 11) + lc) mc ms [.ref (ad 0 0), .int v1] (zP G ad σ) (some (.long x)) Qp := by
  refine zCW_of (by decide) (Nat.le_of_ble_eq_true rfl) (fun X K E ht => ?_)
  show zV G X 3 (zP G ad σ) 0 0 0 [(0, .ref (ad 0 0)), (1, .int v1)] []
  refine zi_aload_n K (dL_tail 0 rfl) 0 rfl ?_
  refine zi_iload_n K (dL_tail 1 rfl) 1 rfl ?_
  refine zi_callV K (na := 1) [] [.long x] hc (dL_tail 2 rfl) w_1355 w_1356 w_1357 w_25 w_1358 (by decide +kernel) rfl (fun H h => zi_recv K (zr_O (σ := σ) rfl H h).1 rfl) (fun H h => h) ⟨Nat.le_refl _, Nat.le_refl _⟩ ⟨zt_0, zt_0⟩ (Nat.le_of_ble_eq_true rfl) rfl rfl ?_
  exact zi_lret K E (dL_tail 3 rfl) zt_0 zt_0 rfl (fun H h => h)
theorem w_1384 : (.codeWith yL_handOn cL_handOn 6 (some FieldType.int) [(0, 17, 18, 28), (0, 17, 23, 19)] : Cond) ∈ zB := (zb_m6 (w := Cond.codeWith yL_handOn cL_handOn 6 (some FieldType.int) [(0, 17, 18, 28), (0, 17, 23, 19)]) (List.mem_of_getElem? (i := 160) rfl) rfl)
theorem l_handOn {G : zG} {ad : Nat → Nat → Nat} {σ : zSt} {v1 v2 v3 v4 : Int32} {fr lc mc ms : Nat} {x : Int32} {Qp : Heap → Prop} (hc : zC G yX8_handOn cX8_handOn 6 (some FieldType.boolean) fr lc mc ms [.ref (ad 0 0), .int v1, .int v2, .int v3, .int v4] (zP G ad σ) (some (.int x)) Qp) : zCW G yL_handOn cL_handOn 6 (some FieldType.int) [(0, 17, 18, 28), (0, 17, 23, 19)] (fr + 1) (8 + (6 + 11) + lc) mc ms [.ref (ad 0 0), .int v1, .int v2, .int v3, .int v4] (zP G ad σ) (some (.int (if x = 0 then 0 else 1))) Qp := by
  refine zCW_of (by decide) (Nat.le_of_ble_eq_true rfl) (fun X K E ht => ?_)
  show zV G X 6 (zP G ad σ) 0 0 0 [(0, .ref (ad 0 0)), (1, .int v1), (2, .int v2), (3, .int v3), (4, .int v4)] []
  refine zi_aload_n K (dL_handOn 0 rfl) 0 rfl ?_
  refine zi_iload_n K (dL_handOn 1 rfl) 1 rfl ?_
  refine zi_iload_n K (dL_handOn 2 rfl) 2 rfl ?_
  refine zi_iload_n K (dL_handOn 3 rfl) 3 rfl ?_
  refine zi_iload K (dL_handOn 4 rfl) 4 rfl ?_
  refine zi_callV K (na := 4) [] [.int x] hc (dL_handOn 5 rfl) w_1385 w_1386 w_1387 w_25 w_1388 (by decide +kernel) rfl (fun H h => zi_recv K (zr_O (σ := σ) rfl H h).1 rfl) (fun H h => h) ⟨Nat.le_refl _, Nat.le_refl _⟩ ⟨zt_0, zt_0⟩ (Nat.le_of_ble_eq_true rfl) rfl rfl ?_
  refine zi_if_eq K 16 (dL_handOn 6 rfl) rfl (fun h9 => ?_) (fun h9 => ?_)
  · refine zi_iconst K (dL_handOn 9 rfl) zk_i0 ?_
    exact zi_iret K E (dL_handOn 10 rfl) zt_0 zt_0 (by rw [if_pos h9]) (fun H h => h)
  · refine zi_iconst K (dL_handOn 7 rfl) zk_i1 ?_
    refine zi_goto K 17 (dL_handOn 8 rfl) rfl ?_
    exact zi_iret K E (dL_handOn 10 rfl) zt_0 zt_0 (by rw [if_neg h9]) (fun H h => h)
theorem w_1392 : (.codeWith yL_fail cL_fail 4 (some FieldType.int) [(0, 14, 15, 28)] : Cond) ∈ zB := (zb_m6 (w := Cond.codeWith yL_fail cL_fail 4 (some FieldType.int) [(0, 14, 15, 28)]) (List.mem_of_getElem? (i := 168) rfl) rfl)
theorem l_fail {G : zG} {ad : Nat → Nat → Nat} {σ : zSt} {v1 v2 : Int32} {fr lc mc ms : Nat} {x : Int32} {Qp : Heap → Prop} (hc : zC G yX8_fail cX8_fail 4 (some FieldType.boolean) fr lc mc ms [.ref (ad 0 0), .int v1, .int v2] (zP G ad σ) (some (.int x)) Qp) : zCW G yL_fail cL_fail 4 (some FieldType.int) [(0, 14, 15, 28)] (fr + 1) (8 + (4 + 11) + lc) mc ms [.ref (ad 0 0), .int v1, .int v2] (zP G ad σ) (some (.int (if x = 0 then 0 else 1))) Qp := by
  refine zCW_of (by decide) (Nat.le_of_ble_eq_true rfl) (fun X K E ht => ?_)
  show zV G X 4 (zP G ad σ) 0 0 0 [(0, .ref (ad 0 0)), (1, .int v1), (2, .int v2)] []
  refine zi_aload_n K (dL_fail 0 rfl) 0 rfl ?_
  refine zi_iload_n K (dL_fail 1 rfl) 1 rfl ?_
  refine zi_iload_n K (dL_fail 2 rfl) 2 rfl ?_
  refine zi_callV K (na := 2) [] [.int x] hc (dL_fail 3 rfl) w_1393 w_1394 w_1395 w_25 w_1396 (by decide +kernel) rfl (fun H h => zi_recv K (zr_O (σ := σ) rfl H h).1 rfl) (fun H h => h) ⟨Nat.le_refl _, Nat.le_refl _⟩ ⟨zt_0, zt_0⟩ (Nat.le_of_ble_eq_true rfl) rfl rfl ?_
  refine zi_if_eq K 13 (dL_fail 4 rfl) rfl (fun h9 => ?_) (fun h9 => ?_)
  · refine zi_iconst K (dL_fail 7 rfl) zk_i0 ?_
    exact zi_iret K E (dL_fail 8 rfl) zt_0 zt_0 (by rw [if_pos h9]) (fun H h => h)
  · refine zi_iconst K (dL_fail 5 rfl) zk_i1 ?_
    refine zi_goto K 14 (dL_fail 6 rfl) rfl ?_
    exact zi_iret K E (dL_fail 8 rfl) zt_0 zt_0 (by rw [if_neg h9]) (fun H h => h)
