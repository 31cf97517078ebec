/-! ArrayList: size, isEmpty, get, clear, and add where there is room -/
section ZE1
variable {G : zG} {X : zX} {cc : ByteArray} {own : String} {nL : Nat} {ret : Option FieldType} {rm : Room} {P : Heap → Prop} {k n pc : Nat} {lo : List (Nat × Value)} {st : List Value}
theorem zi_null (K : zK G X cc own nL ret rm) (hd : decode cc pc = .ok (.aconst_null, 1)) (kk : zV G X nL P k n (pc + 1) lo (.null :: st)) : zV G X nL P k n pc lo st := fun H locs ls hP hS hL => lv_null K.1 K.2.1 hd (kk H locs ls hP hS hL)
theorem zi_dup_x1 (K : zK G X cc own nL ret rm) {v w : Value} (hd : decode cc pc = .ok (.dup_x1, 1)) (hv : v.category = 1) (hw : w.category = 1) (kk : zV G X nL P k n (pc + 1) lo (v :: w :: v :: st)) : zV G X nL P k n pc lo (v :: w :: st) := fun H locs ls hP hS hL => lv_dup_x1 K.1 K.2.1 hd hv hw (kk H locs ls hP hS hL)
end ZE1
/-- a list's state is in order: its size within its room, its room small -/
def zLok (σ : zSt) (q : Nat) : Prop := q < 13 ∧ sZ σ q ≤ sC σ q ∧ sC σ q < 1000 ∧ (∀ j, sZ σ q ≤ j → sE σ q j = none) ∧ ∀ j x, sE σ q j = some x → zlv σ (zeK q) x
def v_isEmpty (σ : zSt) (q : Nat) : Int32 := if nI (sZ σ q) = 0 then 1 else 0
def zclr (σ : zSt) (q : Nat) : Nat → zSt
  | 0 => σ
  | i + 1 => uE (zclr σ q i) q i none
def s_clear (σ : zSt) (q : Nat) : zSt := zclr (uZ (uM σ q (sM σ q + 1)) q 0) q (sZ σ q)
/-- add at the end, where there is room -/
def s_addR (σ : zSt) (q x : Nat) : zSt := uZ (uE (uM σ q (sM σ q + 1)) q (sZ σ q) (some x)) q (sZ σ q + 1)
theorem zclr_C (σ : zSt) (q : Nat) (i : Nat) : sC (zclr σ q i) = sC σ := by
  induction i with
  | zero => rfl
  | succ i ih => exact ih
set_option maxRecDepth 100000 in
set_option maxHeartbeats 4000000 in
theorem c_size {G : zG} {ad : Nat → Nat → Nat} {σ : zSt} (q : Nat) (hq : q < 13) : zC G yJx4a65c_size_8abf5 cJx4a65c_size_8abf5 1 (some FieldType.int) 0 0 0 0 [.ref (ad 28 q)] (zP G ad σ) (some (.int (nI (sZ σ q)))) (zP G ad σ) := by
  refine zC_of (by decide) (Nat.le_of_ble_eq_true rfl) (fun X K E hnm => ?_)
  show zV G X 1 (zP G ad σ) 0 0 0 [(0, .ref (ad 28 q))] []
  refine zi_aload_n K (dJx4a65c_size_8abf5 0 rfl) 0 rfl ?_
  refine zV.opn (fun aa => ?_)
  refine zg0_size K hq w_83 (dJx4a65c_size_8abf5 1 rfl) ?_
  exact zi_iret K E (dJx4a65c_size_8abf5 2 rfl) (Nat.le_refl _) (Nat.le_refl _) rfl (fun H h => ⟨aa, h⟩)
set_option maxRecDepth 100000 in
set_option maxHeartbeats 4000000 in
theorem c_isEmpty {G : zG} {ad : Nat → Nat → Nat} {σ : zSt} (q : Nat) (hq : q < 13) : zC G yJx4a65c_isEmpty_aae02 cJx4a65c_isEmpty_aae02 1 (some FieldType.boolean) 0 0 0 0 [.ref (ad 28 q)] (zP G ad σ) (some (.int (v_isEmpty σ q))) (zP G ad σ) := by
  refine zC_of (by decide) (Nat.le_of_ble_eq_true rfl) (fun X K E hnm => ?_)
  show zV G X 1 (zP G ad σ) 0 0 0 [(0, .ref (ad 28 q))] []
  refine zi_aload_n K (dJx4a65c_isEmpty_aae02 0 rfl) 0 rfl ?_
  refine zV.opn (fun aa => ?_)
  refine zg0_size K hq w_83 (dJx4a65c_isEmpty_aae02 1 rfl) ?_
  refine zi_if_ne K 11 (dJx4a65c_isEmpty_aae02 2 rfl) rfl (fun h => ?_) (fun h => ?_)
  · refine zi_iconst K (dJx4a65c_isEmpty_aae02 5 rfl) zk_i0 ?_
    exact zi_zret K E (dJx4a65c_isEmpty_aae02 6 rfl) (Nat.le_refl _) (Nat.le_refl _) (by unfold v_isEmpty; rw [if_neg h]) rfl (fun H h => ⟨aa, h⟩)
  · refine zi_iconst K (dJx4a65c_isEmpty_aae02 3 rfl) zk_i1 ?_
    refine zi_goto K 12 (dJx4a65c_isEmpty_aae02 4 rfl) rfl ?_
    exact zi_zret K E (dJx4a65c_isEmpty_aae02 6 rfl) (Nat.le_refl _) (Nat.le_refl _) (by unfold v_isEmpty; rw [if_pos h]) rfl (fun H h => ⟨aa, h⟩)
set_option maxRecDepth 100000 in
set_option maxHeartbeats 4000000 in
theorem c_pcheck {G : zG} {P : Heap → Prop} (i N : Nat) (hi : i < N) (hN : N < 2 ^ 31) : zC G yJ3_checkIndex_8e157 cJ3_checkIndex_8e157 3 (some FieldType.int) 0 0 0 0 [.int (nI i), .int (nI N), .null] (P) (some (.int (nI i))) (P) := by
  refine zC_of (by decide) (Nat.le_of_ble_eq_true rfl) (fun X K E hnm => ?_)
  show zV G X 3 (P) 0 0 0 [(0, .int (nI i)), (1, .int (nI N)), (2, .null)] []
  refine zi_iload_n K (dJ3_checkIndex_8e157 0 rfl) 0 rfl ?_
  refine zi_if_lt K 9 (dJ3_checkIndex_8e157 1 rfl) rfl (fun h => absurd h (nI_pos (Nat.lt_trans hi hN))) (fun _ => ?_)
  refine zi_iload_n K (dJ3_checkIndex_8e157 2 rfl) 0 rfl ?_
  refine zi_iload_n K (dJ3_checkIndex_8e157 3 rfl) 1 rfl ?_
  refine zi_icmp_lt K 16 (dJ3_checkIndex_8e157 4 rfl) rfl (fun _ => ?_) (fun h => absurd (nI_lt hi hN) h)
  refine zi_iload_n K (dJ3_checkIndex_8e157 10 rfl) 0 rfl ?_
  exact zi_iret K E (dJ3_checkIndex_8e157 11 rfl) (Nat.le_refl _) (Nat.le_refl _) rfl (fun _ h => h)
set_option maxRecDepth 100000 in
set_option maxHeartbeats 4000000 in
theorem c_ocheck {G : zG} {P : Heap → Prop} (i N : Nat) (hi : i < N) (hN : N < 2 ^ 31) : zC G yJ15_checkIndex_7cf53 cJ15_checkIndex_7cf53 2 (some FieldType.int) 1 22 0 0 [.int (nI i), .int (nI N)] (P) (some (.int (nI i))) (P) := by
  refine zC_of (by decide) (Nat.le_of_ble_eq_true rfl) (fun X K E hnm => ?_)
  show zV G X 2 (P) 0 0 0 [(0, .int (nI i)), (1, .int (nI N))] []
  refine zi_iload_n K (dJ15_checkIndex_7cf53 0 rfl) 0 rfl ?_
  refine zi_iload_n K (dJ15_checkIndex_7cf53 1 rfl) 1 rfl ?_
  refine zi_null K (dJ15_checkIndex_7cf53 2 rfl) ?_
  refine zi_callS K (na := 3) (As := [.int (nI i), .int (nI N), .null]) [] [.int (nI i)] (c_pcheck (P := P) i N hi hN) (dJ15_checkIndex_7cf53 3 rfl) w_316 w_317 w_47 w_318 (by decide +kernel) rfl (fun H h => h) ⟨Nat.le_of_ble_eq_true rfl, Nat.le_of_ble_eq_true rfl⟩ ⟨Nat.le_refl _, Nat.le_refl _⟩ (Nat.le_of_ble_eq_true rfl) rfl rfl ?_
  exact zi_iret K E (dJ15_checkIndex_7cf53 4 rfl) (Nat.le_refl _) (Nat.le_refl _) rfl (fun _ h => h)
set_option maxRecDepth 100000 in
set_option maxHeartbeats 4000000 in
theorem c_elem {G : zG} {ad : Nat → Nat → Nat} {aa : Nat → Nat} {σ : zSt} (q i x : Nat) (hq : zLok σ q) (hi : i < sZ σ q) (hx : sE σ q i = some x) : zC G yJx4a65c_elementData_915e3 cJx4a65c_elementData_915e3 2 (some (FieldType.object "java/lang/Object")) 0 0 0 0 [.ref (ad 28 q), .int (nI i)] (zP0 G ad aa σ) (some (.ref (ad (zeK q) x))) (zP0 G ad aa σ) := by
  refine zC_of (by decide) (Nat.le_of_ble_eq_true rfl) (fun X K E hnm => ?_)
  show zV G X 2 (zP0 G ad aa σ) 0 0 0 [(0, .ref (ad 28 q)), (1, .int (nI i))] []
  have h0 : 0 < sC σ q := by have := hq.2.1; omega
  refine zi_aload_n K (dJx4a65c_elementData_915e3 0 rfl) 0 rfl ?_
  refine zg0_data K hq.1 w_82 (dJx4a65c_elementData_915e3 1 rfl) ?_
  rw [if_neg (show ¬ sC σ q = 0 by omega)]
  refine zi_iload_n K (dJx4a65c_elementData_915e3 2 rfl) 1 rfl ?_
  refine zi_aald K (fun H h => (zr0_LARR h ⟨hq.1, h0⟩).1) i rfl (by have := hq.2.1; omega) (by have := hq.2.2.1; omega) (dJx4a65c_elementData_915e3 3 rfl) ?_
  rw [hx]
  exact zi_aret K E (dJx4a65c_elementData_915e3 4 rfl) (Nat.le_refl _) (Nat.le_refl _) rfl (Or.inl ⟨_, rfl⟩) (fun _ h => h)
set_option maxRecDepth 100000 in
set_option maxHeartbeats 4000000 in
theorem c_get {G : zG} {ad : Nat → Nat → Nat} {σ : zSt} (q i x : Nat) (hq : zLok σ q) (hi : i < sZ σ q) (hx : sE σ q i = some x) : zC G yJx4a65c_get_915e3 cJx4a65c_get_915e3 2 (some (FieldType.object "java/lang/Object")) 2 43 0 0 [.ref (ad 28 q), .int (nI i)] (zP G ad σ) (some (.ref (ad (zeK q) x))) (zP G ad σ) := by
  refine zC_of (by decide) (Nat.le_of_ble_eq_true rfl) (fun X K E hnm => ?_)
  show zV G X 2 (zP G ad σ) 0 0 0 [(0, .ref (ad 28 q)), (1, .int (nI i))] []
  refine zV.opn (fun aa => ?_)
  refine zi_iload_n K (dJx4a65c_get_915e3 0 rfl) 1 rfl ?_
  refine zi_aload_n K (dJx4a65c_get_915e3 1 rfl) 0 rfl ?_
  refine zg0_size K hq.1 w_83 (dJx4a65c_get_915e3 2 rfl) ?_
  refine zi_callS K (na := 2) (As := [.int (nI i), .int (nI (sZ σ q))]) [] [.int (nI i)] (c_ocheck (P := zP0 G ad aa σ) i (sZ σ q) hi (by have := hq.2.1; have := hq.2.2.1; omega)) (dJx4a65c_get_915e3 3 rfl) w_313 w_314 w_46 w_315 (by decide +kernel) rfl (fun H h => h) ⟨Nat.le_of_ble_eq_true rfl, Nat.le_of_ble_eq_true rfl⟩ ⟨Nat.le_refl _, Nat.le_refl _⟩ (Nat.le_of_ble_eq_true rfl) rfl rfl ?_
  refine zi_pop K (dJx4a65c_get_915e3 4 rfl) rfl ?_
  refine zi_aload_n K (dJx4a65c_get_915e3 5 rfl) 0 rfl ?_
  refine zi_iload_n K (dJx4a65c_get_915e3 6 rfl) 1 rfl ?_
  refine zi_callV K (na := 1) [] [.ref (ad (zeK q) x)] (c_elem (ad := ad) (aa := aa) (σ := σ) q i x hq hi hx) (dJx4a65c_get_915e3 7 rfl) w_319 w_320 w_321 w_28 w_322 (by decide +kernel) rfl (fun H h => zi_recv K (zr0_LST h hq.1).1 rfl) (fun H h => h) ⟨Nat.le_of_ble_eq_true rfl, Nat.le_of_ble_eq_true rfl⟩ ⟨Nat.le_refl _, Nat.le_refl _⟩ (Nat.le_of_ble_eq_true rfl) rfl rfl ?_
  exact zi_aret K E (dJx4a65c_get_915e3 8 rfl) (Nat.le_refl _) (Nat.le_refl _) rfl (Or.inl ⟨_, rfl⟩) (fun H h => ⟨aa, h⟩)
set_option maxRecDepth 100000 in
set_option maxHeartbeats 4000000 in
theorem c_clear {G : zG} {ad : Nat → Nat → Nat} {σ : zSt} (q : Nat) (hq : zLok σ q) : zC G yJx4a65c_clear_da8c8 cJx4a65c_clear_da8c8 4 none 0 0 0 0 [.ref (ad 28 q)] (zP G ad σ) none (zP G ad (s_clear σ q)) := by
  refine zC_of (by decide) (Nat.le_of_ble_eq_true rfl) (fun X K E hnm => ?_)
  show zV G X 4 (zP G ad σ) 0 0 0 [(0, .ref (ad 28 q))] []
  refine zV.opn (fun aa => ?_)
  refine zi_aload_n K (dJx4a65c_clear_da8c8 0 rfl) 0 rfl ?_
  refine zi_dup K (dJx4a65c_clear_da8c8 1 rfl) rfl ?_
  refine zg0_mod K hq.1 w_85 (dJx4a65c_clear_da8c8 2 rfl) ?_
  refine zi_iconst K (dJx4a65c_clear_da8c8 3 rfl) zk_i1 ?_
  refine zi_iadd K (dJx4a65c_clear_da8c8 4 rfl) ?_
  refine zp0_mod K hq.1 w_85 (dJx4a65c_clear_da8c8 5 rfl) ?_
  refine zi_aload_n K (dJx4a65c_clear_da8c8 6 rfl) 0 rfl ?_
  refine zg0_data K hq.1 w_82 (dJx4a65c_clear_da8c8 7 rfl) ?_
  refine zi_astore_n K [(1, .ref (if sC σ q = 0 then G.2.2.2.2 0 else aa q)), (0, .ref (ad 28 q))] (dJx4a65c_clear_da8c8 8 rfl) (by decide) rfl ?_
  refine zi_aload_n K (dJx4a65c_clear_da8c8 9 rfl) 1 rfl ?_
  refine zg0_size K hq.1 w_83 (dJx4a65c_clear_da8c8 10 rfl) ?_
  refine zi_istore_n K [(2, .int (nI (sZ σ q))), (1, .ref (if sC σ q = 0 then G.2.2.2.2 0 else aa q)), (0, .ref (ad 28 q))] (dJx4a65c_clear_da8c8 11 rfl) (by decide) rfl ?_
  refine zi_aload_n K (dJx4a65c_clear_da8c8 12 rfl) 2 rfl ?_
  refine zi_iconst K (dJx4a65c_clear_da8c8 13 rfl) zk_i0 ?_
  refine zi_dup_x1 K (dJx4a65c_clear_da8c8 14 rfl) rfl rfl ?_
  refine zp0_size K (m := 0) (by decide) hq.1 w_83 (dJx4a65c_clear_da8c8 15 rfl) ?_
  refine zi_istore_n K [(3, .int 0), (2, .int (nI (sZ σ q))), (1, .ref (if sC σ q = 0 then G.2.2.2.2 0 else aa q)), (0, .ref (ad 28 q))] (dJx4a65c_clear_da8c8 16 rfl) (by decide) rfl ?_
  suffices hloop : ∀ (r i : Nat), i ≤ sZ σ q → sZ σ q - i < r → zV G X 4 (zP0 G ad aa (zclr (uZ (uM σ q (sM σ q + 1)) q 0) q i)) 0 0 27 [(3, .int (nI i)), (2, .int (nI (sZ σ q))), (1, .ref (if sC σ q = 0 then G.2.2.2.2 0 else aa q)), (0, .ref (ad 28 q))] [] from hloop (sZ σ q + 1) 0 (Nat.zero_le _) (Nat.lt_succ_of_le (Nat.sub_le _ _))
  intro r
  induction r with
  | zero => intro i _ h; exact absurd h (Nat.not_lt_zero _)
  | succ r ih =>
    intro i hi hr
    refine zi_iload_n K (dJx4a65c_clear_da8c8 17 rfl) 0 rfl ?_
    refine zi_iload_n K (dJx4a65c_clear_da8c8 18 rfl) 1 rfl ?_
    refine zi_icmp_ge K 42 (dJx4a65c_clear_da8c8 19 rfl) rfl (fun h => ?_) (fun h => ?_)
    · have hN := zloop_exit rfl (by have := hq.2.1; have := hq.2.2.1; omega) hi h
      subst hN
      exact zi_vret K E (dJx4a65c_clear_da8c8 26 rfl) (Nat.le_refl _) (Nat.le_refl _) rfl (fun H h => ⟨aa, h⟩)
    · have hlt := zloop_in rfl (by have := hq.2.1; have := hq.2.2.1; omega) hi h
      have hC : sC (zclr (uZ (uM σ q (sM σ q + 1)) q 0) q i) = sC σ := zclr_C _ _ _
      have h0 : 0 < sC σ q := by have := hq.2.1; omega
      refine zi_aload_n K (dJx4a65c_clear_da8c8 20 rfl) 2 rfl ?_
      refine zi_iload_n K (dJx4a65c_clear_da8c8 21 rfl) 0 rfl ?_
      refine zi_null K (dJx4a65c_clear_da8c8 22 rfl) ?_
      rw [if_neg (show ¬ sC σ q = 0 by omega)]
      refine zi_aastN (N := sC σ q) (f := fun j => (sE (zclr (uZ (uM σ q (sM σ q + 1)) q 0) q i) q j).map (ad (zeK q))) K (fun H h => by
        have h9 := zr0_LARR h ⟨hq.1, by rw [hC]; exact h0⟩
        unfold zqLARR at h9
        rw [hC] at h9
        exact h9) i rfl (by have := hq.2.1; omega) (by have := hq.2.2.1; omega) (dJx4a65c_clear_da8c8 23 rfl) (P' := zP0 G ad aa (zclr (uZ (uM σ q (sM σ q + 1)) q 0) q (i + 1))) (fun H H1 h ha _ oq => h.setE ⟨hq.1, by rw [hC]; exact h0⟩ (by
        unfold zqLARR
        rw [show sC (uE (zclr (uZ (uM σ q (sM σ q + 1)) q 0) q i) q i none) = sC σ from hC]
        rw [show (fun j => (sE (uE (zclr (uZ (uM σ q (sM σ q + 1)) q 0) q i) q i none) q j).map (ad (zeK q))) = va_up (fun j => (sE (zclr (uZ (uM σ q (sM σ q + 1)) q 0) q i) q j).map (ad (zeK q))) i none from funext fun j => by
          by_cases hj : j = i
          · subst hj; unfold va_up; rw [if_pos rfl, show sE (uE (zclr (uZ (uM σ q (sM σ q + 1)) q 0) q j) q j none) q j = none from if_pos ⟨rfl, rfl⟩]; rfl
          · unfold va_up; rw [if_neg hj, show sE (uE (zclr (uZ (uM σ q (sM σ q + 1)) q 0) q i) q i none) q j = sE (zclr (uZ (uM σ q (sM σ q + 1)) q 0) q i) q j from if_neg (fun z => hj z.2)]]
        exact ha) oq) ?_
      refine zi_iinc K (v := nI (i + 1)) [(3, .int (nI (i + 1))), (2, .int (nI (sZ σ q))), (1, .ref (aa q)), (0, .ref (ad 28 q))] (dJx4a65c_clear_da8c8 24 rfl) 0 rfl (zk_inc _) (by decide) rfl ?_
      refine zi_goto K 27 (dJx4a65c_clear_da8c8 25 rfl) rfl ?_
      have h9 := ih (i + 1) (by omega) (by omega)
      rw [if_neg (show ¬ sC σ q = 0 by omega)] at h9
      exact h9
