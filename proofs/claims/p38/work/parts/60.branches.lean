/-! the law's branches -/
section ZLB
variable {G : zG} {X : zX} {cc : ByteArray} {own : String} {nL : Nat} {ret : Option FieldType} {rm : Room} {P : Heap → Prop} {k n pc : Nat} {lo : List (Nat × Value)} {st : List Value}
theorem zi_eqi {x v : Int32} (h : x = v) (kk : zV G X nL P k n pc lo (.int v :: st)) : zV G X nL P k n pc lo (.int x :: st) := by
  rw [h]
  exact kk
theorem nI_mul (x y : Nat) : nI x * nI y = nI (x * y) := (Int32.ofNat_mul _ _).symm
theorem zl_some (K : zK G X cc "LayertreatyLaw" nL ret rm) {bs Ls : Nat} {ys : Nat → Int32} (Y : zY G bs Ls ys (xs X)) (hL : Ls ≤ 260) (i m : Nat) (hi : i < 2 ^ 30) (hm : 0 < m) (h31 : m < 2 ^ 31) (hd : decode cc pc = .ok (.invokestatic 163, 3)) (hR : 60 ≤ rm.frames ∧ 2000 ≤ rm.locals ∧ k ≤ rm.cells ∧ n ≤ rm.slots) (hst : (st.map fun v => v.category).sum ≤ 8)
    (kk : zV G X nL P k n (pc + 3) lo (.int (nI (zsm Ls ys i m)) :: st)) : zV G X nL P k n pc lo (.int (nI m) :: .int (nI i) :: .ref bs :: st) :=
  zi_callSS K (na := 3) (As := [.ref bs, .int (nI i), .int (nI m)]) st (.int (nI (zsm Ls ys i m)) :: st) Y (c_some hL i m hi hm h31) hd w_656 w_657 w_24 w_658 (by decide +kernel) rfl (fun _ h => h) ⟨by omega, by omega⟩ ⟨hR.2.2.1, hR.2.2.2⟩ hst rfl rfl kk
end ZLB
theorem isOut_nI {σ : zSt} {x lo hi : Nat} (h1 : lo ≤ x) (h2 : x ≤ hi) (h3 : hi < 2 ^ 31) : v_isOut σ (nI x) (nI lo) (nI hi) = 0 := isOut_in (nI_nlt h1 (by omega)) (nI_le h2 h3)
theorem isSpan_nI {σ : zSt} {x y : Nat} (h : x ≤ y) (h3 : y ≤ 999) : ¬ v_isSpan σ (nI x) (nI y) = 0 := by
  unfold v_isSpan
  rw [if_neg (nI_pos (by omega)), if_neg (nI_nlt h (by omega)), if_neg (show ¬ (999 : Int32) < nI y from nI_nlt (b := y) (a := 999) h3 (by omega))]
  decide
theorem zV.rmk {G : zG} {X : zX} {nL k n pc : Nat} {lo : List (Nat × Value)} {st : List Value} {P : Heap → Prop} {R' : Prop} (h : ∀ H, P H → R') (kk : R' → zV G X nL P k n pc lo st) : zV G X nL P k n pc lo st := fun H locs ls hP hS hL => kk (h H hP) H locs ls hP hS hL
set_option maxRecDepth 100000 in
set_option maxHeartbeats 8000000 in
theorem b_policy {G : zG} {X : zX} {bs Ls o a : Nat} {ys : Nat → Int32} {σ : zSt} {f : Nat → Int32} {B i : Nat} {cmt : Int64} {rm : Room} (K : zK G X cL_law "LayertreatyLaw" 21 (some .boolean) rm) (Y : zY G bs Ls ys (xs X)) (hL9 : Ls ≤ 260) (hi9 : i < 50) (hR9 : 60 ≤ rm.frames ∧ 2000 ≤ rm.locals) (hw : zW σ) (hB : sN σ 0 < 12 → sgc (s_policy σ (nI (1 + zsm Ls ys (8 * i + 1) 3000)) (nI (zsm Ls ys (8 * i + 2) 4)) (nI (zsm Ls ys (8 * i + 3) 20)) (nI (20 + zsm Ls ys (8 * i + 4) 30))) + (B + 0) ≤ rm.cells ∧ sgs (s_policy σ (nI (1 + zsm Ls ys (8 * i + 1) 3000)) (nI (zsm Ls ys (8 * i + 2) 4)) (nI (zsm Ls ys (8 * i + 3) 20)) (nI (20 + zsm Ls ys (8 * i + 4) 30))) + 6 * (B + 0) ≤ rm.slots) (hB1 : sgc σ + (B + 1) ≤ rm.cells ∧ sgs σ + 6 * (B + 1) ≤ rm.slots)
    (kkA : sN σ 0 < 12 → zVf G X 21 (zLw G o a (s_policy σ (nI (1 + zsm Ls ys (8 * i + 1) 3000)) (nI (zsm Ls ys (8 * i + 2) 4)) (nI (zsm Ls ys (8 * i + 3) 20)) (nI (20 + zsm Ls ys (8 * i + 4) 30))) f B) 1296 [(0, .ref bs), (1, .ref a), (2, .int (nI (sN σ 0 + 1))), (3, .int (nI (sN σ 1))), (4, .int (nI (sN σ 2))), (5, .int (nI (sN σ 3))), (6, .long cmt), (8, .ref o), (9, .int (nI i))] []) (kkB : sN σ 0 = 12 → zVf G X 21 (zLw G o a σ f (B + 1)) 1296 [(0, .ref bs), (1, .ref a), (2, .int (nI (sN σ 0))), (3, .int (nI (sN σ 1))), (4, .int (nI (sN σ 2))), (5, .int (nI (sN σ 3))), (6, .long cmt), (8, .ref o), (9, .int (nI i))] []) : zVf G X 21 (zLw G o a σ f B) 123 [(0, .ref bs), (1, .ref a), (2, .int (nI (sN σ 0))), (3, .int (nI (sN σ 1))), (4, .int (nI (sN σ 2))), (5, .int (nI (sN σ 3))), (6, .long cmt), (8, .ref o), (9, .int (nI i)), (10, .int (nI (8 * i)))] [] := by
  intro k n
  refine zi_aload_n K (dL_law_p1 16 rfl) 1 rfl ?_
  refine zi_iconst K (dL_law_p1 17 rfl) zk_i1 ?_
  refine zi_aload_n K (dL_law_p1 18 rfl) 0 rfl ?_
  refine zi_iload K (dL_law_p1 19 rfl) 9 rfl ?_
  refine zi_iconst K (dL_law_p1 20 rfl) zk_i1 ?_
  refine zi_iadd K (dL_law_p1 21 rfl) ?_
  refine zi_eqi (v := nI ((8 * i) + 1)) (nI_add (8 * i) 1) ?_
  refine zi_sipush K (dL_law_p1 22 rfl) zk_s3000 ?_
  refine zV.rmk (fun H h => h.1) (fun hk9 => ?_)
  refine zl_some K Y hL9 ((8 * i) + 1) 3000 (by omega) (by omega) (by omega) (dL_law_p1 23 rfl) ⟨by omega, by omega, by omega, by omega⟩ (Nat.le_of_ble_eq_true rfl) ?_
  refine zi_iadd K (dL_law_p1 24 rfl) ?_
  refine zi_eqi (v := nI (1 + (zsm Ls ys ((8 * i) + 1) 3000))) (nI_add 1 (zsm Ls ys ((8 * i) + 1) 3000)) ?_
  refine zi_aload_n K (dL_law_p1 25 rfl) 0 rfl ?_
  refine zi_iload K (dL_law_p1 26 rfl) 9 rfl ?_
  refine zi_iconst K (dL_law_p1 27 rfl) zk_i2 ?_
  refine zi_iadd K (dL_law_p1 28 rfl) ?_
  refine zi_eqi (v := nI ((8 * i) + 2)) (nI_add (8 * i) 2) ?_
  refine zi_iconst K (dL_law_p1 29 rfl) zk_i4 ?_
  refine zV.rmk (fun H h => h.1) (fun hk9 => ?_)
  refine zl_some K Y hL9 ((8 * i) + 2) 4 (by omega) (by omega) (by omega) (dL_law_p1 30 rfl) ⟨by omega, by omega, by omega, by omega⟩ (Nat.le_of_ble_eq_true rfl) ?_
  refine zi_aload_n K (dL_law_p1 31 rfl) 0 rfl ?_
  refine zi_iload K (dL_law_p1 32 rfl) 9 rfl ?_
  refine zi_iconst K (dL_law_p1 33 rfl) zk_i3 ?_
  refine zi_iadd K (dL_law_p1 34 rfl) ?_
  refine zi_eqi (v := nI ((8 * i) + 3)) (nI_add (8 * i) 3) ?_
  refine zi_bipush K (dL_law_p1 35 rfl) zk_b20 ?_
  refine zV.rmk (fun H h => h.1) (fun hk9 => ?_)
  refine zl_some K Y hL9 ((8 * i) + 3) 20 (by omega) (by omega) (by omega) (dL_law_p1 36 rfl) ⟨by omega, by omega, by omega, by omega⟩ (Nat.le_of_ble_eq_true rfl) ?_
  refine zi_bipush K (dL_law_p1 37 rfl) zk_b20 ?_
  refine zi_aload_n K (dL_law_p1 38 rfl) 0 rfl ?_
  refine zi_iload K (dL_law_p1 39 rfl) 9 rfl ?_
  refine zi_iconst K (dL_law_p1 40 rfl) zk_i4 ?_
  refine zi_iadd K (dL_law_p1 41 rfl) ?_
  refine zi_eqi (v := nI ((8 * i) + 4)) (nI_add (8 * i) 4) ?_
  refine zi_bipush K (dL_law_p1 42 rfl) zk_b30 ?_
  refine zV.rmk (fun H h => h.1) (fun hk9 => ?_)
  refine zl_some K Y hL9 ((8 * i) + 4) 30 (by omega) (by omega) (by omega) (dL_law_p1 43 rfl) ⟨by omega, by omega, by omega, by omega⟩ (Nat.le_of_ble_eq_true rfl) ?_
  refine zi_iadd K (dL_law_p1 44 rfl) ?_
  refine zi_eqi (v := nI (20 + (zsm Ls ys ((8 * i) + 4) 30))) (nI_add 20 (zsm Ls ys ((8 * i) + 4) 30)) ?_
  have q1 := zsm_lt (Ls := Ls) (ys := ys) (i := 8 * i + 1) (m := 3000) (by omega)
  have q2 := zsm_lt (Ls := Ls) (ys := ys) (i := 8 * i + 2) (m := 4) (by omega)
  have q3 := zsm_lt (Ls := Ls) (ys := ys) (i := 8 * i + 3) (m := 20) (by omega)
  have q4 := zsm_lt (Ls := Ls) (ys := ys) (i := 8 * i + 4) (m := 30) (by omega)
  rcases Nat.lt_or_ge (sN σ 0) 12 with hc | hc
  · skip
    refine zw_callSW K (f := f) (B := B) (σ := σ) (σ' := s_policy σ (nI (1 + zsm Ls ys (8 * i + 1) 3000)) (nI (zsm Ls ys (8 * i + 2) 4)) (nI (zsm Ls ys (8 * i + 3) 20)) (nI (20 + zsm Ls ys (8 * i + 4) 30))) (As := [.ref a, .int (nI (1 + (zsm Ls ys ((8 * i) + 1) 3000))), .int (nI (zsm Ls ys ((8 * i) + 2) 4)), .int (nI (zsm Ls ys ((8 * i) + 3) 20)), .int (nI (20 + (zsm Ls ys ((8 * i) + 4) 30)))]) (na := 5) [] [.int (v_policy σ (nI (1 + zsm Ls ys (8 * i + 1) 3000)) (nI (zsm Ls ys (8 * i + 2) 4)) (nI (zsm Ls ys (8 * i + 3) 20)) (nI (20 + zsm Ls ys (8 * i + 4) 30)))] (e_policy (nI (1 + zsm Ls ys (8 * i + 1) 3000)) (nI (zsm Ls ys (8 * i + 2) 4)) (nI (zsm Ls ys (8 * i + 3) 20)) (nI (20 + zsm Ls ys (8 * i + 4) 30)) hw hc (isOut_nI (lo := 1) (hi := 1000000) (by omega) (by omega) (by omega)) (isOut_nI (lo := 0) (hi := 3) (by omega) (by omega) (by omega)) (isSpan_nI (by omega) (by omega)) (policy_le σ (nI (1 + zsm Ls ys (8 * i + 1) 3000)) (nI (zsm Ls ys (8 * i + 2) 4)) (nI (zsm Ls ys (8 * i + 3) 20)) (nI (20 + zsm Ls ys (8 * i + 4) 30)))) (dL_law_p1 45 rfl) w_662 w_663 w_24 w_664 (by decide +kernel) rfl ⟨by omega, by omega⟩ (hB hc) (Nat.le_of_ble_eq_true rfl) rfl rfl ?_ k n
    show zVf G X 21 (zLw G o a (s_policy σ (nI (1 + zsm Ls ys (8 * i + 1) 3000)) (nI (zsm Ls ys (8 * i + 2) 4)) (nI (zsm Ls ys (8 * i + 3) 20)) (nI (20 + zsm Ls ys (8 * i + 4) 30))) f B) 172 [(0, .ref bs), (1, .ref a), (2, .int (nI (sN σ 0))), (3, .int (nI (sN σ 1))), (4, .int (nI (sN σ 2))), (5, .int (nI (sN σ 3))), (6, .long cmt), (8, .ref o), (9, .int (nI i)), (10, .int (nI (8 * i)))] [.int (v_policy σ (nI (1 + zsm Ls ys (8 * i + 1) 3000)) (nI (zsm Ls ys (8 * i + 2) 4)) (nI (zsm Ls ys (8 * i + 3) 20)) (nI (20 + zsm Ls ys (8 * i + 4) 30)))]
    intro k n
    refine zi_eqi (v := nI (sN σ 0)) (nI_pred (sN σ 0)) ?_
    refine zi_istore K [(14, .int (nI (sN σ 0))), (0, .ref bs), (1, .ref a), (2, .int (nI (sN σ 0))), (3, .int (nI (sN σ 1))), (4, .int (nI (sN σ 2))), (5, .int (nI (sN σ 3))), (6, .long cmt), (8, .ref o), (9, .int (nI i)), (10, .int (nI (8 * i)))] (dL_law_p1 46 rfl) (by decide) rfl ?_
    refine zi_iload K (dL_law_p1 47 rfl) 0 rfl ?_
    refine zi_iload_n K (dL_law_p1 48 rfl) 3 rfl ?_
    refine zi_bipush K (dL_law_p1 49 rfl) zk_b12 ?_
    refine zi_icmp_ne K 187 (dL_law_p2 0 rfl) rfl (fun h179_0 => ?_) (fun h179_0 => ?_)
    rotate_left
    · exact absurd h179_0 (fun h9 => absurd (nI_lt (b := 12) hc (by decide)) (by rw [h9]; decide))
    refine zi_iload_n K (dL_law_p2 3 rfl) 3 rfl ?_
    refine zi_icmp_eq K 193 (dL_law_p2 4 rfl) rfl (fun h188_0 => ?_) (fun h188_0 => ?_)
    rotate_left
    · exact absurd rfl h188_0
    refine zi_iload_n K (dL_law_p2 7 rfl) 3 rfl ?_
    refine zi_iload K (dL_law_p2 8 rfl) 0 rfl ?_
    refine zi_if_ge K 203 (dL_law_p2 9 rfl) rfl (fun h196_0 => ?_) (fun h196_0 => ?_)
    rotate_left
    · exact absurd (nI_pos' (n := sN σ 0) (by omega)) h196_0
    refine zi_iconst K (dL_law_p2 12 rfl) zk_i1 ?_
    refine zi_iadd K (dL_law_p2 13 rfl) ?_
    refine zi_eqi (v := nI ((sN σ 0) + 1)) (nI_add (sN σ 0) 1) ?_
    refine zi_istore_n K [(2, .int (nI ((sN σ 0) + 1))), (14, .int (nI (sN σ 0))), (0, .ref bs), (1, .ref a), (3, .int (nI (sN σ 1))), (4, .int (nI (sN σ 2))), (5, .int (nI (sN σ 3))), (6, .long cmt), (8, .ref o), (9, .int (nI i)), (10, .int (nI (8 * i)))] (dL_law_p2 14 rfl) (by decide) rfl ?_
    refine zi_goto K 1296 (dL_law_p2 15 rfl) rfl ?_
    refine zV.pick [2, 3, 0, 4, 5, 6, 7, 8, 9] (lo' := [(0, .ref bs), (1, .ref a), (2, .int (nI ((sN σ 0) + 1))), (3, .int (nI (sN σ 1))), (4, .int (nI (sN σ 2))), (5, .int (nI (sN σ 3))), (6, .long cmt), (8, .ref o), (9, .int (nI i))]) rfl ?_
    exact kkA hc k n
  · skip
    have hc : sN σ 0 = 12 := Nat.le_antisymm hw.1.2.1.2 hc
    refine zw_callSW K (f := f) (B := B) (σ := σ) (σ' := σ) (As := [.ref a, .int (nI (1 + (zsm Ls ys ((8 * i) + 1) 3000))), .int (nI (zsm Ls ys ((8 * i) + 2) 4)), .int (nI (zsm Ls ys ((8 * i) + 3) 20)), .int (nI (20 + (zsm Ls ys ((8 * i) + 4) 30)))]) (na := 5) [] [.int (-1000000)] (e_policyF (nI (1 + zsm Ls ys (8 * i + 1) 3000)) (nI (zsm Ls ys (8 * i + 2) 4)) (nI (zsm Ls ys (8 * i + 3) 20)) (nI (20 + zsm Ls ys (8 * i + 4) 30)) hw hc (isOut_nI (lo := 1) (hi := 1000000) (by omega) (by omega) (by omega)) (isOut_nI (lo := 0) (hi := 3) (by omega) (by omega) (by omega)) (isSpan_nI (by omega) (by omega))) (dL_law_p1 45 rfl) w_662 w_663 w_24 w_664 (by decide +kernel) rfl ⟨by omega, by omega⟩ hB1 (Nat.le_of_ble_eq_true rfl) rfl rfl ?_ k n
    show zVf G X 21 (zLw G o a σ f (B + 1)) 172 [(0, .ref bs), (1, .ref a), (2, .int (nI (sN σ 0))), (3, .int (nI (sN σ 1))), (4, .int (nI (sN σ 2))), (5, .int (nI (sN σ 3))), (6, .long cmt), (8, .ref o), (9, .int (nI i)), (10, .int (nI (8 * i)))] [.int (-1000000)]
    intro k n
    refine zi_istore K [(14, .int (-1000000)), (0, .ref bs), (1, .ref a), (2, .int (nI (sN σ 0))), (3, .int (nI (sN σ 1))), (4, .int (nI (sN σ 2))), (5, .int (nI (sN σ 3))), (6, .long cmt), (8, .ref o), (9, .int (nI i)), (10, .int (nI (8 * i)))] (dL_law_p1 46 rfl) (by decide) rfl ?_
    refine zi_iload K (dL_law_p1 47 rfl) 0 rfl ?_
    refine zi_iload_n K (dL_law_p1 48 rfl) 3 rfl ?_
    refine zi_bipush K (dL_law_p1 49 rfl) zk_b12 ?_
    refine zi_icmp_ne K 187 (dL_law_p2 0 rfl) rfl (fun h179_0 => ?_) (fun h179_0 => ?_)
    · exact absurd (by rw [hc]; rfl) h179_0
    refine zi_ldc K (dL_law_p2 1 rfl) w_777 ?_
    refine zi_goto K 188 (dL_law_p2 2 rfl) rfl ?_
    refine zi_icmp_eq K 193 (dL_law_p2 4 rfl) rfl (fun h188_0 => ?_) (fun h188_0 => ?_)
    rotate_left
    · exact absurd rfl h188_0
    refine zi_iload_n K (dL_law_p2 7 rfl) 3 rfl ?_
    refine zi_iload K (dL_law_p2 8 rfl) 0 rfl ?_
    refine zi_if_ge K 203 (dL_law_p2 9 rfl) rfl (fun h196_0 => ?_) (fun h196_0 => ?_)
    · exact absurd h196_0 (by decide)
    refine zi_iconst K (dL_law_p2 10 rfl) zk_i0 ?_
    refine zi_goto K 204 (dL_law_p2 11 rfl) rfl ?_
    refine zi_iadd K (dL_law_p2 13 rfl) ?_
    refine zi_eqi (v := nI ((sN σ 0) + 0)) (nI_add (sN σ 0) 0) ?_
    refine zi_istore_n K [(2, .int (nI ((sN σ 0) + 0))), (14, .int (-1000000)), (0, .ref bs), (1, .ref a), (3, .int (nI (sN σ 1))), (4, .int (nI (sN σ 2))), (5, .int (nI (sN σ 3))), (6, .long cmt), (8, .ref o), (9, .int (nI i)), (10, .int (nI (8 * i)))] (dL_law_p2 14 rfl) (by decide) rfl ?_
    refine zi_goto K 1296 (dL_law_p2 15 rfl) rfl ?_
    refine zV.pick [2, 3, 0, 4, 5, 6, 7, 8, 9] (lo' := [(0, .ref bs), (1, .ref a), (2, .int (nI ((sN σ 0) + 0))), (3, .int (nI (sN σ 1))), (4, .int (nI (sN σ 2))), (5, .int (nI (sN σ 3))), (6, .long cmt), (8, .ref o), (9, .int (nI i))]) rfl ?_
    exact kkB hc k n
