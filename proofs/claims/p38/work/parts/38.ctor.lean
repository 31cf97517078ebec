/-! constructors -/
section ZJ
variable {G : zG} {X : zX} {cc : ByteArray} {own : String} {nL : Nat} {ret : Option FieldType} {rm : Room} {P : Heap → Prop} {k n pc : Nat} {lo : List (Nat × Value)} {st : List Value}
theorem zi_callIN (K : zK G X cc own nL ret rm) {y : MethodName} {bytes : ByteArray} {maxL fr lc mc ms idx : Nat} {As : List Value} {b : Nat} {P' : Heap → Prop} {rv : Option Value} {Qp : Heap → Prop} {stk : List Value} {na : Nat} (st nst : List Value)
    (hM : zC G y bytes maxL none fr lc mc ms (.ref b :: As) P' rv Qp) (hd : decode cc pc = .ok (.invokespecial idx, 3)) (w1 : (own, idx, y) ∈ zFn) (w2 : Cond.instanceMethod y ∈ zB) (w4 : Cond.initialized y.cls ∈ zB) (w5 : Cond.code y bytes maxL none ∈ zB)
    (hy : y.cls ≠ "java/lang/invoke/MethodHandle" ∧ y.cls ≠ "java/lang/invoke/VarHandle" ∧ (parseMethodDescriptor y.desc).map (fun d => d.parameters.length) = some na) (hna : As.length = na) (hyi : y.name = "<init>") (hP' : ∀ H, P H → P' H)
    (hR : fr + 1 ≤ rm.frames ∧ 8 + (maxL + 11) + lc ≤ rm.locals) (hc : k + mc ≤ rm.cells ∧ n + ms ≤ rm.slots) (hst : (st.map fun v => v.category).sum ≤ 8) (hs : stk = As.reverse ++ .ref b :: st) (hns : rv.toList ++ st = nst)
    (kk : zV G X nL Qp (k + mc) (n + ms) (pc + 3) lo nst) : zV G X nL P k n pc lo stk := fun H locs ls hP hS hL => by
  obtain ⟨h1, h2, h3, h4, h5, h6, h7, h8, h9, h10, h11⟩ := K
  subst hs
  subst hns
  subst hna
  rw [← h10] at hR hc
  unfold zC at hM
  rw [← h11] at hM
  have hcb : va_CN (xR X) (xs X) (xa X) own idx y RX8 bytes maxL none (.code y bytes maxL none :: zB) { frames := fr, cells := mc, slots := ms, locals := lc } mc ms As.length := va_cnB As.length h5 (zb_goodIn w5) rfl rfl rfl (h6.2.2.2.2.2.2.1 _ w1) (h5 _ w4) hy hR
  have hbl : FrameBlind (va_Pc (.ref b :: As) (fun U => P' U.heap ∧ zN G U ∧ ∀ q, U.heap.size ≤ q → gA G q)) := fun a U g mk q => ⟨q.1, q.2.1, zN.same (U := U.calling g mk a) rfl rfl q.2.2.1, q.2.2.2⟩
  have hpre : ∀ U : State, U.heap = H → (xs X).WarmedH U.vm → va_Pc (.ref b :: As) (fun U => P' U.heap ∧ zN G U ∧ ∀ q, U.heap.size ≤ q → gA G q) (.ref b :: As).toArray U := fun U hU hW => ⟨rfl, by rw [hU]; exact hP' H hP, zN.warm hW (fun a g1 g2 => by rw [hU]; exact hS.2.1 a g1 g2) h6, fun q hq => h9 q (Nat.le_trans hS.1 (by rw [hU] at hq; exact hq))⟩
  have hr := va_runIN (b := b) (As := As) (rest := st) (g := F0 (xm X) pc ls (As.reverse ++ .ref b :: st)) (H := H) (locs := locs) (cells := k) (slots := n) (p := xp X) (l := xl X) (e := xe X) (below := xb X) (meth := xh X) ⟨h1, h2, h3, h4, h5⟩ hM ⟨hcb, hyi, h5 _ w2⟩ ⟨hbl, hpre⟩ rfl rfl (hL.1.trans rfl) rfl (lv_room hst) hd hc
  intro T hT Y
  obtain ⟨v, st₀, t, T', L, h0, X', hL', e1, e2, ⟨⟨hv, hq⟩, hz, hk⟩, stp⟩ := hr T hT Y
  cases hv
  rw [h0] at hz hk
  obtain ⟨t2, a1, b1⟩ := kk T'.heap (locs ++ L) ls (by rw [e1]; exact hq)
    ⟨Nat.le_trans hS.1 (by rw [e1]; exact hz), fun q g1 g2 => by rw [e1, hk q (Nat.lt_of_lt_of_le g1 hS.1) g2]; exact hS.2.1 q g1 g2, fun q hq => by
      rcases List.mem_append.mp hq with h | h
      · exact hS.2.2 q h
      · exact hL' q h⟩ hL T' rfl X'
  exact ⟨t2, stp t2 a1, b1⟩
end ZJ
theorem n_acol {G : zG} {P : Heap → Prop} (a : Nat) : zC G yJxa1e45_init_da8c8 cJxa1e45_init_da8c8 1 none 1 13 0 0 [.ref a] P none P := by
  refine zC_of (by decide) (Nat.le_of_ble_eq_true rfl) (fun X K E hnm => ?_)
  show zV G X 1 P 0 0 0 [(0, .ref a)] []
  refine zi_aload_n K (dJxa1e45_init_da8c8 0 rfl) 0 rfl ?_
  refine zi_objInit K w_79 (dJxa1e45_init_da8c8 1 rfl) (Nat.le_of_ble_eq_true rfl) (Nat.le_of_ble_eq_true rfl) ?_
  exact zi_vret K E (dJxa1e45_init_da8c8 2 rfl) (Nat.le_refl _) (Nat.le_refl _) rfl (fun _ h => h)
set_option maxRecDepth 100000 in
set_option maxHeartbeats 4000000 in
theorem n_alist {G : zG} {B : zBs} {ws : List (Nat × va_E)} (hB : zBo B) (a : Nat)   : zC G yJxc12de_init_da8c8 cJxc12de_init_da8c8 1 none 2 33 0 0 [.ref a] (zPx G B ((a, .inr (9, [.int 0, .null, .int 0])) :: ws)) none (zPx G B ((a, .inr (9, [.int 0, .null, .int 0])) :: ws)) := by
  refine zC_of (by decide) (Nat.le_of_ble_eq_true rfl) (fun X K E hnm => ?_)
  show zV G X 1 (zPx G B ((a, .inr (9, [.int 0, .null, .int 0])) :: ws)) 0 0 0 [(0, .ref a)] []
  refine zi_aload_n K (dJxc12de_init_da8c8 0 rfl) 0 rfl ?_
  refine zi_callI K (na := 0) (As := []) [] [] (n_acol (P := zPx G B ((a, .inr (9, [.int 0, .null, .int 0])) :: ws)) a) (dJxc12de_init_da8c8 1 rfl) w_76 w_77 w_26 w_78 (by decide +kernel) rfl rfl (fun H h => h) ⟨Nat.le_of_ble_eq_true rfl, Nat.le_of_ble_eq_true rfl⟩ ⟨Nat.le_of_ble_eq_true rfl, Nat.le_of_ble_eq_true rfl⟩ (Nat.le_of_ble_eq_true rfl) rfl rfl ?_
  refine zi_aload_n K (dJxc12de_init_da8c8 2 rfl) 0 rfl ?_
  refine zi_iconst K (dJxc12de_init_da8c8 3 rfl) zk_i0 ?_
  refine zx_put (ci := 9) (C := RJx4a65c) (T := TJx4a65c) (N := 3) (f := 0) (ty := .int) hB K rfl inJx4a65c tyJx4a65c tyJx4a65c_ok nmJx4a65c (Nat.le_of_ble_eq_true rfl) w_84 (fun _ h => h) rfl (by decide +kernel) rfl rfl (Nat.le_of_ble_eq_true rfl) (dJxc12de_init_da8c8 4 rfl) [.int 0, .null, .int 0] rfl ?_
  exact zi_vret K E (dJxc12de_init_da8c8 5 rfl) (Nat.le_of_ble_eq_true rfl) (Nat.le_of_ble_eq_true rfl) rfl (fun _ h => h)
set_option maxRecDepth 100000 in
set_option maxHeartbeats 4000000 in
theorem n_list {G : zG} {B : zBs} {ws : List (Nat × va_E)} (hB : zBo B) (a : Nat)   : zC G yJx4a65c_init_da8c8 cJx4a65c_init_da8c8 1 none 3 53 0 0 [.ref a] (zPx G B ((a, .inr (9, [.int 0, .null, .int 0])) :: ws)) none (zPx G B ((a, .inr (9, [.int 0, .ref (G.2.2.2.2 0), .int 0])) :: ws)) := by
  refine zC_of (by decide) (Nat.le_of_ble_eq_true rfl) (fun X K E hnm => ?_)
  show zV G X 1 (zPx G B ((a, .inr (9, [.int 0, .null, .int 0])) :: ws)) 0 0 0 [(0, .ref a)] []
  refine zi_aload_n K (dJx4a65c_init_da8c8 0 rfl) 0 rfl ?_
  refine zi_callI K (na := 0) (As := []) [] [] (n_alist (ws := ws) hB a) (dJx4a65c_init_da8c8 1 rfl) w_73 w_74 w_27 w_75 (by decide +kernel) rfl rfl (fun H h => h) ⟨Nat.le_of_ble_eq_true rfl, Nat.le_of_ble_eq_true rfl⟩ ⟨Nat.le_of_ble_eq_true rfl, Nat.le_of_ble_eq_true rfl⟩ (Nat.le_of_ble_eq_true rfl) rfl rfl ?_
  refine zi_aload_n K (dJx4a65c_init_da8c8 2 rfl) 0 rfl ?_
  refine zi_gets K w_80 (dJx4a65c_init_da8c8 3 rfl) ?_
  refine zx_put (ci := 9) (C := RJx4a65c) (T := TJx4a65c) (N := 3) (f := 1) (ty := (.array (.object "java/lang/Object"))) hB K rfl inJx4a65c tyJx4a65c tyJx4a65c_ok nmJx4a65c (Nat.le_of_ble_eq_true rfl) w_82 (fun _ h => h) rfl (by decide +kernel) rfl rfl (Nat.le_of_ble_eq_true rfl) (dJx4a65c_init_da8c8 4 rfl) [.int 0, .ref (G.2.2.2.2 0), .int 0] rfl ?_
  exact zi_vret K E (dJx4a65c_init_da8c8 5 rfl) (Nat.le_of_ble_eq_true rfl) (Nat.le_of_ble_eq_true rfl) rfl (fun _ h => h)
set_option maxRecDepth 100000 in
set_option maxHeartbeats 4000000 in
theorem n_policy {G : zG} {B : zBs} {ws : List (Nat × va_E)} (hB : zBo B) (a : Nat) (v1 v2 v3 v4 : Int32)  : zC G yX4_init cX4_init 5 none 1 13 0 0 [.ref a, .int v1, .int v2, .int v3, .int v4] (zPx G B ((a, .inr (4, [.int 0, .int 0, .int 0, .int 0])) :: ws)) none (zPx G B ((a, .inr (4, [.int v1, .int v2, .int v3, .int v4])) :: ws)) := by
  refine zC_of (by decide) (Nat.le_of_ble_eq_true rfl) (fun X K E hnm => ?_)
  show zV G X 5 (zPx G B ((a, .inr (4, [.int 0, .int 0, .int 0, .int 0])) :: ws)) 0 0 0 [(0, .ref a), (1, .int v1), (2, .int v2), (3, .int v3), (4, .int v4)] []
  refine zi_aload_n K (dX4_init 0 rfl) 0 rfl ?_
  refine zi_objInit K w_712 (dX4_init 1 rfl) (Nat.le_of_ble_eq_true rfl) (Nat.le_of_ble_eq_true rfl) ?_
  refine zi_aload_n K (dX4_init 2 rfl) 0 rfl ?_
  refine zi_iload_n K (dX4_init 3 rfl) 1 rfl ?_
  refine zx_putF (ci := 4) (C := RX4) (T := TX4) (N := 4) (f := 0) (ty := .int) hB K hnm rfl inX4 tyX4 tyX4_ok nmX4 (Nat.le_of_ble_eq_true rfl) w_713 rfl rfl (by decide +kernel) rfl rfl (Nat.le_of_ble_eq_true rfl) (dX4_init 4 rfl) [.int v1, .int 0, .int 0, .int 0] rfl ?_
  refine zi_aload_n K (dX4_init 5 rfl) 0 rfl ?_
  refine zi_iload_n K (dX4_init 6 rfl) 2 rfl ?_
  refine zx_putF (ci := 4) (C := RX4) (T := TX4) (N := 4) (f := 1) (ty := .int) hB K hnm rfl inX4 tyX4 tyX4_ok nmX4 (Nat.le_of_ble_eq_true rfl) w_716 rfl rfl (by decide +kernel) rfl rfl (Nat.le_of_ble_eq_true rfl) (dX4_init 7 rfl) [.int v1, .int v2, .int 0, .int 0] rfl ?_
  refine zi_aload_n K (dX4_init 8 rfl) 0 rfl ?_
  refine zi_iload_n K (dX4_init 9 rfl) 3 rfl ?_
  refine zx_putF (ci := 4) (C := RX4) (T := TX4) (N := 4) (f := 2) (ty := .int) hB K hnm rfl inX4 tyX4 tyX4_ok nmX4 (Nat.le_of_ble_eq_true rfl) w_719 rfl rfl (by decide +kernel) rfl rfl (Nat.le_of_ble_eq_true rfl) (dX4_init 10 rfl) [.int v1, .int v2, .int v3, .int 0] rfl ?_
  refine zi_aload_n K (dX4_init 11 rfl) 0 rfl ?_
  refine zi_iload K (dX4_init 12 rfl) 4 rfl ?_
  refine zx_putF (ci := 4) (C := RX4) (T := TX4) (N := 4) (f := 3) (ty := .int) hB K hnm rfl inX4 tyX4 tyX4_ok nmX4 (Nat.le_of_ble_eq_true rfl) w_721 rfl rfl (by decide +kernel) rfl rfl (Nat.le_of_ble_eq_true rfl) (dX4_init 13 rfl) [.int v1, .int v2, .int v3, .int v4] rfl ?_
  exact zi_vret K E (dX4_init 14 rfl) (Nat.le_of_ble_eq_true rfl) (Nat.le_of_ble_eq_true rfl) rfl (fun _ h => h)
set_option maxRecDepth 100000 in
set_option maxHeartbeats 4000000 in
theorem n_claim {G : zG} {B : zBs} {ws : List (Nat × va_E)} (hB : zBo B) (a : Nat) (p : Nat)  : zC G yX0_init cX0_init 2 none 1 13 2 16 [.ref a, .ref p] (zPx G B ((a, .inr (0, [.null, .null, .null, .int 0, .int 0, .int 0, .long 0])) :: ws)) none ((fun H => ∃ x1, ∃ x2, zPx G B ((a, .inr (0, [.ref p, .ref x1, .ref x2, .int 0, .int 0, .int 0, .long 0])) :: (x2, .inl (G.2.2.2.1 0, 8, .inl (fun _ => 0))) :: (x1, .inl (G.2.2.2.1 1, 8, .inr (.inl (fun _ => 0)))) :: ws) H)) := by
  refine zC_of (by decide) (Nat.le_of_ble_eq_true rfl) (fun X K E hnm => ?_)
  show zV G X 2 (zPx G B ((a, .inr (0, [.null, .null, .null, .int 0, .int 0, .int 0, .long 0])) :: ws)) 0 0 0 [(0, .ref a), (1, .ref p)] []
  refine zi_aload_n K (dX0_init 0 rfl) 0 rfl ?_
  refine zi_objInit K w_735 (dX0_init 1 rfl) (Nat.le_of_ble_eq_true rfl) (Nat.le_of_ble_eq_true rfl) ?_
  refine zi_aload_n K (dX0_init 2 rfl) 0 rfl ?_
  refine zi_bipush K (dX0_init 3 rfl) zk_b8 ?_
  refine zx_newal hB K (N := 8) (by decide) (by decide) ⟨Nat.le_of_ble_eq_true rfl, Nat.le_of_ble_eq_true rfl⟩ (dX0_init 4 rfl) (fun x1 => ?_)
  refine zx_putF (ci := 0) (C := RX0) (T := TX0) (N := 7) (f := 1) (ty := (.array .long)) hB K hnm rfl inX0 tyX0 tyX0_ok nmX0 (Nat.le_of_ble_eq_true rfl) w_740 rfl rfl (by decide +kernel) rfl rfl (Nat.le_of_ble_eq_true rfl) (dX0_init 5 rfl) [.null, .ref x1, .null, .int 0, .int 0, .int 0, .long 0] rfl ?_
  refine zi_aload_n K (dX0_init 6 rfl) 0 rfl ?_
  refine zi_bipush K (dX0_init 7 rfl) zk_b8 ?_
  refine zx_newai hB K (N := 8) (by decide) (by decide) ⟨Nat.le_of_ble_eq_true rfl, Nat.le_of_ble_eq_true rfl⟩ (dX0_init 8 rfl) (fun x2 => ?_)
  refine zx_putF (ci := 0) (C := RX0) (T := TX0) (N := 7) (f := 2) (ty := (.array .int)) hB K hnm rfl inX0 tyX0 tyX0_ok nmX0 (Nat.le_of_ble_eq_true rfl) w_744 rfl rfl (by decide +kernel) rfl rfl (Nat.le_of_ble_eq_true rfl) (dX0_init 9 rfl) [.null, .ref x1, .ref x2, .int 0, .int 0, .int 0, .long 0] rfl ?_
  refine zi_aload_n K (dX0_init 10 rfl) 0 rfl ?_
  refine zi_iconst K (dX0_init 11 rfl) zk_i0 ?_
  refine zx_put (ci := 0) (C := RX0) (T := TX0) (N := 7) (f := 3) (ty := .int) hB K rfl inX0 tyX0 tyX0_ok nmX0 (Nat.le_of_ble_eq_true rfl) w_746 (fun _ h => h) rfl (by decide +kernel) rfl rfl (Nat.le_of_ble_eq_true rfl) (dX0_init 12 rfl) [.null, .ref x1, .ref x2, .int 0, .int 0, .int 0, .long 0] rfl ?_
  refine zi_aload_n K (dX0_init 13 rfl) 0 rfl ?_
  refine zi_iconst K (dX0_init 14 rfl) zk_i0 ?_
  refine zx_put (ci := 0) (C := RX0) (T := TX0) (N := 7) (f := 4) (ty := .int) hB K rfl inX0 tyX0 tyX0_ok nmX0 (Nat.le_of_ble_eq_true rfl) w_750 (fun _ h => h) rfl (by decide +kernel) rfl rfl (Nat.le_of_ble_eq_true rfl) (dX0_init 15 rfl) [.null, .ref x1, .ref x2, .int 0, .int 0, .int 0, .long 0] rfl ?_
  refine zi_aload_n K (dX0_init 16 rfl) 0 rfl ?_
  refine zi_iconst K (dX0_init 17 rfl) zk_i0 ?_
  refine zx_put (ci := 0) (C := RX0) (T := TX0) (N := 7) (f := 5) (ty := .int) hB K rfl inX0 tyX0 tyX0_ok nmX0 (Nat.le_of_ble_eq_true rfl) w_752 (fun _ h => h) rfl (by decide +kernel) rfl rfl (Nat.le_of_ble_eq_true rfl) (dX0_init 18 rfl) [.null, .ref x1, .ref x2, .int 0, .int 0, .int 0, .long 0] rfl ?_
  refine zi_aload_n K (dX0_init 19 rfl) 0 rfl ?_
  refine zi_lconst K (dX0_init 20 rfl) zk_l0 ?_
  refine zx_put (ci := 0) (C := RX0) (T := TX0) (N := 7) (f := 6) (ty := .long) hB K rfl inX0 tyX0 tyX0_ok nmX0 (Nat.le_of_ble_eq_true rfl) w_755 (fun _ h => h) rfl (by decide +kernel) rfl rfl (Nat.le_of_ble_eq_true rfl) (dX0_init 21 rfl) [.null, .ref x1, .ref x2, .int 0, .int 0, .int 0, .long 0] rfl ?_
  refine zi_aload_n K (dX0_init 22 rfl) 0 rfl ?_
  refine zi_aload_n K (dX0_init 23 rfl) 1 rfl ?_
  refine zx_putF (ci := 0) (C := RX0) (T := TX0) (N := 7) (f := 0) (ty := (.object "Layertreaty$Policy")) hB K hnm rfl inX0 tyX0 tyX0_ok nmX0 (Nat.le_of_ble_eq_true rfl) w_736 rfl rfl (by decide +kernel) rfl rfl (Nat.le_of_ble_eq_true rfl) (dX0_init 24 rfl) [.ref p, .ref x1, .ref x2, .int 0, .int 0, .int 0, .long 0] rfl ?_
  exact zi_vret K E (dX0_init 25 rfl) (Nat.le_of_ble_eq_true rfl) (Nat.le_of_ble_eq_true rfl) rfl (fun H h => ⟨x1, x2, h⟩)
set_option maxRecDepth 100000 in
set_option maxHeartbeats 4000000 in
theorem n_cover {G : zG} {B : zBs} {ws : List (Nat × va_E)} (hB : zBo B) (a : Nat) (t : Nat)  : zC G yX1_init cX1_init 2 none 1 13 1 4 [.ref a, .ref t] (zPx G B ((a, .inr (1, [.null, .null, .long 0, .long 0, .long 0, .long 0])) :: ws)) none ((fun H => ∃ x1, zPx G B ((a, .inr (1, [.ref t, .ref x1, .long 0, .long 0, .long 0, .long 0])) :: (x1, .inl (G.2.2.2.1 0, 4, .inl (fun _ => 0))) :: ws) H)) := by
  refine zC_of (by decide) (Nat.le_of_ble_eq_true rfl) (fun X K E hnm => ?_)
  show zV G X 2 (zPx G B ((a, .inr (1, [.null, .null, .long 0, .long 0, .long 0, .long 0])) :: ws)) 0 0 0 [(0, .ref a), (1, .ref t)] []
  refine zi_aload_n K (dX1_init 0 rfl) 0 rfl ?_
  refine zi_objInit K w_1160 (dX1_init 1 rfl) (Nat.le_of_ble_eq_true rfl) (Nat.le_of_ble_eq_true rfl) ?_
  refine zi_aload_n K (dX1_init 2 rfl) 0 rfl ?_
  refine zi_iconst K (dX1_init 3 rfl) zk_i4 ?_
  refine zx_newai hB K (N := 4) (by decide) (by decide) ⟨Nat.le_of_ble_eq_true rfl, Nat.le_of_ble_eq_true rfl⟩ (dX1_init 4 rfl) (fun x1 => ?_)
  refine zx_putF (ci := 1) (C := RX1) (T := TX1) (N := 6) (f := 1) (ty := (.array .int)) hB K hnm rfl inX1 tyX1 tyX1_ok nmX1 (Nat.le_of_ble_eq_true rfl) w_1164 rfl rfl (by decide +kernel) rfl rfl (Nat.le_of_ble_eq_true rfl) (dX1_init 5 rfl) [.null, .ref x1, .long 0, .long 0, .long 0, .long 0] rfl ?_
  refine zi_aload_n K (dX1_init 6 rfl) 0 rfl ?_
  refine zi_lconst K (dX1_init 7 rfl) zk_l0 ?_
  refine zx_put (ci := 1) (C := RX1) (T := TX1) (N := 6) (f := 2) (ty := .long) hB K rfl inX1 tyX1 tyX1_ok nmX1 (Nat.le_of_ble_eq_true rfl) w_1167 (fun _ h => h) rfl (by decide +kernel) rfl rfl (Nat.le_of_ble_eq_true rfl) (dX1_init 8 rfl) [.null, .ref x1, .long 0, .long 0, .long 0, .long 0] rfl ?_
  refine zi_aload_n K (dX1_init 9 rfl) 0 rfl ?_
  refine zi_lconst K (dX1_init 10 rfl) zk_l0 ?_
  refine zx_put (ci := 1) (C := RX1) (T := TX1) (N := 6) (f := 3) (ty := .long) hB K rfl inX1 tyX1 tyX1_ok nmX1 (Nat.le_of_ble_eq_true rfl) w_1170 (fun _ h => h) rfl (by decide +kernel) rfl rfl (Nat.le_of_ble_eq_true rfl) (dX1_init 11 rfl) [.null, .ref x1, .long 0, .long 0, .long 0, .long 0] rfl ?_
  refine zi_aload_n K (dX1_init 12 rfl) 0 rfl ?_
  refine zi_lconst K (dX1_init 13 rfl) zk_l0 ?_
  refine zx_put (ci := 1) (C := RX1) (T := TX1) (N := 6) (f := 4) (ty := .long) hB K rfl inX1 tyX1 tyX1_ok nmX1 (Nat.le_of_ble_eq_true rfl) w_1173 (fun _ h => h) rfl (by decide +kernel) rfl rfl (Nat.le_of_ble_eq_true rfl) (dX1_init 14 rfl) [.null, .ref x1, .long 0, .long 0, .long 0, .long 0] rfl ?_
  refine zi_aload_n K (dX1_init 15 rfl) 0 rfl ?_
  refine zi_lconst K (dX1_init 16 rfl) zk_l0 ?_
  refine zx_put (ci := 1) (C := RX1) (T := TX1) (N := 6) (f := 5) (ty := .long) hB K rfl inX1 tyX1 tyX1_ok nmX1 (Nat.le_of_ble_eq_true rfl) w_1175 (fun _ h => h) rfl (by decide +kernel) rfl rfl (Nat.le_of_ble_eq_true rfl) (dX1_init 17 rfl) [.null, .ref x1, .long 0, .long 0, .long 0, .long 0] rfl ?_
  refine zi_aload_n K (dX1_init 18 rfl) 0 rfl ?_
  refine zi_aload_n K (dX1_init 19 rfl) 1 rfl ?_
  refine zx_putF (ci := 1) (C := RX1) (T := TX1) (N := 6) (f := 0) (ty := (.object "Layertreaty$Treaty")) hB K hnm rfl inX1 tyX1 tyX1_ok nmX1 (Nat.le_of_ble_eq_true rfl) w_1161 rfl rfl (by decide +kernel) rfl rfl (Nat.le_of_ble_eq_true rfl) (dX1_init 20 rfl) [.ref t, .ref x1, .long 0, .long 0, .long 0, .long 0] rfl ?_
  exact zi_vret K E (dX1_init 21 rfl) (Nat.le_of_ble_eq_true rfl) (Nat.le_of_ble_eq_true rfl) rfl (fun H h => ⟨x1, h⟩)
set_option maxRecDepth 100000 in
set_option maxHeartbeats 4000000 in
theorem n_scen {G : zG} {B : zBs} {ws : List (Nat × va_E)} (hB : zBo B) (a : Nat) (v1 v2 : Int32)  : zC G yX6_init cX6_init 3 none 1 13 1 4 [.ref a, .int v1, .int v2] (zPx G B ((a, .inr (6, [.int 0, .int 0, .null, .long 0])) :: ws)) none ((fun H => ∃ x1, zPx G B ((a, .inr (6, [.int v1, .int v2, .ref x1, .long 0])) :: (x1, .inl (G.2.2.2.1 0, 4, .inl (fun _ => 0))) :: ws) H)) := by
  refine zC_of (by decide) (Nat.le_of_ble_eq_true rfl) (fun X K E hnm => ?_)
  show zV G X 3 (zPx G B ((a, .inr (6, [.int 0, .int 0, .null, .long 0])) :: ws)) 0 0 0 [(0, .ref a), (1, .int v1), (2, .int v2)] []
  refine zi_aload_n K (dX6_init 0 rfl) 0 rfl ?_
  refine zi_objInit K w_1313 (dX6_init 1 rfl) (Nat.le_of_ble_eq_true rfl) (Nat.le_of_ble_eq_true rfl) ?_
  refine zi_aload_n K (dX6_init 2 rfl) 0 rfl ?_
  refine zi_iconst K (dX6_init 3 rfl) zk_i4 ?_
  refine zx_newai hB K (N := 4) (by decide) (by decide) ⟨Nat.le_of_ble_eq_true rfl, Nat.le_of_ble_eq_true rfl⟩ (dX6_init 4 rfl) (fun x1 => ?_)
  refine zx_putF (ci := 6) (C := RX6) (T := TX6) (N := 4) (f := 2) (ty := (.array .int)) hB K hnm rfl inX6 tyX6 tyX6_ok nmX6 (Nat.le_of_ble_eq_true rfl) w_1318 rfl rfl (by decide +kernel) rfl rfl (Nat.le_of_ble_eq_true rfl) (dX6_init 5 rfl) [.int 0, .int 0, .ref x1, .long 0] rfl ?_
  refine zi_aload_n K (dX6_init 6 rfl) 0 rfl ?_
  refine zi_lconst K (dX6_init 7 rfl) zk_l0 ?_
  refine zx_put (ci := 6) (C := RX6) (T := TX6) (N := 4) (f := 3) (ty := .long) hB K rfl inX6 tyX6 tyX6_ok nmX6 (Nat.le_of_ble_eq_true rfl) w_1320 (fun _ h => h) rfl (by decide +kernel) rfl rfl (Nat.le_of_ble_eq_true rfl) (dX6_init 8 rfl) [.int 0, .int 0, .ref x1, .long 0] rfl ?_
  refine zi_aload_n K (dX6_init 9 rfl) 0 rfl ?_
  refine zi_iload_n K (dX6_init 10 rfl) 1 rfl ?_
  refine zx_putF (ci := 6) (C := RX6) (T := TX6) (N := 4) (f := 0) (ty := .int) hB K hnm rfl inX6 tyX6 tyX6_ok nmX6 (Nat.le_of_ble_eq_true rfl) w_1314 rfl rfl (by decide +kernel) rfl rfl (Nat.le_of_ble_eq_true rfl) (dX6_init 11 rfl) [.int v1, .int 0, .ref x1, .long 0] rfl ?_
  refine zi_aload_n K (dX6_init 12 rfl) 0 rfl ?_
  refine zi_iload_n K (dX6_init 13 rfl) 2 rfl ?_
  refine zx_putF (ci := 6) (C := RX6) (T := TX6) (N := 4) (f := 1) (ty := .int) hB K hnm rfl inX6 tyX6 tyX6_ok nmX6 (Nat.le_of_ble_eq_true rfl) w_1316 rfl rfl (by decide +kernel) rfl rfl (Nat.le_of_ble_eq_true rfl) (dX6_init 14 rfl) [.int v1, .int v2, .ref x1, .long 0] rfl ?_
  exact zi_vret K E (dX6_init 15 rfl) (Nat.le_of_ble_eq_true rfl) (Nat.le_of_ble_eq_true rfl) rfl (fun H h => ⟨x1, h⟩)
set_option maxRecDepth 100000 in
set_option maxHeartbeats 4000000 in
theorem n_treaty {G : zG} {B : zBs} {ws : List (Nat × va_E)} (hB : zBo B) (a : Nat) (v1 v2 v3 v4 v5 v6 v7 : Int32) (hk : narrow .char (.int v2) = .int v2 ∧ fits .char (.int v2) = true) (hs : narrow .char (.int v3) = .int v3 ∧ fits .char (.int v3) = true) : zC G yX7_init cX7_init 8 none 1 13 1 5 [.ref a, .int v1, .int v2, .int v3, .int v4, .int v5, .int v6, .int v7] (zPx G B ((a, .inr (7, [.int 0, .int 0, .int 0, .int 0, .int 0, .int 0, .int 0, .null, .int 0, .int 0, .int 0, .int 0, .int 0, .int 0, .int 0])) :: ws)) none ((fun H => ∃ x1, zPx G B ((a, .inr (7, [.int v1, .int v2, .int v3, .int v4, .int v5, .int v6, .int v7, .ref x1, .int 3, .int 0, .int 0, .int 0, .int 0, .int 0, .int 0])) :: (x1, .inl (G.2.2.2.1 0, 5, .inl (fun _ => 0))) :: ws) H)) := by
  refine zC_of (by decide) (Nat.le_of_ble_eq_true rfl) (fun X K E hnm => ?_)
  show zV G X 8 (zPx G B ((a, .inr (7, [.int 0, .int 0, .int 0, .int 0, .int 0, .int 0, .int 0, .null, .int 0, .int 0, .int 0, .int 0, .int 0, .int 0, .int 0])) :: ws)) 0 0 0 [(0, .ref a), (1, .int v1), (2, .int v2), (3, .int v3), (4, .int v4), (5, .int v5), (6, .int v6), (7, .int v7)] []
  refine zi_aload_n K (dX7_init 0 rfl) 0 rfl ?_
  refine zi_objInit K w_1090 (dX7_init 1 rfl) (Nat.le_of_ble_eq_true rfl) (Nat.le_of_ble_eq_true rfl) ?_
  refine zi_aload_n K (dX7_init 2 rfl) 0 rfl ?_
  refine zi_iconst K (dX7_init 3 rfl) zk_i5 ?_
  refine zx_newai hB K (N := 5) (by decide) (by decide) ⟨Nat.le_of_ble_eq_true rfl, Nat.le_of_ble_eq_true rfl⟩ (dX7_init 4 rfl) (fun x1 => ?_)
  refine zx_putF (ci := 7) (C := RX7) (T := TX7) (N := 15) (f := 7) (ty := (.array .int)) hB K hnm rfl inX7 tyX7 tyX7_ok nmX7 (Nat.le_of_ble_eq_true rfl) w_1104 rfl rfl (by decide +kernel) rfl rfl (Nat.le_of_ble_eq_true rfl) (dX7_init 5 rfl) [.int 0, .int 0, .int 0, .int 0, .int 0, .int 0, .int 0, .ref x1, .int 0, .int 0, .int 0, .int 0, .int 0, .int 0, .int 0] rfl ?_
  refine zi_aload_n K (dX7_init 6 rfl) 0 rfl ?_
  refine zi_iconst K (dX7_init 7 rfl) zk_i3 ?_
  refine zx_put (ci := 7) (C := RX7) (T := TX7) (N := 15) (f := 8) (ty := .int) hB K rfl inX7 tyX7 tyX7_ok nmX7 (Nat.le_of_ble_eq_true rfl) w_1107 (fun _ h => h) rfl (by decide +kernel) rfl rfl (Nat.le_of_ble_eq_true rfl) (dX7_init 8 rfl) [.int 0, .int 0, .int 0, .int 0, .int 0, .int 0, .int 0, .ref x1, .int 3, .int 0, .int 0, .int 0, .int 0, .int 0, .int 0] rfl ?_
  refine zi_aload_n K (dX7_init 9 rfl) 0 rfl ?_
  refine zi_iconst K (dX7_init 10 rfl) zk_i0 ?_
  refine zx_put (ci := 7) (C := RX7) (T := TX7) (N := 15) (f := 9) (ty := .int) hB K rfl inX7 tyX7 tyX7_ok nmX7 (Nat.le_of_ble_eq_true rfl) w_1110 (fun _ h => h) rfl (by decide +kernel) rfl rfl (Nat.le_of_ble_eq_true rfl) (dX7_init 11 rfl) [.int 0, .int 0, .int 0, .int 0, .int 0, .int 0, .int 0, .ref x1, .int 3, .int 0, .int 0, .int 0, .int 0, .int 0, .int 0] rfl ?_
  refine zi_aload_n K (dX7_init 12 rfl) 0 rfl ?_
  refine zi_iconst K (dX7_init 13 rfl) zk_i0 ?_
  refine zx_put (ci := 7) (C := RX7) (T := TX7) (N := 15) (f := 10) (ty := .int) hB K rfl inX7 tyX7 tyX7_ok nmX7 (Nat.le_of_ble_eq_true rfl) w_1113 (fun _ h => h) rfl (by decide +kernel) rfl rfl (Nat.le_of_ble_eq_true rfl) (dX7_init 14 rfl) [.int 0, .int 0, .int 0, .int 0, .int 0, .int 0, .int 0, .ref x1, .int 3, .int 0, .int 0, .int 0, .int 0, .int 0, .int 0] rfl ?_
  refine zi_aload_n K (dX7_init 15 rfl) 0 rfl ?_
  refine zi_iconst K (dX7_init 16 rfl) zk_i0 ?_
  refine zx_put (ci := 7) (C := RX7) (T := TX7) (N := 15) (f := 11) (ty := .boolean) hB K rfl inX7 tyX7 tyX7_ok nmX7 (Nat.le_of_ble_eq_true rfl) w_1115 (fun _ h => h) rfl (by decide +kernel) rfl rfl (Nat.le_of_ble_eq_true rfl) (dX7_init 17 rfl) [.int 0, .int 0, .int 0, .int 0, .int 0, .int 0, .int 0, .ref x1, .int 3, .int 0, .int 0, .int 0, .int 0, .int 0, .int 0] rfl ?_
  refine zi_aload_n K (dX7_init 18 rfl) 0 rfl ?_
  refine zi_iconst K (dX7_init 19 rfl) zk_i0 ?_
  refine zx_put (ci := 7) (C := RX7) (T := TX7) (N := 15) (f := 12) (ty := .int) hB K rfl inX7 tyX7 tyX7_ok nmX7 (Nat.le_of_ble_eq_true rfl) w_1117 (fun _ h => h) rfl (by decide +kernel) rfl rfl (Nat.le_of_ble_eq_true rfl) (dX7_init 20 rfl) [.int 0, .int 0, .int 0, .int 0, .int 0, .int 0, .int 0, .ref x1, .int 3, .int 0, .int 0, .int 0, .int 0, .int 0, .int 0] rfl ?_
  refine zi_aload_n K (dX7_init 21 rfl) 0 rfl ?_
  refine zi_iconst K (dX7_init 22 rfl) zk_i0 ?_
  refine zx_put (ci := 7) (C := RX7) (T := TX7) (N := 15) (f := 13) (ty := .boolean) hB K rfl inX7 tyX7 tyX7_ok nmX7 (Nat.le_of_ble_eq_true rfl) w_1119 (fun _ h => h) rfl (by decide +kernel) rfl rfl (Nat.le_of_ble_eq_true rfl) (dX7_init 23 rfl) [.int 0, .int 0, .int 0, .int 0, .int 0, .int 0, .int 0, .ref x1, .int 3, .int 0, .int 0, .int 0, .int 0, .int 0, .int 0] rfl ?_
  refine zi_aload_n K (dX7_init 24 rfl) 0 rfl ?_
  refine zi_iconst K (dX7_init 25 rfl) zk_i0 ?_
  refine zx_put (ci := 7) (C := RX7) (T := TX7) (N := 15) (f := 14) (ty := .int) hB K rfl inX7 tyX7 tyX7_ok nmX7 (Nat.le_of_ble_eq_true rfl) w_1123 (fun _ h => h) rfl (by decide +kernel) rfl rfl (Nat.le_of_ble_eq_true rfl) (dX7_init 26 rfl) [.int 0, .int 0, .int 0, .int 0, .int 0, .int 0, .int 0, .ref x1, .int 3, .int 0, .int 0, .int 0, .int 0, .int 0, .int 0] rfl ?_
  refine zi_aload_n K (dX7_init 27 rfl) 0 rfl ?_
  refine zi_iload_n K (dX7_init 28 rfl) 1 rfl ?_
  refine zx_putF (ci := 7) (C := RX7) (T := TX7) (N := 15) (f := 0) (ty := .int) hB K hnm rfl inX7 tyX7 tyX7_ok nmX7 (Nat.le_of_ble_eq_true rfl) w_1091 rfl rfl (by decide +kernel) rfl rfl (Nat.le_of_ble_eq_true rfl) (dX7_init 29 rfl) [.int v1, .int 0, .int 0, .int 0, .int 0, .int 0, .int 0, .ref x1, .int 3, .int 0, .int 0, .int 0, .int 0, .int 0, .int 0] rfl ?_
  refine zi_aload_n K (dX7_init 30 rfl) 0 rfl ?_
  refine zi_iload_n K (dX7_init 31 rfl) 2 rfl ?_
  refine zx_putF (ci := 7) (C := RX7) (T := TX7) (N := 15) (f := 1) (ty := .char) hB K hnm rfl inX7 tyX7 tyX7_ok nmX7 (Nat.le_of_ble_eq_true rfl) w_1095 rfl rfl (by decide +kernel) hk.1 hk.2 (Nat.le_of_ble_eq_true rfl) (dX7_init 32 rfl) [.int v1, .int v2, .int 0, .int 0, .int 0, .int 0, .int 0, .ref x1, .int 3, .int 0, .int 0, .int 0, .int 0, .int 0, .int 0] rfl ?_
  refine zi_aload_n K (dX7_init 33 rfl) 0 rfl ?_
  refine zi_iload_n K (dX7_init 34 rfl) 3 rfl ?_
  refine zx_putF (ci := 7) (C := RX7) (T := TX7) (N := 15) (f := 2) (ty := .char) hB K hnm rfl inX7 tyX7 tyX7_ok nmX7 (Nat.le_of_ble_eq_true rfl) w_1098 rfl rfl (by decide +kernel) hs.1 hs.2 (Nat.le_of_ble_eq_true rfl) (dX7_init 35 rfl) [.int v1, .int v2, .int v3, .int 0, .int 0, .int 0, .int 0, .ref x1, .int 3, .int 0, .int 0, .int 0, .int 0, .int 0, .int 0] rfl ?_
  refine zi_aload_n K (dX7_init 36 rfl) 0 rfl ?_
  refine zi_iload K (dX7_init 37 rfl) 4 rfl ?_
  refine zx_putF (ci := 7) (C := RX7) (T := TX7) (N := 15) (f := 3) (ty := .int) hB K hnm rfl inX7 tyX7 tyX7_ok nmX7 (Nat.le_of_ble_eq_true rfl) w_1099 rfl rfl (by decide +kernel) rfl rfl (Nat.le_of_ble_eq_true rfl) (dX7_init 38 rfl) [.int v1, .int v2, .int v3, .int v4, .int 0, .int 0, .int 0, .ref x1, .int 3, .int 0, .int 0, .int 0, .int 0, .int 0, .int 0] rfl ?_
  refine zi_aload_n K (dX7_init 39 rfl) 0 rfl ?_
  refine zi_iload K (dX7_init 40 rfl) 5 rfl ?_
  refine zx_putF (ci := 7) (C := RX7) (T := TX7) (N := 15) (f := 4) (ty := .int) hB K hnm rfl inX7 tyX7 tyX7_ok nmX7 (Nat.le_of_ble_eq_true rfl) w_1100 rfl rfl (by decide +kernel) rfl rfl (Nat.le_of_ble_eq_true rfl) (dX7_init 41 rfl) [.int v1, .int v2, .int v3, .int v4, .int v5, .int 0, .int 0, .ref x1, .int 3, .int 0, .int 0, .int 0, .int 0, .int 0, .int 0] rfl ?_
  refine zi_aload_n K (dX7_init 42 rfl) 0 rfl ?_
  refine zi_iload K (dX7_init 43 rfl) 6 rfl ?_
  refine zx_putF (ci := 7) (C := RX7) (T := TX7) (N := 15) (f := 5) (ty := .int) hB K hnm rfl inX7 tyX7 tyX7_ok nmX7 (Nat.le_of_ble_eq_true rfl) w_1101 rfl rfl (by decide +kernel) rfl rfl (Nat.le_of_ble_eq_true rfl) (dX7_init 44 rfl) [.int v1, .int v2, .int v3, .int v4, .int v5, .int v6, .int 0, .ref x1, .int 3, .int 0, .int 0, .int 0, .int 0, .int 0, .int 0] rfl ?_
  refine zi_aload_n K (dX7_init 45 rfl) 0 rfl ?_
  refine zi_iload K (dX7_init 46 rfl) 7 rfl ?_
  refine zx_putF (ci := 7) (C := RX7) (T := TX7) (N := 15) (f := 6) (ty := .int) hB K hnm rfl inX7 tyX7 tyX7_ok nmX7 (Nat.le_of_ble_eq_true rfl) w_1102 rfl rfl (by decide +kernel) rfl rfl (Nat.le_of_ble_eq_true rfl) (dX7_init 47 rfl) [.int v1, .int v2, .int v3, .int v4, .int v5, .int v6, .int v7, .ref x1, .int 3, .int 0, .int 0, .int 0, .int 0, .int 0, .int 0] rfl ?_
  exact zi_vret K E (dX7_init 48 rfl) (Nat.le_of_ble_eq_true rfl) (Nat.le_of_ble_eq_true rfl) rfl (fun H h => ⟨x1, h⟩)
set_option maxRecDepth 100000 in
set_option maxHeartbeats 4000000 in
theorem n_laying {G : zG} {B : zBs} {ws : List (Nat × va_E)} (hB : zBo B) (a : Nat)   : zC G yX3_init cX3_init 1 none 1 13 5 152 [.ref a] (zPx G B ((a, .inr (3, [.null, .null, .null, .null, .null, .int 0])) :: ws)) none ((fun H => ∃ x1, ∃ x2, ∃ x3, ∃ x4, ∃ x5, zPx G B ((a, .inr (3, [.ref x1, .ref x2, .ref x3, .ref x4, .ref x5, .int 0])) :: (x5, .inl (G.2.2.2.1 0, 31, .inl (fun _ => 0))) :: (x4, .inl (G.2.2.2.1 1, 31, .inr (.inl (fun _ => 0)))) :: (x3, .inl (G.2.2.2.1 0, 30, .inl (fun _ => 0))) :: (x2, .inl (G.2.2.2.1 1, 30, .inr (.inl (fun _ => 0)))) :: (x1, .inl (G.2.2.2.1 0, 30, .inl (fun _ => 0))) :: ws) H)) := by
  refine zC_of (by decide) (Nat.le_of_ble_eq_true rfl) (fun X K E hnm => ?_)
  show zV G X 1 (zPx G B ((a, .inr (3, [.null, .null, .null, .null, .null, .int 0])) :: ws)) 0 0 0 [(0, .ref a)] []
  refine zi_aload_n K (dX3_init 0 rfl) 0 rfl ?_
  refine zi_objInit K w_107 (dX3_init 1 rfl) (Nat.le_of_ble_eq_true rfl) (Nat.le_of_ble_eq_true rfl) ?_
  refine zi_aload_n K (dX3_init 2 rfl) 0 rfl ?_
  refine zi_bipush K (dX3_init 3 rfl) zk_b30 ?_
  refine zx_newai hB K (N := 30) (by decide) (by decide) ⟨Nat.le_of_ble_eq_true rfl, Nat.le_of_ble_eq_true rfl⟩ (dX3_init 4 rfl) (fun x1 => ?_)
  refine zx_putF (ci := 3) (C := RX3) (T := TX3) (N := 6) (f := 0) (ty := (.array .int)) hB K hnm rfl inX3 tyX3 tyX3_ok nmX3 (Nat.le_of_ble_eq_true rfl) w_108 rfl rfl (by decide +kernel) rfl rfl (Nat.le_of_ble_eq_true rfl) (dX3_init 5 rfl) [.ref x1, .null, .null, .null, .null, .int 0] rfl ?_
  refine zi_aload_n K (dX3_init 6 rfl) 0 rfl ?_
  refine zi_bipush K (dX3_init 7 rfl) zk_b30 ?_
  refine zx_newal hB K (N := 30) (by decide) (by decide) ⟨Nat.le_of_ble_eq_true rfl, Nat.le_of_ble_eq_true rfl⟩ (dX3_init 8 rfl) (fun x2 => ?_)
  refine zx_putF (ci := 3) (C := RX3) (T := TX3) (N := 6) (f := 1) (ty := (.array .long)) hB K hnm rfl inX3 tyX3 tyX3_ok nmX3 (Nat.le_of_ble_eq_true rfl) w_110 rfl rfl (by decide +kernel) rfl rfl (Nat.le_of_ble_eq_true rfl) (dX3_init 9 rfl) [.ref x1, .ref x2, .null, .null, .null, .int 0] rfl ?_
  refine zi_aload_n K (dX3_init 10 rfl) 0 rfl ?_
  refine zi_bipush K (dX3_init 11 rfl) zk_b30 ?_
  refine zx_newai hB K (N := 30) (by decide) (by decide) ⟨Nat.le_of_ble_eq_true rfl, Nat.le_of_ble_eq_true rfl⟩ (dX3_init 12 rfl) (fun x3 => ?_)
  refine zx_putF (ci := 3) (C := RX3) (T := TX3) (N := 6) (f := 2) (ty := (.array .int)) hB K hnm rfl inX3 tyX3 tyX3_ok nmX3 (Nat.le_of_ble_eq_true rfl) w_111 rfl rfl (by decide +kernel) rfl rfl (Nat.le_of_ble_eq_true rfl) (dX3_init 13 rfl) [.ref x1, .ref x2, .ref x3, .null, .null, .int 0] rfl ?_
  refine zi_aload_n K (dX3_init 14 rfl) 0 rfl ?_
  refine zi_bipush K (dX3_init 15 rfl) zk_b31 ?_
  refine zx_newal hB K (N := 31) (by decide) (by decide) ⟨Nat.le_of_ble_eq_true rfl, Nat.le_of_ble_eq_true rfl⟩ (dX3_init 16 rfl) (fun x4 => ?_)
  refine zx_putF (ci := 3) (C := RX3) (T := TX3) (N := 6) (f := 3) (ty := (.array .long)) hB K hnm rfl inX3 tyX3 tyX3_ok nmX3 (Nat.le_of_ble_eq_true rfl) w_113 rfl rfl (by decide +kernel) rfl rfl (Nat.le_of_ble_eq_true rfl) (dX3_init 17 rfl) [.ref x1, .ref x2, .ref x3, .ref x4, .null, .int 0] rfl ?_
  refine zi_aload_n K (dX3_init 18 rfl) 0 rfl ?_
  refine zi_bipush K (dX3_init 19 rfl) zk_b31 ?_
  refine zx_newai hB K (N := 31) (by decide) (by decide) ⟨Nat.le_of_ble_eq_true rfl, Nat.le_of_ble_eq_true rfl⟩ (dX3_init 20 rfl) (fun x5 => ?_)
  refine zx_putF (ci := 3) (C := RX3) (T := TX3) (N := 6) (f := 4) (ty := (.array .int)) hB K hnm rfl inX3 tyX3 tyX3_ok nmX3 (Nat.le_of_ble_eq_true rfl) w_114 rfl rfl (by decide +kernel) rfl rfl (Nat.le_of_ble_eq_true rfl) (dX3_init 21 rfl) [.ref x1, .ref x2, .ref x3, .ref x4, .ref x5, .int 0] rfl ?_
  refine zi_aload_n K (dX3_init 22 rfl) 0 rfl ?_
  refine zi_iconst K (dX3_init 23 rfl) zk_i0 ?_
  refine zx_put (ci := 3) (C := RX3) (T := TX3) (N := 6) (f := 5) (ty := .int) hB K rfl inX3 tyX3 tyX3_ok nmX3 (Nat.le_of_ble_eq_true rfl) w_115 (fun _ h => h) rfl (by decide +kernel) rfl rfl (Nat.le_of_ble_eq_true rfl) (dX3_init 24 rfl) [.ref x1, .ref x2, .ref x3, .ref x4, .ref x5, .int 0] rfl ?_
  exact zi_vret K E (dX3_init 25 rfl) (Nat.le_of_ble_eq_true rfl) (Nat.le_of_ble_eq_true rfl) rfl (fun H h => ⟨x1, x2, x3, x4, x5, h⟩)
set_option maxRecDepth 100000 in
set_option maxHeartbeats 4000000 in
theorem n_flow {G : zG} {B : zBs} {ws : List (Nat × va_E)} (hB : zBo B) (a : Nat)   : zC G yX2_init cX2_init 1 none 4 73 10 170 [.ref a] (zPx G B ((a, .inr (2, [.null, .null, .null, .null, .null, .int 0])) :: ws)) none ((fun H => ∃ x1, ∃ x2, ∃ x3, ∃ x4, ∃ x5, ∃ x6, ∃ x7, ∃ x8, ∃ x9, ∃ x10, zPx G B ((a, .inr (2, [.ref x1, .ref x2, .ref x3, .ref x4, .ref x5, .int 1])) :: (x5, .inr (3, [.ref x6, .ref x7, .ref x8, .ref x9, .ref x10, .int 0])) :: (x10, .inl (G.2.2.2.1 0, 31, .inl (fun _ => 0))) :: (x9, .inl (G.2.2.2.1 1, 31, .inr (.inl (fun _ => 0)))) :: (x8, .inl (G.2.2.2.1 0, 30, .inl (fun _ => 0))) :: (x7, .inl (G.2.2.2.1 1, 30, .inr (.inl (fun _ => 0)))) :: (x6, .inl (G.2.2.2.1 0, 30, .inl (fun _ => 0))) :: (x4, .inr (9, [.int 0, .ref (G.2.2.2.2 0), .int 0])) :: (x3, .inr (9, [.int 0, .ref (G.2.2.2.2 0), .int 0])) :: (x2, .inr (9, [.int 0, .ref (G.2.2.2.2 0), .int 0])) :: (x1, .inr (9, [.int 0, .ref (G.2.2.2.2 0), .int 0])) :: ws) H)) := by
  refine zC_of (by decide) (Nat.le_of_ble_eq_true rfl) (fun X K E hnm => ?_)
  show zV G X 1 (zPx G B ((a, .inr (2, [.null, .null, .null, .null, .null, .int 0])) :: ws)) 0 0 0 [(0, .ref a)] []
  refine zi_aload_n K (dX2_init 0 rfl) 0 rfl ?_
  refine zi_objInit K w_99 (dX2_init 1 rfl) (Nat.le_of_ble_eq_true rfl) (Nat.le_of_ble_eq_true rfl) ?_
  refine zi_aload_n K (dX2_init 2 rfl) 0 rfl ?_
  refine zx_new (C := RJx4a65c) (T := TJx4a65c) (N := 3) (ci := 9) hB K rfl inJx4a65c tyJx4a65c tyJx4a65c_ok w_100 w_69 w_28 [.int 0, .null, .int 0] (fun j hj => by rcases (show j = 0 ∨ j = 1 ∨ j = 2 by omega) with rfl | rfl | rfl <;> rfl) ⟨Nat.le_of_ble_eq_true rfl, Nat.le_of_ble_eq_true rfl⟩ (dX2_init 3 rfl) (fun x1 => ?_)
  refine zi_dup K (dX2_init 4 rfl) rfl ?_
  refine zi_callI K (na := 0) (As := []) [.ref x1, .ref a] [.ref x1, .ref a] (n_list (ws := (a, .inr (2, [.null, .null, .null, .null, .null, .int 0])) :: ws) hB x1) (dX2_init 5 rfl) w_101 w_71 w_28 w_72 (by decide +kernel) rfl rfl (fun H h => h) ⟨Nat.le_of_ble_eq_true rfl, Nat.le_of_ble_eq_true rfl⟩ ⟨Nat.le_of_ble_eq_true rfl, Nat.le_of_ble_eq_true rfl⟩ (Nat.le_of_ble_eq_true rfl) rfl rfl ?_
  refine zV.imp (P' := zPx G B ((a, .inr (2, [.null, .null, .null, .null, .null, .int 0])) :: (x1, .inr (9, [.int 0, .ref (G.2.2.2.2 0), .int 0])) :: ws)) (fun H h => zPx.front [(x1, .inr (9, [.int 0, .ref (G.2.2.2.2 0), .int 0]))] h) ?_
  refine zx_putF (ci := 2) (C := RX2) (T := TX2) (N := 6) (f := 0) (ty := (.object "java/util/ArrayList")) hB K hnm rfl inX2 tyX2 tyX2_ok nmX2 (Nat.le_of_ble_eq_true rfl) w_132 rfl rfl (by decide +kernel) rfl rfl (Nat.le_of_ble_eq_true rfl) (dX2_init 6 rfl) [.ref x1, .null, .null, .null, .null, .int 0] rfl ?_
  refine zi_aload_n K (dX2_init 7 rfl) 0 rfl ?_
  refine zx_new (C := RJx4a65c) (T := TJx4a65c) (N := 3) (ci := 9) hB K rfl inJx4a65c tyJx4a65c tyJx4a65c_ok w_100 w_69 w_28 [.int 0, .null, .int 0] (fun j hj => by rcases (show j = 0 ∨ j = 1 ∨ j = 2 by omega) with rfl | rfl | rfl <;> rfl) ⟨Nat.le_of_ble_eq_true rfl, Nat.le_of_ble_eq_true rfl⟩ (dX2_init 8 rfl) (fun x2 => ?_)
  refine zi_dup K (dX2_init 9 rfl) rfl ?_
  refine zi_callI K (na := 0) (As := []) [.ref x2, .ref a] [.ref x2, .ref a] (n_list (ws := (a, .inr (2, [.ref x1, .null, .null, .null, .null, .int 0])) :: (x1, .inr (9, [.int 0, .ref (G.2.2.2.2 0), .int 0])) :: ws) hB x2) (dX2_init 10 rfl) w_101 w_71 w_28 w_72 (by decide +kernel) rfl rfl (fun H h => h) ⟨Nat.le_of_ble_eq_true rfl, Nat.le_of_ble_eq_true rfl⟩ ⟨Nat.le_of_ble_eq_true rfl, Nat.le_of_ble_eq_true rfl⟩ (Nat.le_of_ble_eq_true rfl) rfl rfl ?_
  refine zV.imp (P' := zPx G B ((a, .inr (2, [.ref x1, .null, .null, .null, .null, .int 0])) :: (x2, .inr (9, [.int 0, .ref (G.2.2.2.2 0), .int 0])) :: (x1, .inr (9, [.int 0, .ref (G.2.2.2.2 0), .int 0])) :: ws)) (fun H h => zPx.front [(x2, .inr (9, [.int 0, .ref (G.2.2.2.2 0), .int 0]))] h) ?_
  refine zx_putF (ci := 2) (C := RX2) (T := TX2) (N := 6) (f := 1) (ty := (.object "java/util/ArrayList")) hB K hnm rfl inX2 tyX2 tyX2_ok nmX2 (Nat.le_of_ble_eq_true rfl) w_134 rfl rfl (by decide +kernel) rfl rfl (Nat.le_of_ble_eq_true rfl) (dX2_init 11 rfl) [.ref x1, .ref x2, .null, .null, .null, .int 0] rfl ?_
  refine zi_aload_n K (dX2_init 12 rfl) 0 rfl ?_
  refine zx_new (C := RJx4a65c) (T := TJx4a65c) (N := 3) (ci := 9) hB K rfl inJx4a65c tyJx4a65c tyJx4a65c_ok w_100 w_69 w_28 [.int 0, .null, .int 0] (fun j hj => by rcases (show j = 0 ∨ j = 1 ∨ j = 2 by omega) with rfl | rfl | rfl <;> rfl) ⟨Nat.le_of_ble_eq_true rfl, Nat.le_of_ble_eq_true rfl⟩ (dX2_init 13 rfl) (fun x3 => ?_)
  refine zi_dup K (dX2_init 14 rfl) rfl ?_
  refine zi_callI K (na := 0) (As := []) [.ref x3, .ref a] [.ref x3, .ref a] (n_list (ws := (a, .inr (2, [.ref x1, .ref x2, .null, .null, .null, .int 0])) :: (x2, .inr (9, [.int 0, .ref (G.2.2.2.2 0), .int 0])) :: (x1, .inr (9, [.int 0, .ref (G.2.2.2.2 0), .int 0])) :: ws) hB x3) (dX2_init 15 rfl) w_101 w_71 w_28 w_72 (by decide +kernel) rfl rfl (fun H h => h) ⟨Nat.le_of_ble_eq_true rfl, Nat.le_of_ble_eq_true rfl⟩ ⟨Nat.le_of_ble_eq_true rfl, Nat.le_of_ble_eq_true rfl⟩ (Nat.le_of_ble_eq_true rfl) rfl rfl ?_
  refine zV.imp (P' := zPx G B ((a, .inr (2, [.ref x1, .ref x2, .null, .null, .null, .int 0])) :: (x3, .inr (9, [.int 0, .ref (G.2.2.2.2 0), .int 0])) :: (x2, .inr (9, [.int 0, .ref (G.2.2.2.2 0), .int 0])) :: (x1, .inr (9, [.int 0, .ref (G.2.2.2.2 0), .int 0])) :: ws)) (fun H h => zPx.front [(x3, .inr (9, [.int 0, .ref (G.2.2.2.2 0), .int 0]))] h) ?_
  refine zx_putF (ci := 2) (C := RX2) (T := TX2) (N := 6) (f := 2) (ty := (.object "java/util/ArrayList")) hB K hnm rfl inX2 tyX2 tyX2_ok nmX2 (Nat.le_of_ble_eq_true rfl) w_136 rfl rfl (by decide +kernel) rfl rfl (Nat.le_of_ble_eq_true rfl) (dX2_init 16 rfl) [.ref x1, .ref x2, .ref x3, .null, .null, .int 0] rfl ?_
  refine zi_aload_n K (dX2_init 17 rfl) 0 rfl ?_
  refine zx_new (C := RJx4a65c) (T := TJx4a65c) (N := 3) (ci := 9) hB K rfl inJx4a65c tyJx4a65c tyJx4a65c_ok w_100 w_69 w_28 [.int 0, .null, .int 0] (fun j hj => by rcases (show j = 0 ∨ j = 1 ∨ j = 2 by omega) with rfl | rfl | rfl <;> rfl) ⟨Nat.le_of_ble_eq_true rfl, Nat.le_of_ble_eq_true rfl⟩ (dX2_init 18 rfl) (fun x4 => ?_)
  refine zi_dup K (dX2_init 19 rfl) rfl ?_
  refine zi_callI K (na := 0) (As := []) [.ref x4, .ref a] [.ref x4, .ref a] (n_list (ws := (a, .inr (2, [.ref x1, .ref x2, .ref x3, .null, .null, .int 0])) :: (x3, .inr (9, [.int 0, .ref (G.2.2.2.2 0), .int 0])) :: (x2, .inr (9, [.int 0, .ref (G.2.2.2.2 0), .int 0])) :: (x1, .inr (9, [.int 0, .ref (G.2.2.2.2 0), .int 0])) :: ws) hB x4) (dX2_init 20 rfl) w_101 w_71 w_28 w_72 (by decide +kernel) rfl rfl (fun H h => h) ⟨Nat.le_of_ble_eq_true rfl, Nat.le_of_ble_eq_true rfl⟩ ⟨Nat.le_of_ble_eq_true rfl, Nat.le_of_ble_eq_true rfl⟩ (Nat.le_of_ble_eq_true rfl) rfl rfl ?_
  refine zV.imp (P' := zPx G B ((a, .inr (2, [.ref x1, .ref x2, .ref x3, .null, .null, .int 0])) :: (x4, .inr (9, [.int 0, .ref (G.2.2.2.2 0), .int 0])) :: (x3, .inr (9, [.int 0, .ref (G.2.2.2.2 0), .int 0])) :: (x2, .inr (9, [.int 0, .ref (G.2.2.2.2 0), .int 0])) :: (x1, .inr (9, [.int 0, .ref (G.2.2.2.2 0), .int 0])) :: ws)) (fun H h => zPx.front [(x4, .inr (9, [.int 0, .ref (G.2.2.2.2 0), .int 0]))] h) ?_
  refine zx_putF (ci := 2) (C := RX2) (T := TX2) (N := 6) (f := 3) (ty := (.object "java/util/ArrayList")) hB K hnm rfl inX2 tyX2 tyX2_ok nmX2 (Nat.le_of_ble_eq_true rfl) w_137 rfl rfl (by decide +kernel) rfl rfl (Nat.le_of_ble_eq_true rfl) (dX2_init 21 rfl) [.ref x1, .ref x2, .ref x3, .ref x4, .null, .int 0] rfl ?_
  refine zi_aload_n K (dX2_init 22 rfl) 0 rfl ?_
  refine zx_new (C := RX3) (T := TX3) (N := 6) (ci := 3) hB K rfl inX3 tyX3 tyX3_ok w_102 w_103 w_30 [.null, .null, .null, .null, .null, .int 0] (fun j hj => by rcases (show j = 0 ∨ j = 1 ∨ j = 2 ∨ j = 3 ∨ j = 4 ∨ j = 5 by omega) with rfl | rfl | rfl | rfl | rfl | rfl <;> rfl) ⟨Nat.le_of_ble_eq_true rfl, Nat.le_of_ble_eq_true rfl⟩ (dX2_init 23 rfl) (fun x5 => ?_)
  refine zi_dup K (dX2_init 24 rfl) rfl ?_
  refine zi_callIN K (na := 0) (As := []) [.ref x5, .ref a] [.ref x5, .ref a] (n_laying (ws := (a, .inr (2, [.ref x1, .ref x2, .ref x3, .ref x4, .null, .int 0])) :: (x4, .inr (9, [.int 0, .ref (G.2.2.2.2 0), .int 0])) :: (x3, .inr (9, [.int 0, .ref (G.2.2.2.2 0), .int 0])) :: (x2, .inr (9, [.int 0, .ref (G.2.2.2.2 0), .int 0])) :: (x1, .inr (9, [.int 0, .ref (G.2.2.2.2 0), .int 0])) :: ws) hB x5) (dX2_init 25 rfl) (by decide +kernel) w_105 w_30 w_106 (by decide +kernel) rfl rfl (fun H h => h) ⟨Nat.le_of_ble_eq_true rfl, Nat.le_of_ble_eq_true rfl⟩ ⟨Nat.le_of_ble_eq_true rfl, Nat.le_of_ble_eq_true rfl⟩ (Nat.le_of_ble_eq_true rfl) rfl rfl ?_
  refine zV.ex (fun x6 => ?_)
  refine zV.ex (fun x7 => ?_)
  refine zV.ex (fun x8 => ?_)
  refine zV.ex (fun x9 => ?_)
  refine zV.ex (fun x10 => ?_)
  refine zV.imp (P' := zPx G B ((a, .inr (2, [.ref x1, .ref x2, .ref x3, .ref x4, .null, .int 0])) :: (x5, .inr (3, [.ref x6, .ref x7, .ref x8, .ref x9, .ref x10, .int 0])) :: (x10, .inl (G.2.2.2.1 0, 31, .inl (fun _ => 0))) :: (x9, .inl (G.2.2.2.1 1, 31, .inr (.inl (fun _ => 0)))) :: (x8, .inl (G.2.2.2.1 0, 30, .inl (fun _ => 0))) :: (x7, .inl (G.2.2.2.1 1, 30, .inr (.inl (fun _ => 0)))) :: (x6, .inl (G.2.2.2.1 0, 30, .inl (fun _ => 0))) :: (x4, .inr (9, [.int 0, .ref (G.2.2.2.2 0), .int 0])) :: (x3, .inr (9, [.int 0, .ref (G.2.2.2.2 0), .int 0])) :: (x2, .inr (9, [.int 0, .ref (G.2.2.2.2 0), .int 0])) :: (x1, .inr (9, [.int 0, .ref (G.2.2.2.2 0), .int 0])) :: ws)) (fun H h => zPx.front [(x5, .inr (3, [.ref x6, .ref x7, .ref x8, .ref x9, .ref x10, .int 0])), (x10, .inl (G.2.2.2.1 0, 31, .inl (fun _ => 0))), (x9, .inl (G.2.2.2.1 1, 31, .inr (.inl (fun _ => 0)))), (x8, .inl (G.2.2.2.1 0, 30, .inl (fun _ => 0))), (x7, .inl (G.2.2.2.1 1, 30, .inr (.inl (fun _ => 0)))), (x6, .inl (G.2.2.2.1 0, 30, .inl (fun _ => 0)))] h) ?_
  refine zx_putF (ci := 2) (C := RX2) (T := TX2) (N := 6) (f := 4) (ty := (.object "Layertreaty$Laying")) hB K hnm rfl inX2 tyX2 tyX2_ok nmX2 (Nat.le_of_ble_eq_true rfl) w_138 rfl rfl (by decide +kernel) rfl rfl (Nat.le_of_ble_eq_true rfl) (dX2_init 26 rfl) [.ref x1, .ref x2, .ref x3, .ref x4, .ref x5, .int 0] rfl ?_
  refine zi_aload_n K (dX2_init 27 rfl) 0 rfl ?_
  refine zi_iconst K (dX2_init 28 rfl) zk_i1 ?_
  refine zx_put (ci := 2) (C := RX2) (T := TX2) (N := 6) (f := 5) (ty := .boolean) hB K rfl inX2 tyX2 tyX2_ok nmX2 (Nat.le_of_ble_eq_true rfl) w_139 (fun _ h => h) rfl (by decide +kernel) rfl rfl (Nat.le_of_ble_eq_true rfl) (dX2_init 29 rfl) [.ref x1, .ref x2, .ref x3, .ref x4, .ref x5, .int 1] rfl ?_
  exact zi_vret K E (dX2_init 30 rfl) (Nat.le_of_ble_eq_true rfl) (Nat.le_of_ble_eq_true rfl) rfl (fun H h => ⟨x1, x2, x3, x4, x5, x6, x7, x8, x9, x10, h⟩)
set_option maxRecDepth 100000 in
set_option maxHeartbeats 4000000 in
theorem n_pool {G : zG} {B : zBs} {ws : List (Nat × va_E)} (hB : zBo B) (a : Nat)   : zC G yX5_init cX5_init 1 none 1 13 9 45 [.ref a] (zPx G B ((a, .inr (5, [.null, .null, .null, .null, .null, .null, .null, .null, .null])) :: ws)) none ((fun H => ∃ x1, ∃ x2, ∃ x3, ∃ x4, ∃ x5, ∃ x6, ∃ x7, ∃ x8, ∃ x9, zPx G B ((a, .inr (5, [.ref x1, .ref x2, .ref x3, .ref x4, .ref x5, .ref x6, .ref x7, .ref x8, .ref x9])) :: (x9, .inl (G.2.2.2.1 1, 5, .inr (.inl (fun _ => 0)))) :: (x8, .inl (G.2.2.2.1 1, 5, .inr (.inl (fun _ => 0)))) :: (x7, .inl (G.2.2.2.1 1, 5, .inr (.inl (fun _ => 0)))) :: (x6, .inl (G.2.2.2.1 1, 5, .inr (.inl (fun _ => 0)))) :: (x5, .inl (G.2.2.2.1 1, 5, .inr (.inl (fun _ => 0)))) :: (x4, .inl (G.2.2.2.1 0, 5, .inl (fun _ => 0))) :: (x3, .inl (G.2.2.2.1 0, 5, .inl (fun _ => 0))) :: (x2, .inl (G.2.2.2.1 0, 5, .inl (fun _ => 0))) :: (x1, .inl (G.2.2.2.1 2, 5, .inl (fun _ => 0))) :: ws) H)) := by
  refine zC_of (by decide) (Nat.le_of_ble_eq_true rfl) (fun X K E hnm => ?_)
  show zV G X 1 (zPx G B ((a, .inr (5, [.null, .null, .null, .null, .null, .null, .null, .null, .null])) :: ws)) 0 0 0 [(0, .ref a)] []
  refine zi_aload_n K (dX5_init 0 rfl) 0 rfl ?_
  refine zi_objInit K w_158 (dX5_init 1 rfl) (Nat.le_of_ble_eq_true rfl) (Nat.le_of_ble_eq_true rfl) ?_
  refine zi_aload_n K (dX5_init 2 rfl) 0 rfl ?_
  refine zi_iconst K (dX5_init 3 rfl) zk_i5 ?_
  refine zx_newaz hB K (N := 5) (by decide) (by decide) ⟨Nat.le_of_ble_eq_true rfl, Nat.le_of_ble_eq_true rfl⟩ (dX5_init 4 rfl) (fun x1 => ?_)
  refine zx_putF (ci := 5) (C := RX5) (T := TX5) (N := 9) (f := 0) (ty := (.array .boolean)) hB K hnm rfl inX5 tyX5 tyX5_ok nmX5 (Nat.le_of_ble_eq_true rfl) w_159 rfl rfl (by decide +kernel) rfl rfl (Nat.le_of_ble_eq_true rfl) (dX5_init 5 rfl) [.ref x1, .null, .null, .null, .null, .null, .null, .null, .null] rfl ?_
  refine zi_aload_n K (dX5_init 6 rfl) 0 rfl ?_
  refine zi_iconst K (dX5_init 7 rfl) zk_i5 ?_
  refine zx_newai hB K (N := 5) (by decide) (by decide) ⟨Nat.le_of_ble_eq_true rfl, Nat.le_of_ble_eq_true rfl⟩ (dX5_init 8 rfl) (fun x2 => ?_)
  refine zx_putF (ci := 5) (C := RX5) (T := TX5) (N := 9) (f := 1) (ty := (.array .int)) hB K hnm rfl inX5 tyX5 tyX5_ok nmX5 (Nat.le_of_ble_eq_true rfl) w_161 rfl rfl (by decide +kernel) rfl rfl (Nat.le_of_ble_eq_true rfl) (dX5_init 9 rfl) [.ref x1, .ref x2, .null, .null, .null, .null, .null, .null, .null] rfl ?_
  refine zi_aload_n K (dX5_init 10 rfl) 0 rfl ?_
  refine zi_iconst K (dX5_init 11 rfl) zk_i5 ?_
  refine zx_newai hB K (N := 5) (by decide) (by decide) ⟨Nat.le_of_ble_eq_true rfl, Nat.le_of_ble_eq_true rfl⟩ (dX5_init 12 rfl) (fun x3 => ?_)
  refine zx_putF (ci := 5) (C := RX5) (T := TX5) (N := 9) (f := 2) (ty := (.array .int)) hB K hnm rfl inX5 tyX5 tyX5_ok nmX5 (Nat.le_of_ble_eq_true rfl) w_163 rfl rfl (by decide +kernel) rfl rfl (Nat.le_of_ble_eq_true rfl) (dX5_init 13 rfl) [.ref x1, .ref x2, .ref x3, .null, .null, .null, .null, .null, .null] rfl ?_
  refine zi_aload_n K (dX5_init 14 rfl) 0 rfl ?_
  refine zi_iconst K (dX5_init 15 rfl) zk_i5 ?_
  refine zx_newai hB K (N := 5) (by decide) (by decide) ⟨Nat.le_of_ble_eq_true rfl, Nat.le_of_ble_eq_true rfl⟩ (dX5_init 16 rfl) (fun x4 => ?_)
  refine zx_putF (ci := 5) (C := RX5) (T := TX5) (N := 9) (f := 3) (ty := (.array .int)) hB K hnm rfl inX5 tyX5 tyX5_ok nmX5 (Nat.le_of_ble_eq_true rfl) w_165 rfl rfl (by decide +kernel) rfl rfl (Nat.le_of_ble_eq_true rfl) (dX5_init 17 rfl) [.ref x1, .ref x2, .ref x3, .ref x4, .null, .null, .null, .null, .null] rfl ?_
  refine zi_aload_n K (dX5_init 18 rfl) 0 rfl ?_
  refine zi_iconst K (dX5_init 19 rfl) zk_i5 ?_
  refine zx_newal hB K (N := 5) (by decide) (by decide) ⟨Nat.le_of_ble_eq_true rfl, Nat.le_of_ble_eq_true rfl⟩ (dX5_init 20 rfl) (fun x5 => ?_)
  refine zx_putF (ci := 5) (C := RX5) (T := TX5) (N := 9) (f := 4) (ty := (.array .long)) hB K hnm rfl inX5 tyX5 tyX5_ok nmX5 (Nat.le_of_ble_eq_true rfl) w_167 rfl rfl (by decide +kernel) rfl rfl (Nat.le_of_ble_eq_true rfl) (dX5_init 21 rfl) [.ref x1, .ref x2, .ref x3, .ref x4, .ref x5, .null, .null, .null, .null] rfl ?_
  refine zi_aload_n K (dX5_init 22 rfl) 0 rfl ?_
  refine zi_iconst K (dX5_init 23 rfl) zk_i5 ?_
  refine zx_newal hB K (N := 5) (by decide) (by decide) ⟨Nat.le_of_ble_eq_true rfl, Nat.le_of_ble_eq_true rfl⟩ (dX5_init 24 rfl) (fun x6 => ?_)
  refine zx_putF (ci := 5) (C := RX5) (T := TX5) (N := 9) (f := 5) (ty := (.array .long)) hB K hnm rfl inX5 tyX5 tyX5_ok nmX5 (Nat.le_of_ble_eq_true rfl) w_169 rfl rfl (by decide +kernel) rfl rfl (Nat.le_of_ble_eq_true rfl) (dX5_init 25 rfl) [.ref x1, .ref x2, .ref x3, .ref x4, .ref x5, .ref x6, .null, .null, .null] rfl ?_
  refine zi_aload_n K (dX5_init 26 rfl) 0 rfl ?_
  refine zi_iconst K (dX5_init 27 rfl) zk_i5 ?_
  refine zx_newal hB K (N := 5) (by decide) (by decide) ⟨Nat.le_of_ble_eq_true rfl, Nat.le_of_ble_eq_true rfl⟩ (dX5_init 28 rfl) (fun x7 => ?_)
  refine zx_putF (ci := 5) (C := RX5) (T := TX5) (N := 9) (f := 6) (ty := (.array .long)) hB K hnm rfl inX5 tyX5 tyX5_ok nmX5 (Nat.le_of_ble_eq_true rfl) w_171 rfl rfl (by decide +kernel) rfl rfl (Nat.le_of_ble_eq_true rfl) (dX5_init 29 rfl) [.ref x1, .ref x2, .ref x3, .ref x4, .ref x5, .ref x6, .ref x7, .null, .null] rfl ?_
  refine zi_aload_n K (dX5_init 30 rfl) 0 rfl ?_
  refine zi_iconst K (dX5_init 31 rfl) zk_i5 ?_
  refine zx_newal hB K (N := 5) (by decide) (by decide) ⟨Nat.le_of_ble_eq_true rfl, Nat.le_of_ble_eq_true rfl⟩ (dX5_init 32 rfl) (fun x8 => ?_)
  refine zx_putF (ci := 5) (C := RX5) (T := TX5) (N := 9) (f := 7) (ty := (.array .long)) hB K hnm rfl inX5 tyX5 tyX5_ok nmX5 (Nat.le_of_ble_eq_true rfl) w_172 rfl rfl (by decide +kernel) rfl rfl (Nat.le_of_ble_eq_true rfl) (dX5_init 33 rfl) [.ref x1, .ref x2, .ref x3, .ref x4, .ref x5, .ref x6, .ref x7, .ref x8, .null] rfl ?_
  refine zi_aload_n K (dX5_init 34 rfl) 0 rfl ?_
  refine zi_iconst K (dX5_init 35 rfl) zk_i5 ?_
  refine zx_newal hB K (N := 5) (by decide) (by decide) ⟨Nat.le_of_ble_eq_true rfl, Nat.le_of_ble_eq_true rfl⟩ (dX5_init 36 rfl) (fun x9 => ?_)
  refine zx_putF (ci := 5) (C := RX5) (T := TX5) (N := 9) (f := 8) (ty := (.array .long)) hB K hnm rfl inX5 tyX5 tyX5_ok nmX5 (Nat.le_of_ble_eq_true rfl) w_173 rfl rfl (by decide +kernel) rfl rfl (Nat.le_of_ble_eq_true rfl) (dX5_init 37 rfl) [.ref x1, .ref x2, .ref x3, .ref x4, .ref x5, .ref x6, .ref x7, .ref x8, .ref x9] rfl ?_
  exact zi_vret K E (dX5_init 38 rfl) (Nat.le_of_ble_eq_true rfl) (Nat.le_of_ble_eq_true rfl) rfl (fun H h => ⟨x1, x2, x3, x4, x5, x6, x7, x8, x9, h⟩)
set_option maxRecDepth 100000 in
set_option maxHeartbeats 4000000 in
theorem n_all {G : zG} {B : zBs} {ws : List (Nat × va_E)} (hB : zBo B) (a : Nat)   : zC G yX8_init cX8_init 1 none 5 93 37 421 [.ref a] (zPx G B ((a, .inr (8, [.null, .null, .null, .null, .null, .null, .null, .null, .int 0])) :: ws)) none ((fun H => ∃ x1, ∃ x2, ∃ x3, ∃ x4, ∃ x5, ∃ x6, ∃ x7, ∃ x8, ∃ x9, ∃ x10, ∃ x11, ∃ x12, ∃ x13, ∃ x14, ∃ x15, ∃ x16, ∃ x17, ∃ x18, ∃ x19, ∃ x20, ∃ x21, ∃ x22, ∃ x23, ∃ x24, ∃ x25, ∃ x26, ∃ x27, ∃ x28, ∃ x29, ∃ x30, ∃ x31, ∃ x32, ∃ x33, ∃ x34, ∃ x35, ∃ x36, ∃ x37, zPx G B ((a, .inr (8, [.ref x1, .ref x2, .ref x3, .ref x4, .ref x5, .ref x6, .ref x17, .ref x28, .int 0])) :: (x28, .inr (5, [.ref x29, .ref x30, .ref x31, .ref x32, .ref x33, .ref x34, .ref x35, .ref x36, .ref x37])) :: (x37, .inl (G.2.2.2.1 1, 5, .inr (.inl (fun _ => 0)))) :: (x36, .inl (G.2.2.2.1 1, 5, .inr (.inl (fun _ => 0)))) :: (x35, .inl (G.2.2.2.1 1, 5, .inr (.inl (fun _ => 0)))) :: (x34, .inl (G.2.2.2.1 1, 5, .inr (.inl (fun _ => 0)))) :: (x33, .inl (G.2.2.2.1 1, 5, .inr (.inl (fun _ => 0)))) :: (x32, .inl (G.2.2.2.1 0, 5, .inl (fun _ => 0))) :: (x31, .inl (G.2.2.2.1 0, 5, .inl (fun _ => 0))) :: (x30, .inl (G.2.2.2.1 0, 5, .inl (fun _ => 0))) :: (x29, .inl (G.2.2.2.1 2, 5, .inl (fun _ => 0))) :: (x17, .inr (2, [.ref x18, .ref x19, .ref x20, .ref x21, .ref x22, .int 1])) :: (x22, .inr (3, [.ref x23, .ref x24, .ref x25, .ref x26, .ref x27, .int 0])) :: (x27, .inl (G.2.2.2.1 0, 31, .inl (fun _ => 0))) :: (x26, .inl (G.2.2.2.1 1, 31, .inr (.inl (fun _ => 0)))) :: (x25, .inl (G.2.2.2.1 0, 30, .inl (fun _ => 0))) :: (x24, .inl (G.2.2.2.1 1, 30, .inr (.inl (fun _ => 0)))) :: (x23, .inl (G.2.2.2.1 0, 30, .inl (fun _ => 0))) :: (x21, .inr (9, [.int 0, .ref (G.2.2.2.2 0), .int 0])) :: (x20, .inr (9, [.int 0, .ref (G.2.2.2.2 0), .int 0])) :: (x19, .inr (9, [.int 0, .ref (G.2.2.2.2 0), .int 0])) :: (x18, .inr (9, [.int 0, .ref (G.2.2.2.2 0), .int 0])) :: (x6, .inr (2, [.ref x7, .ref x8, .ref x9, .ref x10, .ref x11, .int 1])) :: (x11, .inr (3, [.ref x12, .ref x13, .ref x14, .ref x15, .ref x16, .int 0])) :: (x16, .inl (G.2.2.2.1 0, 31, .inl (fun _ => 0))) :: (x15, .inl (G.2.2.2.1 1, 31, .inr (.inl (fun _ => 0)))) :: (x14, .inl (G.2.2.2.1 0, 30, .inl (fun _ => 0))) :: (x13, .inl (G.2.2.2.1 1, 30, .inr (.inl (fun _ => 0)))) :: (x12, .inl (G.2.2.2.1 0, 30, .inl (fun _ => 0))) :: (x10, .inr (9, [.int 0, .ref (G.2.2.2.2 0), .int 0])) :: (x9, .inr (9, [.int 0, .ref (G.2.2.2.2 0), .int 0])) :: (x8, .inr (9, [.int 0, .ref (G.2.2.2.2 0), .int 0])) :: (x7, .inr (9, [.int 0, .ref (G.2.2.2.2 0), .int 0])) :: (x5, .inr (9, [.int 0, .ref (G.2.2.2.2 0), .int 0])) :: (x4, .inr (9, [.int 0, .ref (G.2.2.2.2 0), .int 0])) :: (x3, .inr (9, [.int 0, .ref (G.2.2.2.2 0), .int 0])) :: (x2, .inr (9, [.int 0, .ref (G.2.2.2.2 0), .int 0])) :: (x1, .inr (9, [.int 0, .ref (G.2.2.2.2 0), .int 0])) :: ws) H)) := by
  refine zC_of (by decide) (Nat.le_of_ble_eq_true rfl) (fun X K E hnm => ?_)
  show zV G X 1 (zPx G B ((a, .inr (8, [.null, .null, .null, .null, .null, .null, .null, .null, .int 0])) :: ws)) 0 0 0 [(0, .ref a)] []
  refine zi_aload_n K (dX8_init 0 rfl) 0 rfl ?_
  refine zi_objInit K w_65 (dX8_init 1 rfl) (Nat.le_of_ble_eq_true rfl) (Nat.le_of_ble_eq_true rfl) ?_
  refine zi_aload_n K (dX8_init 2 rfl) 0 rfl ?_
  refine zx_new (C := RJx4a65c) (T := TJx4a65c) (N := 3) (ci := 9) hB K rfl inJx4a65c tyJx4a65c tyJx4a65c_ok w_68 w_69 w_28 [.int 0, .null, .int 0] (fun j hj => by rcases (show j = 0 ∨ j = 1 ∨ j = 2 by omega) with rfl | rfl | rfl <;> rfl) ⟨Nat.le_of_ble_eq_true rfl, Nat.le_of_ble_eq_true rfl⟩ (dX8_init 3 rfl) (fun x1 => ?_)
  refine zi_dup K (dX8_init 4 rfl) rfl ?_
  refine zi_callI K (na := 0) (As := []) [.ref x1, .ref a] [.ref x1, .ref a] (n_list (ws := (a, .inr (8, [.null, .null, .null, .null, .null, .null, .null, .null, .int 0])) :: ws) hB x1) (dX8_init 5 rfl) w_70 w_71 w_28 w_72 (by decide +kernel) rfl rfl (fun H h => h) ⟨Nat.le_of_ble_eq_true rfl, Nat.le_of_ble_eq_true rfl⟩ ⟨Nat.le_of_ble_eq_true rfl, Nat.le_of_ble_eq_true rfl⟩ (Nat.le_of_ble_eq_true rfl) rfl rfl ?_
  refine zV.imp (P' := zPx G B ((a, .inr (8, [.null, .null, .null, .null, .null, .null, .null, .null, .int 0])) :: (x1, .inr (9, [.int 0, .ref (G.2.2.2.2 0), .int 0])) :: ws)) (fun H h => zPx.front [(x1, .inr (9, [.int 0, .ref (G.2.2.2.2 0), .int 0]))] h) ?_
  refine zx_putF (ci := 8) (C := RX8) (T := TX8) (N := 9) (f := 0) (ty := (.object "java/util/ArrayList")) hB K hnm rfl inX8 tyX8 tyX8_ok nmX8 (Nat.le_of_ble_eq_true rfl) w_194 rfl rfl (by decide +kernel) rfl rfl (Nat.le_of_ble_eq_true rfl) (dX8_init 6 rfl) [.ref x1, .null, .null, .null, .null, .null, .null, .null, .int 0] rfl ?_
  refine zi_aload_n K (dX8_init 7 rfl) 0 rfl ?_
  refine zx_new (C := RJx4a65c) (T := TJx4a65c) (N := 3) (ci := 9) hB K rfl inJx4a65c tyJx4a65c tyJx4a65c_ok w_68 w_69 w_28 [.int 0, .null, .int 0] (fun j hj => by rcases (show j = 0 ∨ j = 1 ∨ j = 2 by omega) with rfl | rfl | rfl <;> rfl) ⟨Nat.le_of_ble_eq_true rfl, Nat.le_of_ble_eq_true rfl⟩ (dX8_init 8 rfl) (fun x2 => ?_)
  refine zi_dup K (dX8_init 9 rfl) rfl ?_
  refine zi_callI K (na := 0) (As := []) [.ref x2, .ref a] [.ref x2, .ref a] (n_list (ws := (a, .inr (8, [.ref x1, .null, .null, .null, .null, .null, .null, .null, .int 0])) :: (x1, .inr (9, [.int 0, .ref (G.2.2.2.2 0), .int 0])) :: ws) hB x2) (dX8_init 10 rfl) w_70 w_71 w_28 w_72 (by decide +kernel) rfl rfl (fun H h => h) ⟨Nat.le_of_ble_eq_true rfl, Nat.le_of_ble_eq_true rfl⟩ ⟨Nat.le_of_ble_eq_true rfl, Nat.le_of_ble_eq_true rfl⟩ (Nat.le_of_ble_eq_true rfl) rfl rfl ?_
  refine zV.imp (P' := zPx G B ((a, .inr (8, [.ref x1, .null, .null, .null, .null, .null, .null, .null, .int 0])) :: (x2, .inr (9, [.int 0, .ref (G.2.2.2.2 0), .int 0])) :: (x1, .inr (9, [.int 0, .ref (G.2.2.2.2 0), .int 0])) :: ws)) (fun H h => zPx.front [(x2, .inr (9, [.int 0, .ref (G.2.2.2.2 0), .int 0]))] h) ?_
  refine zx_putF (ci := 8) (C := RX8) (T := TX8) (N := 9) (f := 1) (ty := (.object "java/util/ArrayList")) hB K hnm rfl inX8 tyX8 tyX8_ok nmX8 (Nat.le_of_ble_eq_true rfl) w_195 rfl rfl (by decide +kernel) rfl rfl (Nat.le_of_ble_eq_true rfl) (dX8_init 11 rfl) [.ref x1, .ref x2, .null, .null, .null, .null, .null, .null, .int 0] rfl ?_
  refine zi_aload_n K (dX8_init 12 rfl) 0 rfl ?_
  refine zx_new (C := RJx4a65c) (T := TJx4a65c) (N := 3) (ci := 9) hB K rfl inJx4a65c tyJx4a65c tyJx4a65c_ok w_68 w_69 w_28 [.int 0, .null, .int 0] (fun j hj => by rcases (show j = 0 ∨ j = 1 ∨ j = 2 by omega) with rfl | rfl | rfl <;> rfl) ⟨Nat.le_of_ble_eq_true rfl, Nat.le_of_ble_eq_true rfl⟩ (dX8_init 13 rfl) (fun x3 => ?_)
  refine zi_dup K (dX8_init 14 rfl) rfl ?_
  refine zi_callI K (na := 0) (As := []) [.ref x3, .ref a] [.ref x3, .ref a] (n_list (ws := (a, .inr (8, [.ref x1, .ref x2, .null, .null, .null, .null, .null, .null, .int 0])) :: (x2, .inr (9, [.int 0, .ref (G.2.2.2.2 0), .int 0])) :: (x1, .inr (9, [.int 0, .ref (G.2.2.2.2 0), .int 0])) :: ws) hB x3) (dX8_init 15 rfl) w_70 w_71 w_28 w_72 (by decide +kernel) rfl rfl (fun H h => h) ⟨Nat.le_of_ble_eq_true rfl, Nat.le_of_ble_eq_true rfl⟩ ⟨Nat.le_of_ble_eq_true rfl, Nat.le_of_ble_eq_true rfl⟩ (Nat.le_of_ble_eq_true rfl) rfl rfl ?_
  refine zV.imp (P' := zPx G B ((a, .inr (8, [.ref x1, .ref x2, .null, .null, .null, .null, .null, .null, .int 0])) :: (x3, .inr (9, [.int 0, .ref (G.2.2.2.2 0), .int 0])) :: (x2, .inr (9, [.int 0, .ref (G.2.2.2.2 0), .int 0])) :: (x1, .inr (9, [.int 0, .ref (G.2.2.2.2 0), .int 0])) :: ws)) (fun H h => zPx.front [(x3, .inr (9, [.int 0, .ref (G.2.2.2.2 0), .int 0]))] h) ?_
  refine zx_putF (ci := 8) (C := RX8) (T := TX8) (N := 9) (f := 2) (ty := (.object "java/util/ArrayList")) hB K hnm rfl inX8 tyX8 tyX8_ok nmX8 (Nat.le_of_ble_eq_true rfl) w_196 rfl rfl (by decide +kernel) rfl rfl (Nat.le_of_ble_eq_true rfl) (dX8_init 16 rfl) [.ref x1, .ref x2, .ref x3, .null, .null, .null, .null, .null, .int 0] rfl ?_
  refine zi_aload_n K (dX8_init 17 rfl) 0 rfl ?_
  refine zx_new (C := RJx4a65c) (T := TJx4a65c) (N := 3) (ci := 9) hB K rfl inJx4a65c tyJx4a65c tyJx4a65c_ok w_68 w_69 w_28 [.int 0, .null, .int 0] (fun j hj => by rcases (show j = 0 ∨ j = 1 ∨ j = 2 by omega) with rfl | rfl | rfl <;> rfl) ⟨Nat.le_of_ble_eq_true rfl, Nat.le_of_ble_eq_true rfl⟩ (dX8_init 18 rfl) (fun x4 => ?_)
  refine zi_dup K (dX8_init 19 rfl) rfl ?_
  refine zi_callI K (na := 0) (As := []) [.ref x4, .ref a] [.ref x4, .ref a] (n_list (ws := (a, .inr (8, [.ref x1, .ref x2, .ref x3, .null, .null, .null, .null, .null, .int 0])) :: (x3, .inr (9, [.int 0, .ref (G.2.2.2.2 0), .int 0])) :: (x2, .inr (9, [.int 0, .ref (G.2.2.2.2 0), .int 0])) :: (x1, .inr (9, [.int 0, .ref (G.2.2.2.2 0), .int 0])) :: ws) hB x4) (dX8_init 20 rfl) w_70 w_71 w_28 w_72 (by decide +kernel) rfl rfl (fun H h => h) ⟨Nat.le_of_ble_eq_true rfl, Nat.le_of_ble_eq_true rfl⟩ ⟨Nat.le_of_ble_eq_true rfl, Nat.le_of_ble_eq_true rfl⟩ (Nat.le_of_ble_eq_true rfl) rfl rfl ?_
  refine zV.imp (P' := zPx G B ((a, .inr (8, [.ref x1, .ref x2, .ref x3, .null, .null, .null, .null, .null, .int 0])) :: (x4, .inr (9, [.int 0, .ref (G.2.2.2.2 0), .int 0])) :: (x3, .inr (9, [.int 0, .ref (G.2.2.2.2 0), .int 0])) :: (x2, .inr (9, [.int 0, .ref (G.2.2.2.2 0), .int 0])) :: (x1, .inr (9, [.int 0, .ref (G.2.2.2.2 0), .int 0])) :: ws)) (fun H h => zPx.front [(x4, .inr (9, [.int 0, .ref (G.2.2.2.2 0), .int 0]))] h) ?_
  refine zx_putF (ci := 8) (C := RX8) (T := TX8) (N := 9) (f := 3) (ty := (.object "java/util/ArrayList")) hB K hnm rfl inX8 tyX8 tyX8_ok nmX8 (Nat.le_of_ble_eq_true rfl) w_197 rfl rfl (by decide +kernel) rfl rfl (Nat.le_of_ble_eq_true rfl) (dX8_init 21 rfl) [.ref x1, .ref x2, .ref x3, .ref x4, .null, .null, .null, .null, .int 0] rfl ?_
  refine zi_aload_n K (dX8_init 22 rfl) 0 rfl ?_
  refine zx_new (C := RJx4a65c) (T := TJx4a65c) (N := 3) (ci := 9) hB K rfl inJx4a65c tyJx4a65c tyJx4a65c_ok w_68 w_69 w_28 [.int 0, .null, .int 0] (fun j hj => by rcases (show j = 0 ∨ j = 1 ∨ j = 2 by omega) with rfl | rfl | rfl <;> rfl) ⟨Nat.le_of_ble_eq_true rfl, Nat.le_of_ble_eq_true rfl⟩ (dX8_init 23 rfl) (fun x5 => ?_)
  refine zi_dup K (dX8_init 24 rfl) rfl ?_
  refine zi_callI K (na := 0) (As := []) [.ref x5, .ref a] [.ref x5, .ref a] (n_list (ws := (a, .inr (8, [.ref x1, .ref x2, .ref x3, .ref x4, .null, .null, .null, .null, .int 0])) :: (x4, .inr (9, [.int 0, .ref (G.2.2.2.2 0), .int 0])) :: (x3, .inr (9, [.int 0, .ref (G.2.2.2.2 0), .int 0])) :: (x2, .inr (9, [.int 0, .ref (G.2.2.2.2 0), .int 0])) :: (x1, .inr (9, [.int 0, .ref (G.2.2.2.2 0), .int 0])) :: ws) hB x5) (dX8_init 25 rfl) w_70 w_71 w_28 w_72 (by decide +kernel) rfl rfl (fun H h => h) ⟨Nat.le_of_ble_eq_true rfl, Nat.le_of_ble_eq_true rfl⟩ ⟨Nat.le_of_ble_eq_true rfl, Nat.le_of_ble_eq_true rfl⟩ (Nat.le_of_ble_eq_true rfl) rfl rfl ?_
  refine zV.imp (P' := zPx G B ((a, .inr (8, [.ref x1, .ref x2, .ref x3, .ref x4, .null, .null, .null, .null, .int 0])) :: (x5, .inr (9, [.int 0, .ref (G.2.2.2.2 0), .int 0])) :: (x4, .inr (9, [.int 0, .ref (G.2.2.2.2 0), .int 0])) :: (x3, .inr (9, [.int 0, .ref (G.2.2.2.2 0), .int 0])) :: (x2, .inr (9, [.int 0, .ref (G.2.2.2.2 0), .int 0])) :: (x1, .inr (9, [.int 0, .ref (G.2.2.2.2 0), .int 0])) :: ws)) (fun H h => zPx.front [(x5, .inr (9, [.int 0, .ref (G.2.2.2.2 0), .int 0]))] h) ?_
  refine zx_putF (ci := 8) (C := RX8) (T := TX8) (N := 9) (f := 4) (ty := (.object "java/util/ArrayList")) hB K hnm rfl inX8 tyX8 tyX8_ok nmX8 (Nat.le_of_ble_eq_true rfl) w_198 rfl rfl (by decide +kernel) rfl rfl (Nat.le_of_ble_eq_true rfl) (dX8_init 26 rfl) [.ref x1, .ref x2, .ref x3, .ref x4, .ref x5, .null, .null, .null, .int 0] rfl ?_
  refine zi_aload_n K (dX8_init 27 rfl) 0 rfl ?_
  refine zx_new (C := RX2) (T := TX2) (N := 6) (ci := 2) hB K rfl inX2 tyX2 tyX2_ok w_94 w_95 w_29 [.null, .null, .null, .null, .null, .int 0] (fun j hj => by rcases (show j = 0 ∨ j = 1 ∨ j = 2 ∨ j = 3 ∨ j = 4 ∨ j = 5 by omega) with rfl | rfl | rfl | rfl | rfl | rfl <;> rfl) ⟨Nat.le_of_ble_eq_true rfl, Nat.le_of_ble_eq_true rfl⟩ (dX8_init 28 rfl) (fun x6 => ?_)
  refine zi_dup K (dX8_init 29 rfl) rfl ?_
  refine zi_callIN K (na := 0) (As := []) [.ref x6, .ref a] [.ref x6, .ref a] (n_flow (ws := (a, .inr (8, [.ref x1, .ref x2, .ref x3, .ref x4, .ref x5, .null, .null, .null, .int 0])) :: (x5, .inr (9, [.int 0, .ref (G.2.2.2.2 0), .int 0])) :: (x4, .inr (9, [.int 0, .ref (G.2.2.2.2 0), .int 0])) :: (x3, .inr (9, [.int 0, .ref (G.2.2.2.2 0), .int 0])) :: (x2, .inr (9, [.int 0, .ref (G.2.2.2.2 0), .int 0])) :: (x1, .inr (9, [.int 0, .ref (G.2.2.2.2 0), .int 0])) :: ws) hB x6) (dX8_init 30 rfl) (by decide +kernel) w_97 w_29 w_98 (by decide +kernel) rfl rfl (fun H h => h) ⟨Nat.le_of_ble_eq_true rfl, Nat.le_of_ble_eq_true rfl⟩ ⟨Nat.le_of_ble_eq_true rfl, Nat.le_of_ble_eq_true rfl⟩ (Nat.le_of_ble_eq_true rfl) rfl rfl ?_
  refine zV.ex (fun x7 => ?_)
  refine zV.ex (fun x8 => ?_)
  refine zV.ex (fun x9 => ?_)
  refine zV.ex (fun x10 => ?_)
  refine zV.ex (fun x11 => ?_)
  refine zV.ex (fun x12 => ?_)
  refine zV.ex (fun x13 => ?_)
  refine zV.ex (fun x14 => ?_)
  refine zV.ex (fun x15 => ?_)
  refine zV.ex (fun x16 => ?_)
  refine zV.imp (P' := zPx G B ((a, .inr (8, [.ref x1, .ref x2, .ref x3, .ref x4, .ref x5, .null, .null, .null, .int 0])) :: (x6, .inr (2, [.ref x7, .ref x8, .ref x9, .ref x10, .ref x11, .int 1])) :: (x11, .inr (3, [.ref x12, .ref x13, .ref x14, .ref x15, .ref x16, .int 0])) :: (x16, .inl (G.2.2.2.1 0, 31, .inl (fun _ => 0))) :: (x15, .inl (G.2.2.2.1 1, 31, .inr (.inl (fun _ => 0)))) :: (x14, .inl (G.2.2.2.1 0, 30, .inl (fun _ => 0))) :: (x13, .inl (G.2.2.2.1 1, 30, .inr (.inl (fun _ => 0)))) :: (x12, .inl (G.2.2.2.1 0, 30, .inl (fun _ => 0))) :: (x10, .inr (9, [.int 0, .ref (G.2.2.2.2 0), .int 0])) :: (x9, .inr (9, [.int 0, .ref (G.2.2.2.2 0), .int 0])) :: (x8, .inr (9, [.int 0, .ref (G.2.2.2.2 0), .int 0])) :: (x7, .inr (9, [.int 0, .ref (G.2.2.2.2 0), .int 0])) :: (x5, .inr (9, [.int 0, .ref (G.2.2.2.2 0), .int 0])) :: (x4, .inr (9, [.int 0, .ref (G.2.2.2.2 0), .int 0])) :: (x3, .inr (9, [.int 0, .ref (G.2.2.2.2 0), .int 0])) :: (x2, .inr (9, [.int 0, .ref (G.2.2.2.2 0), .int 0])) :: (x1, .inr (9, [.int 0, .ref (G.2.2.2.2 0), .int 0])) :: ws)) (fun H h => zPx.front [(x6, .inr (2, [.ref x7, .ref x8, .ref x9, .ref x10, .ref x11, .int 1])), (x11, .inr (3, [.ref x12, .ref x13, .ref x14, .ref x15, .ref x16, .int 0])), (x16, .inl (G.2.2.2.1 0, 31, .inl (fun _ => 0))), (x15, .inl (G.2.2.2.1 1, 31, .inr (.inl (fun _ => 0)))), (x14, .inl (G.2.2.2.1 0, 30, .inl (fun _ => 0))), (x13, .inl (G.2.2.2.1 1, 30, .inr (.inl (fun _ => 0)))), (x12, .inl (G.2.2.2.1 0, 30, .inl (fun _ => 0))), (x10, .inr (9, [.int 0, .ref (G.2.2.2.2 0), .int 0])), (x9, .inr (9, [.int 0, .ref (G.2.2.2.2 0), .int 0])), (x8, .inr (9, [.int 0, .ref (G.2.2.2.2 0), .int 0])), (x7, .inr (9, [.int 0, .ref (G.2.2.2.2 0), .int 0]))] h) ?_
  refine zx_putF (ci := 8) (C := RX8) (T := TX8) (N := 9) (f := 5) (ty := (.object "Layertreaty$Flow")) hB K hnm rfl inX8 tyX8 tyX8_ok nmX8 (Nat.le_of_ble_eq_true rfl) w_199 rfl rfl (by decide +kernel) rfl rfl (Nat.le_of_ble_eq_true rfl) (dX8_init 31 rfl) [.ref x1, .ref x2, .ref x3, .ref x4, .ref x5, .ref x6, .null, .null, .int 0] rfl ?_
  refine zi_aload_n K (dX8_init 32 rfl) 0 rfl ?_
  refine zx_new (C := RX2) (T := TX2) (N := 6) (ci := 2) hB K rfl inX2 tyX2 tyX2_ok w_94 w_95 w_29 [.null, .null, .null, .null, .null, .int 0] (fun j hj => by rcases (show j = 0 ∨ j = 1 ∨ j = 2 ∨ j = 3 ∨ j = 4 ∨ j = 5 by omega) with rfl | rfl | rfl | rfl | rfl | rfl <;> rfl) ⟨Nat.le_of_ble_eq_true rfl, Nat.le_of_ble_eq_true rfl⟩ (dX8_init 33 rfl) (fun x17 => ?_)
  refine zi_dup K (dX8_init 34 rfl) rfl ?_
  refine zi_callIN K (na := 0) (As := []) [.ref x17, .ref a] [.ref x17, .ref a] (n_flow (ws := (a, .inr (8, [.ref x1, .ref x2, .ref x3, .ref x4, .ref x5, .ref x6, .null, .null, .int 0])) :: (x6, .inr (2, [.ref x7, .ref x8, .ref x9, .ref x10, .ref x11, .int 1])) :: (x11, .inr (3, [.ref x12, .ref x13, .ref x14, .ref x15, .ref x16, .int 0])) :: (x16, .inl (G.2.2.2.1 0, 31, .inl (fun _ => 0))) :: (x15, .inl (G.2.2.2.1 1, 31, .inr (.inl (fun _ => 0)))) :: (x14, .inl (G.2.2.2.1 0, 30, .inl (fun _ => 0))) :: (x13, .inl (G.2.2.2.1 1, 30, .inr (.inl (fun _ => 0)))) :: (x12, .inl (G.2.2.2.1 0, 30, .inl (fun _ => 0))) :: (x10, .inr (9, [.int 0, .ref (G.2.2.2.2 0), .int 0])) :: (x9, .inr (9, [.int 0, .ref (G.2.2.2.2 0), .int 0])) :: (x8, .inr (9, [.int 0, .ref (G.2.2.2.2 0), .int 0])) :: (x7, .inr (9, [.int 0, .ref (G.2.2.2.2 0), .int 0])) :: (x5, .inr (9, [.int 0, .ref (G.2.2.2.2 0), .int 0])) :: (x4, .inr (9, [.int 0, .ref (G.2.2.2.2 0), .int 0])) :: (x3, .inr (9, [.int 0, .ref (G.2.2.2.2 0), .int 0])) :: (x2, .inr (9, [.int 0, .ref (G.2.2.2.2 0), .int 0])) :: (x1, .inr (9, [.int 0, .ref (G.2.2.2.2 0), .int 0])) :: ws) hB x17) (dX8_init 35 rfl) (by decide +kernel) w_97 w_29 w_98 (by decide +kernel) rfl rfl (fun H h => h) ⟨Nat.le_of_ble_eq_true rfl, Nat.le_of_ble_eq_true rfl⟩ ⟨Nat.le_of_ble_eq_true rfl, Nat.le_of_ble_eq_true rfl⟩ (Nat.le_of_ble_eq_true rfl) rfl rfl ?_
  refine zV.ex (fun x18 => ?_)
  refine zV.ex (fun x19 => ?_)
  refine zV.ex (fun x20 => ?_)
  refine zV.ex (fun x21 => ?_)
  refine zV.ex (fun x22 => ?_)
  refine zV.ex (fun x23 => ?_)
  refine zV.ex (fun x24 => ?_)
  refine zV.ex (fun x25 => ?_)
  refine zV.ex (fun x26 => ?_)
  refine zV.ex (fun x27 => ?_)
  refine zV.imp (P' := zPx G B ((a, .inr (8, [.ref x1, .ref x2, .ref x3, .ref x4, .ref x5, .ref x6, .null, .null, .int 0])) :: (x17, .inr (2, [.ref x18, .ref x19, .ref x20, .ref x21, .ref x22, .int 1])) :: (x22, .inr (3, [.ref x23, .ref x24, .ref x25, .ref x26, .ref x27, .int 0])) :: (x27, .inl (G.2.2.2.1 0, 31, .inl (fun _ => 0))) :: (x26, .inl (G.2.2.2.1 1, 31, .inr (.inl (fun _ => 0)))) :: (x25, .inl (G.2.2.2.1 0, 30, .inl (fun _ => 0))) :: (x24, .inl (G.2.2.2.1 1, 30, .inr (.inl (fun _ => 0)))) :: (x23, .inl (G.2.2.2.1 0, 30, .inl (fun _ => 0))) :: (x21, .inr (9, [.int 0, .ref (G.2.2.2.2 0), .int 0])) :: (x20, .inr (9, [.int 0, .ref (G.2.2.2.2 0), .int 0])) :: (x19, .inr (9, [.int 0, .ref (G.2.2.2.2 0), .int 0])) :: (x18, .inr (9, [.int 0, .ref (G.2.2.2.2 0), .int 0])) :: (x6, .inr (2, [.ref x7, .ref x8, .ref x9, .ref x10, .ref x11, .int 1])) :: (x11, .inr (3, [.ref x12, .ref x13, .ref x14, .ref x15, .ref x16, .int 0])) :: (x16, .inl (G.2.2.2.1 0, 31, .inl (fun _ => 0))) :: (x15, .inl (G.2.2.2.1 1, 31, .inr (.inl (fun _ => 0)))) :: (x14, .inl (G.2.2.2.1 0, 30, .inl (fun _ => 0))) :: (x13, .inl (G.2.2.2.1 1, 30, .inr (.inl (fun _ => 0)))) :: (x12, .inl (G.2.2.2.1 0, 30, .inl (fun _ => 0))) :: (x10, .inr (9, [.int 0, .ref (G.2.2.2.2 0), .int 0])) :: (x9, .inr (9, [.int 0, .ref (G.2.2.2.2 0), .int 0])) :: (x8, .inr (9, [.int 0, .ref (G.2.2.2.2 0), .int 0])) :: (x7, .inr (9, [.int 0, .ref (G.2.2.2.2 0), .int 0])) :: (x5, .inr (9, [.int 0, .ref (G.2.2.2.2 0), .int 0])) :: (x4, .inr (9, [.int 0, .ref (G.2.2.2.2 0), .int 0])) :: (x3, .inr (9, [.int 0, .ref (G.2.2.2.2 0), .int 0])) :: (x2, .inr (9, [.int 0, .ref (G.2.2.2.2 0), .int 0])) :: (x1, .inr (9, [.int 0, .ref (G.2.2.2.2 0), .int 0])) :: ws)) (fun H h => zPx.front [(x17, .inr (2, [.ref x18, .ref x19, .ref x20, .ref x21, .ref x22, .int 1])), (x22, .inr (3, [.ref x23, .ref x24, .ref x25, .ref x26, .ref x27, .int 0])), (x27, .inl (G.2.2.2.1 0, 31, .inl (fun _ => 0))), (x26, .inl (G.2.2.2.1 1, 31, .inr (.inl (fun _ => 0)))), (x25, .inl (G.2.2.2.1 0, 30, .inl (fun _ => 0))), (x24, .inl (G.2.2.2.1 1, 30, .inr (.inl (fun _ => 0)))), (x23, .inl (G.2.2.2.1 0, 30, .inl (fun _ => 0))), (x21, .inr (9, [.int 0, .ref (G.2.2.2.2 0), .int 0])), (x20, .inr (9, [.int 0, .ref (G.2.2.2.2 0), .int 0])), (x19, .inr (9, [.int 0, .ref (G.2.2.2.2 0), .int 0])), (x18, .inr (9, [.int 0, .ref (G.2.2.2.2 0), .int 0]))] h) ?_
  refine zx_putF (ci := 8) (C := RX8) (T := TX8) (N := 9) (f := 6) (ty := (.object "Layertreaty$Flow")) hB K hnm rfl inX8 tyX8 tyX8_ok nmX8 (Nat.le_of_ble_eq_true rfl) w_200 rfl rfl (by decide +kernel) rfl rfl (Nat.le_of_ble_eq_true rfl) (dX8_init 36 rfl) [.ref x1, .ref x2, .ref x3, .ref x4, .ref x5, .ref x6, .ref x17, .null, .int 0] rfl ?_
  refine zi_aload_n K (dX8_init 37 rfl) 0 rfl ?_
  refine zx_new (C := RX5) (T := TX5) (N := 9) (ci := 5) hB K rfl inX5 tyX5 tyX5_ok w_153 w_154 w_31 [.null, .null, .null, .null, .null, .null, .null, .null, .null] (fun j hj => by rcases (show j = 0 ∨ j = 1 ∨ j = 2 ∨ j = 3 ∨ j = 4 ∨ j = 5 ∨ j = 6 ∨ j = 7 ∨ j = 8 by omega) with rfl | rfl | rfl | rfl | rfl | rfl | rfl | rfl | rfl <;> rfl) ⟨Nat.le_of_ble_eq_true rfl, Nat.le_of_ble_eq_true rfl⟩ (dX8_init 38 rfl) (fun x28 => ?_)
  refine zi_dup K (dX8_init 39 rfl) rfl ?_
  refine zi_callIN K (na := 0) (As := []) [.ref x28, .ref a] [.ref x28, .ref a] (n_pool (ws := (a, .inr (8, [.ref x1, .ref x2, .ref x3, .ref x4, .ref x5, .ref x6, .ref x17, .null, .int 0])) :: (x17, .inr (2, [.ref x18, .ref x19, .ref x20, .ref x21, .ref x22, .int 1])) :: (x22, .inr (3, [.ref x23, .ref x24, .ref x25, .ref x26, .ref x27, .int 0])) :: (x27, .inl (G.2.2.2.1 0, 31, .inl (fun _ => 0))) :: (x26, .inl (G.2.2.2.1 1, 31, .inr (.inl (fun _ => 0)))) :: (x25, .inl (G.2.2.2.1 0, 30, .inl (fun _ => 0))) :: (x24, .inl (G.2.2.2.1 1, 30, .inr (.inl (fun _ => 0)))) :: (x23, .inl (G.2.2.2.1 0, 30, .inl (fun _ => 0))) :: (x21, .inr (9, [.int 0, .ref (G.2.2.2.2 0), .int 0])) :: (x20, .inr (9, [.int 0, .ref (G.2.2.2.2 0), .int 0])) :: (x19, .inr (9, [.int 0, .ref (G.2.2.2.2 0), .int 0])) :: (x18, .inr (9, [.int 0, .ref (G.2.2.2.2 0), .int 0])) :: (x6, .inr (2, [.ref x7, .ref x8, .ref x9, .ref x10, .ref x11, .int 1])) :: (x11, .inr (3, [.ref x12, .ref x13, .ref x14, .ref x15, .ref x16, .int 0])) :: (x16, .inl (G.2.2.2.1 0, 31, .inl (fun _ => 0))) :: (x15, .inl (G.2.2.2.1 1, 31, .inr (.inl (fun _ => 0)))) :: (x14, .inl (G.2.2.2.1 0, 30, .inl (fun _ => 0))) :: (x13, .inl (G.2.2.2.1 1, 30, .inr (.inl (fun _ => 0)))) :: (x12, .inl (G.2.2.2.1 0, 30, .inl (fun _ => 0))) :: (x10, .inr (9, [.int 0, .ref (G.2.2.2.2 0), .int 0])) :: (x9, .inr (9, [.int 0, .ref (G.2.2.2.2 0), .int 0])) :: (x8, .inr (9, [.int 0, .ref (G.2.2.2.2 0), .int 0])) :: (x7, .inr (9, [.int 0, .ref (G.2.2.2.2 0), .int 0])) :: (x5, .inr (9, [.int 0, .ref (G.2.2.2.2 0), .int 0])) :: (x4, .inr (9, [.int 0, .ref (G.2.2.2.2 0), .int 0])) :: (x3, .inr (9, [.int 0, .ref (G.2.2.2.2 0), .int 0])) :: (x2, .inr (9, [.int 0, .ref (G.2.2.2.2 0), .int 0])) :: (x1, .inr (9, [.int 0, .ref (G.2.2.2.2 0), .int 0])) :: ws) hB x28) (dX8_init 40 rfl) (by decide +kernel) w_156 w_31 w_157 (by decide +kernel) rfl rfl (fun H h => h) ⟨Nat.le_of_ble_eq_true rfl, Nat.le_of_ble_eq_true rfl⟩ ⟨Nat.le_of_ble_eq_true rfl, Nat.le_of_ble_eq_true rfl⟩ (Nat.le_of_ble_eq_true rfl) rfl rfl ?_
  refine zV.ex (fun x29 => ?_)
  refine zV.ex (fun x30 => ?_)
  refine zV.ex (fun x31 => ?_)
  refine zV.ex (fun x32 => ?_)
  refine zV.ex (fun x33 => ?_)
  refine zV.ex (fun x34 => ?_)
  refine zV.ex (fun x35 => ?_)
  refine zV.ex (fun x36 => ?_)
  refine zV.ex (fun x37 => ?_)
  refine zV.imp (P' := zPx G B ((a, .inr (8, [.ref x1, .ref x2, .ref x3, .ref x4, .ref x5, .ref x6, .ref x17, .null, .int 0])) :: (x28, .inr (5, [.ref x29, .ref x30, .ref x31, .ref x32, .ref x33, .ref x34, .ref x35, .ref x36, .ref x37])) :: (x37, .inl (G.2.2.2.1 1, 5, .inr (.inl (fun _ => 0)))) :: (x36, .inl (G.2.2.2.1 1, 5, .inr (.inl (fun _ => 0)))) :: (x35, .inl (G.2.2.2.1 1, 5, .inr (.inl (fun _ => 0)))) :: (x34, .inl (G.2.2.2.1 1, 5, .inr (.inl (fun _ => 0)))) :: (x33, .inl (G.2.2.2.1 1, 5, .inr (.inl (fun _ => 0)))) :: (x32, .inl (G.2.2.2.1 0, 5, .inl (fun _ => 0))) :: (x31, .inl (G.2.2.2.1 0, 5, .inl (fun _ => 0))) :: (x30, .inl (G.2.2.2.1 0, 5, .inl (fun _ => 0))) :: (x29, .inl (G.2.2.2.1 2, 5, .inl (fun _ => 0))) :: (x17, .inr (2, [.ref x18, .ref x19, .ref x20, .ref x21, .ref x22, .int 1])) :: (x22, .inr (3, [.ref x23, .ref x24, .ref x25, .ref x26, .ref x27, .int 0])) :: (x27, .inl (G.2.2.2.1 0, 31, .inl (fun _ => 0))) :: (x26, .inl (G.2.2.2.1 1, 31, .inr (.inl (fun _ => 0)))) :: (x25, .inl (G.2.2.2.1 0, 30, .inl (fun _ => 0))) :: (x24, .inl (G.2.2.2.1 1, 30, .inr (.inl (fun _ => 0)))) :: (x23, .inl (G.2.2.2.1 0, 30, .inl (fun _ => 0))) :: (x21, .inr (9, [.int 0, .ref (G.2.2.2.2 0), .int 0])) :: (x20, .inr (9, [.int 0, .ref (G.2.2.2.2 0), .int 0])) :: (x19, .inr (9, [.int 0, .ref (G.2.2.2.2 0), .int 0])) :: (x18, .inr (9, [.int 0, .ref (G.2.2.2.2 0), .int 0])) :: (x6, .inr (2, [.ref x7, .ref x8, .ref x9, .ref x10, .ref x11, .int 1])) :: (x11, .inr (3, [.ref x12, .ref x13, .ref x14, .ref x15, .ref x16, .int 0])) :: (x16, .inl (G.2.2.2.1 0, 31, .inl (fun _ => 0))) :: (x15, .inl (G.2.2.2.1 1, 31, .inr (.inl (fun _ => 0)))) :: (x14, .inl (G.2.2.2.1 0, 30, .inl (fun _ => 0))) :: (x13, .inl (G.2.2.2.1 1, 30, .inr (.inl (fun _ => 0)))) :: (x12, .inl (G.2.2.2.1 0, 30, .inl (fun _ => 0))) :: (x10, .inr (9, [.int 0, .ref (G.2.2.2.2 0), .int 0])) :: (x9, .inr (9, [.int 0, .ref (G.2.2.2.2 0), .int 0])) :: (x8, .inr (9, [.int 0, .ref (G.2.2.2.2 0), .int 0])) :: (x7, .inr (9, [.int 0, .ref (G.2.2.2.2 0), .int 0])) :: (x5, .inr (9, [.int 0, .ref (G.2.2.2.2 0), .int 0])) :: (x4, .inr (9, [.int 0, .ref (G.2.2.2.2 0), .int 0])) :: (x3, .inr (9, [.int 0, .ref (G.2.2.2.2 0), .int 0])) :: (x2, .inr (9, [.int 0, .ref (G.2.2.2.2 0), .int 0])) :: (x1, .inr (9, [.int 0, .ref (G.2.2.2.2 0), .int 0])) :: ws)) (fun H h => zPx.front [(x28, .inr (5, [.ref x29, .ref x30, .ref x31, .ref x32, .ref x33, .ref x34, .ref x35, .ref x36, .ref x37])), (x37, .inl (G.2.2.2.1 1, 5, .inr (.inl (fun _ => 0)))), (x36, .inl (G.2.2.2.1 1, 5, .inr (.inl (fun _ => 0)))), (x35, .inl (G.2.2.2.1 1, 5, .inr (.inl (fun _ => 0)))), (x34, .inl (G.2.2.2.1 1, 5, .inr (.inl (fun _ => 0)))), (x33, .inl (G.2.2.2.1 1, 5, .inr (.inl (fun _ => 0)))), (x32, .inl (G.2.2.2.1 0, 5, .inl (fun _ => 0))), (x31, .inl (G.2.2.2.1 0, 5, .inl (fun _ => 0))), (x30, .inl (G.2.2.2.1 0, 5, .inl (fun _ => 0))), (x29, .inl (G.2.2.2.1 2, 5, .inl (fun _ => 0)))] h) ?_
  refine zx_putF (ci := 8) (C := RX8) (T := TX8) (N := 9) (f := 7) (ty := (.object "Layertreaty$Pool")) hB K hnm rfl inX8 tyX8 tyX8_ok nmX8 (Nat.le_of_ble_eq_true rfl) w_201 rfl rfl (by decide +kernel) rfl rfl (Nat.le_of_ble_eq_true rfl) (dX8_init 41 rfl) [.ref x1, .ref x2, .ref x3, .ref x4, .ref x5, .ref x6, .ref x17, .ref x28, .int 0] rfl ?_
  refine zi_aload_n K (dX8_init 42 rfl) 0 rfl ?_
  refine zi_iconst K (dX8_init 43 rfl) zk_i0 ?_
  refine zx_put (ci := 8) (C := RX8) (T := TX8) (N := 9) (f := 8) (ty := .boolean) hB K rfl inX8 tyX8 tyX8_ok nmX8 (Nat.le_of_ble_eq_true rfl) w_202 (fun _ h => h) rfl (by decide +kernel) rfl rfl (Nat.le_of_ble_eq_true rfl) (dX8_init 44 rfl) [.ref x1, .ref x2, .ref x3, .ref x4, .ref x5, .ref x6, .ref x17, .ref x28, .int 0] rfl ?_
  exact zi_vret K E (dX8_init 45 rfl) (Nat.le_of_ble_eq_true rfl) (Nat.le_of_ble_eq_true rfl) rfl (fun H h => ⟨x1, x2, x3, x4, x5, x6, x7, x8, x9, x10, x11, x12, x13, x14, x15, x16, x17, x18, x19, x20, x21, x22, x23, x24, x25, x26, x27, x28, x29, x30, x31, x32, x33, x34, x35, x36, x37, h⟩)
