/-! the claim's entry (a starting text of the kit) and what it gives -/
def R_law : String := "LayertreatyLaw"
def lw_P (b : Addr) (xs : List Int32) (args : Array Value) (s : State) : Prop := args = #[.ref b] ∧ s.IntsAt b xs ∧ xs.length ≤ 260 ∧ (Jvm.Cond.and given_1 narrow_1).before args s = true
/-- what a walk over the start with the record d0 says of its end, said of the start itself -/
theorem lw_closed {s t : State} {o : Outcome} {d0 : Drawn} {L : List Loc} {k n : Nat} (hd0 : s.drawn.sameBut d0 lw_cs) (hv : ∃ v, o = .returned v) (hW : (s.setDrawn d0).WarmedH t.vm) (hs : (s.setDrawn d0).sameButNew ({ t with vm := s.vm } : State) L k n) : State.butDraws s t lw_cs (fun t1 => Framed s o t1 L k n) := by
  have h2 : t.drawn = d0 := congrArg State.drawn hs.1
  refine ⟨⟨hv, hW, State.sameButNew.setDrawn hs s.drawn⟩, ?_, by decide⟩
  rw [h2]
  exact hd0
def lw_Q (_ : Array Value) (s : State) (o : Outcome) (t : State) : Prop := o = .returned (some (.int 1)) ∧ State.butDraws s t lw_cs (fun t1 => Framed s o t1 [] 652415 7137457)
def lw_Z (below : List Frame) (a : Array Value) (s : State) : State → Prop := fun t => ∃ o, t.status = .running ∧ Ended t below o ∧ lw_Q a s o t
/-- the law's own end, with 1 on the stack, nothing written that was there before, its room as the claim has it; d0: the record of draws at this point (at the entry s.drawn: begin with 'refine W.base ?_' and 'have hd0 := Drawn.sameBut.refl s.drawn lw_cs') -/
theorem lw_ret {p : Program} {l : Launch} {e : Env} {s : State} {m : MethodId} {below : List Frame} {meth : Method} {c : Code} {b : Nat} {d0 : Drawn} (hd0 : s.drawn.sameBut d0 lw_cs) (hx : p.tables.exec = Jvm.exec) (hb : c.code = code) (hr : meth.sig.returnType = ret) (hlocks : meth.locks = false) {pc : Nat} {H : Heap} {ls : Array Slot} (hdg : decode code pc = .ok (.ireturn, 1)) : W p l e room_1 (s.setDrawn d0) m #[Value.ref b] below meth c H [] 652415 7137457 (lw_Z below #[Value.ref b] s) (F0 m pc ls [.int 1]) := by
  intro T hT X
  obtain ⟨fs, hret, hrun, hended, hW, hframe⟩ := X.leave (v := some (.int 1)) (hlocks := hlocks) (fun h => by rw [hr] at h; cases h)
  have hmeth' : T.vm.method? m = some meth := X.method'
  refine ⟨T.setFrames fs, ?_, .returned (some (.int 1)), hrun, hended, rfl, lw_closed hd0 ⟨_, rfl⟩ hW hframe⟩
  jvm_step X.here [X.here.top, hx, hb, hdg, hmeth', hr, ret, narrow_b1]
  (try refine ⟨rfl, ?_⟩); (try refine ⟨rfl, ?_⟩)
  first | (intro acts; rw [hret _ acts rfl rfl rfl]) | rw [hret _ _ rfl rfl rfl]
  exact Steps.refl _
/-- what holds at the law's entry: the machine, the code, the tables' words (any of lw_tbl by 'hts w (by decide +kernel)'), the script of L ints xs at the cell b, what the Statement gives of the start (any of its parts by flat_of_before) -/
def lw_At (p : Program) (s : State) (m : MethodId) (meth : Method) (c : Code) (b L : Nat) (xs : Nat → Int32) : Prop :=
  p.tables.exec = Jvm.exec ∧ c.code = code ∧ meth.sig.returnType = ret ∧ c.maxLocals = 21 ∧ s.vm.findClass R_law = some m.cls ∧ (∀ w ∈ lw_tbl, w.before #[Value.ref b] s = true) ∧ va_X b L xs s s.heap ∧ b < s.heap.size ∧ meth.locks = false ∧ (Jvm.Cond.and given_1 narrow_1).before #[Value.ref b] s = true
theorem zt_m1 {w : Cond} (h : w ∈ tables_1_1) : w ∈ lw_tbl := List.mem_append_right _ (List.mem_append_left _ h)
theorem zt_m2 {w : Cond} (h : w ∈ tables_1_2) : w ∈ lw_tbl := List.mem_append_right _ (List.mem_append_right _ (List.mem_append_left _ h))
theorem zt_m3 {w : Cond} (h : w ∈ tables_1_3) : w ∈ lw_tbl := List.mem_append_right _ (List.mem_append_right _ (List.mem_append_right _ (List.mem_append_left _ h)))
theorem zt_m4 {w : Cond} (h : w ∈ tables_1_4) : w ∈ lw_tbl := List.mem_append_right _ (List.mem_append_right _ (List.mem_append_right _ (List.mem_append_right _ (List.mem_append_left _ h))))
theorem zt_m5 {w : Cond} (h : w ∈ tables_1_5) : w ∈ lw_tbl := List.mem_append_right _ (List.mem_append_right _ (List.mem_append_right _ (List.mem_append_right _ (List.mem_append_right _ (List.mem_append_left _ h)))))
theorem zt_m6 {w : Cond} (h : w ∈ tables_1_6) : w ∈ lw_tbl := List.mem_append_right _ (List.mem_append_right _ (List.mem_append_right _ (List.mem_append_right _ (List.mem_append_right _ (List.mem_append_right _ (List.mem_append_left _ h))))))
theorem zt_m7 {w : Cond} (h : w ∈ tables_1_7) : w ∈ lw_tbl := List.mem_append_right _ (List.mem_append_right _ (List.mem_append_right _ (List.mem_append_right _ (List.mem_append_right _ (List.mem_append_right _ (List.mem_append_right _ (h)))))))
theorem vkr_of {own tx : String} {k : Nat} {A : Array Value} {U : State} (h1 : (Cond.stringRef own k tx).before A U = true) (h2 : (Cond.exactly (.string own k) "java/lang/String").before A U = true) : ∃ a, vk_R own k tx a U := by
  obtain ⟨a, c, cell, k2, q1, q2⟩ := Cond.exactly_spec (args := A) (first := U) (o := none) (s := U) (idx := []) h2
  exact ⟨a, vk_R.of h1 q1⟩
theorem of_ne {o n d : String} {v1 v2 : Value} {t : Nat} {A : Nat → Prop} {U : State} {H : Heap} (h1 : va_OF o n d v1 t A U H) (h2 : va_OF o n d v2 t A U H) : v1 = v2 := by
  obtain ⟨cf, k, i, f, cell, a1, a2, a3, a4, a5, a6⟩ := h1
  obtain ⟨cf', k', i', f', cell', b1, b2, b3, b4, b5, b6⟩ := h2
  have e := a1.symm.trans b1
  cases e
  have e := a3.symm.trans b3
  cases e
  exact Option.some.inj (a5.symm.trans b5)
def zGw : List Cond := [.exactly (.static "java/util/ArrayList" "DEFAULTCAPACITY_EMPTY_ELEMENTDATA" "[Ljava/lang/Object;") "[Ljava/lang/Object;", .arrayOf (.static "java/util/ArrayList" "DEFAULTCAPACITY_EMPTY_ELEMENTDATA" "[Ljava/lang/Object;") (.object "java/lang/Object"), .eq (.length (.static "java/util/ArrayList" "DEFAULTCAPACITY_EMPTY_ELEMENTDATA" "[Ljava/lang/Object;")) (.int 0), .isRef (.mirror "[Ljava/lang/Object;"), .isRef (.static "java/lang/Throwable" "UNASSIGNED_STACK" "[Ljava/lang/StackTraceElement;"), .isRef (.static "java/lang/Throwable" "SUPPRESSED_SENTINEL" "Ljava/util/List;"), .isRef (.static "jdk/internal/util/Preconditions" "SIOOBE_FORMATTER" "Ljava/util/function/BiFunction;"), .eq (.static "java/lang/String" "COMPACT_STRINGS" "Z") (.int 1), .exactly (.string "Layertreaty" 60) "java/lang/String", .exactly (.string "Layertreaty" 71) "java/lang/String", .exactly (.string "Layertreaty" 90) "java/lang/String", .exactly (.string "Layertreaty" 93) "java/lang/String", .exactly (.string "Layertreaty" 105) "java/lang/String", .exactly (.string "Layertreaty" 108) "java/lang/String", .exactly (.string "Layertreaty" 138) "java/lang/String", .exactly (.string "Layertreaty" 200) "java/lang/String", .exactly (.string "Layertreaty" 230) "java/lang/String", .exactly (.string "Layertreaty" 171) "java/lang/String", .exactly (.string "Layertreaty" 249) "java/lang/String", .exactly (.string "Layertreaty" 251) "java/lang/String", .exactly (.string "Layertreaty" 374) "java/lang/String", .exactly (.string "Layertreaty" 304) "java/lang/String", .exactly (.string "Layertreaty" 364) "java/lang/String", .exactly (.string "Layertreaty" 136) "java/lang/String", .not (.castable "java/lang/UnsupportedOperationException" "java/lang/IndexOutOfBoundsException"), .not (.castable "java/lang/UnsupportedOperationException" "java/lang/IllegalArgumentException"), .not (.castable "java/lang/IllegalStateException" "java/lang/IndexOutOfBoundsException"), .not (.castable "java/lang/IllegalStateException" "java/lang/IllegalArgumentException"), .not (.castable "java/lang/IllegalStateException" "java/lang/UnsupportedOperationException"), .eq (.elem (.field (.string "LayertreatyLaw" 172) "java/lang/String" "value" "[B") (.int 0)) (.int 113), .eq (.elem (.field (.string "LayertreatyLaw" 172) "java/lang/String" "value" "[B") (.int 1)) (.int 115), .eq (.elem (.field (.string "LayertreatyLaw" 172) "java/lang/String" "value" "[B") (.int 2)) (.int 114), .eq (.elem (.field (.string "LayertreatyLaw" 172) "java/lang/String" "value" "[B") (.int 3)) (.int 101), .eq (.elem (.field (.string "LayertreatyLaw" 172) "java/lang/String" "value" "[B") (.int 4)) (.int 97), .exactly (.string "LayertreatyLaw" 172) "java/lang/String", .eq (.field (.string "LayertreatyLaw" 172) "java/lang/String" "coder" "B") (.int 0), .arrayOf (.field (.string "LayertreatyLaw" 172) "java/lang/String" "value" "[B") .byte, .eq (.length (.field (.string "LayertreatyLaw" 172) "java/lang/String" "value" "[B")) (.int 5), .eq (.elem (.field (.string "LayertreatyLaw" 180) "java/lang/String" "value" "[B") (.int 0)) (.int 111), .eq (.elem (.field (.string "LayertreatyLaw" 180) "java/lang/String" "value" "[B") (.int 1)) (.int 97), .eq (.elem (.field (.string "LayertreatyLaw" 180) "java/lang/String" "value" "[B") (.int 2)) (.int 99), .exactly (.string "LayertreatyLaw" 180) "java/lang/String", .eq (.field (.string "LayertreatyLaw" 180) "java/lang/String" "coder" "B") (.int 0), .arrayOf (.field (.string "LayertreatyLaw" 180) "java/lang/String" "value" "[B") .byte, .eq (.length (.field (.string "LayertreatyLaw" 180) "java/lang/String" "value" "[B")) (.int 3)]
set_option maxRecDepth 100000 in
set_option maxHeartbeats 4000000 in
theorem zGw_in : ∀ w ∈ zGw, w ∈ flatC (Jvm.Cond.and given_1 narrow_1) := by decide +kernel
set_option maxRecDepth 100000 in
set_option maxHeartbeats 8000000 in
theorem zs_K {p : Program} {e : Env} {s : State} {m : MethodId} {below : List Frame} {meth : Method} {c : Code} (l : Launch) (hflags : l.flags = flags0) {b L : Nat} {xs : Nat → Int32} (C0 : lw_At p s m meth c b L xs) (Q : State → Prop) : ∃ (G : zG) (adK adV : Nat → Nat), zK G (p, l, e, room_1, s, m, #[.ref b], below, meth, c, Q) cL_law "LayertreatyLaw" 21 (some .boolean) room_1 ∧ zY G b L xs s ∧ zTxt G adK adV 0 s ∧ vk_R "LayertreatyLaw" 172 "qsrea" (adK 0) s ∧ vk_R "LayertreatyLaw" 180 "oac" (adK 1) s ∧ gA G = fun q => s.heap.size ≤ q := by
  obtain ⟨hx, hb, hr, hml, hown, hts, hX, hbl, hlocks, hgv⟩ := id C0
  have hAn : ∀ a : Nat, a < s.heap.size → ¬ (fun q : Nat => s.heap.size ≤ q) a := fun a h q => absurd h (Nat.not_lt.mpr q)
  have hz : ∀ w ∈ zB, w.before #[Value.ref b] s = true := fun w hw => hts w (zb_in hw)
  have hgw : ∀ w ∈ zGw, w.before #[Value.ref b] s = true := fun w hw => flat_of_before _ hgv w (zGw_in w hw)
  obtain ⟨c0, iS0, hKn0⟩ := u_known (C := RX0) (T := TX0) (N := 7) (n := 7) hz inX0 (hz _ w_731)
  obtain ⟨c1, iS1, hKn1⟩ := u_known (C := RX1) (T := TX1) (N := 6) (n := 6) hz inX1 (hz _ w_1156)
  obtain ⟨c2, iS2, hKn2⟩ := u_known (C := RX2) (T := TX2) (N := 6) (n := 6) hz inX2 (hz _ w_95)
  obtain ⟨c3, iS3, hKn3⟩ := u_known (C := RX3) (T := TX3) (N := 6) (n := 6) hz inX3 (hz _ w_103)
  obtain ⟨c4, iS4, hKn4⟩ := u_known (C := RX4) (T := TX4) (N := 4) (n := 4) hz inX4 (hz _ w_708)
  obtain ⟨c5, iS5, hKn5⟩ := u_known (C := RX5) (T := TX5) (N := 9) (n := 9) hz inX5 (hz _ w_154)
  obtain ⟨c6, iS6, hKn6⟩ := u_known (C := RX6) (T := TX6) (N := 4) (n := 4) hz inX6 (hz _ w_1309)
  obtain ⟨c7, iS7, hKn7⟩ := u_known (C := RX7) (T := TX7) (N := 15) (n := 15) hz inX7 (hz _ w_1086)
  obtain ⟨c8, iS8, hKn8⟩ := u_known (C := RX8) (T := TX8) (N := 9) (n := 9) hz inX8 (hz _ w_61)
  obtain ⟨c9, iS9, hKn9⟩ := u_known (C := RJx4a65c) (T := TJx4a65c) (N := 3) (n := 3) hz inJx4a65c (hz _ w_69)
  obtain ⟨a0, kA0, cm0, g10, g20, g30⟩ := Cond.arrayClass_spec (type := .int) (hz _ w_130)
  obtain ⟨a1, kA1, cm1, g11, g21, g31⟩ := Cond.arrayClass_spec (type := .long) (hz _ w_131)
  obtain ⟨a2, kA2, cm2, g12, g22, g32⟩ := Cond.arrayClass_spec (type := .boolean) (hz _ w_193)
  obtain ⟨cm3, a3, kA3, h31, h32, h33, h34, h35⟩ := Cond.arrayOver_spec (n := "java/lang/Object") (hts _ (zt_m2 (List.mem_of_getElem? (i := 225) rfl)))
  obtain ⟨ea, ec, ecell, ek, q1, q2, q3, q4, q5, q6, q7⟩ := Cond.exactly_spec (args := #[Value.ref b]) (first := s) (o := none) (s := s) (idx := []) (t := (.static "java/util/ArrayList" "DEFAULTCAPACITY_EMPTY_ELEMENTDATA" "[Ljava/lang/Object;")) (cls := "[Ljava/lang/Object;") (hgw _ (List.mem_of_getElem? (i := 0) rfl))
  obtain ⟨et, r1, r2⟩ := va_Tof (s := s) (args := #[Value.ref b]) (tm := (.static "java/util/ArrayList" "DEFAULTCAPACITY_EMPTY_ELEMENTDATA" "[Ljava/lang/Object;")) (ty := .object "java/lang/Object") (N := 0) (f := fun _ => .null) (A := fun q : Nat => s.heap.size ≤ q) (by decide) (hgw _ (List.mem_of_getElem? (i := 1) rfl)) (va_eqt (hgw _ (List.mem_of_getElem? (i := 2) rfl))) (fun j hj => absurd hj (Nat.not_lt_zero _)) hAn
  have hea : et = ea := by have := r1.symm.trans q1; cases this; rfl
  subst hea
  obtain ⟨mi, hmi⟩ := va_Mi.of (C := "[Ljava/lang/Object;") (hgw _ (List.mem_of_getElem? (i := 3) rfl))
  have hZe := va_Zof (args := #[Value.ref b]) (hts _ (zt_m1 (List.mem_of_getElem? (i := 57) rfl))) (hts _ (zt_m1 (List.mem_of_getElem? (i := 4) rfl))) r1 hAn
  have hU := vx_Zqof (args := #[Value.ref b]) (A := fun q : Nat => s.heap.size ≤ q) (hts _ (zt_m2 (List.mem_of_getElem? (i := 0) rfl))) (hts _ (zt_m1 (List.mem_of_getElem? (i := 8) rfl))) (hgw _ (List.mem_of_getElem? (i := 4) rfl)) hAn
  have hS := vx_Zqof (args := #[Value.ref b]) (A := fun q : Nat => s.heap.size ≤ q) (hts _ (zt_m2 (List.mem_of_getElem? (i := 2) rfl))) (hts _ (zt_m1 (List.mem_of_getElem? (i := 8) rfl))) (hgw _ (List.mem_of_getElem? (i := 5) rfl)) hAn
  have hSi := va_Zqof (args := #[Value.ref b]) (A := fun q : Nat => s.heap.size ≤ q) (hts _ (zt_m4 (List.mem_of_getElem? (i := 166) rfl))) (hts _ (zt_m1 (List.mem_of_getElem? (i := 23) rfl))) (hgw _ (List.mem_of_getElem? (i := 6) rfl)) hAn
  have hCs := va_Zof (args := #[Value.ref b]) (A := fun q : Nat => s.heap.size ≤ q) (hts _ (zt_m4 (List.mem_of_getElem? (i := 95) rfl))) (hts _ (zt_m1 (List.mem_of_getElem? (i := 21) rfl))) (va_eqt (hgw _ (List.mem_of_getElem? (i := 7) rfl))) hAn
  have hCast : ∀ C ∈ zF, va_Nw (.castable C "java/lang/Object") s := (List.forall_mem_cons.mpr ⟨va_Nw.of rfl (hts _ (zt_m7 (List.mem_of_getElem? (i := 14) rfl))), (List.forall_mem_cons.mpr ⟨va_Nw.of rfl (hts _ (zt_m7 (List.mem_of_getElem? (i := 21) rfl))), (List.forall_mem_cons.mpr ⟨va_Nw.of rfl (hts _ (zt_m7 (List.mem_of_getElem? (i := 8) rfl))), (List.forall_mem_cons.mpr ⟨va_Nw.of rfl (hts _ (zt_m7 (List.mem_of_getElem? (i := 9) rfl))), (List.forall_mem_cons.mpr ⟨va_Nw.of rfl (hts _ (zt_m7 (List.mem_of_getElem? (i := 13) rfl))), (List.forall_mem_cons.mpr ⟨va_Nw.of rfl (hts _ (zt_m7 (List.mem_of_getElem? (i := 10) rfl))), (List.forall_mem_cons.mpr ⟨va_Nw.of rfl (hts _ (zt_m7 (List.mem_of_getElem? (i := 22) rfl))), (List.forall_mem_cons.mpr ⟨va_Nw.of rfl (hts _ (zt_m7 (List.mem_of_getElem? (i := 20) rfl))), (List.forall_mem_cons.mpr ⟨va_Nw.of rfl (hts _ (zt_m7 (List.mem_of_getElem? (i := 6) rfl))), (List.forall_mem_cons.mpr ⟨va_Nw.of rfl (hts _ (zt_m7 (List.mem_of_getElem? (i := 7) rfl))), (fun _ h => absurd h List.not_mem_nil)⟩)⟩)⟩)⟩)⟩)⟩)⟩)⟩)⟩)⟩)
  have hFn : ∀ x ∈ zFn, va_Nw (.methodLinkNest x.1 x.2.1 x.2.2 RX8) s := (List.forall_mem_cons.mpr ⟨va_Nw.of rfl (hts _ (zt_m1 (List.mem_of_getElem? (i := 72) rfl))), (List.forall_mem_cons.mpr ⟨va_Nw.of rfl (hts _ (zt_m1 (List.mem_of_getElem? (i := 80) rfl))), (List.forall_mem_cons.mpr ⟨va_Nw.of rfl (hts _ (zt_m1 (List.mem_of_getElem? (i := 131) rfl))), (fun _ h => absurd h List.not_mem_nil)⟩)⟩)⟩)
  have hStr : ∀ x ∈ zStr, ∃ a, vk_R RX8 x.1 x.2 a s := (List.forall_mem_cons.mpr ⟨vkr_of (A := #[Value.ref b]) (hts _ (zt_m3 (List.mem_of_getElem? (i := 180) rfl))) (hgw _ (List.mem_of_getElem? (i := 8) rfl)), (List.forall_mem_cons.mpr ⟨vkr_of (A := #[Value.ref b]) (hts _ (zt_m3 (List.mem_of_getElem? (i := 196) rfl))) (hgw _ (List.mem_of_getElem? (i := 9) rfl)), (List.forall_mem_cons.mpr ⟨vkr_of (A := #[Value.ref b]) (hts _ (zt_m4 (List.mem_of_getElem? (i := 63) rfl))) (hgw _ (List.mem_of_getElem? (i := 10) rfl)), (List.forall_mem_cons.mpr ⟨vkr_of (A := #[Value.ref b]) (hts _ (zt_m4 (List.mem_of_getElem? (i := 64) rfl))) (hgw _ (List.mem_of_getElem? (i := 11) rfl)), (List.forall_mem_cons.mpr ⟨vkr_of (A := #[Value.ref b]) (hts _ (zt_m4 (List.mem_of_getElem? (i := 66) rfl))) (hgw _ (List.mem_of_getElem? (i := 12) rfl)), (List.forall_mem_cons.mpr ⟨vkr_of (A := #[Value.ref b]) (hts _ (zt_m4 (List.mem_of_getElem? (i := 67) rfl))) (hgw _ (List.mem_of_getElem? (i := 13) rfl)), (List.forall_mem_cons.mpr ⟨vkr_of (A := #[Value.ref b]) (hts _ (zt_m5 (List.mem_of_getElem? (i := 101) rfl))) (hgw _ (List.mem_of_getElem? (i := 14) rfl)), (List.forall_mem_cons.mpr ⟨vkr_of (A := #[Value.ref b]) (hts _ (zt_m6 (List.mem_of_getElem? (i := 8) rfl))) (hgw _ (List.mem_of_getElem? (i := 15) rfl)), (List.forall_mem_cons.mpr ⟨vkr_of (A := #[Value.ref b]) (hts _ (zt_m6 (List.mem_of_getElem? (i := 21) rfl))) (hgw _ (List.mem_of_getElem? (i := 16) rfl)), (List.forall_mem_cons.mpr ⟨vkr_of (A := #[Value.ref b]) (hts _ (zt_m5 (List.mem_of_getElem? (i := 223) rfl))) (hgw _ (List.mem_of_getElem? (i := 17) rfl)), (List.forall_mem_cons.mpr ⟨vkr_of (A := #[Value.ref b]) (hts _ (zt_m6 (List.mem_of_getElem? (i := 190) rfl))) (hgw _ (List.mem_of_getElem? (i := 18) rfl)), (List.forall_mem_cons.mpr ⟨vkr_of (A := #[Value.ref b]) (hts _ (zt_m6 (List.mem_of_getElem? (i := 191) rfl))) (hgw _ (List.mem_of_getElem? (i := 19) rfl)), (List.forall_mem_cons.mpr ⟨vkr_of (A := #[Value.ref b]) (hts _ (zt_m2 (List.mem_of_getElem? (i := 72) rfl))) (hgw _ (List.mem_of_getElem? (i := 20) rfl)), (List.forall_mem_cons.mpr ⟨vkr_of (A := #[Value.ref b]) (hts _ (zt_m6 (List.mem_of_getElem? (i := 84) rfl))) (hgw _ (List.mem_of_getElem? (i := 21) rfl)), (List.forall_mem_cons.mpr ⟨vkr_of (A := #[Value.ref b]) (hts _ (zt_m5 (List.mem_of_getElem? (i := 86) rfl))) (hgw _ (List.mem_of_getElem? (i := 22) rfl)), (List.forall_mem_cons.mpr ⟨vkr_of (A := #[Value.ref b]) (hts _ (zt_m2 (List.mem_of_getElem? (i := 18) rfl))) (hgw _ (List.mem_of_getElem? (i := 23) rfl)), (fun _ h => absurd h List.not_mem_nil)⟩)⟩)⟩)⟩)⟩)⟩)⟩)⟩)⟩)⟩)⟩)⟩)⟩)⟩)⟩)⟩)
  have hXc : ∀ C ∈ zXc, va_Nw (.castable C C) s := (List.forall_mem_cons.mpr ⟨va_Nw.of rfl (hts _ (zt_m1 (List.mem_of_getElem? (i := 215) rfl))), (List.forall_mem_cons.mpr ⟨va_Nw.of rfl (hts _ (zt_m2 (List.mem_of_getElem? (i := 65) rfl))), (List.forall_mem_cons.mpr ⟨va_Nw.of rfl (hts _ (zt_m3 (List.mem_of_getElem? (i := 189) rfl))), (fun _ h => absurd h List.not_mem_nil)⟩)⟩)⟩)
  have hXn : ∀ x ∈ zXn, va_Nc x.1 x.2 s := (List.forall_mem_cons.mpr ⟨va_Nc.of (args := #[Value.ref b]) (hgw _ (List.mem_of_getElem? (i := 24) rfl)), (List.forall_mem_cons.mpr ⟨va_Nc.of (args := #[Value.ref b]) (hgw _ (List.mem_of_getElem? (i := 25) rfl)), (List.forall_mem_cons.mpr ⟨va_Nc.of (args := #[Value.ref b]) (hgw _ (List.mem_of_getElem? (i := 26) rfl)), (List.forall_mem_cons.mpr ⟨va_Nc.of (args := #[Value.ref b]) (hgw _ (List.mem_of_getElem? (i := 27) rfl)), (List.forall_mem_cons.mpr ⟨va_Nc.of (args := #[Value.ref b]) (hgw _ (List.mem_of_getElem? (i := 28) rfl)), (fun _ h => absurd h List.not_mem_nil)⟩)⟩)⟩)⟩)⟩)
  have hXd : ∀ x ∈ zXd, va_Nw (.declares x) s := (List.forall_mem_cons.mpr ⟨va_Nw.of rfl (hts _ (zt_m1 (List.mem_of_getElem? (i := 217) rfl))), (List.forall_mem_cons.mpr ⟨va_Nw.of rfl (hts _ (zt_m1 (List.mem_of_getElem? (i := 219) rfl))), (List.forall_mem_cons.mpr ⟨va_Nw.of rfl (hts _ (zt_m1 (List.mem_of_getElem? (i := 221) rfl))), (fun _ h => absurd h List.not_mem_nil)⟩)⟩)⟩)
  have hDc : va_Dc s := va_Dc.of (hts _ (zt_m7 (List.mem_of_getElem? (i := 28) rfl)))
  obtain ⟨kK0, kV0, kS0, kE0⟩ := vk_Sof (s := s) (args := #[Value.ref b]) (N := 1) (tm := fun _ => (.string "LayertreatyLaw" 172)) (len := [5]) (byt := [[113, 115, 114, 101, 97]]) (A := fun q : Nat => s.heap.size ≤ q) (fun i hi => by
    obtain rfl : i = 0 := by omega
    decide) (fun i hi => (hgw _ (List.mem_of_getElem? (i := 34) rfl))) (fun i hi => (hgw _ (List.mem_of_getElem? (i := 35) rfl))) (fun i hi => (hgw _ (List.mem_of_getElem? (i := 36) rfl))) (fun i hi => by
    obtain rfl : i = 0 := by omega
    exact (hgw _ (List.mem_of_getElem? (i := 37) rfl))) (fun i hi j hj => by
    obtain rfl : i = 0 := by omega
    have hj : j < 5 := hj
    have hc : j = 0 ∨ j = 1 ∨ j = 2 ∨ j = 3 ∨ j = 4 := by omega
    rcases hc with rfl | rfl | rfl | rfl | rfl
    · exact (hgw _ (List.mem_of_getElem? (i := 29) rfl))
    · exact (hgw _ (List.mem_of_getElem? (i := 30) rfl))
    · exact (hgw _ (List.mem_of_getElem? (i := 31) rfl))
    · exact (hgw _ (List.mem_of_getElem? (i := 32) rfl))
    · exact (hgw _ (List.mem_of_getElem? (i := 33) rfl))) (fun i j hi hj hne => absurd (by omega) hne) hAn
  have hR0 : vk_R "LayertreatyLaw" 172 "qsrea" (kK0 0) s := vk_R.of (A := #[Value.ref b]) (hts _ (zt_m6 (List.mem_of_getElem? (i := 234) rfl))) (kE0 0 (by decide))
  obtain ⟨kK1, kV1, kS1, kE1⟩ := vk_Sof (s := s) (args := #[Value.ref b]) (N := 1) (tm := fun _ => (.string "LayertreatyLaw" 180)) (len := [3]) (byt := [[111, 97, 99]]) (A := fun q : Nat => s.heap.size ≤ q) (fun i hi => by
    obtain rfl : i = 0 := by omega
    decide) (fun i hi => (hgw _ (List.mem_of_getElem? (i := 41) rfl))) (fun i hi => (hgw _ (List.mem_of_getElem? (i := 42) rfl))) (fun i hi => (hgw _ (List.mem_of_getElem? (i := 43) rfl))) (fun i hi => by
    obtain rfl : i = 0 := by omega
    exact (hgw _ (List.mem_of_getElem? (i := 44) rfl))) (fun i hi j hj => by
    obtain rfl : i = 0 := by omega
    have hj : j < 3 := hj
    have hc : j = 0 ∨ j = 1 ∨ j = 2 := by omega
    rcases hc with rfl | rfl | rfl
    · exact (hgw _ (List.mem_of_getElem? (i := 38) rfl))
    · exact (hgw _ (List.mem_of_getElem? (i := 39) rfl))
    · exact (hgw _ (List.mem_of_getElem? (i := 40) rfl))) (fun i j hi hj hne => absurd (by omega) hne) hAn
  have hR1 : vk_R "LayertreatyLaw" 180 "oac" (kK1 0) s := vk_R.of (A := #[Value.ref b]) (hts _ (zt_m6 (List.mem_of_getElem? (i := 235) rfl))) (kE1 0 (by decide))
  have hTx : vk_S 2 zTl zTb (fun i => if i = 0 then kK0 0 else kK1 0) (fun i => if i = 0 then kV0 0 else kV1 0) (fun q : Nat => s.heap.size ≤ q) s s.heap := by
    have y0 := kS0.1 0 (by decide)
    have y1 := kS1.1 0 (by decide)
    have hne : kK0 0 ≠ kK1 0 := fun e9 => by
      have z1 := y1.2.2.1
      rw [← e9] at z1
      have z2 := of_ne y0.2.2.1 z1
      obtain ⟨cell, u1, u2, u3, u4, u5, u6⟩ := y0.2.2.2
      obtain ⟨cell', v1, v2, v3, v4, v5, v6⟩ := y1.2.2.2
      have z3 : kV0 0 = kV1 0 := Value.ref.inj z2
      rw [← z3] at v1
      have z4 := u1.symm.trans v1
      cases z4
      have z5 := u5.symm.trans v5
      exact absurd z5 (by decide)
    refine ⟨fun i hi => ?_, fun i j hi hj e9 => ?_⟩
    · have hc : i = 0 ∨ i = 1 := by omega
      rcases hc with rfl | rfl
      · exact y0
      · exact y1
    · have hc : i = 0 ∨ i = 1 := by omega
      have hc2 : j = 0 ∨ j = 1 := by omega
      rcases hc with rfl | rfl <;> rcases hc2 with rfl | rfl
      · rfl
      · exact absurd e9 hne
      · exact absurd e9.symm hne
      · rfl
  refine ⟨(l, (fun q : Nat => s.heap.size ≤ q), ((fun k => if k = 0 then c0 else if k = 1 then c1 else if k = 2 then c2 else if k = 3 then c3 else if k = 4 then c4 else if k = 5 then c5 else if k = 6 then c6 else if k = 7 then c7 else if k = 8 then c8 else c9), (fun k => if k = 0 then iS0 else if k = 1 then iS1 else if k = 2 then iS2 else if k = 3 then iS3 else if k = 4 then iS4 else if k = 5 then iS5 else if k = 6 then iS6 else if k = 7 then iS7 else if k = 8 then iS8 else iS9)), (fun k => if k = 0 then a0 else if k = 1 then a1 else if k = 2 then a2 else a3), (fun k => if k = 0 then et else mi)), _, _, ⟨hx, hb, hml, hown, hz, ?_, hlocks, hr, fun _ h => h, rfl, rfl⟩, ⟨hX, hbl, hAn b hbl⟩, ⟨hTx, hCs, hSi⟩, hR0, hR1, rfl⟩
  refine ⟨⟨fun k q hq => ?_, fun k q hq => ?_⟩, ?_, hU, hS, hCast, va_AO.of (hts _ (zt_m2 (List.mem_of_getElem? (i := 225) rfl))), hFn, hStr, hZe, r2, hAn _ (Array.getElem?_eq_some_iff.mp q3).1, hmi, hDc, hXc, hXn, hXd⟩
  · match k, hq with
    | 0, hq => cases hq; exact hKn0
    | 1, hq => cases hq; exact hKn1
    | 2, hq => cases hq; exact hKn2
    | 3, hq => cases hq; exact hKn3
    | 4, hq => cases hq; exact hKn4
    | 5, hq => cases hq; exact hKn5
    | 6, hq => cases hq; exact hKn6
    | 7, hq => cases hq; exact hKn7
    | 8, hq => cases hq; exact hKn8
    | 9, hq => cases hq; exact hKn9
    | k + 10, hq => exact absurd hq (by intro h; cases h)
  · match k, hq with
    | 0, hq => cases hq; exact ⟨fun n z => ⟨fun k h => (by cases h), kA0, g20, cm0, g30⟩, g10⟩
    | 1, hq => cases hq; exact ⟨fun n z => ⟨fun k h => (by cases h), kA1, g21, cm1, g31⟩, g11⟩
    | 2, hq => cases hq; exact ⟨fun n z => ⟨fun k h => (by cases h), kA2, g22, cm2, g32⟩, g12⟩
    | 3, hq => cases hq; exact ⟨fun n z => ⟨fun k h => (by cases h), kA3, h33, cm3, h34⟩, kA3, cm3, h33, h34, h31, h35⟩
    | k + 4, hq => exact absurd hq (by intro h; cases h)
  · show (!l.flags.contains noTraceFlag) = false
    rw [hflags]
    decide +kernel
