/-! calls that throw: on to the caller, or into a handler -/
section ZTC
variable {G : zG} {X : zX} {cc : ByteArray} {own : String} {nL : Nat} {ret : Option FieldType} {rm : Room} {P : Heap → Prop} {k n pc : Nat} {lo : List (Nat × Value)} {st : List Value} {E : String}
theorem zi_callVXo (K : zK G X cc own nL ret rm) {mc0 ms0 : Nat} {Qp : Heap → Prop} (hx : zXT G X mc0 ms0 E Qp) {y : MethodName} {bytes : ByteArray} {maxL fr lc mc ms idx : Nat} {r' : Option FieldType} {As : List Value} {b : Nat} {P' : Heap → Prop} {Qp' : Heap → Prop} {stk : List Value} {na : Nat} (st : List Value)
    (hM : zCX G y bytes maxL r' fr lc mc ms (.ref b :: As) P' E Qp') (hd : decode cc pc = .ok (.invokevirtual idx, 3)) (w1 : Cond.methodLink own idx y ∈ zB) (w2 : Cond.instanceMethod y ∈ zB) (w3 : Cond.selects y.cls y y ∈ zB) (w4 : Cond.initialized y.cls ∈ zB) (w5 : Cond.code y bytes maxL r' ∈ zB)
    (hy : y.cls ≠ "java/lang/invoke/MethodHandle" ∧ y.cls ≠ "java/lang/invoke/VarHandle" ∧ (parseMethodDescriptor y.desc).map (fun d => d.parameters.length) = some na) (hna : As.length = na) (hrv : ∀ H, P H → ∃ cell : Cell, H[b]? = some cell ∧ cell.vm.isStatics = false ∧ (xs X).vm.findClass y.cls = some cell.cls) (hP' : ∀ H, P H → P' H)
    (hR : fr + 1 ≤ rm.frames ∧ 8 + (maxL + 11) + lc ≤ rm.locals) (hc : k + mc ≤ rm.cells ∧ n + ms ≤ rm.slots) (hst : (st.map fun v => v.category).sum ≤ 8) (hs : stk = As.reverse ++ .ref b :: st)
    (hQ : ∀ H, Qp' H → Qp H) (hm : rm.cells ≤ mc0 ∧ rm.slots ≤ ms0) : zV G X nL P k n pc lo stk := fun H locs ls hP hS hL => by
  obtain ⟨hxq, hxt⟩ := hx
  obtain ⟨h1, h2, h3, h4, h5, h6, h7, h8, h9, h10, h11⟩ := K
  subst hs
  subst hna
  rw [← h10] at hR hc hm
  unfold zCX at hM
  rw [← h11] at hM
  have hcb : CallB (xR X) (xs X) (xa X) own idx y bytes maxL r' (.code y bytes maxL r' :: zB) { frames := fr, cells := mc, slots := ms, locals := lc } mc ms As.length := callB_of As.length h5 (zb_goodIn w5) rfl rfl rfl (h5 _ w4) (h5 _ w1) hy hR
  have hbl : FrameBlind (va_Pc (.ref b :: As) (fun U => P' U.heap ∧ zN G U ∧ ∀ q, U.heap.size ≤ q → gA G q)) := fun a U g mk q => ⟨q.1, q.2.1, zN.same (U := U.calling g mk a) rfl rfl q.2.2.1, q.2.2.2⟩
  have hpre : ∀ U : State, U.heap = H → (xs X).WarmedH U.vm → va_Pc (.ref b :: As) (fun U => P' U.heap ∧ zN G U ∧ ∀ q, U.heap.size ≤ q → gA G q) (.ref b :: As).toArray U := fun U hU hW => ⟨rfl, by rw [hU]; exact hP' H hP, zN.warm hW (fun a g1 g2 => by rw [hU]; exact hS.2.1 a g1 g2) h6, fun q hq => h9 q (Nat.le_trans hS.1 (by rw [hU] at hq; exact hq))⟩
  have hr := vx_runV (C := y.cls) (b := b) (As := As) (rest := st) (g := F0 (xm X) pc ls (As.reverse ++ .ref b :: st)) (H := H) (locs := locs) (cells := k) (slots := n) (p := xp X) (l := xl X) (e := xe X) (below := xb X) (meth := xh X) ⟨h1, h2, h3, h4, h5⟩ hM ⟨hcb, h5 _ w2, h5 _ w3⟩ ⟨hbl, hrv H hP, hpre⟩ rfl rfl (hL.1.trans rfl) rfl (lv_room hst) hd hc
  intro T hT Y
  rcases hr T hT Y with ⟨v, st₀, t, T', L, h0, X', hL', e1, e2, hF, stp⟩ | ⟨q, st₀, t, T', L, E', ce, h0, X', hL', e1, e2, ⟨⟨hE, hq⟩, hz, hk⟩, hce, hcv, hcl, stp⟩
  · exact hF.elim
  · subst hE
    rw [h0] at hz hk
    have hS2 : va_S (gA G) (xs X).heap T'.heap (locs ++ L) := ⟨Nat.le_trans hS.1 (by rw [e1]; exact hz), fun q g1 g2 => by rw [e1, hk q (Nat.lt_of_lt_of_le g1 hS.1) g2]; exact hS.2.1 q g1 g2, fun q hq => by
      rcases List.mem_append.mp hq with h | h
      · exact hS.2.2 q h
      · exact hL' q h⟩
    rw [hxq]
    obtain ⟨t2, a1, b1⟩ := (vx_out (Qc := fun _ _ _ _ => False) (XC := zXC G E' Qp) (free := gA G) (ls := ls) (rest := st) (pc := pc) (E := E') (ce := ce) (q := q) (p := xp X) (l := xl X) (e := xe X) (m := xm X) (below := xb X) (fun x hx => (hxt x hx).elim) h7 (by rw [e1]; exact hce) hcv hcl (fun t9 hT9 hA => ⟨⟨rfl, hQ _ (by rw [hT9, e1]; exact hq)⟩, by rw [hT9]; exact hS2.1, fun x g1 g2 => by rw [hT9]; exact hS2.2.1 x g1 g2⟩) hS2.2.2 (Nat.le_trans hc.1 hm.1) (Nat.le_trans hc.2 hm.2)) T' rfl X'
    exact ⟨t2, stp.trans a1, b1⟩
theorem zi_callSXo (K : zK G X cc own nL ret rm) {mc0 ms0 : Nat} {Qp : Heap → Prop} (hx : zXT G X mc0 ms0 E Qp) {y : MethodName} {bytes : ByteArray} {maxL fr lc mc ms idx : Nat} {r' : Option FieldType} {As : List Value} {P' : Heap → Prop} {Qp' : Heap → Prop} {stk : List Value} {na : Nat} (st : List Value)
    (hM : zCX G y bytes maxL r' fr lc mc ms As P' E Qp') (hd : decode cc pc = .ok (.invokestatic idx, 3)) (w1 : Cond.methodLink own idx y ∈ zB) (w2 : Cond.static y ∈ zB) (w4 : Cond.initialized y.cls ∈ zB) (w5 : Cond.code y bytes maxL r' ∈ zB)
    (hy : y.cls ≠ "java/lang/invoke/MethodHandle" ∧ y.cls ≠ "java/lang/invoke/VarHandle" ∧ (parseMethodDescriptor y.desc).map (fun d => d.parameters.length) = some na) (hna : As.length = na) (hP' : ∀ H, P H → P' H)
    (hR : fr + 1 ≤ rm.frames ∧ 8 + (maxL + 11) + lc ≤ rm.locals) (hc : k + mc ≤ rm.cells ∧ n + ms ≤ rm.slots) (hst : (st.map fun v => v.category).sum ≤ 8) (hs : stk = As.reverse ++ st)
    (hQ : ∀ H, Qp' H → Qp H) (hm : rm.cells ≤ mc0 ∧ rm.slots ≤ ms0) : zV G X nL P k n pc lo stk := fun H locs ls hP hS hL => by
  obtain ⟨hxq, hxt⟩ := hx
  obtain ⟨h1, h2, h3, h4, h5, h6, h7, h8, h9, h10, h11⟩ := K
  subst hs
  subst hna
  rw [← h10] at hR hc hm
  unfold zCX at hM
  rw [← h11] at hM
  have hcb : CallB (xR X) (xs X) (xa X) own idx y bytes maxL r' (.code y bytes maxL r' :: zB) { frames := fr, cells := mc, slots := ms, locals := lc } mc ms As.length := callB_of As.length h5 (zb_goodIn w5) rfl rfl rfl (h5 _ w4) (h5 _ w1) hy hR
  have hbl : FrameBlind (va_Pc As (fun U => P' U.heap ∧ zN G U ∧ ∀ q, U.heap.size ≤ q → gA G q)) := fun a U g mk q => ⟨q.1, q.2.1, zN.same (U := U.calling g mk a) rfl rfl q.2.2.1, q.2.2.2⟩
  have hpre : ∀ U : State, U.heap = H → (xs X).WarmedH U.vm → va_Pc As (fun U => P' U.heap ∧ zN G U ∧ ∀ q, U.heap.size ≤ q → gA G q) As.toArray U := fun U hU hW => ⟨rfl, by rw [hU]; exact hP' H hP, zN.warm hW (fun a g1 g2 => by rw [hU]; exact hS.2.1 a g1 g2) h6, fun q hq => h9 q (Nat.le_trans hS.1 (by rw [hU] at hq; exact hq))⟩
  have hr := vx_runS (As := As) (rest := st) (g := F0 (xm X) pc ls (As.reverse ++ st)) (H := H) (locs := locs) (cells := k) (slots := n) (p := xp X) (l := xl X) (e := xe X) (below := xb X) (meth := xh X) ⟨h1, h2, h3, h4, h5⟩ hM ⟨hcb, h5 _ w2⟩ ⟨hbl, hpre⟩ rfl rfl (hL.1.trans rfl) rfl (lv_room hst) hd hc
  intro T hT Y
  rcases hr T hT Y with ⟨v, st₀, t, T', L, h0, X', hL', e1, e2, hF, stp⟩ | ⟨q, st₀, t, T', L, E', ce, h0, X', hL', e1, e2, ⟨⟨hE, hq⟩, hz, hk⟩, hce, hcv, hcl, stp⟩
  · exact hF.elim
  · subst hE
    rw [h0] at hz hk
    have hS2 : va_S (gA G) (xs X).heap T'.heap (locs ++ L) := ⟨Nat.le_trans hS.1 (by rw [e1]; exact hz), fun q g1 g2 => by rw [e1, hk q (Nat.lt_of_lt_of_le g1 hS.1) g2]; exact hS.2.1 q g1 g2, fun q hq => by
      rcases List.mem_append.mp hq with h | h
      · exact hS.2.2 q h
      · exact hL' q h⟩
    rw [hxq]
    obtain ⟨t2, a1, b1⟩ := (vx_out (Qc := fun _ _ _ _ => False) (XC := zXC G E' Qp) (free := gA G) (ls := ls) (rest := st) (pc := pc) (E := E') (ce := ce) (q := q) (p := xp X) (l := xl X) (e := xe X) (m := xm X) (below := xb X) (fun x hx => (hxt x hx).elim) h7 (by rw [e1]; exact hce) hcv hcl (fun t9 hT9 hA => ⟨⟨rfl, hQ _ (by rw [hT9, e1]; exact hq)⟩, by rw [hT9]; exact hS2.1, fun x g1 g2 => by rw [hT9]; exact hS2.2.1 x g1 g2⟩) hS2.2.2 (Nat.le_trans hc.1 hm.1) (Nat.le_trans hc.2 hm.2)) T' rfl X'
    exact ⟨t2, stp.trans a1, b1⟩
theorem zi_callVXc (K : zK G X cc own nL ret rm) {hh : List (Nat × Nat × Nat × Nat)} (htab : (xc X).exceptionTable.toList = tableOf hh) {y : MethodName} {bytes : ByteArray} {maxL fr lc mc ms idx : Nat} {r' : Option FieldType} {As : List Value} {b : Nat} {P' : Heap → Prop} {Qp' : Heap → Prop} {stk : List Value} {na : Nat} (st : List Value)
    (hM : zCX G y bytes maxL r' fr lc mc ms (.ref b :: As) P' E Qp') (hd : decode cc pc = .ok (.invokevirtual idx, 3)) (w1 : Cond.methodLink own idx y ∈ zB) (w2 : Cond.instanceMethod y ∈ zB) (w3 : Cond.selects y.cls y y ∈ zB) (w4 : Cond.initialized y.cls ∈ zB) (w5 : Cond.code y bytes maxL r' ∈ zB)
    (hy : y.cls ≠ "java/lang/invoke/MethodHandle" ∧ y.cls ≠ "java/lang/invoke/VarHandle" ∧ (parseMethodDescriptor y.desc).map (fun d => d.parameters.length) = some na) (hna : As.length = na) (hrv : ∀ H, P H → ∃ cell : Cell, H[b]? = some cell ∧ cell.vm.isStatics = false ∧ (xs X).vm.findClass y.cls = some cell.cls) (hP' : ∀ H, P H → P' H)
    (hR : fr + 1 ≤ rm.frames ∧ 8 + (maxL + 11) + lc ≤ rm.locals) (hc : k + mc ≤ rm.cells ∧ n + ms ≤ rm.slots) (hst : (st.map fun v => v.category).sum ≤ 8) (hs : stk = As.reverse ++ .ref b :: st)
    (pre : List ExceptionTableEntry) (x : ExceptionTableEntry) (suf : List ExceptionTableEntry) (hsplit : tableOf hh = pre ++ x :: suf) (hpass : ∀ z ∈ pre, z.catchType ≠ 0 ∧ ∃ nm : String, Cond.classLink own z.catchType nm ∈ zB ∧ (E, nm) ∈ zXn) (hxc : covers x pc = true) (hx0 : x.catchType ≠ 0) (hlink : Cond.classLink own x.catchType E ∈ zB) (hE : E ∈ zXc) (kk : ∀ q, zV G X nL Qp' (k + mc) (n + ms) x.handlerPc lo [.ref q]) : zV G X nL P k n pc lo stk := fun H locs ls hP hS hL => by
  obtain ⟨h1, h2, h3, h4, h5, h6, h7, h8, h9, h10, h11⟩ := K
  subst hs
  subst hna
  rw [← h10] at hR hc
  unfold zCX at hM
  rw [← h11] at hM
  have hcb : CallB (xR X) (xs X) (xa X) own idx y bytes maxL r' (.code y bytes maxL r' :: zB) { frames := fr, cells := mc, slots := ms, locals := lc } mc ms As.length := callB_of As.length h5 (zb_goodIn w5) rfl rfl rfl (h5 _ w4) (h5 _ w1) hy hR
  have hbl : FrameBlind (va_Pc (.ref b :: As) (fun U => P' U.heap ∧ zN G U ∧ ∀ q, U.heap.size ≤ q → gA G q)) := fun a U g mk q => ⟨q.1, q.2.1, zN.same (U := U.calling g mk a) rfl rfl q.2.2.1, q.2.2.2⟩
  have hpre : ∀ U : State, U.heap = H → (xs X).WarmedH U.vm → va_Pc (.ref b :: As) (fun U => P' U.heap ∧ zN G U ∧ ∀ q, U.heap.size ≤ q → gA G q) (.ref b :: As).toArray U := fun U hU hW => ⟨rfl, by rw [hU]; exact hP' H hP, zN.warm hW (fun a g1 g2 => by rw [hU]; exact hS.2.1 a g1 g2) h6, fun q hq => h9 q (Nat.le_trans hS.1 (by rw [hU] at hq; exact hq))⟩
  have hr := vx_runV (C := y.cls) (b := b) (As := As) (rest := st) (g := F0 (xm X) pc ls (As.reverse ++ .ref b :: st)) (H := H) (locs := locs) (cells := k) (slots := n) (p := xp X) (l := xl X) (e := xe X) (below := xb X) (meth := xh X) ⟨h1, h2, h3, h4, h5⟩ hM ⟨hcb, h5 _ w2, h5 _ w3⟩ ⟨hbl, hrv H hP, hpre⟩ rfl rfl (hL.1.trans rfl) rfl (lv_room hst) hd hc
  intro T hT Y
  rcases hr T hT Y with ⟨v, st₀, t, T', L, h0, X', hL', e1, e2, hF, stp⟩ | ⟨q, st₀, t, T', L, E', ce, h0, X', hL', e1, e2, ⟨⟨hE, hq⟩, hz, hk⟩, hce, hcv, hcl, stp⟩
  · exact hF.elim
  · subst hE
    rw [h0] at hz hk
    have hS2 : va_S (gA G) (xs X).heap T'.heap (locs ++ L) := ⟨Nat.le_trans hS.1 (by rw [e1]; exact hz), fun q g1 g2 => by rw [e1, hk q (Nat.lt_of_lt_of_le g1 hS.1) g2]; exact hS.2.1 q g1 g2, fun q hq => by
      rcases List.mem_append.mp hq with h | h
      · exact hS.2.2 q h
      · exact hL' q h⟩
    obtain ⟨t2, a1, b1⟩ := (vx_catch (ls := ls) (rest := st) (pc := pc) (ce := ce) (q := q) (p := xp X) (l := xl X) (e := xe X) (m := xm X) (below := xb X) (meth := xh X) h4 pre x suf (htab.trans hsplit) (fun z hz => Or.inr ⟨(hpass z hz).1, (hpass z hz).2.elim fun nm g => ⟨nm, h5 _ g.1, h6.2.2.2.2.2.2.2.2.2.2.2.2.2.2.1 _ g.2⟩⟩) hxc hx0 (h5 _ hlink) (va_Nw.use rfl (h6.2.2.2.2.2.2.2.2.2.2.2.2.2.1 _ hE)) (by rw [e1]; exact hce) hcv hcl (kk q T'.heap (locs ++ L) ls (by rw [e1]; exact hq) hS2 hL)) T' rfl X'
    exact ⟨t2, stp.trans a1, b1⟩
/-- a method with handlers that answers -/
def zCW (G : zG) (y : MethodName) (cc : ByteArray) (maxL : Nat) (ret : Option FieldType) (hh : List (Nat × Nat × Nat × Nat)) (fr lc mc ms : Nat) (av : List Value) (P : Heap → Prop) (rv : Option Value) (Qp : Heap → Prop) : Prop :=
  Met G.1 y (.codeWith y cc maxL ret hh :: zB) { frames := fr, cells := mc, slots := ms, locals := lc } (va_Pc av (fun U => P U.heap ∧ zN G U ∧ ∀ q, U.heap.size ≤ q → gA G q)) (fun _ st o t => (o = .returned rv ∧ Qp t.heap) ∧ va_F (gA G) st t) mc ms (gA G)
theorem zCW_of {y : MethodName} {hh : List (Nat × Nat × Nat × Nat)} {maxL fr lc mc ms : Nat} {av : List Value} {rv : Option Value} {Qp : Heap → Prop} (hy : plainName y.cls = true) (hlen : (lg_sl av).length ≤ maxL)
    (body : ∀ X : zX, zK G X cc y.cls maxL ret { frames := fr, cells := mc, slots := ms, locals := lc } → zE G X mc ms rv Qp → (xc X).exceptionTable.toList = tableOf hh → zV G X maxL P 0 0 0 (lv_args 0 av) []) : zCW G y cc maxL ret hh fr lc mc ms av P rv Qp := by
  unfold zCW
  refine MetFree.of_bodyS (code := cc) (maxLocals := maxL) (ret := ret) hy ?_ ?_
  · intro args s m h hn
    obtain ⟨m9, meth, c, hn9, h1, h2, h3, h4, -, h5, h6, -⟩ := Cond.codeWith_spec (atoms_spec (ws := .codeWith y cc maxL ret hh :: zB) h _ List.mem_cons_self)
    cases hn.symm.trans hn9
    exact ⟨meth, c, h1, h2, h3, h4, h5, h6⟩
  · intro p e s m args below meth c s₁ B hml hv _
    have hts := atoms_spec (ws := .codeWith y cc maxL ret hh :: zB) B.pre
    have hh0 : s₁.heap = s.heap := by rw [B.state]; rfl
    obtain ⟨rfl, hP, hN, hA⟩ := hv
    have hl := lv_entry av (n := maxL) hlen
    have K := body (p, G.1, e, { frames := fr, cells := mc, slots := ms, locals := lc }, s, m, av.toArray, below, meth, c, MQ below (fun _ st o t => (o = .returned rv ∧ Qp t.heap) ∧ va_F (gA G) st t) av.toArray s mc ms (gA G))
      ⟨B.exec, B.bytes, hml, findClass_of_methodNamed B.named, fun w hw => hts w (List.mem_cons_of_mem _ hw), hN, B.notSynchronized, B.returns, hA, rfl, rfl⟩ (fun _ _ _ h => h) (vx_table (x := y) B (hts _ List.mem_cons_self)) s.heap [] _ hP va_S.rf hl
    rw [← lg_entry_eq] at K
    obtain ⟨t, a1, o, b1, b2, b3⟩ := K s₁ hh0 (Stand.of_body B)
    exact ⟨t, o, a1, b1, b2, b3.1, b3.2⟩
theorem zi_callSW (K : zK G X cc own nL ret rm) {y : MethodName} {bytes : ByteArray} {maxL fr lc mc ms idx : Nat} {r' : Option FieldType} {hh : List (Nat × Nat × Nat × Nat)} {As : List Value} {P' : Heap → Prop} {rv : Option Value} {Qp : Heap → Prop} {stk : List Value} {na : Nat} (st nst : List Value)
    (hM : zCW G y bytes maxL r' hh fr lc mc ms As P' rv Qp) (hd : decode cc pc = .ok (.invokestatic idx, 3)) (w1 : Cond.methodLink own idx y ∈ zB) (w2 : Cond.static y ∈ zB) (w4 : Cond.initialized y.cls ∈ zB) (w5 : Cond.codeWith y bytes maxL r' hh ∈ zB)
    (hy : y.cls ≠ "java/lang/invoke/MethodHandle" ∧ y.cls ≠ "java/lang/invoke/VarHandle" ∧ (parseMethodDescriptor y.desc).map (fun d => d.parameters.length) = some na) (hna : As.length = na) (hP' : ∀ H, P H → P' H)
    (hR : fr + 1 ≤ rm.frames ∧ 8 + (maxL + 11) + lc ≤ rm.locals) (hc : k + mc ≤ rm.cells ∧ n + ms ≤ rm.slots) (hst : (st.map fun v => v.category).sum ≤ 8) (hs : stk = As.reverse ++ st) (hns : rv.toList ++ st = nst)
    (kk : zV G X nL Qp (k + mc) (n + ms) (pc + 3) lo nst) : zV G X nL P k n pc lo stk := fun H locs ls hP hS hL => by
  obtain ⟨h1, h2, h3, h4, h5, h6, h7, h8, h9, h10, h11⟩ := K
  subst hs
  subst hns
  subst hna
  rw [← h10] at hR hc
  unfold zCW at hM
  rw [← h11] at hM
  have hcb : vx_CSW (xR X) (xs X) (xa X) own idx y bytes maxL r' hh (.codeWith y bytes maxL r' hh :: zB) { frames := fr, cells := mc, slots := ms, locals := lc } mc ms As.length := by
    refine ⟨⟨rfl, rfl, hR.1, hR.2, pay_in h5 (zb_goodIn w5), List.mem_cons_self⟩, h5 _ w5, h5 _ w4, ⟨hy.1, hy.2.1⟩, fun sig h => ?_, h5 _ w1, h5 _ w2⟩
    have h2 := hy.2.2
    rw [h] at h2
    exact (Option.some.inj h2).symm
  have hbl : FrameBlind (va_Pc As (fun U => P' U.heap ∧ zN G U ∧ ∀ q, U.heap.size ≤ q → gA G q)) := fun a U g mk q => ⟨q.1, q.2.1, zN.same (U := U.calling g mk a) rfl rfl q.2.2.1, q.2.2.2⟩
  have hpre : ∀ U : State, U.heap = H → (xs X).WarmedH U.vm → va_Pc As (fun U => P' U.heap ∧ zN G U ∧ ∀ q, U.heap.size ≤ q → gA G q) As.toArray U := fun U hU hW => ⟨rfl, by rw [hU]; exact hP' H hP, zN.warm hW (fun a g1 g2 => by rw [hU]; exact hS.2.1 a g1 g2) h6, fun q hq => h9 q (Nat.le_trans hS.1 (by rw [hU] at hq; exact hq))⟩
  have hr := vx_runSW (As := As) (rest := st) (g := F0 (xm X) pc ls (As.reverse ++ st)) (H := H) (locs := locs) (cells := k) (slots := n) (p := xp X) (l := xl X) (e := xe X) (below := xb X) (meth := xh X) ⟨h1, h2, h3, h4, h5⟩ hM hcb ⟨hbl, hpre⟩ rfl rfl (hL.1.trans rfl) rfl (lv_room hst) hd hc
  intro T hT Y
  obtain ⟨v, st₀, t, T', L, h0, X', hL', e1, e2, ⟨⟨hv, hq⟩, hz, hk⟩, stp⟩ := hr T hT Y
  cases hv
  rw [h0] at hz hk
  obtain ⟨t2, a1, b1⟩ := kk T'.heap (locs ++ L) ls (by rw [e1]; exact hq)
    ⟨Nat.le_trans hS.1 (by rw [e1]; exact hz), fun q g1 g2 => by rw [e1, hk q (Nat.lt_of_lt_of_le g1 hS.1) g2]; exact hS.2.1 q g1 g2, fun q hq => by
      rcases List.mem_append.mp hq with h | h
      · exact hS.2.2 q h
      · exact hL' q h⟩ hL T' rfl X'
  exact ⟨t2, stp t2 a1, b1⟩
end ZTC
