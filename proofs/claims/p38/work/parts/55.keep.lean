/-! calls that keep a cell o of the caller's own -/
def zGo (G : zG) (o : Nat) : zG := (G.1, (fun q => gA G q ∧ q ≠ o), G.2.2)
theorem va_Z.mono {C n d : String} {v : Value} {A A' : Nat → Prop} {U : State} {H : Heap} (hA : ∀ q, A' q → A q) (h : va_Z C n d v A U H) : va_Z C n d v A' U H := by
  obtain ⟨cf, kf, fi, f, a, cell, h1, h2, h3, h4, h5, h6, h7, h8⟩ := h
  exact ⟨cf, kf, fi, f, a, cell, h1, h2, h3, h4, h5, h6, h7, fun z => h8 (hA a z)⟩
theorem vx_Zq.mono {C n d : String} {A A' : Nat → Prop} {U : State} {H : Heap} (hA : ∀ q, A' q → A q) (h : vx_Zq C n d A U H) : vx_Zq C n d A' U H := by
  obtain ⟨h, c, k, i, f, a, cell, h1, h2, h3, h4, h5, h6, h7, h8, h9, h10⟩ := h
  refine ⟨?_, c, k, i, f, a, cell, h1, h2, h3, h4, h5, h6, h7, h8, h9, fun z => h10 (hA a z)⟩
  rcases h with h | ⟨t, h⟩
  · exact Or.inl (va_Z.mono hA h)
  · exact Or.inr ⟨t, va_Z.mono hA h⟩
theorem zN.go {G : zG} {U : State} (o : Nat) (h : zN G U) : zN (zGo G o) U := by
  obtain ⟨h1, h2, h3, h4, h5, h6, h7, h8, h9, h10, h11, h12, h13⟩ := h
  have hA : ∀ q, gA (zGo G o) q → gA G q := fun q z => z.1
  exact ⟨h1, h2, vx_Zq.mono hA h3, vx_Zq.mono hA h4, h5, h6, h7, h8, va_Z.mono hA h9, va_T.narrow h10 hA, fun z => h11 z.1, h12, h13⟩
theorem zct_go {G : zG} {o : Nat} {ad : Nat → Nat → Nat} {aa : Nat → Nat} {σ : zSt} (kd ix : Nat) : zct (zGo G o) ad aa σ kd ix = zct G ad aa σ kd ix := rfl
/-- a picture is one of a smaller world, where o isn't its own -/
theorem zP.go {G : zG} {o : Nat} {ad : Nat → Nat → Nat} {σ : zSt} {H : Heap} (ho : H.size ≤ o) (h : zP G ad σ H) : zP (zGo G o) ad σ H := by
  obtain ⟨aa, h⟩ := h
  refine ⟨aa, fun kd ix hl => ?_, h.2⟩
  have h1 := h.1 kd ix hl
  rw [zct_go]
  refine ⟨h1.1, h1.2, fun q => ?_⟩
  have h9 : zadr ad aa kd ix < H.size := h1.1.lt
  omega
section ZGO
variable {G : zG} {X : zX} {cc : ByteArray} {own : String} {nL : Nat} {ret : Option FieldType} {rm : Room} {P : Heap → Prop} {k n pc : Nat} {lo : List (Nat × Value)} {st : List Value}
theorem zi_callVg (K : zK G X cc own nL ret rm) {y : MethodName} {bytes : ByteArray} {maxL fr lc mc ms idx : Nat} {r' : Option FieldType} {As : List Value} {b : Nat} {P' : Heap → Prop} {rv : Option Value} {Qp : Heap → Prop} {stk : List Value} {na : Nat} (st nst : List Value)
    (o : Nat) (hM : zC (zGo G o) y bytes maxL r' fr lc mc ms (.ref b :: As) P' rv Qp) (hd : decode cc pc = .ok (.invokevirtual idx, 3)) (w1 : Cond.methodLink own idx y ∈ zB) (w2 : Cond.instanceMethod y ∈ zB) (w3 : Cond.selects y.cls y y ∈ zB) (w4 : Cond.initialized y.cls ∈ zB) (w5 : Cond.code y bytes maxL r' ∈ zB)
    (hy : y.cls ≠ "java/lang/invoke/MethodHandle" ∧ y.cls ≠ "java/lang/invoke/VarHandle" ∧ (parseMethodDescriptor y.desc).map (fun d => d.parameters.length) = some na) (hna : As.length = na) (hrv : ∀ H, P H → ∃ cell : Cell, H[b]? = some cell ∧ cell.vm.isStatics = false ∧ (xs X).vm.findClass y.cls = some cell.cls) (hP' : ∀ H, P H → P' H ∧ o < H.size)
    (hR : fr + 1 ≤ rm.frames ∧ 8 + (maxL + 11) + lc ≤ rm.locals) (hc : k + mc ≤ rm.cells ∧ n + ms ≤ rm.slots) (hst : (st.map fun v => v.category).sum ≤ 8) (hs : stk = As.reverse ++ .ref b :: st) (hns : rv.toList ++ st = nst)
    (kk : zV G X nL (fun H1 => Qp H1 ∧ ∃ H, P H ∧ H1[o]? = H[o]? ∧ H.size ≤ H1.size) (k + mc) (n + ms) (pc + 3) lo nst) : zV G X nL P k n pc lo stk := fun H locs ls hP hS hL => by
  obtain ⟨h1, h2, h3, h4, h5, h6, h7, h8, h9, h10, h11⟩ := K
  subst hs
  subst hns
  subst hna
  rw [← h10] at hR hc
  unfold zC at hM
  rw [show (zGo G o).1 = G.1 from rfl, ← h11] at hM
  have hcb : CallB (xR X) (xs X) (xa X) own idx y bytes maxL r' (.code y bytes maxL r' :: zB) { frames := fr, cells := mc, slots := ms, locals := lc } mc ms As.length := callB_of As.length h5 (zb_goodIn w5) rfl rfl rfl (h5 _ w4) (h5 _ w1) hy hR
  have hbl : FrameBlind (va_Pc (.ref b :: As) (fun U => P' U.heap ∧ zN (zGo G o) U ∧ ∀ q, U.heap.size ≤ q → gA (zGo G o) q)) := fun a U g mk q => ⟨q.1, q.2.1, zN.same (U := U.calling g mk a) rfl rfl q.2.2.1, q.2.2.2⟩
  have hpre : ∀ U : State, U.heap = H → (xs X).WarmedH U.vm → va_Pc (.ref b :: As) (fun U => P' U.heap ∧ zN (zGo G o) U ∧ ∀ q, U.heap.size ≤ q → gA (zGo G o) q) (.ref b :: As).toArray U := fun U hU hW => ⟨rfl, by rw [hU]; exact (hP' H hP).1, (zN.warm hW (fun a g1 g2 => by rw [hU]; exact hS.2.1 a g1 g2) h6).go o, fun q hq => ⟨h9 q (Nat.le_trans hS.1 (by rw [hU] at hq; exact hq)), fun z => by have := (hP' H hP).2; rw [hU] at hq; omega⟩⟩
  have hr := va_runV (C := y.cls) (b := b) (As := As) (rest := st) (g := F0 (xm X) pc ls (As.reverse ++ .ref b :: st)) (H := H) (locs := locs) (cells := k) (slots := n) (p := xp X) (l := xl X) (e := xe X) (below := xb X) (meth := xh X) ⟨h1, h2, h3, h4, h5⟩ hM ⟨hcb, h5 _ w2, h5 _ w3⟩ ⟨hbl, hrv H hP, hpre⟩ rfl rfl (hL.1.trans rfl) rfl (lv_room hst) hd hc
  intro T hT Y
  obtain ⟨v, st₀, t, T', L, h0, X', hL', e1, e2, ⟨⟨hv, hq⟩, hz, hk⟩, stp⟩ := hr T hT Y
  cases hv
  rw [h0] at hz hk
  obtain ⟨t2, a1, b1⟩ := kk T'.heap (locs ++ L) ls (by rw [e1]; exact ⟨hq, H, hP, hk o (hP' H hP).2 (fun z => z.2 rfl), hz⟩)
    ⟨Nat.le_trans hS.1 (by rw [e1]; exact hz), fun q g1 g2 => by rw [e1, hk q (Nat.lt_of_lt_of_le g1 hS.1) (fun z => g2 z.1)]; exact hS.2.1 q g1 g2, fun q hq => by
      rcases List.mem_append.mp hq with h | h
      · exact hS.2.2 q h
      · exact (hL' q h).1⟩ hL T' rfl X'
  exact ⟨t2, stp t2 a1, b1⟩
theorem zi_callSg (K : zK G X cc own nL ret rm) {y : MethodName} {bytes : ByteArray} {maxL fr lc mc ms idx : Nat} {r' : Option FieldType} {As : List Value} {P' : Heap → Prop} {rv : Option Value} {Qp : Heap → Prop} {stk : List Value} {na : Nat} (st nst : List Value)
    (o : Nat) (hM : zC (zGo G o) y bytes maxL r' fr lc mc ms As P' rv Qp) (hd : decode cc pc = .ok (.invokestatic idx, 3)) (w1 : Cond.methodLink own idx y ∈ zB) (w2 : Cond.static y ∈ zB) (w4 : Cond.initialized y.cls ∈ zB) (w5 : Cond.code y bytes maxL r' ∈ zB)
    (hy : y.cls ≠ "java/lang/invoke/MethodHandle" ∧ y.cls ≠ "java/lang/invoke/VarHandle" ∧ (parseMethodDescriptor y.desc).map (fun d => d.parameters.length) = some na) (hna : As.length = na) (hP' : ∀ H, P H → P' H ∧ o < H.size)
    (hR : fr + 1 ≤ rm.frames ∧ 8 + (maxL + 11) + lc ≤ rm.locals) (hc : k + mc ≤ rm.cells ∧ n + ms ≤ rm.slots) (hst : (st.map fun v => v.category).sum ≤ 8) (hs : stk = As.reverse ++ st) (hns : rv.toList ++ st = nst)
    (kk : zV G X nL (fun H1 => Qp H1 ∧ ∃ H, P H ∧ H1[o]? = H[o]? ∧ H.size ≤ H1.size) (k + mc) (n + ms) (pc + 3) lo nst) : zV G X nL P k n pc lo stk := fun H locs ls hP hS hL => by
  obtain ⟨h1, h2, h3, h4, h5, h6, h7, h8, h9, h10, h11⟩ := K
  subst hs
  subst hns
  subst hna
  rw [← h10] at hR hc
  unfold zC at hM
  rw [show (zGo G o).1 = G.1 from rfl, ← h11] at hM
  have hcb : CallB (xR X) (xs X) (xa X) own idx y bytes maxL r' (.code y bytes maxL r' :: zB) { frames := fr, cells := mc, slots := ms, locals := lc } mc ms As.length := callB_of As.length h5 (zb_goodIn w5) rfl rfl rfl (h5 _ w4) (h5 _ w1) hy hR
  have hbl : FrameBlind (va_Pc As (fun U => P' U.heap ∧ zN (zGo G o) U ∧ ∀ q, U.heap.size ≤ q → gA (zGo G o) q)) := fun a U g mk q => ⟨q.1, q.2.1, zN.same (U := U.calling g mk a) rfl rfl q.2.2.1, q.2.2.2⟩
  have hpre : ∀ U : State, U.heap = H → (xs X).WarmedH U.vm → va_Pc As (fun U => P' U.heap ∧ zN (zGo G o) U ∧ ∀ q, U.heap.size ≤ q → gA (zGo G o) q) As.toArray U := fun U hU hW => ⟨rfl, by rw [hU]; exact (hP' H hP).1, (zN.warm hW (fun a g1 g2 => by rw [hU]; exact hS.2.1 a g1 g2) h6).go o, fun q hq => ⟨h9 q (Nat.le_trans hS.1 (by rw [hU] at hq; exact hq)), fun z => by have := (hP' H hP).2; rw [hU] at hq; omega⟩⟩
  have hr := va_runS (As := As) (rest := st) (g := F0 (xm X) pc ls (As.reverse ++ st)) (H := H) (locs := locs) (cells := k) (slots := n) (p := xp X) (l := xl X) (e := xe X) (below := xb X) (meth := xh X) ⟨h1, h2, h3, h4, h5⟩ hM ⟨hcb, h5 _ w2⟩ ⟨hbl, hpre⟩ rfl rfl (hL.1.trans rfl) rfl (lv_room hst) hd hc
  intro T hT Y
  obtain ⟨v, st₀, t, T', L, h0, X', hL', e1, e2, ⟨⟨hv, hq⟩, hz, hk⟩, stp⟩ := hr T hT Y
  cases hv
  rw [h0] at hz hk
  obtain ⟨t2, a1, b1⟩ := kk T'.heap (locs ++ L) ls (by rw [e1]; exact ⟨hq, H, hP, hk o (hP' H hP).2 (fun z => z.2 rfl), hz⟩)
    ⟨Nat.le_trans hS.1 (by rw [e1]; exact hz), fun q g1 g2 => by rw [e1, hk q (Nat.lt_of_lt_of_le g1 hS.1) (fun z => g2 z.1)]; exact hS.2.1 q g1 g2, fun q hq => by
      rcases List.mem_append.mp hq with h | h
      · exact hS.2.2 q h
      · exact (hL' q h).1⟩ hL T' rfl X'
  exact ⟨t2, stp t2 a1, b1⟩
theorem zi_callSWg (K : zK G X cc own nL ret rm) {y : MethodName} {bytes : ByteArray} {maxL fr lc mc ms idx : Nat} {r' : Option FieldType} {hh : List (Nat × Nat × Nat × Nat)} {As : List Value} {P' : Heap → Prop} {rv : Option Value} {Qp : Heap → Prop} {stk : List Value} {na : Nat} (st nst : List Value)
    (o : Nat) (hM : zCW (zGo G o) y bytes maxL r' hh fr lc mc ms As P' rv Qp) (hd : decode cc pc = .ok (.invokestatic idx, 3)) (w1 : Cond.methodLink own idx y ∈ zB) (w2 : Cond.static y ∈ zB) (w4 : Cond.initialized y.cls ∈ zB) (w5 : Cond.codeWith y bytes maxL r' hh ∈ zB)
    (hy : y.cls ≠ "java/lang/invoke/MethodHandle" ∧ y.cls ≠ "java/lang/invoke/VarHandle" ∧ (parseMethodDescriptor y.desc).map (fun d => d.parameters.length) = some na) (hna : As.length = na) (hP' : ∀ H, P H → P' H ∧ o < H.size)
    (hR : fr + 1 ≤ rm.frames ∧ 8 + (maxL + 11) + lc ≤ rm.locals) (hc : k + mc ≤ rm.cells ∧ n + ms ≤ rm.slots) (hst : (st.map fun v => v.category).sum ≤ 8) (hs : stk = As.reverse ++ st) (hns : rv.toList ++ st = nst)
    (kk : zV G X nL (fun H1 => Qp H1 ∧ ∃ H, P H ∧ H1[o]? = H[o]? ∧ H.size ≤ H1.size) (k + mc) (n + ms) (pc + 3) lo nst) : zV G X nL P k n pc lo stk := fun H locs ls hP hS hL => by
  obtain ⟨h1, h2, h3, h4, h5, h6, h7, h8, h9, h10, h11⟩ := K
  subst hs
  subst hns
  subst hna
  rw [← h10] at hR hc
  unfold zCW at hM
  rw [show (zGo G o).1 = G.1 from rfl, ← h11] at hM
  have hcb : vx_CSW (xR X) (xs X) (xa X) own idx y bytes maxL r' hh (.codeWith y bytes maxL r' hh :: zB) { frames := fr, cells := mc, slots := ms, locals := lc } mc ms As.length := by
    refine ⟨⟨rfl, rfl, hR.1, hR.2, pay_in h5 (zb_goodIn w5), List.mem_cons_self⟩, h5 _ w5, h5 _ w4, ⟨hy.1, hy.2.1⟩, fun sig h => ?_, h5 _ w1, h5 _ w2⟩
    have h2 := hy.2.2
    rw [h] at h2
    exact (Option.some.inj h2).symm
  have hbl : FrameBlind (va_Pc As (fun U => P' U.heap ∧ zN (zGo G o) U ∧ ∀ q, U.heap.size ≤ q → gA (zGo G o) q)) := fun a U g mk q => ⟨q.1, q.2.1, zN.same (U := U.calling g mk a) rfl rfl q.2.2.1, q.2.2.2⟩
  have hpre : ∀ U : State, U.heap = H → (xs X).WarmedH U.vm → va_Pc As (fun U => P' U.heap ∧ zN (zGo G o) U ∧ ∀ q, U.heap.size ≤ q → gA (zGo G o) q) As.toArray U := fun U hU hW => ⟨rfl, by rw [hU]; exact (hP' H hP).1, (zN.warm hW (fun a g1 g2 => by rw [hU]; exact hS.2.1 a g1 g2) h6).go o, fun q hq => ⟨h9 q (Nat.le_trans hS.1 (by rw [hU] at hq; exact hq)), fun z => by have := (hP' H hP).2; rw [hU] at hq; omega⟩⟩
  have hr := vx_runSW (As := As) (rest := st) (g := F0 (xm X) pc ls (As.reverse ++ st)) (H := H) (locs := locs) (cells := k) (slots := n) (p := xp X) (l := xl X) (e := xe X) (below := xb X) (meth := xh X) ⟨h1, h2, h3, h4, h5⟩ hM hcb ⟨hbl, hpre⟩ rfl rfl (hL.1.trans rfl) rfl (lv_room hst) hd hc
  intro T hT Y
  obtain ⟨v, st₀, t, T', L, h0, X', hL', e1, e2, ⟨⟨hv, hq⟩, hz, hk⟩, stp⟩ := hr T hT Y
  cases hv
  rw [h0] at hz hk
  obtain ⟨t2, a1, b1⟩ := kk T'.heap (locs ++ L) ls (by rw [e1]; exact ⟨hq, H, hP, hk o (hP' H hP).2 (fun z => z.2 rfl), hz⟩)
    ⟨Nat.le_trans hS.1 (by rw [e1]; exact hz), fun q g1 g2 => by rw [e1, hk q (Nat.lt_of_lt_of_le g1 hS.1) (fun z => g2 z.1)]; exact hS.2.1 q g1 g2, fun q hq => by
      rcases List.mem_append.mp hq with h | h
      · exact hS.2.2 q h
      · exact (hL' q h).1⟩ hL T' rfl X'
  exact ⟨t2, stp t2 a1, b1⟩
end ZGO
