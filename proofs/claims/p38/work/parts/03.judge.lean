/-! the judgement zV: the walk of a body, over a picture P of the heap -/
abbrev zX : Type := Program × Launch × Env × Room × State × MethodId × Array Value × List Frame × Method × Code × (State → Prop)
abbrev zG : Type := Launch × (Nat → Prop) × va_G × (Nat → ClassId) × (Nat → Nat)
abbrev xp (X : zX) := X.1
abbrev xl (X : zX) := X.2.1
abbrev xe (X : zX) := X.2.2.1
abbrev xR (X : zX) := X.2.2.2.1
abbrev xs (X : zX) := X.2.2.2.2.1
abbrev xm (X : zX) := X.2.2.2.2.2.1
abbrev xa (X : zX) := X.2.2.2.2.2.2.1
abbrev xb (X : zX) := X.2.2.2.2.2.2.2.1
abbrev xh (X : zX) := X.2.2.2.2.2.2.2.2.1
abbrev xc (X : zX) := X.2.2.2.2.2.2.2.2.2.1
abbrev xQ (X : zX) := X.2.2.2.2.2.2.2.2.2.2
abbrev gA (G : zG) := G.2.1
def zty (dA : Nat → ClassId) : List (ClassId × FieldType) := [(dA 0, .int), (dA 1, .long), (dA 2, .boolean), (dA 3, .object "java/lang/Object")]
/-- the classes and array classes, as the tables have them; castable to Object, for stores into lists -/
def zF : List String := [RX0, RX1, RX2, RX3, RX4, RX5, RX6, RX7, RX8, RJx4a65c]
def zFn : List (String × Nat × MethodName) := [(RX8, 30, yX2_init), (RX2, 29, yX3_init), (RX8, 40, yX5_init)]
/-- what the law's handlers catch, what passes them -/
def zXc : List String := ["java/lang/IndexOutOfBoundsException", "java/lang/UnsupportedOperationException", "java/lang/IllegalStateException"]
def zXn : List (String × String) := [("java/lang/UnsupportedOperationException", "java/lang/IndexOutOfBoundsException"), ("java/lang/UnsupportedOperationException", "java/lang/IllegalArgumentException"), ("java/lang/IllegalStateException", "java/lang/IndexOutOfBoundsException"), ("java/lang/IllegalStateException", "java/lang/IllegalArgumentException"), ("java/lang/IllegalStateException", "java/lang/UnsupportedOperationException")]
def zXd : List MethodName := [⟨"java/lang/RuntimeException", "<init>", "(Ljava/lang/String;)V"⟩, ⟨"java/lang/Exception", "<init>", "(Ljava/lang/String;)V"⟩, ⟨"java/lang/Throwable", "<init>", "(Ljava/lang/String;)V"⟩]
def zStr : List (Nat × String) := [(60, "no such sum, zone or days"), (71, "no more policies"), (90, "no such policy"), (93, "no such days or amount"), (105, "not in force on this day"), (108, "no more losses"), (138, "no more treaties"), (200, "shares of more than 100"), (230, "commuted before"), (171, "neither r nor e"), (249, "a limit without end"), (251, "commuted"), (374, "no treaty with events"), (304, "no more scenarios"), (364, "no such loss"), (136, "no such treaty")]
def zN (G : zG) (U : State) : Prop := va_K G.2.2.1 zCl (zty G.2.2.2.1) U ∧ G.1.stackTraces = false ∧ vx_Zq Bundle.tN "UNASSIGNED_STACK" Bundle.steD (gA G) U U.heap ∧ vx_Zq Bundle.tN "SUPPRESSED_SENTINEL" Bundle.listD (gA G) U U.heap ∧
  (∀ C ∈ zF, va_Nw (.castable C "java/lang/Object") U) ∧ va_AO "java/lang/Object" U ∧ (∀ x ∈ zFn, va_Nw (.methodLinkNest x.1 x.2.1 x.2.2 RX8) U) ∧ (∀ x ∈ zStr, ∃ a, vk_R RX8 x.1 x.2 a U) ∧
  va_Z RJx4a65c "DEFAULTCAPACITY_EMPTY_ELEMENTDATA" "[Ljava/lang/Object;" (.ref (G.2.2.2.2 0)) (gA G) U U.heap ∧ va_T (.object "java/lang/Object") (G.2.2.2.2 0) 0 (fun _ => .null) (gA G) U U.heap ∧ ¬ gA G (G.2.2.2.2 0) ∧ va_Mi "[Ljava/lang/Object;" (G.2.2.2.2 1) U ∧ (va_Dc U ∧ (∀ C ∈ zXc, va_Nw (.castable C C) U) ∧ (∀ x ∈ zXn, va_Nc x.1 x.2 U) ∧ ∀ x ∈ zXd, va_Nw (.declares x) U)
theorem zN.warm {G : zG} {s U : State} (hW : s.WarmedH U.vm) (hq : ∀ a : Nat, a < s.heap.size → ¬ gA G a → U.heap[a]? = s.heap[a]?) (h : zN G s) : zN G U := by
  obtain ⟨h1, h2, h3, h4, h5, h6, h7, h8, h9, h10, h11, h12, h13⟩ := h
  refine ⟨va_K.moved hW.alike h1, h2, (vx_Zq.moved hW.alike h3).kept hq, (vx_Zq.moved hW.alike h4).kept hq, fun C hC => va_Nw.warmC hW (h5 C hC), va_AO.moved hW.alike h6, fun x hx => va_Nw.warmM hW (h7 x hx), fun x hx => ?_, (va_Z.moved hW.alike h9).kept hq, (va_T.moved hW.alike h10).kept hq, h11, va_Mi.moved hW.alike h12, va_Dc.moved hW.alike h13.1, fun C hC => va_Nw.warmC hW (h13.2.1 C hC), fun x hx => va_Nc.moved hW.alike (h13.2.2.1 x hx), fun x hx => va_Nw.warmD hW (h13.2.2.2 x hx)⟩
  · obtain ⟨a, ha⟩ := h8 x hx
    exact ⟨a, vk_R.warm hW ha⟩
theorem zN.same {G : zG} {u U : State} (hv : u.vm = U.vm) (hh : U.heap = u.heap) (h : zN G u) : zN G U := by
  obtain ⟨h1, h2, h3, h4, h5, h6, h7, h8, h9, h10, h11, h12, h13⟩ := h
  have hA : u.vm.Alike U.vm := by rw [hv]; exact Vm.Alike.refl _
  refine ⟨va_K.moved hA h1, h2, by rw [hh]; exact vx_Zq.moved hA h3, by rw [hh]; exact vx_Zq.moved hA h4, fun C hC => va_Nw.same rfl hv (h5 C hC), va_AO.moved hA h6, fun x hx => va_Nw.same rfl hv (h7 x hx), fun x hx => ?_, by rw [hh]; exact va_Z.moved hA h9, by rw [hh]; exact va_T.moved hA h10, h11, va_Mi.moved hA h12, va_Dc.moved hA h13.1, fun C hC => va_Nw.same rfl hv (h13.2.1 C hC), fun x hx => va_Nc.moved hA (h13.2.2.1 x hx), fun x hx => va_Nw.same rfl hv (h13.2.2.2 x hx)⟩
  obtain ⟨a, ha⟩ := h8 x hx
  exact ⟨a, vk_R.same hv.symm ha⟩
def zK (G : zG) (X : zX) (cc : ByteArray) (own : String) (nL : Nat) (ret : Option FieldType) (rm : Room) : Prop :=
  (xp X).tables.exec = Jvm.exec ∧ (xc X).code = cc ∧ (xc X).maxLocals = nL ∧ (xs X).vm.findClass own = some (xm X).cls ∧ (∀ w ∈ zB, w.before (xa X) (xs X) = true) ∧ zN G (xs X) ∧ (xh X).locks = false ∧ (xh X).sig.returnType = ret ∧ (∀ q, (xs X).heap.size ≤ q → gA G q) ∧ xR X = rm ∧ xl X = G.1
def zV (G : zG) (X : zX) (nL : Nat) (P : Heap → Prop) (k n : Nat) (pc : Nat) (lo : List (Nat × Value)) (st : List Value) : Prop :=
  ∀ (H : Heap) (locs : List Loc) (ls : Array Slot), P H → va_S (gA G) (xs X).heap H locs → lv_has ls nL lo → W (xp X) (xl X) (xe X) (xR X) (xs X) (xm X) (xa X) (xb X) (xh X) (xc X) H locs k n (xQ X) (F0 (xm X) pc ls st)
def zE (G : zG) (X : zX) (mc ms : Nat) (rv : Option Value) (Qp : Heap → Prop) : Prop :=
  ∀ (H : Heap) (locs : List Loc) (g : JFrame), W (xp X) (xl X) (xe X) (xR X) (xs X) (xm X) (xa X) (xb X) (xh X) (xc X) H locs mc ms (MQ (xb X) (fun _ st o t => (o = .returned rv ∧ Qp t.heap) ∧ va_F (gA G) st t) (xa X) (xs X) mc ms (gA G)) g → W (xp X) (xl X) (xe X) (xR X) (xs X) (xm X) (xa X) (xb X) (xh X) (xc X) H locs mc ms (xQ X) g
/-- a method's contract: from the picture P it answers rv and leaves Qp -/
def zC (G : zG) (y : MethodName) (cc : ByteArray) (maxL : Nat) (ret : Option FieldType) (fr lc mc ms : Nat) (av : List Value) (P : Heap → Prop) (rv : Option Value) (Qp : Heap → Prop) : Prop :=
  Met G.1 y (.code y cc maxL ret :: zB) { frames := fr, cells := mc, slots := ms, locals := lc } (va_Pc av (fun U => P U.heap ∧ zN G U ∧ ∀ q, U.heap.size ≤ q → gA G q)) (fun _ st o t => (o = .returned rv ∧ Qp t.heap) ∧ va_F (gA G) st t) mc ms (gA G)
section ZJ
variable {G : zG} {X : zX} {cc : ByteArray} {own : String} {nL : Nat} {ret : Option FieldType} {rm : Room} {P : Heap → Prop} {k n pc : Nat} {lo : List (Nat × Value)} {st : List Value}
theorem zC_of {y : MethodName} {maxL fr lc mc ms : Nat} {av : List Value} {rv : Option Value} {Qp : Heap → Prop} (hy : plainName y.cls = true) (hlen : (lg_sl av).length ≤ maxL)
    (body : ∀ X : zX, zK G X cc y.cls maxL ret { frames := fr, cells := mc, slots := ms, locals := lc } → zE G X mc ms rv Qp → (xh X).name = y.name → zV G X maxL P 0 0 0 (lv_args 0 av) []) : zC G y cc maxL ret fr lc mc ms av P rv Qp := by
  refine Met.ofW (cc := cc) (maxL := maxL) (ret := ret) hy rfl ?_
  intro p e s m args below meth c s₁ B hml hv
  obtain ⟨rfl, hP, hN, hA⟩ := hv
  have hts := atoms_spec (ws := .code y cc maxL ret :: zB) B.pre
  have hl := lv_entry av (n := maxL) hlen
  rw [lg_entry_eq]
  exact body (p, G.1, e, { frames := fr, cells := mc, slots := ms, locals := lc }, s, m, av.toArray, below, meth, c, MQ below (fun _ st o t => (o = .returned rv ∧ Qp t.heap) ∧ va_F (gA G) st t) av.toArray s mc ms (gA G))
    ⟨B.exec, B.bytes, hml, findClass_of_methodNamed B.named, fun w hw => hts w (List.mem_cons_of_mem _ hw), hN, B.notSynchronized, B.returns, hA, rfl, rfl⟩ (fun _ _ _ h => h) (name_of_methodNamed B.named B.method).1 s.heap [] _ hP va_S.rf hl
theorem zV.imp {P' : Heap → Prop} (h : ∀ H, P H → P' H) (kk : zV G X nL P' k n pc lo st) : zV G X nL P k n pc lo st := fun H locs ls hP hS hL => kk H locs ls (h H hP) hS hL
theorem zV.ex {α : Sort _} {F : α → Heap → Prop} (kk : ∀ a, zV G X nL (F a) k n pc lo st) : zV G X nL (fun H => ∃ a, F a H) k n pc lo st := fun H locs ls hP hS hL => by
  obtain ⟨a, ha⟩ := hP
  exact kk a H locs ls ha hS hL
theorem zV.and {R' : Prop} (kk : R' → zV G X nL P k n pc lo st) : zV G X nL (fun H => R' ∧ P H) k n pc lo st := fun H locs ls hP hS hL => kk hP.1 H locs ls hP.2 hS hL
theorem zV.pick (ks : List Nat) {lo' : List (Nat × Value)} (h : lv_pick lo ks = lo') (kk : zV G X nL P k n pc lo' st) : zV G X nL P k n pc lo st := fun H locs ls hP hS hL => kk H locs ls hP hS (lv_sub hL ks h)
theorem zV.wd {k' n' : Nat} (h1 : k ≤ k') (h2 : n ≤ n') (kk : zV G X nL P k' n' pc lo st) : zV G X nL P k n pc lo st := fun H locs ls hP hS hL => W.widen h1 h2 (kk H locs ls hP hS hL)
theorem zi_topi {x : Int32} (kk : ∀ y : Int32, y = x → zV G X nL P k n pc lo (.int y :: st)) : zV G X nL P k n pc lo (.int x :: st) := kk x rfl
theorem zi_topl {x : Int64} (kk : ∀ y : Int64, y = x → zV G X nL P k n pc lo (.long y :: st)) : zV G X nL P k n pc lo (.long x :: st) := kk x rfl
theorem zi_iconst (K : zK G X cc own nL ret rm) {v : Int} {x : Int32} (hd : decode cc pc = .ok (.iconst v, 1)) (hv : Int32.ofInt v = x) (kk : zV G X nL P k n (pc + 1) lo (.int x :: st)) : zV G X nL P k n pc lo st := fun H locs ls hP hS hL => lv_iconst K.1 K.2.1 hd hv (kk H locs ls hP hS hL)
theorem zi_bipush (K : zK G X cc own nL ret rm) {v : Int} {x : Int32} (hd : decode cc pc = .ok (.bipush v, 2)) (hv : (Int8.ofInt v).toInt32 = x) (kk : zV G X nL P k n (pc + 2) lo (.int x :: st)) : zV G X nL P k n pc lo st := fun H locs ls hP hS hL => lv_bipush K.1 K.2.1 hd hv (kk H locs ls hP hS hL)
theorem zi_sipush (K : zK G X cc own nL ret rm) {v : Int} {x : Int32} (hd : decode cc pc = .ok (.sipush v, 3)) (hv : (Int16.ofInt v).toInt32 = x) (kk : zV G X nL P k n (pc + 3) lo (.int x :: st)) : zV G X nL P k n pc lo st := fun H locs ls hP hS hL => lv_sipush K.1 K.2.1 hd hv (kk H locs ls hP hS hL)
theorem zi_lconst (K : zK G X cc own nL ret rm) {v : Fin 2} {x : Int64} (hd : decode cc pc = .ok (.lconst v, 1)) (hv : Int64.ofNat (v : Nat) = x) (kk : zV G X nL P k n (pc + 1) lo (.long x :: st)) : zV G X nL P k n pc lo st := fun H locs ls hP hS hL => lv_lconst K.1 K.2.1 hd hv (kk H locs ls hP hS hL)
theorem zi_iload_n (K : zK G X cc own nL ret rm) {j : Fin 4} {x : Int32} (hd : decode cc pc = .ok (.iload_n j, 1)) (p : Nat) (hl : lo[p]? = some ((j : Nat), .int x)) (kk : zV G X nL P k n (pc + 1) lo (.int x :: st)) : zV G X nL P k n pc lo st := fun H locs ls hP hS hL => lv_iload_n K.1 K.2.1 hd rfl (lv_at hL p hl) (kk H locs ls hP hS hL)
theorem zi_iload (K : zK G X cc own nL ret rm) {j : Nat} {x : Int32} (hd : decode cc pc = .ok (.iload j, 2)) (p : Nat) (hl : lo[p]? = some (j, .int x)) (kk : zV G X nL P k n (pc + 2) lo (.int x :: st)) : zV G X nL P k n pc lo st := fun H locs ls hP hS hL => lv_iload K.1 K.2.1 hd (lv_at hL p hl) (kk H locs ls hP hS hL)
theorem zi_lload_n (K : zK G X cc own nL ret rm) {j : Fin 4} {x : Int64} (hd : decode cc pc = .ok (.lload_n j, 1)) (p : Nat) (hl : lo[p]? = some ((j : Nat), .long x)) (kk : zV G X nL P k n (pc + 1) lo (.long x :: st)) : zV G X nL P k n pc lo st := fun H locs ls hP hS hL => lv_lload_n K.1 K.2.1 hd rfl (lv_at hL p hl) (kk H locs ls hP hS hL)
theorem zi_lload (K : zK G X cc own nL ret rm) {j : Nat} {x : Int64} (hd : decode cc pc = .ok (.lload j, 2)) (p : Nat) (hl : lo[p]? = some (j, .long x)) (kk : zV G X nL P k n (pc + 2) lo (.long x :: st)) : zV G X nL P k n pc lo st := fun H locs ls hP hS hL => lv_lload K.1 K.2.1 hd (lv_at hL p hl) (kk H locs ls hP hS hL)
theorem zi_aload_n (K : zK G X cc own nL ret rm) {j : Fin 4} {x : Nat} (hd : decode cc pc = .ok (.aload_n j, 1)) (p : Nat) (hl : lo[p]? = some ((j : Nat), .ref x)) (kk : zV G X nL P k n (pc + 1) lo (.ref x :: st)) : zV G X nL P k n pc lo st := fun H locs ls hP hS hL => lv_aload_n K.1 K.2.1 hd rfl (lv_at hL p hl) (kk H locs ls hP hS hL)
theorem zi_aload (K : zK G X cc own nL ret rm) {j : Nat} {x : Nat} (hd : decode cc pc = .ok (.aload j, 2)) (p : Nat) (hl : lo[p]? = some (j, .ref x)) (kk : zV G X nL P k n (pc + 2) lo (.ref x :: st)) : zV G X nL P k n pc lo st := fun H locs ls hP hS hL => lv_aload K.1 K.2.1 hd (lv_at hL p hl) (kk H locs ls hP hS hL)
theorem zi_istore_n (K : zK G X cc own nL ret rm) {j : Fin 4} {x : Int32} (lo' : List (Nat × Value)) (hd : decode cc pc = .ok (.istore_n j, 1)) (hn : (j : Nat) < nL) (hl : ((j : Nat), Value.int x) :: lo.filter (fun q => !(q.1 == (j : Nat)) && !(q.1 + 1 == (j : Nat) && q.2.category == 2)) = lo') (kk : zV G X nL P k n (pc + 1) lo' st) : zV G X nL P k n pc lo (.int x :: st) := fun H locs ls hP hS hL => lv_istore_n K.1 K.2.1 hd rfl hL hn hl (fun ls hL => kk H locs ls hP hS hL)
theorem zi_istore (K : zK G X cc own nL ret rm) {j : Nat} {x : Int32} (lo' : List (Nat × Value)) (hd : decode cc pc = .ok (.istore j, 2)) (hn : j < nL) (hl : (j, Value.int x) :: lo.filter (fun q => !(q.1 == j) && !(q.1 + 1 == j && q.2.category == 2)) = lo') (kk : zV G X nL P k n (pc + 2) lo' st) : zV G X nL P k n pc lo (.int x :: st) := fun H locs ls hP hS hL => lv_istore K.1 K.2.1 hd hL hn hl (fun ls hL => kk H locs ls hP hS hL)
theorem zi_lstore_n (K : zK G X cc own nL ret rm) {j : Fin 4} {x : Int64} (lo' : List (Nat × Value)) (hd : decode cc pc = .ok (.lstore_n j, 1)) (hn : (j : Nat) + 1 < nL) (hl : ((j : Nat), Value.long x) :: lo.filter (fun q => !(q.1 == (j : Nat)) && (!(q.1 == (j : Nat) + 1) && !(q.1 + 1 == (j : Nat) && q.2.category == 2))) = lo') (kk : zV G X nL P k n (pc + 1) lo' st) : zV G X nL P k n pc lo (.long x :: st) := fun H locs ls hP hS hL => lv_lstore_n K.1 K.2.1 hd rfl hL hn hl (fun ls hL => kk H locs ls hP hS hL)
theorem zi_lstore (K : zK G X cc own nL ret rm) {j : Nat} {x : Int64} (lo' : List (Nat × Value)) (hd : decode cc pc = .ok (.lstore j, 2)) (hn : j + 1 < nL) (hl : (j, Value.long x) :: lo.filter (fun q => !(q.1 == j) && (!(q.1 == j + 1) && !(q.1 + 1 == j && q.2.category == 2))) = lo') (kk : zV G X nL P k n (pc + 2) lo' st) : zV G X nL P k n pc lo (.long x :: st) := fun H locs ls hP hS hL => lv_lstore K.1 K.2.1 hd hL hn hl (fun ls hL => kk H locs ls hP hS hL)
theorem zi_astore_n (K : zK G X cc own nL ret rm) {j : Fin 4} {x : Nat} (lo' : List (Nat × Value)) (hd : decode cc pc = .ok (.astore_n j, 1)) (hn : (j : Nat) < nL) (hl : ((j : Nat), Value.ref x) :: lo.filter (fun q => !(q.1 == (j : Nat)) && !(q.1 + 1 == (j : Nat) && q.2.category == 2)) = lo') (kk : zV G X nL P k n (pc + 1) lo' st) : zV G X nL P k n pc lo (.ref x :: st) := fun H locs ls hP hS hL => lv_astore_n K.1 K.2.1 hd rfl hL hn hl (fun ls hL => kk H locs ls hP hS hL)
theorem zi_astore (K : zK G X cc own nL ret rm) {j : Nat} {x : Nat} (lo' : List (Nat × Value)) (hd : decode cc pc = .ok (.astore j, 2)) (hn : j < nL) (hl : (j, Value.ref x) :: lo.filter (fun q => !(q.1 == j) && !(q.1 + 1 == j && q.2.category == 2)) = lo') (kk : zV G X nL P k n (pc + 2) lo' st) : zV G X nL P k n pc lo (.ref x :: st) := fun H locs ls hP hS hL => lv_astore K.1 K.2.1 hd hL hn hl (fun ls hL => kk H locs ls hP hS hL)
theorem zi_iinc (K : zK G X cc own nL ret rm) {j : Nat} {i : Int} {x v : Int32} (lo' : List (Nat × Value)) (hd : decode cc pc = .ok (.iinc j i, 3)) (p : Nat) (hp : lo[p]? = some (j, .int x)) (hv : x + Int32.ofInt i = v) (hn : j < nL) (hl : (j, Value.int v) :: lo.filter (fun q => !(q.1 == j) && !(q.1 + 1 == j && q.2.category == 2)) = lo') (kk : zV G X nL P k n (pc + 3) lo' st) : zV G X nL P k n pc lo st := fun H locs ls hP hS hL => lv_iinc K.1 K.2.1 hd hL hp hv hn hl (fun ls hL => kk H locs ls hP hS hL)
theorem zi_iadd (K : zK G X cc own nL ret rm) {x y : Int32} (hd : decode cc pc = .ok (.iadd, 1)) (kk : zV G X nL P k n (pc + 1) lo (.int (x + y) :: st)) : zV G X nL P k n pc lo (.int y :: .int x :: st) := fun H locs ls hP hS hL => lv_iadd K.1 K.2.1 hd  (kk H locs ls hP hS hL)
theorem zi_isub (K : zK G X cc own nL ret rm) {x y : Int32} (hd : decode cc pc = .ok (.isub, 1)) (kk : zV G X nL P k n (pc + 1) lo (.int (x - y) :: st)) : zV G X nL P k n pc lo (.int y :: .int x :: st) := fun H locs ls hP hS hL => lv_isub K.1 K.2.1 hd  (kk H locs ls hP hS hL)
theorem zi_imul (K : zK G X cc own nL ret rm) {x y : Int32} (hd : decode cc pc = .ok (.imul, 1)) (kk : zV G X nL P k n (pc + 1) lo (.int (x * y) :: st)) : zV G X nL P k n pc lo (.int y :: .int x :: st) := fun H locs ls hP hS hL => lv_imul K.1 K.2.1 hd  (kk H locs ls hP hS hL)
theorem zi_iand (K : zK G X cc own nL ret rm) {x y : Int32} (hd : decode cc pc = .ok (.iand, 1)) (kk : zV G X nL P k n (pc + 1) lo (.int (x &&& y) :: st)) : zV G X nL P k n pc lo (.int y :: .int x :: st) := fun H locs ls hP hS hL => lv_iand K.1 K.2.1 hd  (kk H locs ls hP hS hL)
theorem zi_ior (K : zK G X cc own nL ret rm) {x y : Int32} (hd : decode cc pc = .ok (.ior, 1)) (kk : zV G X nL P k n (pc + 1) lo (.int (x ||| y) :: st)) : zV G X nL P k n pc lo (.int y :: .int x :: st) := fun H locs ls hP hS hL => lv_ior K.1 K.2.1 hd  (kk H locs ls hP hS hL)
theorem zi_ishl (K : zK G X cc own nL ret rm) {x y : Int32} (hd : decode cc pc = .ok (.ishl, 1)) (kk : zV G X nL P k n (pc + 1) lo (.int (x <<< (y &&& 31)) :: st)) : zV G X nL P k n pc lo (.int y :: .int x :: st) := fun H locs ls hP hS hL => lv_ishl K.1 K.2.1 hd  (kk H locs ls hP hS hL)
theorem zi_ishr (K : zK G X cc own nL ret rm) {x y : Int32} (hd : decode cc pc = .ok (.ishr, 1)) (kk : zV G X nL P k n (pc + 1) lo (.int (x >>> (y &&& 31)) :: st)) : zV G X nL P k n pc lo (.int y :: .int x :: st) := fun H locs ls hP hS hL => lv_ishr K.1 K.2.1 hd  (kk H locs ls hP hS hL)
theorem zi_irem (K : zK G X cc own nL ret rm) {x y : Int32} (hd : decode cc pc = .ok (.irem, 1)) (hne : ¬ y = 0) (kk : zV G X nL P k n (pc + 1) lo (.int (x - x / y * y) :: st)) : zV G X nL P k n pc lo (.int y :: .int x :: st) := fun H locs ls hP hS hL => lv_irem K.1 K.2.1 hd hne (kk H locs ls hP hS hL)
theorem zi_iushr (K : zK G X cc own nL ret rm) {x y v : Int32} (hd : decode cc pc = .ok (.iushr, 1)) (hv : (x.toUInt32 >>> (y.toUInt32 &&& Int32.toUInt32 31)).toInt32 = v) (kk : zV G X nL P k n (pc + 1) lo (.int v :: st)) : zV G X nL P k n pc lo (.int y :: .int x :: st) := fun H locs ls hP hS hL => lv_iushr K.1 K.2.1 hd hv (kk H locs ls hP hS hL)
theorem zi_ladd (K : zK G X cc own nL ret rm) {x y : Int64} (hd : decode cc pc = .ok (.ladd, 1)) (kk : zV G X nL P k n (pc + 1) lo (.long (x + y) :: st)) : zV G X nL P k n pc lo (.long y :: .long x :: st) := fun H locs ls hP hS hL => lv_ladd K.1 K.2.1 hd  (kk H locs ls hP hS hL)
theorem zi_lsub (K : zK G X cc own nL ret rm) {x y : Int64} (hd : decode cc pc = .ok (.lsub, 1)) (kk : zV G X nL P k n (pc + 1) lo (.long (x - y) :: st)) : zV G X nL P k n pc lo (.long y :: .long x :: st) := fun H locs ls hP hS hL => lv_lsub K.1 K.2.1 hd  (kk H locs ls hP hS hL)
theorem zi_lmul (K : zK G X cc own nL ret rm) {x y : Int64} (hd : decode cc pc = .ok (.lmul, 1)) (kk : zV G X nL P k n (pc + 1) lo (.long (x * y) :: st)) : zV G X nL P k n pc lo (.long y :: .long x :: st) := fun H locs ls hP hS hL => lv_lmul K.1 K.2.1 hd  (kk H locs ls hP hS hL)
theorem zi_ldiv (K : zK G X cc own nL ret rm) {x y : Int64} (hd : decode cc pc = .ok (.ldiv, 1)) (hne : ¬ y = 0) (kk : zV G X nL P k n (pc + 1) lo (.long (x / y) :: st)) : zV G X nL P k n pc lo (.long y :: .long x :: st) := fun H locs ls hP hS hL => lv_ldiv K.1 K.2.1 hd hne (kk H locs ls hP hS hL)
theorem zi_lcmp (K : zK G X cc own nL ret rm) {x y : Int64} (hd : decode cc pc = .ok (.lcmp, 1)) (kk : zV G X nL P k n (pc + 1) lo (.int (lg_cmp x y) :: st)) : zV G X nL P k n pc lo (.long y :: .long x :: st) := fun H locs ls hP hS hL => W.lcmp K.1 K.2.1 hd  (kk H locs ls hP hS hL)
theorem zi_i2l (K : zK G X cc own nL ret rm) {x : Int32} (hd : decode cc pc = .ok (.i2l, 1)) (kk : zV G X nL P k n (pc + 1) lo (.long x.toInt64 :: st)) : zV G X nL P k n pc lo (.int x :: st) := fun H locs ls hP hS hL => lv_i2l K.1 K.2.1 hd rfl (kk H locs ls hP hS hL)
theorem zi_l2i (K : zK G X cc own nL ret rm) {x : Int64} (hd : decode cc pc = .ok (.l2i, 1)) (kk : zV G X nL P k n (pc + 1) lo (.int x.toInt32 :: st)) : zV G X nL P k n pc lo (.long x :: st) := fun H locs ls hP hS hL => lv_l2i K.1 K.2.1 hd rfl (kk H locs ls hP hS hL)
theorem zi_l2d (K : zK G X cc own nL ret rm) {x : Int64} (hd : decode cc pc = .ok (.l2d, 1)) (kk : zV G X nL P k n (pc + 1) lo (.double (FP.l2d x) :: st)) : zV G X nL P k n pc lo (.long x :: st) := fun H locs ls hP hS hL => lv_l2d K.1 K.2.1 hd  (kk H locs ls hP hS hL)
theorem zi_ddiv (K : zK G X cc own nL ret rm) {x y : UInt64} (hd : decode cc pc = .ok (.ddiv, 1)) (hne : vf_n64 (FP.ddiv x y)) (kk : zV G X nL P k n (pc + 1) lo (.double (FP.ddiv x y) :: st)) : zV G X nL P k n pc lo (.double y :: .double x :: st) := fun H locs ls hP hS hL => lv_ddiv K.1 K.2.1 hd hne (kk H locs ls hP hS hL)
theorem zi_dcmp (K : zK G X cc own nL ret rm) {x y : UInt64} {op : CmpOp} (hd : decode cc pc = .ok (.dcmp op, 1)) (kk : zV G X nL P k n (pc + 1) lo (.int (Op.cmpValue (FP.dcmp x y) op) :: st)) : zV G X nL P k n pc lo (.double y :: .double x :: st) := fun H locs ls hP hS hL => lv_dcmp K.1 K.2.1 hd  (kk H locs ls hP hS hL)
theorem zi_dup (K : zK G X cc own nL ret rm) {v : Value} (hd : decode cc pc = .ok (.dup, 1)) (hv : v.category = 1) (kk : zV G X nL P k n (pc + 1) lo (v :: v :: st)) : zV G X nL P k n pc lo (v :: st) := fun H locs ls hP hS hL => lv_dup K.1 K.2.1 hd hv (kk H locs ls hP hS hL)
theorem zi_pop (K : zK G X cc own nL ret rm) {v : Value} (hd : decode cc pc = .ok (.pop, 1)) (hv : v.category = 1) (kk : zV G X nL P k n (pc + 1) lo st) : zV G X nL P k n pc lo (v :: st) := fun H locs ls hP hS hL => lv_pop K.1 K.2.1 hd hv (kk H locs ls hP hS hL)
theorem zi_dup2_11 (K : zK G X cc own nL ret rm) {v w : Value} (hd : decode cc pc = .ok (.dup2, 1)) (hv : v.category = 1) (hw : w.category = 1) (kk : zV G X nL P k n (pc + 1) lo (v :: w :: v :: w :: st)) : zV G X nL P k n pc lo (v :: w :: st) := fun H locs ls hP hS hL => lv_dup2_11 K.1 K.2.1 hd hv hw (kk H locs ls hP hS hL)
theorem zi_dup2_2 (K : zK G X cc own nL ret rm) {v : Value} (hd : decode cc pc = .ok (.dup2, 1)) (hv : v.category = 2) (kk : zV G X nL P k n (pc + 1) lo (v :: v :: st)) : zV G X nL P k n pc lo (v :: st) := fun H locs ls hP hS hL => lv_dup2_2 K.1 K.2.1 hd hv (kk H locs ls hP hS hL)
theorem zi_pop2_2 (K : zK G X cc own nL ret rm) {v : Value} (hd : decode cc pc = .ok (.pop2, 1)) (hv : v.category = 2) (kk : zV G X nL P k n (pc + 1) lo st) : zV G X nL P k n pc lo (v :: st) := fun H locs ls hP hS hL => lv_pop2_2 K.1 K.2.1 hd hv (kk H locs ls hP hS hL)
theorem zi_if_eq (K : zK G X cc own nL ret rm) {x : Int32} {off : Int} (tgt : Nat) (hd : decode cc pc = .ok (.ifCond .eq off, 3)) (ht : (pc : Int) + off = (tgt : Int)) (kt : x = 0 → zV G X nL P k n tgt lo st) (kf : ¬ x = 0 → zV G X nL P k n (pc + 3) lo st) : zV G X nL P k n pc lo (.int x :: st) := fun H locs ls hP hS hL => lv_if_eq K.1 K.2.1 hd ht (fun c => kt c H locs ls hP hS hL) (fun c => kf c H locs ls hP hS hL)
theorem zi_if_ne (K : zK G X cc own nL ret rm) {x : Int32} {off : Int} (tgt : Nat) (hd : decode cc pc = .ok (.ifCond .ne off, 3)) (ht : (pc : Int) + off = (tgt : Int)) (kt : ¬ x = 0 → zV G X nL P k n tgt lo st) (kf : x = 0 → zV G X nL P k n (pc + 3) lo st) : zV G X nL P k n pc lo (.int x :: st) := fun H locs ls hP hS hL => lv_if_ne K.1 K.2.1 hd ht (fun c => kt c H locs ls hP hS hL) (fun c => kf c H locs ls hP hS hL)
theorem zi_if_lt (K : zK G X cc own nL ret rm) {x : Int32} {off : Int} (tgt : Nat) (hd : decode cc pc = .ok (.ifCond .lt off, 3)) (ht : (pc : Int) + off = (tgt : Int)) (kt : x < 0 → zV G X nL P k n tgt lo st) (kf : ¬ x < 0 → zV G X nL P k n (pc + 3) lo st) : zV G X nL P k n pc lo (.int x :: st) := fun H locs ls hP hS hL => lv_if_lt K.1 K.2.1 hd ht (fun c => kt c H locs ls hP hS hL) (fun c => kf c H locs ls hP hS hL)
theorem zi_if_ge (K : zK G X cc own nL ret rm) {x : Int32} {off : Int} (tgt : Nat) (hd : decode cc pc = .ok (.ifCond .ge off, 3)) (ht : (pc : Int) + off = (tgt : Int)) (kt : 0 ≤ x → zV G X nL P k n tgt lo st) (kf : ¬ 0 ≤ x → zV G X nL P k n (pc + 3) lo st) : zV G X nL P k n pc lo (.int x :: st) := fun H locs ls hP hS hL => lv_if_ge K.1 K.2.1 hd ht (fun c => kt c H locs ls hP hS hL) (fun c => kf c H locs ls hP hS hL)
theorem zi_if_gt (K : zK G X cc own nL ret rm) {x : Int32} {off : Int} (tgt : Nat) (hd : decode cc pc = .ok (.ifCond .gt off, 3)) (ht : (pc : Int) + off = (tgt : Int)) (kt : 0 < x → zV G X nL P k n tgt lo st) (kf : ¬ 0 < x → zV G X nL P k n (pc + 3) lo st) : zV G X nL P k n pc lo (.int x :: st) := fun H locs ls hP hS hL => lv_if_gt K.1 K.2.1 hd ht (fun c => kt c H locs ls hP hS hL) (fun c => kf c H locs ls hP hS hL)
theorem zi_if_le (K : zK G X cc own nL ret rm) {x : Int32} {off : Int} (tgt : Nat) (hd : decode cc pc = .ok (.ifCond .le off, 3)) (ht : (pc : Int) + off = (tgt : Int)) (kt : x ≤ 0 → zV G X nL P k n tgt lo st) (kf : ¬ x ≤ 0 → zV G X nL P k n (pc + 3) lo st) : zV G X nL P k n pc lo (.int x :: st) := fun H locs ls hP hS hL => lv_if_le K.1 K.2.1 hd ht (fun c => kt c H locs ls hP hS hL) (fun c => kf c H locs ls hP hS hL)
theorem zi_icmp_eq (K : zK G X cc own nL ret rm) {x y : Int32} {off : Int} (tgt : Nat) (hd : decode cc pc = .ok (.if_icmp .eq off, 3)) (ht : (pc : Int) + off = (tgt : Int)) (kt : x = y → zV G X nL P k n tgt lo st) (kf : ¬ x = y → zV G X nL P k n (pc + 3) lo st) : zV G X nL P k n pc lo (.int y :: .int x :: st) := fun H locs ls hP hS hL => lv_icmp_eq K.1 K.2.1 hd ht (fun c => kt c H locs ls hP hS hL) (fun c => kf c H locs ls hP hS hL)
theorem zi_icmp_ne (K : zK G X cc own nL ret rm) {x y : Int32} {off : Int} (tgt : Nat) (hd : decode cc pc = .ok (.if_icmp .ne off, 3)) (ht : (pc : Int) + off = (tgt : Int)) (kt : ¬ x = y → zV G X nL P k n tgt lo st) (kf : x = y → zV G X nL P k n (pc + 3) lo st) : zV G X nL P k n pc lo (.int y :: .int x :: st) := fun H locs ls hP hS hL => lv_icmp_ne K.1 K.2.1 hd ht (fun c => kt c H locs ls hP hS hL) (fun c => kf c H locs ls hP hS hL)
theorem zi_icmp_lt (K : zK G X cc own nL ret rm) {x y : Int32} {off : Int} (tgt : Nat) (hd : decode cc pc = .ok (.if_icmp .lt off, 3)) (ht : (pc : Int) + off = (tgt : Int)) (kt : x < y → zV G X nL P k n tgt lo st) (kf : ¬ x < y → zV G X nL P k n (pc + 3) lo st) : zV G X nL P k n pc lo (.int y :: .int x :: st) := fun H locs ls hP hS hL => lv_icmp_lt K.1 K.2.1 hd ht (fun c => kt c H locs ls hP hS hL) (fun c => kf c H locs ls hP hS hL)
theorem zi_icmp_ge (K : zK G X cc own nL ret rm) {x y : Int32} {off : Int} (tgt : Nat) (hd : decode cc pc = .ok (.if_icmp .ge off, 3)) (ht : (pc : Int) + off = (tgt : Int)) (kt : y ≤ x → zV G X nL P k n tgt lo st) (kf : ¬ y ≤ x → zV G X nL P k n (pc + 3) lo st) : zV G X nL P k n pc lo (.int y :: .int x :: st) := fun H locs ls hP hS hL => lv_icmp_ge K.1 K.2.1 hd ht (fun c => kt c H locs ls hP hS hL) (fun c => kf c H locs ls hP hS hL)
theorem zi_icmp_gt (K : zK G X cc own nL ret rm) {x y : Int32} {off : Int} (tgt : Nat) (hd : decode cc pc = .ok (.if_icmp .gt off, 3)) (ht : (pc : Int) + off = (tgt : Int)) (kt : y < x → zV G X nL P k n tgt lo st) (kf : ¬ y < x → zV G X nL P k n (pc + 3) lo st) : zV G X nL P k n pc lo (.int y :: .int x :: st) := fun H locs ls hP hS hL => lv_icmp_gt K.1 K.2.1 hd ht (fun c => kt c H locs ls hP hS hL) (fun c => kf c H locs ls hP hS hL)
theorem zi_icmp_le (K : zK G X cc own nL ret rm) {x y : Int32} {off : Int} (tgt : Nat) (hd : decode cc pc = .ok (.if_icmp .le off, 3)) (ht : (pc : Int) + off = (tgt : Int)) (kt : x ≤ y → zV G X nL P k n tgt lo st) (kf : ¬ x ≤ y → zV G X nL P k n (pc + 3) lo st) : zV G X nL P k n pc lo (.int y :: .int x :: st) := fun H locs ls hP hS hL => lv_icmp_le K.1 K.2.1 hd ht (fun c => kt c H locs ls hP hS hL) (fun c => kf c H locs ls hP hS hL)
theorem zi_goto (K : zK G X cc own nL ret rm) {off : Int} (tgt : Nat) (hd : decode cc pc = .ok (.goto off, 3)) (ht : (pc : Int) + off = (tgt : Int)) (kk : zV G X nL P k n tgt lo st) : zV G X nL P k n pc lo st := fun H locs ls hP hS hL => lv_goto K.1 K.2.1 hd ht (kk H locs ls hP hS hL)
theorem zl_eq {x y : Int64} : (lg_cmp x y = 0) ↔ (x = y) := by
  unfold lg_cmp
  by_cases h1 : y < x
  · have h2 : ¬ x < y := fun h => absurd (Int64.lt_iff_toInt_lt.mp h) (by have := Int64.lt_iff_toInt_lt.mp h1; omega)
    have h3 : ¬ x = y := fun h => by subst h; exact h2 h1
    first | (simp only [h1, h2, h3, if_true]; done) | (simp only [h1, h2, h3, if_true]; decide)
  · by_cases h2 : x = y
    · subst h2
      have h3 : ¬ x < x := fun h => absurd (Int64.lt_iff_toInt_lt.mp h) (by omega)
      first | (simp only [h3, if_true, if_false]; done) | (simp only [h3, if_true, if_false]; decide)
    · have h3 : x < y := by
        rcases Int.lt_trichotomy x.toInt y.toInt with h | h | h
        · exact Int64.lt_iff_toInt_lt.mpr h
        · exact absurd (Int64.toInt_inj.mp h) h2
        · exact absurd (Int64.lt_iff_toInt_lt.mpr h) h1
      first | (simp only [h1, h2, h3, if_false]; done) | (simp only [h1, h2, h3, if_false]; decide)
theorem zi_lif_eq (K : zK G X cc own nL ret rm) {x y : Int64} {off : Int} (tgt : Nat) (hd0 : decode cc pc = .ok (.lcmp, 1)) (hd : decode cc (pc + 1) = .ok (.ifCond .eq off, 3)) (ht : ((pc + 1 : Nat) : Int) + off = (tgt : Int)) (kt : x = y → zV G X nL P k n tgt lo st) (kf : ¬ x = y → zV G X nL P k n (pc + 1 + 3) lo st) : zV G X nL P k n pc lo (.long y :: .long x :: st) := zi_lcmp K hd0 (zi_if_eq K tgt hd ht (fun c => kt (zl_eq.mp c)) (fun c => kf (fun q => c (zl_eq.mpr q))))
theorem zl_ne {x y : Int64} : (¬ lg_cmp x y = 0) ↔ (¬ x = y) := by
  unfold lg_cmp
  by_cases h1 : y < x
  · have h2 : ¬ x < y := fun h => absurd (Int64.lt_iff_toInt_lt.mp h) (by have := Int64.lt_iff_toInt_lt.mp h1; omega)
    have h3 : ¬ x = y := fun h => by subst h; exact h2 h1
    first | (simp only [h1, h2, h3, if_true]; done) | (simp only [h1, h2, h3, if_true]; decide)
  · by_cases h2 : x = y
    · subst h2
      have h3 : ¬ x < x := fun h => absurd (Int64.lt_iff_toInt_lt.mp h) (by omega)
      first | (simp only [h3, if_true, if_false]; done) | (simp only [h3, if_true, if_false]; decide)
    · have h3 : x < y := by
        rcases Int.lt_trichotomy x.toInt y.toInt with h | h | h
        · exact Int64.lt_iff_toInt_lt.mpr h
        · exact absurd (Int64.toInt_inj.mp h) h2
        · exact absurd (Int64.lt_iff_toInt_lt.mpr h) h1
      first | (simp only [h1, h2, h3, if_false]; done) | (simp only [h1, h2, h3, if_false]; decide)
theorem zi_lif_ne (K : zK G X cc own nL ret rm) {x y : Int64} {off : Int} (tgt : Nat) (hd0 : decode cc pc = .ok (.lcmp, 1)) (hd : decode cc (pc + 1) = .ok (.ifCond .ne off, 3)) (ht : ((pc + 1 : Nat) : Int) + off = (tgt : Int)) (kt : ¬ x = y → zV G X nL P k n tgt lo st) (kf : x = y → zV G X nL P k n (pc + 1 + 3) lo st) : zV G X nL P k n pc lo (.long y :: .long x :: st) := zi_lcmp K hd0 (zi_if_ne K tgt hd ht (fun c => kt (zl_ne.mp c)) (fun c => kf (zl_eq.mp c)))
theorem zl_lt {x y : Int64} : (lg_cmp x y < 0) ↔ (x < y) := by
  unfold lg_cmp
  by_cases h1 : y < x
  · have h2 : ¬ x < y := fun h => absurd (Int64.lt_iff_toInt_lt.mp h) (by have := Int64.lt_iff_toInt_lt.mp h1; omega)
    have h3 : ¬ x = y := fun h => by subst h; exact h2 h1
    first | (simp only [h1, h2, h3, if_true]; done) | (simp only [h1, h2, h3, if_true]; decide)
  · by_cases h2 : x = y
    · subst h2
      have h3 : ¬ x < x := fun h => absurd (Int64.lt_iff_toInt_lt.mp h) (by omega)
      first | (simp only [h3, if_true, if_false]; done) | (simp only [h3, if_true, if_false]; decide)
    · have h3 : x < y := by
        rcases Int.lt_trichotomy x.toInt y.toInt with h | h | h
        · exact Int64.lt_iff_toInt_lt.mpr h
        · exact absurd (Int64.toInt_inj.mp h) h2
        · exact absurd (Int64.lt_iff_toInt_lt.mpr h) h1
      first | (simp only [h1, h2, h3, if_false]; done) | (simp only [h1, h2, h3, if_false]; decide)
theorem zi_lif_lt (K : zK G X cc own nL ret rm) {x y : Int64} {off : Int} (tgt : Nat) (hd0 : decode cc pc = .ok (.lcmp, 1)) (hd : decode cc (pc + 1) = .ok (.ifCond .lt off, 3)) (ht : ((pc + 1 : Nat) : Int) + off = (tgt : Int)) (kt : x < y → zV G X nL P k n tgt lo st) (kf : ¬ x < y → zV G X nL P k n (pc + 1 + 3) lo st) : zV G X nL P k n pc lo (.long y :: .long x :: st) := zi_lcmp K hd0 (zi_if_lt K tgt hd ht (fun c => kt (zl_lt.mp c)) (fun c => kf (fun q => c (zl_lt.mpr q))))
theorem zl_ge {x y : Int64} : (0 ≤ lg_cmp x y) ↔ (¬ x < y) := by
  unfold lg_cmp
  by_cases h1 : y < x
  · have h2 : ¬ x < y := fun h => absurd (Int64.lt_iff_toInt_lt.mp h) (by have := Int64.lt_iff_toInt_lt.mp h1; omega)
    have h3 : ¬ x = y := fun h => by subst h; exact h2 h1
    first | (simp only [h1, h2, h3, if_true]; done) | (simp only [h1, h2, h3, if_true]; decide)
  · by_cases h2 : x = y
    · subst h2
      have h3 : ¬ x < x := fun h => absurd (Int64.lt_iff_toInt_lt.mp h) (by omega)
      first | (simp only [h3, if_true, if_false]; done) | (simp only [h3, if_true, if_false]; decide)
    · have h3 : x < y := by
        rcases Int.lt_trichotomy x.toInt y.toInt with h | h | h
        · exact Int64.lt_iff_toInt_lt.mpr h
        · exact absurd (Int64.toInt_inj.mp h) h2
        · exact absurd (Int64.lt_iff_toInt_lt.mpr h) h1
      first | (simp only [h1, h2, h3, if_false]; done) | (simp only [h1, h2, h3, if_false]; decide)
theorem zi_lif_ge (K : zK G X cc own nL ret rm) {x y : Int64} {off : Int} (tgt : Nat) (hd0 : decode cc pc = .ok (.lcmp, 1)) (hd : decode cc (pc + 1) = .ok (.ifCond .ge off, 3)) (ht : ((pc + 1 : Nat) : Int) + off = (tgt : Int)) (kt : ¬ x < y → zV G X nL P k n tgt lo st) (kf : x < y → zV G X nL P k n (pc + 1 + 3) lo st) : zV G X nL P k n pc lo (.long y :: .long x :: st) := zi_lcmp K hd0 (zi_if_ge K tgt hd ht (fun c => kt (zl_ge.mp c)) (fun c => kf (Classical.not_not.mp (fun q => c (zl_ge.mpr q)))))
theorem zl_gt {x y : Int64} : (0 < lg_cmp x y) ↔ (y < x) := by
  unfold lg_cmp
  by_cases h1 : y < x
  · have h2 : ¬ x < y := fun h => absurd (Int64.lt_iff_toInt_lt.mp h) (by have := Int64.lt_iff_toInt_lt.mp h1; omega)
    have h3 : ¬ x = y := fun h => by subst h; exact h2 h1
    first | (simp only [h1, h2, h3, if_true]; done) | (simp only [h1, h2, h3, if_true]; decide)
  · by_cases h2 : x = y
    · subst h2
      have h3 : ¬ x < x := fun h => absurd (Int64.lt_iff_toInt_lt.mp h) (by omega)
      first | (simp only [h3, if_true, if_false]; done) | (simp only [h3, if_true, if_false]; decide)
    · have h3 : x < y := by
        rcases Int.lt_trichotomy x.toInt y.toInt with h | h | h
        · exact Int64.lt_iff_toInt_lt.mpr h
        · exact absurd (Int64.toInt_inj.mp h) h2
        · exact absurd (Int64.lt_iff_toInt_lt.mpr h) h1
      first | (simp only [h1, h2, h3, if_false]; done) | (simp only [h1, h2, h3, if_false]; decide)
theorem zi_lif_gt (K : zK G X cc own nL ret rm) {x y : Int64} {off : Int} (tgt : Nat) (hd0 : decode cc pc = .ok (.lcmp, 1)) (hd : decode cc (pc + 1) = .ok (.ifCond .gt off, 3)) (ht : ((pc + 1 : Nat) : Int) + off = (tgt : Int)) (kt : y < x → zV G X nL P k n tgt lo st) (kf : ¬ y < x → zV G X nL P k n (pc + 1 + 3) lo st) : zV G X nL P k n pc lo (.long y :: .long x :: st) := zi_lcmp K hd0 (zi_if_gt K tgt hd ht (fun c => kt (zl_gt.mp c)) (fun c => kf (fun q => c (zl_gt.mpr q))))
theorem zl_le {x y : Int64} : (lg_cmp x y ≤ 0) ↔ (¬ y < x) := by
  unfold lg_cmp
  by_cases h1 : y < x
  · have h2 : ¬ x < y := fun h => absurd (Int64.lt_iff_toInt_lt.mp h) (by have := Int64.lt_iff_toInt_lt.mp h1; omega)
    have h3 : ¬ x = y := fun h => by subst h; exact h2 h1
    first | (simp only [h1, h2, h3, if_true]; done) | (simp only [h1, h2, h3, if_true]; decide)
  · by_cases h2 : x = y
    · subst h2
      have h3 : ¬ x < x := fun h => absurd (Int64.lt_iff_toInt_lt.mp h) (by omega)
      first | (simp only [h3, if_true, if_false]; done) | (simp only [h3, if_true, if_false]; decide)
    · have h3 : x < y := by
        rcases Int.lt_trichotomy x.toInt y.toInt with h | h | h
        · exact Int64.lt_iff_toInt_lt.mpr h
        · exact absurd (Int64.toInt_inj.mp h) h2
        · exact absurd (Int64.lt_iff_toInt_lt.mpr h) h1
      first | (simp only [h1, h2, h3, if_false]; done) | (simp only [h1, h2, h3, if_false]; decide)
theorem zi_lif_le (K : zK G X cc own nL ret rm) {x y : Int64} {off : Int} (tgt : Nat) (hd0 : decode cc pc = .ok (.lcmp, 1)) (hd : decode cc (pc + 1) = .ok (.ifCond .le off, 3)) (ht : ((pc + 1 : Nat) : Int) + off = (tgt : Int)) (kt : ¬ y < x → zV G X nL P k n tgt lo st) (kf : y < x → zV G X nL P k n (pc + 1 + 3) lo st) : zV G X nL P k n pc lo (.long y :: .long x :: st) := zi_lcmp K hd0 (zi_if_le K tgt hd ht (fun c => kt (zl_le.mp c)) (fun c => kf (Classical.not_not.mp (fun q => c (zl_le.mpr q)))))
theorem zi_ldc (K : zK G X cc own nL ret rm) {i : Nat} {v : Int32} (hd : decode cc pc = .ok (.ldc i, 2)) (hw : Cond.constant own i v ∈ zB) (kk : zV G X nL P k n (pc + 2) lo (.int v :: st)) : zV G X nL P k n pc lo st := fun H locs ls hP hS hL => lv_ldc K.1 K.2.1 K.2.2.2.1 (K.2.2.2.2.1 _ hw) hd (kk H locs ls hP hS hL)
theorem zi_ldcw (K : zK G X cc own nL ret rm) {i : Nat} {v : Int32} (hd : decode cc pc = .ok (.ldc_w i, 3)) (hw : Cond.constant own i v ∈ zB) (kk : zV G X nL P k n (pc + 3) lo (.int v :: st)) : zV G X nL P k n pc lo st := fun H locs ls hP hS hL => lv_ldcw K.1 K.2.1 K.2.2.2.1 (K.2.2.2.2.1 _ hw) hd (kk H locs ls hP hS hL)
theorem zi_ldc2 (K : zK G X cc own nL ret rm) {i : Nat} {v : Int64} (hd : decode cc pc = .ok (.ldc2_w i, 3)) (hw : Cond.constantLong own i v ∈ zB) (kk : zV G X nL P k n (pc + 3) lo (.long v :: st)) : zV G X nL P k n pc lo st := fun H locs ls hP hS hL => lv_ldc2 K.1 K.2.1 K.2.2.2.1 (K.2.2.2.2.1 _ hw) hd (kk H locs ls hP hS hL)
theorem zi_iret (K : zK G X cc own nL (some .int) rm) {mc ms : Nat} {rv : Option Value} {Qp : Heap → Prop} (E : zE G X mc ms rv Qp) {v : Int32} (hd : decode cc pc = .ok (.ireturn, 1)) (hk : k ≤ mc) (hn : n ≤ ms) (hv : some (.int v) = rv) (hq : ∀ H, P H → Qp H) : zV G X nL P k n pc lo [.int v] := fun H locs ls hP hS hL => by
  subst hv
  exact W.widen hk hn (E _ _ _ (W.iret K.1 K.2.1 K.2.2.2.2.2.2.2.1 (fun t ht hW => ⟨⟨rfl, by rw [ht]; exact hq H hP⟩, hS.F ht⟩) hS.2.2 hd K.2.2.2.2.2.2.1))
theorem zi_lret (K : zK G X cc own nL (some .long) rm) {mc ms : Nat} {rv : Option Value} {Qp : Heap → Prop} (E : zE G X mc ms rv Qp) {v : Int64} (hd : decode cc pc = .ok (.lreturn, 1)) (hk : k ≤ mc) (hn : n ≤ ms) (hv : some (.long v) = rv) (hq : ∀ H, P H → Qp H) : zV G X nL P k n pc lo [.long v] := fun H locs ls hP hS hL => by
  subst hv
  exact W.widen hk hn (E _ _ _ (W.lret K.1 K.2.1 K.2.2.2.2.2.2.2.1 (fun t ht hW => ⟨⟨rfl, by rw [ht]; exact hq H hP⟩, hS.F ht⟩) hS.2.2 hd K.2.2.2.2.2.2.1))
theorem zi_dret (K : zK G X cc own nL (some .double) rm) {mc ms : Nat} {rv : Option Value} {Qp : Heap → Prop} (E : zE G X mc ms rv Qp) {v : UInt64} (hd : decode cc pc = .ok (.dreturn, 1)) (hk : k ≤ mc) (hn : n ≤ ms) (hv : some (.double v) = rv) (hq : ∀ H, P H → Qp H) : zV G X nL P k n pc lo [.double v] := fun H locs ls hP hS hL => by
  subst hv
  exact W.widen hk hn (E _ _ _ (W.dret K.1 K.2.1 K.2.2.2.2.2.2.2.1 (fun t ht hW => ⟨⟨rfl, by rw [ht]; exact hq H hP⟩, hS.F ht⟩) hS.2.2 hd K.2.2.2.2.2.2.1))
theorem zi_vret (K : zK G X cc own nL none rm) {mc ms : Nat} {rv : Option Value} {Qp : Heap → Prop} (E : zE G X mc ms rv Qp)  (hd : decode cc pc = .ok (.return_, 1)) (hk : k ≤ mc) (hn : n ≤ ms) (hv : none = rv) (hq : ∀ H, P H → Qp H) : zV G X nL P k n pc lo [] := fun H locs ls hP hS hL => by
  subst hv
  exact W.widen hk hn (E _ _ _ (W.vret K.1 K.2.1 K.2.2.2.2.2.2.2.1 (fun t ht hW => ⟨⟨rfl, by rw [ht]; exact hq H hP⟩, hS.F ht⟩) hS.2.2 hd K.2.2.2.2.2.2.1))
theorem zi_zret {ty : FieldType} (K : zK G X cc own nL (some ty) rm) {mc ms : Nat} {rv : Option Value} {Qp : Heap → Prop} (E : zE G X mc ms rv Qp) {v : Int32} (hd : decode cc pc = .ok (.ireturn, 1)) (hk : k ≤ mc) (hn : n ≤ ms) (hv : some (.int v) = rv) (hz : narrow ty (.int v) = .int v) (hq : ∀ H, P H → Qp H) : zV G X nL P k n pc lo [.int v] := fun H locs ls hP hS hL => by
  subst hv
  exact W.widen hk hn (E _ _ _ (W.zret K.1 K.2.1 K.2.2.2.2.2.2.2.1 hz (fun t ht hW => ⟨⟨rfl, by rw [ht]; exact hq H hP⟩, hS.F ht⟩) hS.2.2 hd K.2.2.2.2.2.2.1))
theorem zi_aret {ty : FieldType} (K : zK G X cc own nL (some ty) rm) {mc ms : Nat} {rv : Option Value} {Qp : Heap → Prop} (E : zE G X mc ms rv Qp) {v : Nat} (hd : decode cc pc = .ok (.areturn, 1)) (hk : k ≤ mc) (hn : n ≤ ms) (hv : some (.ref v) = rv) (hz : (∃ n, ty = .object n) ∨ ∃ t, ty = .array t) (hq : ∀ H, P H → Qp H) : zV G X nL P k n pc lo [.ref v] := fun H locs ls hP hS hL => by
  subst hv
  exact W.widen hk hn (E _ _ _ (W.aret K.1 K.2.1 K.2.2.2.2.2.2.2.1 hz (Or.inr ⟨_, rfl⟩) (fun t ht hW => ⟨⟨rfl, by rw [ht]; exact hq H hP⟩, hS.F ht⟩) hS.2.2 hd K.2.2.2.2.2.2.1))
theorem zi_callV (K : zK G X cc own nL ret rm) {y : MethodName} {bytes : ByteArray} {maxL fr lc mc ms idx : Nat} {r' : Option FieldType} {As : List Value} {b : Nat} {P' : Heap → Prop} {rv : Option Value} {Qp : Heap → Prop} {stk : List Value} {na : Nat} (st nst : List Value)
    (hM : zC G y bytes maxL r' fr lc mc ms (.ref b :: As) P' rv Qp) (hd : decode cc pc = .ok (.invokevirtual idx, 3)) (w1 : Cond.methodLink own idx y ∈ zB) (w2 : Cond.instanceMethod y ∈ zB) (w3 : Cond.selects y.cls y y ∈ zB) (w4 : Cond.initialized y.cls ∈ zB) (w5 : Cond.code y bytes maxL r' ∈ zB)
    (hy : y.cls ≠ "java/lang/invoke/MethodHandle" ∧ y.cls ≠ "java/lang/invoke/VarHandle" ∧ (parseMethodDescriptor y.desc).map (fun d => d.parameters.length) = some na) (hna : As.length = na) (hrv : ∀ H, P H → ∃ cell : Cell, H[b]? = some cell ∧ cell.vm.isStatics = false ∧ (xs X).vm.findClass y.cls = some cell.cls) (hP' : ∀ H, P H → P' H)
    (hR : fr + 1 ≤ rm.frames ∧ 8 + (maxL + 11) + lc ≤ rm.locals) (hc : k + mc ≤ rm.cells ∧ n + ms ≤ rm.slots) (hst : (st.map fun v => v.category).sum ≤ 8) (hs : stk = As.reverse ++ .ref b :: st) (hns : rv.toList ++ st = nst)
    (kk : zV G X nL Qp (k + mc) (n + ms) (pc + 3) lo nst) : zV G X nL P k n pc lo stk := fun H locs ls hP hS hL => by
  obtain ⟨h1, h2, h3, h4, h5, h6, h7, h8, h9, h10, h11⟩ := K
  subst hs
  subst hns
  subst hna
  rw [← h10] at hR hc
  unfold zC at hM
  rw [← h11] at hM
  have hcb : CallB (xR X) (xs X) (xa X) own idx y bytes maxL r' (.code y bytes maxL r' :: zB) { frames := fr, cells := mc, slots := ms, locals := lc } mc ms As.length := callB_of As.length h5 (zb_goodIn w5) rfl rfl rfl (h5 _ w4) (h5 _ w1) hy hR
  have hbl : FrameBlind (va_Pc (.ref b :: As) (fun U => P' U.heap ∧ zN G U ∧ ∀ q, U.heap.size ≤ q → gA G q)) := fun a U g mk q => ⟨q.1, q.2.1, zN.same (U := U.calling g mk a) rfl rfl q.2.2.1, q.2.2.2⟩
  have hpre : ∀ U : State, U.heap = H → (xs X).WarmedH U.vm → va_Pc (.ref b :: As) (fun U => P' U.heap ∧ zN G U ∧ ∀ q, U.heap.size ≤ q → gA G q) (.ref b :: As).toArray U := fun U hU hW => ⟨rfl, by rw [hU]; exact hP' H hP, zN.warm hW (fun a g1 g2 => by rw [hU]; exact hS.2.1 a g1 g2) h6, fun q hq => h9 q (Nat.le_trans hS.1 (by rw [hU] at hq; exact hq))⟩
  have hr := va_runV (C := y.cls) (b := b) (As := As) (rest := st) (g := F0 (xm X) pc ls (As.reverse ++ .ref b :: st)) (H := H) (locs := locs) (cells := k) (slots := n) (p := xp X) (l := xl X) (e := xe X) (below := xb X) (meth := xh X) ⟨h1, h2, h3, h4, h5⟩ hM ⟨hcb, h5 _ w2, h5 _ w3⟩ ⟨hbl, hrv H hP, hpre⟩ rfl rfl (hL.1.trans rfl) rfl (lv_room hst) hd hc
  intro T hT Y
  obtain ⟨v, st₀, t, T', L, h0, X', hL', e1, e2, ⟨⟨hv, hq⟩, hz, hk⟩, stp⟩ := hr T hT Y
  cases hv
  rw [h0] at hz hk
  obtain ⟨t2, a1, b1⟩ := kk T'.heap (locs ++ L) ls (by rw [e1]; exact hq)
    ⟨Nat.le_trans hS.1 (by rw [e1]; exact hz), fun q g1 g2 => by rw [e1, hk q (Nat.lt_of_lt_of_le g1 hS.1) g2]; exact hS.2.1 q g1 g2, fun q hq => by
      rcases List.mem_append.mp hq with h | h
      · exact hS.2.2 q h
      · exact hL' q h⟩ hL T' rfl X'
  exact ⟨t2, stp t2 a1, b1⟩
theorem zi_callS (K : zK G X cc own nL ret rm) {y : MethodName} {bytes : ByteArray} {maxL fr lc mc ms idx : Nat} {r' : Option FieldType} {As : List Value} {P' : Heap → Prop} {rv : Option Value} {Qp : Heap → Prop} {stk : List Value} {na : Nat} (st nst : List Value)
    (hM : zC G y bytes maxL r' fr lc mc ms As P' rv Qp) (hd : decode cc pc = .ok (.invokestatic idx, 3)) (w1 : Cond.methodLink own idx y ∈ zB) (w2 : Cond.static y ∈ zB) (w4 : Cond.initialized y.cls ∈ zB) (w5 : Cond.code y bytes maxL r' ∈ zB)
    (hy : y.cls ≠ "java/lang/invoke/MethodHandle" ∧ y.cls ≠ "java/lang/invoke/VarHandle" ∧ (parseMethodDescriptor y.desc).map (fun d => d.parameters.length) = some na) (hna : As.length = na) (hP' : ∀ H, P H → P' H)
    (hR : fr + 1 ≤ rm.frames ∧ 8 + (maxL + 11) + lc ≤ rm.locals) (hc : k + mc ≤ rm.cells ∧ n + ms ≤ rm.slots) (hst : (st.map fun v => v.category).sum ≤ 8) (hs : stk = As.reverse ++ st) (hns : rv.toList ++ st = nst)
    (kk : zV G X nL Qp (k + mc) (n + ms) (pc + 3) lo nst) : zV G X nL P k n pc lo stk := fun H locs ls hP hS hL => by
  obtain ⟨h1, h2, h3, h4, h5, h6, h7, h8, h9, h10, h11⟩ := K
  subst hs
  subst hns
  subst hna
  rw [← h10] at hR hc
  unfold zC at hM
  rw [← h11] at hM
  have hcb : CallB (xR X) (xs X) (xa X) own idx y bytes maxL r' (.code y bytes maxL r' :: zB) { frames := fr, cells := mc, slots := ms, locals := lc } mc ms As.length := callB_of As.length h5 (zb_goodIn w5) rfl rfl rfl (h5 _ w4) (h5 _ w1) hy hR
  have hbl : FrameBlind (va_Pc As (fun U => P' U.heap ∧ zN G U ∧ ∀ q, U.heap.size ≤ q → gA G q)) := fun a U g mk q => ⟨q.1, q.2.1, zN.same (U := U.calling g mk a) rfl rfl q.2.2.1, q.2.2.2⟩
  have hpre : ∀ U : State, U.heap = H → (xs X).WarmedH U.vm → va_Pc As (fun U => P' U.heap ∧ zN G U ∧ ∀ q, U.heap.size ≤ q → gA G q) As.toArray U := fun U hU hW => ⟨rfl, by rw [hU]; exact hP' H hP, zN.warm hW (fun a g1 g2 => by rw [hU]; exact hS.2.1 a g1 g2) h6, fun q hq => h9 q (Nat.le_trans hS.1 (by rw [hU] at hq; exact hq))⟩
  have hr := va_runS (As := As) (rest := st) (g := F0 (xm X) pc ls (As.reverse ++ st)) (H := H) (locs := locs) (cells := k) (slots := n) (p := xp X) (l := xl X) (e := xe X) (below := xb X) (meth := xh X) ⟨h1, h2, h3, h4, h5⟩ hM ⟨hcb, h5 _ w2⟩ ⟨hbl, hpre⟩ rfl rfl (hL.1.trans rfl) rfl (lv_room hst) hd hc
  intro T hT Y
  obtain ⟨v, st₀, t, T', L, h0, X', hL', e1, e2, ⟨⟨hv, hq⟩, hz, hk⟩, stp⟩ := hr T hT Y
  cases hv
  rw [h0] at hz hk
  obtain ⟨t2, a1, b1⟩ := kk T'.heap (locs ++ L) ls (by rw [e1]; exact hq)
    ⟨Nat.le_trans hS.1 (by rw [e1]; exact hz), fun q g1 g2 => by rw [e1, hk q (Nat.lt_of_lt_of_le g1 hS.1) g2]; exact hS.2.1 q g1 g2, fun q hq => by
      rcases List.mem_append.mp hq with h | h
      · exact hS.2.2 q h
      · exact hL' q h⟩ hL T' rfl X'
  exact ⟨t2, stp t2 a1, b1⟩
theorem zi_callI (K : zK G X cc own nL ret rm) {y : MethodName} {bytes : ByteArray} {maxL fr lc mc ms idx : Nat} {As : List Value} {b : Nat} {P' : Heap → Prop} {rv : Option Value} {Qp : Heap → Prop} {stk : List Value} {na : Nat} (st nst : List Value)
    (hM : zC G y bytes maxL none fr lc mc ms (.ref b :: As) P' rv Qp) (hd : decode cc pc = .ok (.invokespecial idx, 3)) (w1 : Cond.methodLink own idx y ∈ zB) (w2 : Cond.instanceMethod y ∈ zB) (w4 : Cond.initialized y.cls ∈ zB) (w5 : Cond.code y bytes maxL none ∈ zB)
    (hy : y.cls ≠ "java/lang/invoke/MethodHandle" ∧ y.cls ≠ "java/lang/invoke/VarHandle" ∧ (parseMethodDescriptor y.desc).map (fun d => d.parameters.length) = some na) (hna : As.length = na) (hyi : y.name = "<init>") (hP' : ∀ H, P H → P' H)
    (hR : fr + 1 ≤ rm.frames ∧ 8 + (maxL + 11) + lc ≤ rm.locals) (hc : k + mc ≤ rm.cells ∧ n + ms ≤ rm.slots) (hst : (st.map fun v => v.category).sum ≤ 8) (hs : stk = As.reverse ++ .ref b :: st) (hns : rv.toList ++ st = nst)
    (kk : zV G X nL Qp (k + mc) (n + ms) (pc + 3) lo nst) : zV G X nL P k n pc lo stk := fun H locs ls hP hS hL => by
  obtain ⟨h1, h2, h3, h4, h5, h6, h7, h8, h9, h10, h11⟩ := K
  subst hs
  subst hns
  subst hna
  rw [← h10] at hR hc
  unfold zC at hM
  rw [← h11] at hM
  have hcb : CallB (xR X) (xs X) (xa X) own idx y bytes maxL none (.code y bytes maxL none :: zB) { frames := fr, cells := mc, slots := ms, locals := lc } mc ms As.length := callB_of As.length h5 (zb_goodIn w5) rfl rfl rfl (h5 _ w4) (h5 _ w1) hy hR
  have hbl : FrameBlind (va_Pc (.ref b :: As) (fun U => P' U.heap ∧ zN G U ∧ ∀ q, U.heap.size ≤ q → gA G q)) := fun a U g mk q => ⟨q.1, q.2.1, zN.same (U := U.calling g mk a) rfl rfl q.2.2.1, q.2.2.2⟩
  have hpre : ∀ U : State, U.heap = H → (xs X).WarmedH U.vm → va_Pc (.ref b :: As) (fun U => P' U.heap ∧ zN G U ∧ ∀ q, U.heap.size ≤ q → gA G q) (.ref b :: As).toArray U := fun U hU hW => ⟨rfl, by rw [hU]; exact hP' H hP, zN.warm hW (fun a g1 g2 => by rw [hU]; exact hS.2.1 a g1 g2) h6, fun q hq => h9 q (Nat.le_trans hS.1 (by rw [hU] at hq; exact hq))⟩
  have hr := va_runI (b := b) (As := As) (rest := st) (g := F0 (xm X) pc ls (As.reverse ++ .ref b :: st)) (H := H) (locs := locs) (cells := k) (slots := n) (p := xp X) (l := xl X) (e := xe X) (below := xb X) (meth := xh X) ⟨h1, h2, h3, h4, h5⟩ hM ⟨hcb, hyi, h5 _ w2⟩ ⟨hbl, hpre⟩ rfl rfl (hL.1.trans rfl) rfl (lv_room hst) hd hc
  intro T hT Y
  obtain ⟨v, st₀, t, T', L, h0, X', hL', e1, e2, ⟨⟨hv, hq⟩, hz, hk⟩, stp⟩ := hr T hT Y
  cases hv
  rw [h0] at hz hk
  obtain ⟨t2, a1, b1⟩ := kk T'.heap (locs ++ L) ls (by rw [e1]; exact hq)
    ⟨Nat.le_trans hS.1 (by rw [e1]; exact hz), fun q g1 g2 => by rw [e1, hk q (Nat.lt_of_lt_of_le g1 hS.1) g2]; exact hS.2.1 q g1 g2, fun q hq => by
      rcases List.mem_append.mp hq with h | h
      · exact hS.2.2 q h
      · exact hL' q h⟩ hL T' rfl X'
  exact ⟨t2, stp t2 a1, b1⟩
/-- a method's contract that answers a cell: which one comes with the picture -/
def zCa (G : zG) (y : MethodName) (cc : ByteArray) (maxL : Nat) (ret : Option FieldType) (fr lc mc ms : Nat) (av : List Value) (P : Heap → Prop) (F : Nat → Heap → Prop) : Prop :=
  Met G.1 y (.code y cc maxL ret :: zB) { frames := fr, cells := mc, slots := ms, locals := lc } (va_Pc av (fun U => P U.heap ∧ zN G U ∧ ∀ q, U.heap.size ≤ q → gA G q)) (fun _ st o t => (∃ a, o = .returned (some (.ref a)) ∧ F a t.heap) ∧ va_F (gA G) st t) mc ms (gA G)
def zEa (G : zG) (X : zX) (mc ms : Nat) (F : Nat → Heap → Prop) : Prop :=
  ∀ (H : Heap) (locs : List Loc) (g : JFrame), W (xp X) (xl X) (xe X) (xR X) (xs X) (xm X) (xa X) (xb X) (xh X) (xc X) H locs mc ms (MQ (xb X) (fun _ st o t => (∃ a, o = .returned (some (.ref a)) ∧ F a t.heap) ∧ va_F (gA G) st t) (xa X) (xs X) mc ms (gA G)) g → W (xp X) (xl X) (xe X) (xR X) (xs X) (xm X) (xa X) (xb X) (xh X) (xc X) H locs mc ms (xQ X) g
theorem zCa_of {y : MethodName} {maxL fr lc mc ms : Nat} {av : List Value} {F : Nat → Heap → Prop} (hy : plainName y.cls = true) (hlen : (lg_sl av).length ≤ maxL)
    (body : ∀ X : zX, zK G X cc y.cls maxL ret { frames := fr, cells := mc, slots := ms, locals := lc } → zEa G X mc ms F → zV G X maxL P 0 0 0 (lv_args 0 av) []) : zCa G y cc maxL ret fr lc mc ms av P F := by
  refine Met.ofW (cc := cc) (maxL := maxL) (ret := ret) hy rfl ?_
  intro p e s m args below meth c s₁ B hml hv
  obtain ⟨rfl, hP, hN, hA⟩ := hv
  have hts := atoms_spec (ws := .code y cc maxL ret :: zB) B.pre
  have hl := lv_entry av (n := maxL) hlen
  rw [lg_entry_eq]
  exact body (p, G.1, e, { frames := fr, cells := mc, slots := ms, locals := lc }, s, m, av.toArray, below, meth, c, MQ below (fun _ st o t => (∃ a, o = .returned (some (.ref a)) ∧ F a t.heap) ∧ va_F (gA G) st t) av.toArray s mc ms (gA G))
    ⟨B.exec, B.bytes, hml, findClass_of_methodNamed B.named, fun w hw => hts w (List.mem_cons_of_mem _ hw), hN, B.notSynchronized, B.returns, hA, rfl, rfl⟩ (fun _ _ _ h => h) s.heap [] _ hP va_S.rf hl
theorem zi_areta {ty : FieldType} (K : zK G X cc own nL (some ty) rm) {mc ms v : Nat} {F : Nat → Heap → Prop} (E : zEa G X mc ms F) (hd : decode cc pc = .ok (.areturn, 1)) (hk : k ≤ mc) (hn : n ≤ ms) (hz : (∃ n, ty = .object n) ∨ ∃ t, ty = .array t) (hq : ∀ H, P H → F v H) : zV G X nL P k n pc lo [.ref v] := fun H locs ls hP hS hL =>
  W.widen hk hn (E _ _ _ (W.aret K.1 K.2.1 K.2.2.2.2.2.2.2.1 hz (Or.inr ⟨_, rfl⟩) (fun t ht hW => ⟨⟨v, rfl, by rw [ht]; exact hq H hP⟩, hS.F ht⟩) hS.2.2 hd K.2.2.2.2.2.2.1))
theorem zi_callaV (K : zK G X cc own nL ret rm) {y : MethodName} {bytes : ByteArray} {maxL fr lc mc ms idx : Nat} {r' : Option FieldType} {As : List Value} {b : Nat} {P' : Heap → Prop} {F : Nat → Heap → Prop} {stk : List Value} {na : Nat} (st : List Value)
    (hM : zCa G y bytes maxL r' fr lc mc ms (.ref b :: As) P' F) (hd : decode cc pc = .ok (.invokevirtual idx, 3)) (w1 : Cond.methodLink own idx y ∈ zB) (w2 : Cond.instanceMethod y ∈ zB) (w3 : Cond.selects y.cls y y ∈ zB) (w4 : Cond.initialized y.cls ∈ zB) (w5 : Cond.code y bytes maxL r' ∈ zB)
    (hy : y.cls ≠ "java/lang/invoke/MethodHandle" ∧ y.cls ≠ "java/lang/invoke/VarHandle" ∧ (parseMethodDescriptor y.desc).map (fun d => d.parameters.length) = some na) (hna : As.length = na) (hrv : ∀ H, P H → ∃ cell : Cell, H[b]? = some cell ∧ cell.vm.isStatics = false ∧ (xs X).vm.findClass y.cls = some cell.cls) (hP' : ∀ H, P H → P' H)
    (hR : fr + 1 ≤ rm.frames ∧ 8 + (maxL + 11) + lc ≤ rm.locals) (hc : k + mc ≤ rm.cells ∧ n + ms ≤ rm.slots) (hst : (st.map fun v => v.category).sum ≤ 8) (hs : stk = As.reverse ++ .ref b :: st) 
    (kk : ∀ z, zV G X nL (F z) (k + mc) (n + ms) (pc + 3) lo (.ref z :: st)) : zV G X nL P k n pc lo stk := fun H locs ls hP hS hL => by
  obtain ⟨h1, h2, h3, h4, h5, h6, h7, h8, h9, h10, h11⟩ := K
  subst hs
  subst hna
  rw [← h10] at hR hc
  unfold zCa at hM
  rw [← h11] at hM
  have hcb : CallB (xR X) (xs X) (xa X) own idx y bytes maxL r' (.code y bytes maxL r' :: zB) { frames := fr, cells := mc, slots := ms, locals := lc } mc ms As.length := callB_of As.length h5 (zb_goodIn w5) rfl rfl rfl (h5 _ w4) (h5 _ w1) hy hR
  have hbl : FrameBlind (va_Pc (.ref b :: As) (fun U => P' U.heap ∧ zN G U ∧ ∀ q, U.heap.size ≤ q → gA G q)) := fun a U g mk q => ⟨q.1, q.2.1, zN.same (U := U.calling g mk a) rfl rfl q.2.2.1, q.2.2.2⟩
  have hpre : ∀ U : State, U.heap = H → (xs X).WarmedH U.vm → va_Pc (.ref b :: As) (fun U => P' U.heap ∧ zN G U ∧ ∀ q, U.heap.size ≤ q → gA G q) (.ref b :: As).toArray U := fun U hU hW => ⟨rfl, by rw [hU]; exact hP' H hP, zN.warm hW (fun a g1 g2 => by rw [hU]; exact hS.2.1 a g1 g2) h6, fun q hq => h9 q (Nat.le_trans hS.1 (by rw [hU] at hq; exact hq))⟩
  have hr := va_runV (C := y.cls) (b := b) (As := As) (rest := st) (g := F0 (xm X) pc ls (As.reverse ++ .ref b :: st)) (H := H) (locs := locs) (cells := k) (slots := n) (p := xp X) (l := xl X) (e := xe X) (below := xb X) (meth := xh X) ⟨h1, h2, h3, h4, h5⟩ hM ⟨hcb, h5 _ w2, h5 _ w3⟩ ⟨hbl, hrv H hP, hpre⟩ rfl rfl (hL.1.trans rfl) rfl (lv_room hst) hd hc
  intro T hT Y
  obtain ⟨v, st₀, t, T', L, h0, X', hL', e1, e2, ⟨⟨w0, hv, hq⟩, hz, hk⟩, stp⟩ := hr T hT Y
  cases hv
  rw [h0] at hz hk
  obtain ⟨t2, a1, b1⟩ := kk w0 T'.heap (locs ++ L) ls (by rw [e1]; exact hq)
    ⟨Nat.le_trans hS.1 (by rw [e1]; exact hz), fun q g1 g2 => by rw [e1, hk q (Nat.lt_of_lt_of_le g1 hS.1) g2]; exact hS.2.1 q g1 g2, fun q hq => by
      rcases List.mem_append.mp hq with h | h
      · exact hS.2.2 q h
      · exact hL' q h⟩ hL T' rfl X'
  exact ⟨t2, stp t2 a1, b1⟩
theorem zi_callaS (K : zK G X cc own nL ret rm) {y : MethodName} {bytes : ByteArray} {maxL fr lc mc ms idx : Nat} {r' : Option FieldType} {As : List Value} {P' : Heap → Prop} {F : Nat → Heap → Prop} {stk : List Value} {na : Nat} (st : List Value)
    (hM : zCa G y bytes maxL r' fr lc mc ms As P' F) (hd : decode cc pc = .ok (.invokestatic idx, 3)) (w1 : Cond.methodLink own idx y ∈ zB) (w2 : Cond.static y ∈ zB) (w4 : Cond.initialized y.cls ∈ zB) (w5 : Cond.code y bytes maxL r' ∈ zB)
    (hy : y.cls ≠ "java/lang/invoke/MethodHandle" ∧ y.cls ≠ "java/lang/invoke/VarHandle" ∧ (parseMethodDescriptor y.desc).map (fun d => d.parameters.length) = some na) (hna : As.length = na) (hP' : ∀ H, P H → P' H)
    (hR : fr + 1 ≤ rm.frames ∧ 8 + (maxL + 11) + lc ≤ rm.locals) (hc : k + mc ≤ rm.cells ∧ n + ms ≤ rm.slots) (hst : (st.map fun v => v.category).sum ≤ 8) (hs : stk = As.reverse ++ st) 
    (kk : ∀ z, zV G X nL (F z) (k + mc) (n + ms) (pc + 3) lo (.ref z :: st)) : zV G X nL P k n pc lo stk := fun H locs ls hP hS hL => by
  obtain ⟨h1, h2, h3, h4, h5, h6, h7, h8, h9, h10, h11⟩ := K
  subst hs
  subst hna
  rw [← h10] at hR hc
  unfold zCa at hM
  rw [← h11] at hM
  have hcb : CallB (xR X) (xs X) (xa X) own idx y bytes maxL r' (.code y bytes maxL r' :: zB) { frames := fr, cells := mc, slots := ms, locals := lc } mc ms As.length := callB_of As.length h5 (zb_goodIn w5) rfl rfl rfl (h5 _ w4) (h5 _ w1) hy hR
  have hbl : FrameBlind (va_Pc As (fun U => P' U.heap ∧ zN G U ∧ ∀ q, U.heap.size ≤ q → gA G q)) := fun a U g mk q => ⟨q.1, q.2.1, zN.same (U := U.calling g mk a) rfl rfl q.2.2.1, q.2.2.2⟩
  have hpre : ∀ U : State, U.heap = H → (xs X).WarmedH U.vm → va_Pc As (fun U => P' U.heap ∧ zN G U ∧ ∀ q, U.heap.size ≤ q → gA G q) As.toArray U := fun U hU hW => ⟨rfl, by rw [hU]; exact hP' H hP, zN.warm hW (fun a g1 g2 => by rw [hU]; exact hS.2.1 a g1 g2) h6, fun q hq => h9 q (Nat.le_trans hS.1 (by rw [hU] at hq; exact hq))⟩
  have hr := va_runS (As := As) (rest := st) (g := F0 (xm X) pc ls (As.reverse ++ st)) (H := H) (locs := locs) (cells := k) (slots := n) (p := xp X) (l := xl X) (e := xe X) (below := xb X) (meth := xh X) ⟨h1, h2, h3, h4, h5⟩ hM ⟨hcb, h5 _ w2⟩ ⟨hbl, hpre⟩ rfl rfl (hL.1.trans rfl) rfl (lv_room hst) hd hc
  intro T hT Y
  obtain ⟨v, st₀, t, T', L, h0, X', hL', e1, e2, ⟨⟨w0, hv, hq⟩, hz, hk⟩, stp⟩ := hr T hT Y
  cases hv
  rw [h0] at hz hk
  obtain ⟨t2, a1, b1⟩ := kk w0 T'.heap (locs ++ L) ls (by rw [e1]; exact hq)
    ⟨Nat.le_trans hS.1 (by rw [e1]; exact hz), fun q g1 g2 => by rw [e1, hk q (Nat.lt_of_lt_of_le g1 hS.1) g2]; exact hS.2.1 q g1 g2, fun q hq => by
      rcases List.mem_append.mp hq with h | h
      · exact hS.2.2 q h
      · exact hL' q h⟩ hL T' rfl X'
  exact ⟨t2, stp t2 a1, b1⟩
end ZJ
