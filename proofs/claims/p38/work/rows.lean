section
/-! ===== BEGIN words of one list among another's, by their places ===== -/
theorem goodIn_r {big : List Cond} (ws : List Cond) (ps : List Nat) (hp : ws = ps.filterMap (fun i => big[i]?)) (h : ws.all goodWord = true) : GoodIn big ws := by
  intro w hw
  have h1 := List.all_eq_true.mp h w hw
  rw [hp] at hw
  obtain ⟨i, -, hi⟩ := List.mem_filterMap.mp hw
  have hm : w ∈ big := by first | exact List.mem_of_getElem? hi | exact List.getElem?_mem hi
  exact ⟨hm, good_of_word h1⟩
theorem goodIn_app {big a b : List Cond} (ha : GoodIn big a) (hb : GoodIn big b) : GoodIn big (a ++ b) := fun w h => (List.mem_append.mp h).elim (ha w) (hb w)
theorem goodIn_ca {big a b : List Cond} {c : Cond} (ha : GoodIn big (c :: a)) (hb : GoodIn big b) : GoodIn big (c :: (a ++ b)) := fun w h => (List.mem_cons.mp h).elim (fun e => ha w (List.mem_cons.mpr (Or.inl e))) (fun h => (List.mem_append.mp h).elim (fun h => ha w (List.mem_cons.mpr (Or.inr h))) (hb w))
theorem goodIn_sub {big ws : List Cond} (hm : ∀ w ∈ ws, w ∈ big) (h : ws.all goodWord = true) : GoodIn big ws := fun w hw => ⟨hm w hw, good_of_word (List.all_eq_true.mp h w hw)⟩
/-! ===== END ===== -/
/-! ===== BEGIN exceptions that leave a method, and their catching by the caller (launches without stack traces) ===== -/
section VXA
/-! The laws vx_back, vx_callV, vx_callS, vx_callSW, vx_throw0, vx_throwS follow proofs of the library, with one case more: JvmDerived/Free/Laws.lean (Back.of_free), Shelf42/LK1.lean (callV, callS), Shelf/KitTraced.lean (throwNew0V, throwNewS). -/
/-- where a method has thrown q: the class by its name, the cell, what was written, the world -/
def vx_T (XC : String → State → State → Prop) (st : State) (q : Addr) (t : State) (mc ms : Nat) (free : Addr → Prop) : Prop :=
  ∃ (E : String) (ce : Cell) (L : List Loc), XC E st t ∧ t.heap[q]? = some ce ∧ ce.vm = .none ∧ st.vm.findClass E = some ce.cls ∧ st.WarmedH t.vm ∧ st.sameButNew ({ t with vm := st.vm } : State) L mc ms ∧ ∀ z ∈ L, free z.base
def vx_Q (Qc : Array Value → State → Outcome → State → Prop) (XC : String → State → State → Prop) (mc ms : Nat) (free : Addr → Prop) : Array Value → State → Outcome → State → Prop := fun a st o t =>
  (Qc a st o t ∧ ∃ L, FrameEnd st o t L mc ms ∧ ∀ q ∈ L, free q.base) ∨ ∃ q, o = .threw q ∧ vx_T XC st q t mc ms free
/-- a callee that returns or throws -/
def vx_Met (l : Launch) (y : MethodName) (ws : List Cond) (rm : Room) (Pc : Array Value → State → Prop) (Qc : Array Value → State → Outcome → State → Prop) (XC : String → State → State → Prop) (mc ms : Nat) (free : Addr → Prop) : Prop :=
  MetFree l y (headSpec ws rm) Pc (fun _ _ _ _ _ => True) (vx_Q Qc XC mc ms free)
def vx_Post (XC : String → State → State → Prop) (mc ms : Nat) (free : Addr → Prop) : Pt → Array Value → Addr → Pt → Prop := fun A a q B =>
  ∃ (g : JFrame) (mk : MethodId) (t : State) (L : List Loc) (E : String) (ce : Cell), B.U.heap = t.heap ∧ B.U.vm = t.vm ∧ XC E (A.U.calling g mk a) t ∧ t.heap[q]? = some ce ∧ ce.vm = .none ∧ A.U.vm.findClass E = some ce.cls ∧ B.locs = A.locs ++ L ∧ (∀ z ∈ L, free z.base) ∧ B.cells = A.cells + mc ∧ B.slots = A.slots + ms
def vx_Back (l : Launch) (R : Room) (p : Program) (e : Env) (below : List Frame) (s : State) (sargs : Array Value) (y : MethodName) (len W9 : Nat)
    (Pre : Pt → Array Value → Prop) (Post : Pt → Array Value → Option Value → Pt → Prop) (PostX : Pt → Array Value → Addr → Pt → Prop) : Prop :=
  ∀ (m : MethodId) (meth : Method) (c : Code) (A : Pt) (g : JFrame) (ig : Instr) (mk : MethodId) (a : Array Value),
    Stand p l e R s m sargs below meth c A.U A.locs A.cells A.slots → g.method = m → g.locals.size = c.maxLocals → decode c.code g.pc = .ok (ig, len) →
    2 * g.monitorRoom + (g.stack.map fun v => v.category).sum ≤ W9 → A.U.methodNamed? y = some mk → Pre A a →
    (∃ (v : Option Value) (B : Pt), Stand p l e R s m sargs below meth c B.U B.locs B.cells B.slots ∧ Post A a v B ∧
      Steps p.tables e below (doInvoke e (A.U.setTop g) [] mk a).1 (B.U.setTop { g with pc := g.pc + len, stack := v.toList ++ g.stack })) ∨
    (∃ (q : Addr) (B : Pt), Stand p l e R s m sargs below meth c B.U B.locs B.cells B.slots ∧ PostX A a q B ∧
      Steps p.tables e below (doInvoke e (A.U.setTop g) [] mk a).1 ((B.U.setTop g).pushFrame (.throwing q)))
section Payer
variable {l : Launch} {R : Room} {p : Program} {e : Env} {below : List Frame} {s : State} {sargs : Array Value} {y : MethodName} {len W9 : Nat}
theorem vx_back {ws : List Cond} {rm : Room} {Pc : Array Value → State → Prop} {Qc : Array Value → State → Outcome → State → Prop} {XC : String → State → State → Prop} {mc ms : Nat} {free : Addr → Prop} {bytes : ByteArray} {maxL : Nat} {ret : Option FieldType}
    (hM : vx_Met l y ws rm Pc Qc XC mc ms free) (hblind : FrameBlind Pc) (hrc : rm.cells = mc) (hrs : rm.slots = ms)
    (hframes : rm.frames + 1 ≤ R.frames) (hlocals : W9 + (maxL + 11) + rm.locals ≤ R.locals)
    (hws : ∀ w ∈ ws, ∀ a' U, s.WarmedH U.vm → w.before a' U = true) (hcode : Cond.code y bytes maxL ret ∈ ws) (hinit : ∀ a' U, s.WarmedH U.vm → (Cond.initialized y.cls).before a' U = true) :
    vx_Back l R p e below s sargs y len W9 (PreOf R mc ms Pc) (PostOf Qc mc ms free) (vx_Post XC mc ms free) := by
  intro m meth c A g ig mk a X hg hsize hdg hW hn hp
  have h1 : (headSpec ws rm).pre.before a A.U = true := atoms_intro fun w hw => hws w hw _ _ X.warmed
  have h2 : (Cond.code y bytes maxL ret).before a A.U = true := hws _ hcode _ _ X.warmed
  have h3 : (Cond.initialized y.cls).before a A.U = true := hinit _ _ X.warmed
  have h4 : A.cells + (headSpec ws rm).room.cells ≤ R.cells := by rw [show (headSpec ws rm).room.cells = mc from hrc]; exact hp.1
  have h5 : A.slots + (headSpec ws rm).room.slots ≤ R.slots := by rw [show (headSpec ws rm).room.slots = ms from hrs]; exact hp.2.1
  have hPc : Pc a (A.U.calling g mk a) := hblind _ _ _ _ hp.2.2
  obtain ⟨U, Ls, c0, s0⟩ := A
  dsimp only [Pt.U, Pt.locs, Pt.cells, Pt.slots] at h1 h2 h3 h4 h5 X hn hPc ⊢
  obtain ⟨methY, cY, hmY, hcY, -, hlY, -, -, -, -⟩ := Cond.code_spec hn h2
  obtain ⟨kY, hkY, -⟩ := className_of_methodNamed hn
  have hinitY : kY.init = .initialized := Cond.initialized_spec (findClass_of_methodNamed hn) hkY h3
  have h : At U g.method c below := by rw [hg]; exact X.here
  have hlocals9 : W9 + (maxL + 11) + (headSpec ws rm).room.locals ≤ R.locals := hlocals
  have happ : (headSpec ws rm).appliesLoose y e.platform (U.calling g mk a) = true :=
    Spec.appliesLoose_calling (g := g) h hdg hn hkY hinitY
      (X.room_calling (g := g) (R' := (headSpec ws rm).room) hsize hmY hcY hframes (by rw [hlY]; omega) h4 h5) h1
  obtain ⟨mid, hmid⟩ := h.above
  have hfr : (U.setTop g).frames = (.java g :: mid) ++ below := by rw [State.frames_setTop' g h.top, hmid]; rfl
  obtain ⟨o, s₂, hsteps, -, hend, hq⟩ := Steps.callFree hM p X.admits X.cas X.clock (acts := []) hfr happ hPc trivial
  have hq' : vx_Q Qc XC mc ms free a (U.calling g mk a) o s₂ := hq
  rw [State.frames_setTop' g h.top] at hend
  obtain ⟨g₀, hg0⟩ := Option.isSome_iff_exists.mp h.top
  obtain ⟨r, hr⟩ := State.topJava?_eq_some.mp hg0
  have hr' : (({ U with heap := s₂.heap, slotsUsed := s₂.slotsUsed } : State).setVm s₂.vm).frames = .java g₀ :: r := hr
  rcases hq' with ⟨hqc, L, hfe, hL⟩ | ⟨q, rfl, E, ce, L, hx, hce, hcv, hcl, hW₂, hsm, hL⟩
  · obtain ⟨⟨v, rfl⟩, hW₂, e2, q2, q3, q4, q5, q6⟩ := id hfe
    have e3 : s₂ = ({ (U.calling g mk a).setFrames s₂.frames with heap := s₂.heap, slotsUsed := s₂.slotsUsed } : State).setVm s₂.vm := by
      have : s₂ = ({ s₂ with vm := (U.calling g mk a).vm } : State).setVm s₂.vm := rfl
      rw [e2] at this
      exact this
    obtain ⟨c₂, i₂, len₂, hc₂, hd₂, hf₂⟩ := hend
    have hW' : U.WarmedH s₂.vm := hW₂
    have hcc : c₂ = c := by
      have h1 : s₂.code? g.method = U.code? g.method := by
        rw [State.code?_eq, State.code?_eq, hW'.alike.method?]
      exact Option.some.inj (hc₂.symm.trans (h1.trans h.code))
    subst hcc
    have hlen : len₂ = len := by rw [hdg] at hd₂; cases hd₂; rfl
    subst hlen
    have hs₂ : s₂ = (({ U with heap := s₂.heap, slotsUsed := s₂.slotsUsed } : State).setVm s₂.vm).setTop { g with pc := g.pc + len₂, stack := v.toList ++ g.stack } := by
      refine e3.trans ?_
      rw [hf₂, State.calling_eq h.top, State.setFrames_setFrames, State.setTop_of_frames _ hr', hr]
      rfl
    have hsame : U.sameButNew ({ U with heap := s₂.heap, slotsUsed := s₂.slotsUsed } : State) L mc ms := by
      refine ⟨?_, q2, q3, q4, q5, q6⟩
      obtain ⟨t, ht, -⟩ := State.frames_cons hr
      show ({ U with heap := s₂.heap, slotsUsed := s₂.slotsUsed } : State) = { U.setFrames U.frames with heap := s₂.heap, slotsUsed := s₂.slotsUsed }
      rw [State.setFrames_self ht]
    subst hg
    refine Or.inl ⟨v, ⟨(({ U with heap := s₂.heap, slotsUsed := s₂.slotsUsed } : State).setVm s₂.vm), Ls ++ L, c0 + mc, s0 + ms⟩,
      ⟨X.admits, X.cas, X.clock, X.frames, X.room, X.hears, X.method, X.code, (X.here.setHeapUsed s₂.heap s₂.slotsUsed).setVm hW'.alike, X.tail, State.WarmedH.trans X.warmed hW', X.limits, X.bytes, X.same.trans (hsame.setVm s.vm)⟩,
      ⟨g, mk, s₂, L, rfl, rfl, hqc, rfl, hL, rfl, rfl⟩, ?_⟩
    show Steps p.tables e below _ ((({ U with heap := s₂.heap, slotsUsed := s₂.slotsUsed } : State).setVm s₂.vm).setTop { g with pc := g.pc + len₂, stack := v.toList ++ g.stack })
    rw [← hs₂]
    exact hsteps
  · obtain ⟨e2, q2, q3, q4, q5, q6⟩ := id hsm
    have e3 : s₂ = ({ (U.calling g mk a).setFrames s₂.frames with heap := s₂.heap, slotsUsed := s₂.slotsUsed } : State).setVm s₂.vm := by
      have : s₂ = ({ s₂ with vm := (U.calling g mk a).vm } : State).setVm s₂.vm := rfl
      rw [e2] at this
      exact this
    have hf₂ : s₂.frames = .throwing q :: .java g :: U.frames.tail := hend
    have hW' : U.WarmedH s₂.vm := hW₂
    have hs₂ : s₂ = ((({ U with heap := s₂.heap, slotsUsed := s₂.slotsUsed } : State).setVm s₂.vm).setTop g).pushFrame (.throwing q) := by
      refine e3.trans ?_
      rw [hf₂, State.calling_eq h.top, State.setFrames_setFrames, State.pushFrame, State.frames_setTop _ hr', State.setTop_of_frames _ hr', State.setFrames_setFrames, hr]
      rfl
    have hsame : U.sameButNew ({ U with heap := s₂.heap, slotsUsed := s₂.slotsUsed } : State) L mc ms := by
      refine ⟨?_, q2, q3, q4, q5, q6⟩
      obtain ⟨t, ht, -⟩ := State.frames_cons hr
      show ({ U with heap := s₂.heap, slotsUsed := s₂.slotsUsed } : State) = { U.setFrames U.frames with heap := s₂.heap, slotsUsed := s₂.slotsUsed }
      rw [State.setFrames_self ht]
    subst hg
    refine Or.inr ⟨q, ⟨(({ U with heap := s₂.heap, slotsUsed := s₂.slotsUsed } : State).setVm s₂.vm), Ls ++ L, c0 + mc, s0 + ms⟩,
      ⟨X.admits, X.cas, X.clock, X.frames, X.room, X.hears, X.method, X.code, (X.here.setHeapUsed s₂.heap s₂.slotsUsed).setVm hW'.alike, X.tail, State.WarmedH.trans X.warmed hW', X.limits, X.bytes, X.same.trans (hsame.setVm s.vm)⟩,
      ⟨g, mk, s₂, L, E, ce, rfl, rfl, hx, hce, hcv, hcl, rfl, hL, rfl, rfl⟩, ?_⟩
    show Steps p.tables e below _ (((({ U with heap := s₂.heap, slotsUsed := s₂.slotsUsed } : State).setVm s₂.vm).setTop g).pushFrame (.throwing q))
    rw [← hs₂]
    exact hsteps
end Payer
section Calls
variable {p : Program} {l : Launch} {e : Env} {R : Room} {s : State} {m : MethodId} {args : Array Value} {below : List Frame} {meth : Method} {c : Code} {T : State} {locs : List Loc} {cells slots : Nat}
theorem vx_callV (X : Stand p l e R s m args below meth c T locs cells slots) (hexec : p.tables.exec = Jvm.exec) {own C : String} {index : Nat} {y : MethodName} {bytes : ByteArray} {maxL : Nat} {ret : Option FieldType}
    (hown : s.vm.findClass own = some m.cls) (hlink : (Cond.methodLink own index y).before args s = true) (hinst : (Cond.instanceMethod y).before args s = true) (hsel : (Cond.selects C y y).before args s = true)
    (hcode : (Cond.code y bytes maxL ret).before args s = true) (hy : y.cls ≠ "java/lang/invoke/MethodHandle" ∧ y.cls ≠ "java/lang/invoke/VarHandle")
    {W9 : Nat} {Pre : Pt → Array Value → Prop} {Post : Pt → Array Value → Option Value → Pt → Prop} {PostX : Pt → Array Value → Addr → Pt → Prop} (hK : vx_Back l R p e below s args y 3 W9 Pre Post PostX)
    {b : Addr} {cellB : Cell} (hcell : T.heap[b]? = some cellB) (hobj : cellB.vm.isStatics = false) (hcls : s.vm.findClass C = some cellB.cls)
    {g : JFrame} (hg : g.method = m) (hsize : g.locals.size = c.maxLocals) {argsL rest : List Value} (hlen : ∀ sig, parseMethodDescriptor y.desc = some sig → argsL.length = sig.parameters.length)
    (hstack : g.stack = argsL.reverse ++ .ref b :: rest) (hW : 2 * g.monitorRoom + (rest.map fun v => v.category).sum ≤ W9) (hdg : decode c.code g.pc = .ok (.invokevirtual index, 3))
    (hpre : ∀ vm₁, s.WarmedH vm₁ → Pre ⟨T.setVm vm₁, locs, cells, slots⟩ (Value.ref b :: argsL).toArray) :
    (∃ (v : Option Value) (vm₁ : Vm) (B : Pt), s.WarmedH vm₁ ∧ Stand p l e R s m args below meth c B.U B.locs B.cells B.slots ∧ Post ⟨T.setVm vm₁, locs, cells, slots⟩ (Value.ref b :: argsL).toArray v B ∧
      ∀ target, Steps p.tables e below (B.U.setTop { g with pc := g.pc + 3, stack := v.toList ++ rest }) target → Steps p.tables e below (T.setTop g) target) ∨
    (∃ (q : Addr) (vm₁ : Vm) (B : Pt), s.WarmedH vm₁ ∧ Stand p l e R s m args below meth c B.U B.locs B.cells B.slots ∧ PostX ⟨T.setVm vm₁, locs, cells, slots⟩ (Value.ref b :: argsL).toArray q B ∧
      Steps p.tables e below (T.setTop g) ((B.U.setTop { g with stack := rest }).pushFrame (.throwing q))) := by
  obtain ⟨mk, methM, hnamed, hmethM, hstM, habM⟩ := Cond.instanceMethod_spec hinst
  obtain ⟨methM', cM, hmethM', -, -, -, -, -, -, hsigM⟩ := Cond.code_spec hnamed hcode
  cases hmethM.symm.trans hmethM'
  obtain ⟨c2, r2, m2, q1, q2, q3, q4, kP, hkP, hkPi⟩ := Cond.selects_spec hsel
  cases hcls.symm.trans q1
  cases (State.methodFound?_of_named hnamed hy).symm.trans q2
  cases hnamed.symm.trans q3
  have hselP : selectMethod e.platform s.vm cellB.cls mk = .method mk := by rw [Launch.admits_selectMethod X.admits]; exact q4
  obtain ⟨vm₁, X₁, hstep₁⟩ := X.invokevirtual hexec hown hlink hnamed hmethM hstM hkP hkPi hy (a := b) (cell := cellB) hcell
    (fun z h => by rw [h] at hobj; cases hobj) hselP hmethM habM hkP hkPi (g := g) hg (argsL := argsL) (rest := rest) (hlen _ hsigM) hstack hdg
  rcases hK m meth c ⟨T.setVm vm₁, locs, cells, slots⟩ { g with stack := rest } (.invokevirtual index) mk (Value.ref b :: argsL).toArray X₁ hg hsize hdg hW (X₁.named hnamed) (hpre vm₁ X₁.warmed) with ⟨v, B, X', hpost, hsteps⟩ | ⟨q, B, X', hpost, hsteps⟩
  · exact Or.inl ⟨v, vm₁, B, X₁.warmed, X', hpost, fun target h => hstep₁ _ fun acts => by rw [doInvoke_state]; exact hsteps.trans h⟩
  · exact Or.inr ⟨q, vm₁, B, X₁.warmed, X', hpost, hstep₁ _ fun acts => by rw [doInvoke_state]; exact hsteps⟩
theorem vx_callS (X : Stand p l e R s m args below meth c T locs cells slots) (hexec : p.tables.exec = Jvm.exec) {own : String} {index : Nat} {y : MethodName} {bytes : ByteArray} {maxL : Nat} {ret : Option FieldType}
    (hown : s.vm.findClass own = some m.cls) (hlink : (Cond.methodLink own index y).before args s = true) (hstat : (Cond.static y).before args s = true) (hinit : (Cond.initialized y.cls).before args s = true)
    (hcode : (Cond.code y bytes maxL ret).before args s = true) (hy : y.cls ≠ "java/lang/invoke/MethodHandle" ∧ y.cls ≠ "java/lang/invoke/VarHandle")
    {W9 : Nat} {Pre : Pt → Array Value → Prop} {Post : Pt → Array Value → Option Value → Pt → Prop} {PostX : Pt → Array Value → Addr → Pt → Prop} (hK : vx_Back l R p e below s args y 3 W9 Pre Post PostX)
    {g : JFrame} (hg : g.method = m) (hsize : g.locals.size = c.maxLocals) {argsL rest : List Value} (hlen : ∀ sig, parseMethodDescriptor y.desc = some sig → argsL.length = sig.parameters.length)
    (hstack : g.stack = argsL.reverse ++ rest) (hW : 2 * g.monitorRoom + (rest.map fun v => v.category).sum ≤ W9) (hdg : decode c.code g.pc = .ok (.invokestatic index, 3))
    (hpre : ∀ vm₁, s.WarmedH vm₁ → Pre ⟨T.setVm vm₁, locs, cells, slots⟩ argsL.toArray) :
    (∃ (v : Option Value) (vm₁ : Vm) (B : Pt), s.WarmedH vm₁ ∧ Stand p l e R s m args below meth c B.U B.locs B.cells B.slots ∧ Post ⟨T.setVm vm₁, locs, cells, slots⟩ argsL.toArray v B ∧
      ∀ target, Steps p.tables e below (B.U.setTop { g with pc := g.pc + 3, stack := v.toList ++ rest }) target → Steps p.tables e below (T.setTop g) target) ∨
    (∃ (q : Addr) (vm₁ : Vm) (B : Pt), s.WarmedH vm₁ ∧ Stand p l e R s m args below meth c B.U B.locs B.cells B.slots ∧ PostX ⟨T.setVm vm₁, locs, cells, slots⟩ argsL.toArray q B ∧
      Steps p.tables e below (T.setTop g) ((B.U.setTop { g with stack := rest }).pushFrame (.throwing q))) := by
  obtain ⟨mk, hnamed⟩ := Cond.code_named hcode
  obtain ⟨methM, cM, hmethM, -, -, -, -, -, -, hsigM⟩ := Cond.code_spec hnamed hcode
  have hstatic : methM.isStatic = true := Cond.static_spec hnamed hmethM hstat
  obtain ⟨kP, hkP, -⟩ := className_of_methodNamed hnamed
  have hinitP : kP.init = .initialized := Cond.initialized_spec (findClass_of_methodNamed hnamed) hkP hinit
  obtain ⟨vm₁, X₁, hstep₁⟩ := X.invokestatic hexec hown hlink hnamed hmethM hstatic hkP hinitP hy (g := g) hg (argsL := argsL) (rest := rest) (hlen _ hsigM) hstack hdg
  rcases hK m meth c ⟨T.setVm vm₁, locs, cells, slots⟩ { g with stack := rest } (.invokestatic index) mk argsL.toArray X₁ hg hsize hdg hW (X₁.named hnamed) (hpre vm₁ X₁.warmed) with ⟨v, B, X', hpost, hsteps⟩ | ⟨q, B, X', hpost, hsteps⟩
  · exact Or.inl ⟨v, vm₁, B, X₁.warmed, X', hpost, fun target h => hstep₁ _ fun acts => by rw [doInvoke_state]; exact hsteps.trans h⟩
  · exact Or.inr ⟨q, vm₁, B, X₁.warmed, X', hpost, hstep₁ _ fun acts => by rw [doInvoke_state]; exact hsteps⟩
end Calls
theorem vx_cls {s : State} {T : State} {vm₁ : Vm} {E : String} {k : ClassId} (hW : s.WarmedH vm₁) (h : (T.setVm vm₁).vm.findClass E = some k) : s.vm.findClass E = some k := by
  have h1 : vm₁.findClass E = some k := h
  rw [hW.alike.findClass] at h1
  exact h1
/-- the method's frame g, with q thrown over it -/
def vx_W (p : Program) (l : Launch) (e : Env) (R : Room) (s : State) (m : MethodId) (args : Array Value) (below : List Frame) (meth : Method) (c : Code) (H : Heap) (locs : List Loc) (cells slots : Nat) (Q : State → Prop) (g : JFrame) (q : Addr) : Prop :=
  ∀ T : State, T.heap = H → Stand p l e R s m args below meth c T locs cells slots → ∃ t, Steps p.tables e below ((T.setTop g).pushFrame (.throwing q)) t ∧ Q t
def vx_Run (p : Program) (l : Launch) (e : Env) (R : Room) (s : State) (m : MethodId) (args : Array Value) (below : List Frame) (meth : Method) (c : Code) (H : Heap) (locs : List Loc) (cells slots mc ms : Nat) (g : JFrame) (rest : List Value) (Qa : State → Outcome → State → Prop) (XC : String → State → State → Prop) (free : Addr → Prop) : Prop :=
  ∀ T : State, T.heap = H → Stand p l e R s m args below meth c T locs cells slots →
    (∃ (v : Option Value) (st₀ t T' : State) (L : List Loc), st₀.heap = H ∧ Stand p l e R s m args below meth c T' (locs ++ L) (cells + mc) (slots + ms) ∧ (∀ q ∈ L, free q.base) ∧ T'.heap = t.heap ∧ T'.vm = t.vm ∧ Qa st₀ (.returned v) t ∧
      Goes p e below T g T' { g with pc := g.pc + 3, stack := v.toList ++ rest }) ∨
    (∃ (q : Addr) (st₀ t T' : State) (L : List Loc) (E : String) (ce : Cell), st₀.heap = H ∧ Stand p l e R s m args below meth c T' (locs ++ L) (cells + mc) (slots + ms) ∧ (∀ z ∈ L, free z.base) ∧ T'.heap = t.heap ∧ T'.vm = t.vm ∧ XC E st₀ t ∧ t.heap[q]? = some ce ∧ ce.vm = .none ∧ s.vm.findClass E = some ce.cls ∧
      Steps p.tables e below (T.setTop g) ((T'.setTop { g with stack := rest }).pushFrame (.throwing q)))
def vx_X {S : Type} (px : S → Prop) (B : String → S → State → Prop) (A : Nat → Prop) : String → State → State → Prop := fun E st t => ∃ u : S, px u ∧ B E u t ∧ va_F A st t
section Runs
variable {p : Program} {l : Launch} {e : Env} {R : Room} {s : State} {m : MethodId} {args : Array Value} {below : List Frame} {meth : Method} {c : Code} {H : Heap} {locs : List Loc} {cells slots : Nat}
variable {y : MethodName} {bytes cc : ByteArray} {maxL nL mc ms n index : Nat} {ret : Option FieldType} {ws : List Cond} {rm : Room} {Pc : Array Value → State → Prop} {Qc : Array Value → State → Outcome → State → Prop} {XC : String → State → State → Prop} {free : Addr → Prop} {Ts : List Cond} {own C : String} {b : Addr} {As rest : List Value} {g : JFrame}
theorem vx_callBack (cb : CallB R s args own index y bytes maxL ret ws rm mc ms n) (hM : vx_Met l y ws rm Pc Qc XC mc ms free) (hbl : FrameBlind Pc) : vx_Back l R p e below s args y 3 8 (PreOf R mc ms Pc) (PostOf Qc mc ms free) (vx_Post XC mc ms free) := by
  obtain ⟨hrc, hrs, hfr, hlo, hws, hcw, -, hini, -⟩ := cb
  exact vx_back (bytes := bytes) (maxL := maxL) (ret := ret) hM hbl hrc hrs hfr hlo hws hcw (fun a' U hW => word_at hW (Or.inl (by first | rfl | simp [Cond.onTables, Cond.keeps, Cond.steady])) hini)
theorem vx_runV (S : CallFix p m c cc nL s args Ts own) (hM : vx_Met l y ws rm Pc Qc XC mc ms free) (cw : CallW R s args own C index y bytes maxL ret ws rm mc ms n) (hp : PreV s H C b Pc As)
    (hg : g.method = m) (hn : As.length = n) (hsize : g.locals.size = nL) (hstack : g.stack = As.reverse ++ .ref b :: rest) (hW : 2 * g.monitorRoom + (rest.map fun v => v.category).sum ≤ 8) (hdg : decode cc g.pc = .ok (.invokevirtual index, 3)) (hf : cells + mc ≤ R.cells ∧ slots + ms ≤ R.slots) :
    vx_Run p l e R s m args below meth c H locs cells slots mc ms g rest (Qc (Value.ref b :: As).toArray) XC free := by
  have hK : vx_Back l R p e below s args y 3 8 (PreOf R mc ms Pc) (PostOf Qc mc ms free) (vx_Post XC mc ms free) := vx_callBack cw.1 hM hp.1
  obtain ⟨⟨-, -, -, -, -, -, hcode, -, hy, hlen, hl⟩, hin, hse⟩ := cw
  obtain ⟨hx, hb, hml, ho, -⟩ := S
  obtain ⟨-, ⟨cellB, hcB, hoB, hclB⟩, hPc⟩ := hp
  intro T hT X
  rcases vx_callV X hx (C := C) (bytes := bytes) (maxL := maxL) (ret := ret) ho hl hin hse hcode hy hK (by rw [hT]; exact hcB) hoB hclB hg (hsize.trans hml.symm) (argsL := As) (rest := rest) (fun sig h => hn.trans (hlen sig h)) hstack hW (by rw [hb]; exact hdg)
    (fun vm₁ hW₁ => ⟨hf.1, hf.2, hPc (T.setVm vm₁) hT hW₁⟩) with ⟨v, vm₁, ⟨U', l2, c2, s2⟩, hW₁, X', ⟨g', mk, t, L, e1, e2, hq, h1, hL, h2, h3⟩, st⟩ | ⟨q, vm₁, ⟨U', l2, c2, s2⟩, hW₁, X', ⟨g', mk, t, L, E, ce, e1, e2, hq, hce, hcv, hcl, h1, hL, h2, h3⟩, st⟩
  · dsimp only [Pt.U, Pt.locs, Pt.cells, Pt.slots] at X' e1 e2 h1 h2 h3 st
    subst h1; subst h2; subst h3
    exact Or.inl ⟨v, (T.setVm vm₁).calling g' mk (Value.ref b :: As).toArray, t, U', L, hT, X', hL, e1, e2, hq, st⟩
  · dsimp only [Pt.U, Pt.locs, Pt.cells, Pt.slots] at X' e1 e2 h1 h2 h3 st hcl
    subst h1; subst h2; subst h3
    exact Or.inr ⟨q, (T.setVm vm₁).calling g' mk (Value.ref b :: As).toArray, t, U', L, E, ce, hT, X', hL, e1, e2, hq, hce, hcv, vx_cls hW₁ hcl, st⟩
theorem vx_runS (S : CallFix p m c cc nL s args Ts own) (hM : vx_Met l y ws rm Pc Qc XC mc ms free) (cw : CallB R s args own index y bytes maxL ret ws rm mc ms n ∧ (Cond.static y).before args s = true) (hp : PreS s H Pc As)
    (hg : g.method = m) (hn : As.length = n) (hsize : g.locals.size = nL) (hstack : g.stack = As.reverse ++ rest) (hW : 2 * g.monitorRoom + (rest.map fun v => v.category).sum ≤ 8) (hdg : decode cc g.pc = .ok (.invokestatic index, 3)) (hf : cells + mc ≤ R.cells ∧ slots + ms ≤ R.slots) :
    vx_Run p l e R s m args below meth c H locs cells slots mc ms g rest (Qc As.toArray) XC free := by
  have hK : vx_Back l R p e below s args y 3 8 (PreOf R mc ms Pc) (PostOf Qc mc ms free) (vx_Post XC mc ms free) := vx_callBack cw.1 hM hp.1
  obtain ⟨⟨-, -, -, -, -, -, hcode, hini, hy, hlen, hl⟩, hstt⟩ := cw
  obtain ⟨hx, hb, hml, ho, -⟩ := S
  intro T hT X
  rcases vx_callS X hx (bytes := bytes) (maxL := maxL) (ret := ret) ho hl hstt hini hcode hy hK hg (hsize.trans hml.symm) (argsL := As) (rest := rest) (fun sig h => hn.trans (hlen sig h)) hstack hW (by rw [hb]; exact hdg)
    (fun vm₁ hW₁ => ⟨hf.1, hf.2, hp.2 (T.setVm vm₁) hT hW₁⟩) with ⟨v, vm₁, ⟨U', l2, c2, s2⟩, hW₁, X', ⟨g', mk, t, L, e1, e2, hq, h1, hL, h2, h3⟩, st⟩ | ⟨q, vm₁, ⟨U', l2, c2, s2⟩, hW₁, X', ⟨g', mk, t, L, E, ce, e1, e2, hq, hce, hcv, hcl, h1, hL, h2, h3⟩, st⟩
  · dsimp only [Pt.U, Pt.locs, Pt.cells, Pt.slots] at X' e1 e2 h1 h2 h3 st
    subst h1; subst h2; subst h3
    exact Or.inl ⟨v, (T.setVm vm₁).calling g' mk As.toArray, t, U', L, hT, X', hL, e1, e2, hq, st⟩
  · dsimp only [Pt.U, Pt.locs, Pt.cells, Pt.slots] at X' e1 e2 h1 h2 h3 st hcl
    subst h1; subst h2; subst h3
    exact Or.inr ⟨q, (T.setVm vm₁).calling g' mk As.toArray, t, U', L, E, ce, hT, X', hL, e1, e2, hq, hce, hcv, vx_cls hW₁ hcl, st⟩
end Runs
section Rows
variable {p : Program} {l : Launch} {e : Env} {R : Room} {s : State} {m : MethodId} {args : Array Value} {below : List Frame} {meth : Method} {c : Code} {H : Heap} {locs : List Loc} {cells slots : Nat} {Q : State → Prop}
variable {mc ms : Nat} {free : Addr → Prop} {A0 A1 : Nat → Prop} {H0 : Heap} {a : Array Value} {pc : Nat} {ls : Array Slot} {st0 rest : List Value}
theorem vx_keep {st₀ t T' : State} {L : List Loc} (h0 : st₀.heap = H) (e1 : T'.heap = t.heap) (hS : va_S A0 H0 H locs) (hA : ∀ q, q < H.size → A1 q → A0 q) (hf : ∀ q, free q → A0 q) (hL : ∀ q ∈ L, free q.base) (hF : va_F A1 st₀ t) :
    H.size ≤ T'.heap.size ∧ (∀ q : Nat, q < H.size → ¬ A1 q → T'.heap[q]? = H[q]?) ∧ va_S A0 H0 T'.heap (locs ++ L) := by
  obtain ⟨hz, hk⟩ := hF
  rw [h0] at hz hk
  exact ⟨by rw [e1]; exact hz, fun q h1 h2 => by rw [e1]; exact hk q h1 h2,
    ⟨Nat.le_trans hS.1 (by rw [e1]; exact hz), fun q h1 h2 => by rw [e1, hk q (Nat.lt_of_lt_of_le h1 hS.1) (fun z => h2 (hA q (Nat.lt_of_lt_of_le h1 hS.1) z))]; exact hS.2.1 q h1 h2, fun q hq => by
      rcases List.mem_append.mp hq with h | h
      · exact hS.2.2 q h
      · exact hf _ (hL q h)⟩⟩
theorem vx_calli {S SX : Type} {post : Int32 → S → Prop} {px : SX → Prop} {B : S → State → Prop} {BX : String → SX → State → Prop} {AX : Nat → Prop} (hr : vx_Run p l e R s m args below meth c H locs cells slots mc ms (F0 m pc ls st0) rest (va_Qi post B A1 a) (vx_X px BX AX) free) (hS : va_S A0 H0 H locs) (hA : ∀ q, q < H.size → A1 q → A0 q) (hf : ∀ q, free q → A0 q) (hAX : ∀ q, q < H.size → AX q → A0 q)
    (kx : ∀ (E : String) (ce : Cell) (q9 : Addr) (u : SX) (t : State) (H1 : Heap) (locs1 : List Loc), t.heap = H1 → s.vm.Alike t.vm → px u → BX E u t → H.size ≤ H1.size → (∀ q : Nat, q < H.size → ¬ AX q → H1[q]? = H[q]?) → va_S A0 H0 H1 locs1 → H1[q9]? = some ce → ce.vm = .none → s.vm.findClass E = some ce.cls → vx_W p l e R s m args below meth c H1 locs1 (cells + mc) (slots + ms) Q (F0 m pc ls rest) q9)
    (kk : ∀ (r : Int32) (u : S) (t : State) (H1 : Heap) (locs1 : List Loc), t.heap = H1 → s.vm.Alike t.vm → post r u → B u t → H.size ≤ H1.size → (∀ q : Nat, q < H.size → ¬ A1 q → H1[q]? = H[q]?) → va_S A0 H0 H1 locs1 → W p l e R s m args below meth c H1 locs1 (cells + mc) (slots + ms) Q (F0 m (pc + 3) ls (.int r :: rest))) : W p l e R s m args below meth c H locs cells slots Q (F0 m pc ls st0) := by
  intro T hT X
  rcases hr T hT X with ⟨v, st₀, t, T', L, h0, X', hL, e1, e2, ⟨⟨r, u, hv, hp, hb⟩, hF⟩, st⟩ | ⟨q, st₀, t, T', L, E, ce, h0, X', hL, e1, e2, ⟨u, hp, hb, hF⟩, hce, hcv, hcl, st⟩
  · cases hv
    obtain ⟨k1, k2, k3⟩ := vx_keep h0 e1 hS hA hf hL hF
    obtain ⟨t2, a1, b1⟩ := kk r u t T'.heap (locs ++ L) e1.symm (by rw [← e2]; exact X'.warmed.alike) hp hb k1 k2 k3 T' rfl X'
    exact ⟨t2, st t2 a1, b1⟩
  · obtain ⟨k1, k2, k3⟩ := vx_keep h0 e1 hS hAX hf hL hF
    obtain ⟨t2, a1, b1⟩ := kx E ce q u t T'.heap (locs ++ L) e1.symm (by rw [← e2]; exact X'.warmed.alike) hp hb k1 k2 k3 (by rw [e1]; exact hce) hcv hcl T' rfl X'
    exact ⟨t2, st.trans a1, b1⟩
theorem vx_calll {S SX : Type} {post : Int64 → S → Prop} {px : SX → Prop} {B : S → State → Prop} {BX : String → SX → State → Prop} {AX : Nat → Prop} (hr : vx_Run p l e R s m args below meth c H locs cells slots mc ms (F0 m pc ls st0) rest (va_Ql post B A1 a) (vx_X px BX AX) free) (hS : va_S A0 H0 H locs) (hA : ∀ q, q < H.size → A1 q → A0 q) (hf : ∀ q, free q → A0 q) (hAX : ∀ q, q < H.size → AX q → A0 q)
    (kx : ∀ (E : String) (ce : Cell) (q9 : Addr) (u : SX) (t : State) (H1 : Heap) (locs1 : List Loc), t.heap = H1 → s.vm.Alike t.vm → px u → BX E u t → H.size ≤ H1.size → (∀ q : Nat, q < H.size → ¬ AX q → H1[q]? = H[q]?) → va_S A0 H0 H1 locs1 → H1[q9]? = some ce → ce.vm = .none → s.vm.findClass E = some ce.cls → vx_W p l e R s m args below meth c H1 locs1 (cells + mc) (slots + ms) Q (F0 m pc ls rest) q9)
    (kk : ∀ (r : Int64) (u : S) (t : State) (H1 : Heap) (locs1 : List Loc), t.heap = H1 → s.vm.Alike t.vm → post r u → B u t → H.size ≤ H1.size → (∀ q : Nat, q < H.size → ¬ A1 q → H1[q]? = H[q]?) → va_S A0 H0 H1 locs1 → W p l e R s m args below meth c H1 locs1 (cells + mc) (slots + ms) Q (F0 m (pc + 3) ls (.long r :: rest))) : W p l e R s m args below meth c H locs cells slots Q (F0 m pc ls st0) := by
  intro T hT X
  rcases hr T hT X with ⟨v, st₀, t, T', L, h0, X', hL, e1, e2, ⟨⟨r, u, hv, hp, hb⟩, hF⟩, st⟩ | ⟨q, st₀, t, T', L, E, ce, h0, X', hL, e1, e2, ⟨u, hp, hb, hF⟩, hce, hcv, hcl, st⟩
  · cases hv
    obtain ⟨k1, k2, k3⟩ := vx_keep h0 e1 hS hA hf hL hF
    obtain ⟨t2, a1, b1⟩ := kk r u t T'.heap (locs ++ L) e1.symm (by rw [← e2]; exact X'.warmed.alike) hp hb k1 k2 k3 T' rfl X'
    exact ⟨t2, st t2 a1, b1⟩
  · obtain ⟨k1, k2, k3⟩ := vx_keep h0 e1 hS hAX hf hL hF
    obtain ⟨t2, a1, b1⟩ := kx E ce q u t T'.heap (locs ++ L) e1.symm (by rw [← e2]; exact X'.warmed.alike) hp hb k1 k2 k3 (by rw [e1]; exact hce) hcv hcl T' rfl X'
    exact ⟨t2, st.trans a1, b1⟩
theorem vx_callf {S SX : Type} {post : UInt32 → S → Prop} {px : SX → Prop} {B : S → State → Prop} {BX : String → SX → State → Prop} {AX : Nat → Prop} (hr : vx_Run p l e R s m args below meth c H locs cells slots mc ms (F0 m pc ls st0) rest (va_Qf post B A1 a) (vx_X px BX AX) free) (hS : va_S A0 H0 H locs) (hA : ∀ q, q < H.size → A1 q → A0 q) (hf : ∀ q, free q → A0 q) (hAX : ∀ q, q < H.size → AX q → A0 q)
    (kx : ∀ (E : String) (ce : Cell) (q9 : Addr) (u : SX) (t : State) (H1 : Heap) (locs1 : List Loc), t.heap = H1 → s.vm.Alike t.vm → px u → BX E u t → H.size ≤ H1.size → (∀ q : Nat, q < H.size → ¬ AX q → H1[q]? = H[q]?) → va_S A0 H0 H1 locs1 → H1[q9]? = some ce → ce.vm = .none → s.vm.findClass E = some ce.cls → vx_W p l e R s m args below meth c H1 locs1 (cells + mc) (slots + ms) Q (F0 m pc ls rest) q9)
    (kk : ∀ (r : UInt32) (u : S) (t : State) (H1 : Heap) (locs1 : List Loc), t.heap = H1 → s.vm.Alike t.vm → post r u → B u t → H.size ≤ H1.size → (∀ q : Nat, q < H.size → ¬ A1 q → H1[q]? = H[q]?) → va_S A0 H0 H1 locs1 → W p l e R s m args below meth c H1 locs1 (cells + mc) (slots + ms) Q (F0 m (pc + 3) ls (.float r :: rest))) : W p l e R s m args below meth c H locs cells slots Q (F0 m pc ls st0) := by
  intro T hT X
  rcases hr T hT X with ⟨v, st₀, t, T', L, h0, X', hL, e1, e2, ⟨⟨r, u, hv, hp, hb⟩, hF⟩, st⟩ | ⟨q, st₀, t, T', L, E, ce, h0, X', hL, e1, e2, ⟨u, hp, hb, hF⟩, hce, hcv, hcl, st⟩
  · cases hv
    obtain ⟨k1, k2, k3⟩ := vx_keep h0 e1 hS hA hf hL hF
    obtain ⟨t2, a1, b1⟩ := kk r u t T'.heap (locs ++ L) e1.symm (by rw [← e2]; exact X'.warmed.alike) hp hb k1 k2 k3 T' rfl X'
    exact ⟨t2, st t2 a1, b1⟩
  · obtain ⟨k1, k2, k3⟩ := vx_keep h0 e1 hS hAX hf hL hF
    obtain ⟨t2, a1, b1⟩ := kx E ce q u t T'.heap (locs ++ L) e1.symm (by rw [← e2]; exact X'.warmed.alike) hp hb k1 k2 k3 (by rw [e1]; exact hce) hcv hcl T' rfl X'
    exact ⟨t2, st.trans a1, b1⟩
theorem vx_calld {S SX : Type} {post : UInt64 → S → Prop} {px : SX → Prop} {B : S → State → Prop} {BX : String → SX → State → Prop} {AX : Nat → Prop} (hr : vx_Run p l e R s m args below meth c H locs cells slots mc ms (F0 m pc ls st0) rest (va_Qd post B A1 a) (vx_X px BX AX) free) (hS : va_S A0 H0 H locs) (hA : ∀ q, q < H.size → A1 q → A0 q) (hf : ∀ q, free q → A0 q) (hAX : ∀ q, q < H.size → AX q → A0 q)
    (kx : ∀ (E : String) (ce : Cell) (q9 : Addr) (u : SX) (t : State) (H1 : Heap) (locs1 : List Loc), t.heap = H1 → s.vm.Alike t.vm → px u → BX E u t → H.size ≤ H1.size → (∀ q : Nat, q < H.size → ¬ AX q → H1[q]? = H[q]?) → va_S A0 H0 H1 locs1 → H1[q9]? = some ce → ce.vm = .none → s.vm.findClass E = some ce.cls → vx_W p l e R s m args below meth c H1 locs1 (cells + mc) (slots + ms) Q (F0 m pc ls rest) q9)
    (kk : ∀ (r : UInt64) (u : S) (t : State) (H1 : Heap) (locs1 : List Loc), t.heap = H1 → s.vm.Alike t.vm → post r u → B u t → H.size ≤ H1.size → (∀ q : Nat, q < H.size → ¬ A1 q → H1[q]? = H[q]?) → va_S A0 H0 H1 locs1 → W p l e R s m args below meth c H1 locs1 (cells + mc) (slots + ms) Q (F0 m (pc + 3) ls (.double r :: rest))) : W p l e R s m args below meth c H locs cells slots Q (F0 m pc ls st0) := by
  intro T hT X
  rcases hr T hT X with ⟨v, st₀, t, T', L, h0, X', hL, e1, e2, ⟨⟨r, u, hv, hp, hb⟩, hF⟩, st⟩ | ⟨q, st₀, t, T', L, E, ce, h0, X', hL, e1, e2, ⟨u, hp, hb, hF⟩, hce, hcv, hcl, st⟩
  · cases hv
    obtain ⟨k1, k2, k3⟩ := vx_keep h0 e1 hS hA hf hL hF
    obtain ⟨t2, a1, b1⟩ := kk r u t T'.heap (locs ++ L) e1.symm (by rw [← e2]; exact X'.warmed.alike) hp hb k1 k2 k3 T' rfl X'
    exact ⟨t2, st t2 a1, b1⟩
  · obtain ⟨k1, k2, k3⟩ := vx_keep h0 e1 hS hAX hf hL hF
    obtain ⟨t2, a1, b1⟩ := kx E ce q u t T'.heap (locs ++ L) e1.symm (by rw [← e2]; exact X'.warmed.alike) hp hb k1 k2 k3 (by rw [e1]; exact hce) hcv hcl T' rfl X'
    exact ⟨t2, st.trans a1, b1⟩
theorem vx_callv {S SX : Type} {post : S → Prop} {px : SX → Prop} {B : S → State → Prop} {BX : String → SX → State → Prop} {AX : Nat → Prop} (hr : vx_Run p l e R s m args below meth c H locs cells slots mc ms (F0 m pc ls st0) rest (va_Qv post B A1 a) (vx_X px BX AX) free) (hS : va_S A0 H0 H locs) (hA : ∀ q, q < H.size → A1 q → A0 q) (hf : ∀ q, free q → A0 q) (hAX : ∀ q, q < H.size → AX q → A0 q)
    (kx : ∀ (E : String) (ce : Cell) (q9 : Addr) (u : SX) (t : State) (H1 : Heap) (locs1 : List Loc), t.heap = H1 → s.vm.Alike t.vm → px u → BX E u t → H.size ≤ H1.size → (∀ q : Nat, q < H.size → ¬ AX q → H1[q]? = H[q]?) → va_S A0 H0 H1 locs1 → H1[q9]? = some ce → ce.vm = .none → s.vm.findClass E = some ce.cls → vx_W p l e R s m args below meth c H1 locs1 (cells + mc) (slots + ms) Q (F0 m pc ls rest) q9)
    (kk : ∀ (u : S) (t : State) (H1 : Heap) (locs1 : List Loc), t.heap = H1 → s.vm.Alike t.vm → post u → B u t → H.size ≤ H1.size → (∀ q : Nat, q < H.size → ¬ A1 q → H1[q]? = H[q]?) → va_S A0 H0 H1 locs1 → W p l e R s m args below meth c H1 locs1 (cells + mc) (slots + ms) Q (F0 m (pc + 3) ls (rest))) : W p l e R s m args below meth c H locs cells slots Q (F0 m pc ls st0) := by
  intro T hT X
  rcases hr T hT X with ⟨v, st₀, t, T', L, h0, X', hL, e1, e2, ⟨⟨u, hv, hp, hb⟩, hF⟩, st⟩ | ⟨q, st₀, t, T', L, E, ce, h0, X', hL, e1, e2, ⟨u, hp, hb, hF⟩, hce, hcv, hcl, st⟩
  · cases hv
    obtain ⟨k1, k2, k3⟩ := vx_keep h0 e1 hS hA hf hL hF
    obtain ⟨t2, a1, b1⟩ := kk u t T'.heap (locs ++ L) e1.symm (by rw [← e2]; exact X'.warmed.alike) hp hb k1 k2 k3 T' rfl X'
    exact ⟨t2, st t2 a1, b1⟩
  · obtain ⟨k1, k2, k3⟩ := vx_keep h0 e1 hS hAX hf hL hF
    obtain ⟨t2, a1, b1⟩ := kx E ce q u t T'.heap (locs ++ L) e1.symm (by rw [← e2]; exact X'.warmed.alike) hp hb k1 k2 k3 (by rw [e1]; exact hce) hcv hcl T' rfl X'
    exact ⟨t2, st.trans a1, b1⟩
/-- caught by the row x of this method's table; the rows ahead don't take it -/
theorem vx_catch {own name : String} {E : String} {ce : Cell} {q : Addr} (hown : s.vm.findClass own = some m.cls) (pre : List ExceptionTableEntry) (x : ExceptionTableEntry) (suf : List ExceptionTableEntry) (hsplit : c.exceptionTable.toList = pre ++ x :: suf)
    (hpass : ∀ z ∈ pre, covers z pc = false ∨ (z.catchType ≠ 0 ∧ ∃ nm : String, (Cond.classLink own z.catchType nm).before args s = true ∧ va_Nc E nm s)) (hx : covers x pc = true) (h0 : x.catchType ≠ 0)
    (hlink : (Cond.classLink own x.catchType name).before args s = true) (hcast : (Cond.castable E name).before args s = true) (hcell : H[q]? = some ce) (hv : ce.vm = .none) (hcl : s.vm.findClass E = some ce.cls)
    (kk : W p l e R s m args below meth c H locs cells slots Q (F0 m x.handlerPc ls [.ref q])) : vx_W p l e R s m args below meth c H locs cells slots Q (F0 m pc ls rest) q := by
  intro T hT X
  have hpl : e.platform.magicAccessors = ({} : Platform).magicAccessors := by rw [X.admits.platform]
  obtain ⟨c3, c4, hc3, hc4, hasg⟩ := Cond.castable_spec hcast
  cases Option.some.inj (hc3.symm.trans hcl)
  obtain ⟨c5, hc5, hcl5⟩ := Cond.classLink_spec hown hlink e.platform hpl
  cases Option.some.inj (hc4.symm.trans hc5)
  obtain ⟨vm', X', st⟩ := X.thenCaughtThrough q (g := F0 m pc ls rest) rfl (Steps.refl _) (by rw [hT]; exact hcell) (by rw [hv]; rfl) (by obtain ⟨k9, h9, -⟩ := Vm.findClass_spec hcl; exact ⟨k9, h9⟩) pre x suf hsplit
    (fun z hz => by
      rcases hpass z hz with h | ⟨hz0, nm, hl1, hn1⟩
      · exact Or.inl h
      · obtain ⟨c6, hc6, hcl6⟩ := Cond.classLink_spec hown hl1 e.platform hpl
        obtain ⟨a8, b8, h1, h2, h3⟩ := hn1
        cases Option.some.inj (h1.symm.trans hcl)
        cases Option.some.inj (h2.symm.trans hc6)
        exact Or.inr ⟨hz0, _, hcl6, h3⟩) hx (Or.inr ⟨h0, c4, hcl5, hasg⟩)
  obtain ⟨t, a1, b1⟩ := kk (T.setVm vm') hT X'
  exact ⟨t, st.trans a1, b1⟩
end Rows
section Ends
variable {p : Program} {l : Launch} {e : Env} {R : Room} {s : State} {m : MethodId} {args : Array Value} {below : List Frame} {meth : Method} {c : Code} {H : Heap} {locs : List Loc} {cells slots : Nat} {Q : State → Prop}
variable {mc ms : Nat} {free : Addr → Prop} {A0 A1 : Nat → Prop} {H0 : Heap} {a : Array Value} {ls : Array Slot} {st0 rest : List Value}
variable {Qc : Array Value → State → Outcome → State → Prop} {XC : String → State → State → Prop}
/-- what a body that may throw owes at its end -/
def vx_MQ (below : List Frame) (Qc : Array Value → State → Outcome → State → Prop) (XC : String → State → State → Prop) (a : Array Value) (s : State) (mc ms : Nat) (free : Addr → Prop) : State → Prop := fun t =>
  ∃ o, t.status = .running ∧ Ended t below o ∧ vx_Q Qc XC mc ms free a s o t
theorem vx_ret {g : JFrame} {mc ms : Nat} (k : W p l e R s m args below meth c H locs cells slots (MQ below Qc args s mc ms free) g) : W p l e R s m args below meth c H locs cells slots (vx_MQ below Qc XC args s mc ms free) g := by
  intro T hT X
  obtain ⟨t, a1, o, b1, b2, b3, b4⟩ := k T hT X
  exact ⟨t, a1, o, b1, b2, Or.inl ⟨b3, b4⟩⟩
/-- not caught here: it goes on to the caller -/
theorem vx_widen {g : JFrame} {q : Addr} {k n : Nat} (h1 : cells ≤ k) (h2 : slots ≤ n) (kk : vx_W p l e R s m args below meth c H locs k n Q g q) : vx_W p l e R s m args below meth c H locs cells slots Q g q := fun T hT X => kk T hT (stand_widen X h1 h2)
theorem vx_out {pc : Nat} {E : String} {ce : Cell} {q : Addr} {mc ms : Nat} (hout : ∀ x ∈ c.exceptionTable.toList, covers x pc = false) (hlocks : meth.locks = false) (hcell : H[q]? = some ce) (hv : ce.vm = .none) (hcl : s.vm.findClass E = some ce.cls)
    (hx : ∀ t : State, t.heap = H → s.vm.Alike t.vm → XC E s t) (hf : ∀ z ∈ locs, free z.base) (hc : cells ≤ mc) (hs : slots ≤ ms) :
    vx_W p l e R s m args below meth c H locs cells slots (vx_MQ below Qc XC args s mc ms free) (F0 m pc ls rest) q := by
  intro T hT X
  obtain ⟨st1, hrun, hend, hW, hsm⟩ := X.leaveThrown q (g := F0 m pc ls rest) rfl rfl rfl hout hlocks
  have hcell9 : (T.setFrames (.throwing q :: below)).heap[q]? = some ce := by
    show T.heap[q]? = some ce
    rw [hT]; exact hcell
  exact ⟨_, st1, .threw q, hrun, hend, Or.inr ⟨q, rfl, E, ce, locs, hx _ hT hW.alike, hcell9, hv, hcl, hW, hsm.mono hc hs, hf⟩⟩
theorem vx_frame {U : State} {k n : Nat} (h : s.sameButNew ({ U with vm := s.vm } : State) locs k n) : s.heap.size ≤ U.heap.size ∧ ∀ q : Nat, q < s.heap.size → (∀ z ∈ locs, z.base ≠ q) → U.heap[q]? = s.heap[q]? := by
  obtain ⟨-, h2, -, -, -, h6⟩ := h
  refine ⟨h2, fun q hq hz => ?_⟩
  obtain ⟨c9, e1, e2, e3, e4⟩ := h6 q _ (Array.getElem?_eq_getElem hq)
  have hs : c9.slots = (s.heap[q]).slots := Array.ext_getElem? fun i => e4 i fun hm => hz _ hm rfl
  have h9 : c9 = s.heap[q] := by
    rw [hs] at e2
    exact e2
  have e5 : U.heap[q]? = some c9 := e1
  rw [e5, h9, Array.getElem?_eq_getElem hq]
/-- the words of a throw but the four that speak of the heap -/
def vx_no (w : Cond) : Bool := decide (w ≠ .isRef (.static Bundle.tN "UNASSIGNED_STACK" Bundle.steD)) && decide (w ≠ .isRef (.static Bundle.tN "SUPPRESSED_SENTINEL" Bundle.listD)) && decide (w ≠ .laysStatic Bundle.tN "UNASSIGNED_STACK" Bundle.steD) && decide (w ≠ .laysStatic Bundle.tN "SUPPRESSED_SENTINEL" Bundle.listD)
def vx_at0 (own : String) (ic : Nat) (X : String) (names : List String) : List Cond := (Bundle.ownAtoms0 own ic X names).filter vx_no
def vx_atS (own : String) (ic : Nat) (X : String) (names : List String) : List Cond := (Bundle.ownAtoms own ic X names).filter vx_no
/-- a word that the tables alone decide, or a good one -/
def vx_ot (w : Cond) : Bool := w.onTables || goodWord w
theorem vx_ot_at {args a' : Array Value} {s U : State} {w : Cond} (hW : s.WarmedH U.vm) (hvm : s.vm = U.vm) (hg : vx_ot w = true) (h : w.before args s = true) : w.before a' U = true := by
  simp only [vx_ot, Bool.or_eq_true] at hg
  rcases hg with hg | hg
  · exact va_tabs hg hvm h
  · exact word_at hW (good_of_word hg) h
/-- a list's words: the good ones out of the method's own list, the others by premises of their own -/
theorem vx_hat {args : Array Value} {s : State} {L B : List Cond} (h1 : ∀ w ∈ L.filter goodWord, w.before args s = true) (h2 : ∀ w ∈ L.filter (fun w => !goodWord w), w ∈ B) (h3 : ∀ w ∈ B, w.before args s = true) : ∀ w ∈ L, w.before args s = true := by
  intro w hw
  by_cases g : goodWord w = true
  · exact h1 w (List.mem_filter.mpr ⟨hw, g⟩)
  · refine h3 w (h2 w (List.mem_filter.mpr ⟨hw, ?_⟩))
    show (!goodWord w) = true
    cases hgw : goodWord w
    · rfl
    · exact absurd hgw g
theorem vx_c {args : Array Value} {s : State} {w : Cond} {B : List Cond} (h : w.before args s = true) (t : ∀ w ∈ B, w.before args s = true) : ∀ w' ∈ w :: B, w'.before args s = true := fun w' h' => (List.mem_cons.mp h').elim (fun e => by rw [e]; exact h) (t w')
theorem vx_n {args : Array Value} {s : State} : ∀ w ∈ ([] : List Cond), w.before args s = true := fun _ h => nomatch h
theorem vx_own {args : Array Value} {s : State} {L : List Cond} (h1 : ∀ w ∈ L.filter vx_no, w.before args s = true)
    (hU : (Cond.isRef (.static Bundle.tN "UNASSIGNED_STACK" Bundle.steD)).before args s = true) (hN : (Cond.isRef (.static Bundle.tN "SUPPRESSED_SENTINEL" Bundle.listD)).before args s = true)
    (lU : (Cond.laysStatic Bundle.tN "UNASSIGNED_STACK" Bundle.steD).before args s = true) (lN : (Cond.laysStatic Bundle.tN "SUPPRESSED_SENTINEL" Bundle.listD).before args s = true) : ∀ w ∈ L, w.before args s = true := by
  intro w hw
  by_cases e1 : w = .isRef (.static Bundle.tN "UNASSIGNED_STACK" Bundle.steD)
  · rw [e1]; exact hU
  · by_cases e2 : w = .isRef (.static Bundle.tN "SUPPRESSED_SENTINEL" Bundle.listD)
    · rw [e2]; exact hN
    · by_cases e3 : w = .laysStatic Bundle.tN "UNASSIGNED_STACK" Bundle.steD
      · rw [e3]; exact lU
      · by_cases e4 : w = .laysStatic Bundle.tN "SUPPRESSED_SENTINEL" Bundle.listD
        · rw [e4]; exact lN
        · exact h1 w (List.mem_filter.mpr ⟨hw, by unfold vx_no; rw [decide_eq_true e1, decide_eq_true e2, decide_eq_true e3, decide_eq_true e4]; rfl⟩)
/-- where a static field lies, its class's statics cell in H -/
def vx_L (C n d : String) (A : Nat → Prop) (U : State) (H : Heap) : Prop := ∃ (c : ClassId) (k : Class) (i : Nat) (f : Field) (a : Nat) (cell : Cell), U.vm.findClass C = some c ∧ U.fieldFound? C n d = some (c, k, i, f) ∧ f.isStatic = true ∧ k.statics = some a ∧ H[a]? = some cell ∧ cell.vm.isStatics = true ∧ cell.cls = c ∧ f.slot < cell.slots.size ∧ k.staticTypes[f.slot]? = some f.type ∧ ¬ A a
theorem vx_L.moved {C n d : String} {A : Nat → Prop} {u U : State} {H : Heap} (hvm : u.vm.Alike U.vm) (h : vx_L C n d A u H) : vx_L C n d A U H := by
  obtain ⟨c, k, i, f, a, cell, h1, h2, h3, h4, h5, h6, h7, h8, h9, h10⟩ := h
  obtain ⟨k', hi', he⟩ := State.fieldFound?_setVm hvm h2
  exact ⟨c, k', i, f, a, cell, by rw [hvm.findClass]; exact h1, hi', h3, by rw [he]; exact h4, h5, h6, h7, h8, by rw [he]; exact h9, h10⟩
theorem vx_L.kept {C n d : String} {A : Nat → Prop} {U : State} {H H1 : Heap} (h : vx_L C n d A U H) (hq : ∀ a : Nat, a < H.size → ¬ A a → H1[a]? = H[a]?) : vx_L C n d A U H1 := by
  obtain ⟨c, k, i, f, a, cell, h1, h2, h3, h4, h5, h6, h7, h8, h9, h10⟩ := h
  exact ⟨c, k, i, f, a, cell, h1, h2, h3, h4, by rw [hq a (Array.getElem?_eq_some_iff.mp h5).1 h10]; exact h5, h6, h7, h8, h9, h10⟩
theorem vx_L.narrow {C n d : String} {A B : Nat → Prop} {U : State} {H : Heap} (h : vx_L C n d A U H) (hAB : ∀ q, B q → A q) : vx_L C n d B U H := by
  obtain ⟨c, k, i, f, a, cell, h1, h2, h3, h4, h5, h6, h7, h8, h9, h10⟩ := h
  exact ⟨c, k, i, f, a, cell, h1, h2, h3, h4, h5, h6, h7, h8, h9, fun z => h10 (hAB _ z)⟩
theorem vx_L.word {C n d : String} {A : Nat → Prop} {s : State} {args : Array Value} (h : vx_L C n d A s s.heap) : (Cond.laysStatic C n d).before args s = true := by
  obtain ⟨c, k, i, f, a, cell, h1, h2, h3, h4, h5, h6, h7, h8, h9, -⟩ := h
  show (Cond.laysStatic C n d).holds args s none s [] = true
  exact Cond.laysStatic_of h1 h2 h3 h4 h5 h6 h7 h8 h9
/-- .. and what it holds: null or some reference -/
def vx_Zq (C n d : String) (A : Nat → Prop) (U : State) (H : Heap) : Prop := va_Zq C n d A U H ∧ vx_L C n d A U H
theorem vx_Zq.moved {C n d : String} {A : Nat → Prop} {u U : State} {H : Heap} (hvm : u.vm.Alike U.vm) (h : vx_Zq C n d A u H) : vx_Zq C n d A U H := ⟨va_Zq.moved hvm h.1, vx_L.moved hvm h.2⟩
theorem vx_Zq.kept {C n d : String} {A : Nat → Prop} {U : State} {H H1 : Heap} (h : vx_Zq C n d A U H) (hq : ∀ a : Nat, a < H.size → ¬ A a → H1[a]? = H[a]?) : vx_Zq C n d A U H1 := ⟨va_Zq.kept h.1 hq, vx_L.kept h.2 hq⟩
theorem vx_Zq.narrow {C n d : String} {A B : Nat → Prop} {U : State} {H : Heap} (h : vx_Zq C n d A U H) (hAB : ∀ q, B q → A q) : vx_Zq C n d B U H := ⟨va_Zq.narrow h.1 hAB, vx_L.narrow h.2 hAB⟩
theorem vx_Zqof {args : Array Value} {s : State} {C n d : String} {A : Nat → Prop} (hl : (Cond.laysStatic C n d).before args s = true) (hini : (Cond.initialized C).before args s = true) (h : (Cond.isRef (.static C n d)).before args s = true) (hA : ∀ a : Nat, a < s.heap.size → ¬ A a) : vx_Zq C n d A s s.heap := by
  refine ⟨va_Zqof hl hini h hA, ?_⟩
  obtain ⟨c, k, i, f, a, cell, h1, h2, h3, h4, h5, h6, h7, h8, h9⟩ := Cond.laysStatic_spec hl
  exact ⟨c, k, i, f, a, cell, h1, h2, h3, h4, h5, h6, h7, h8, h9, hA a (Array.getElem?_eq_some_iff.mp h5).1⟩
theorem vx_isRef {C n d : String} {v : Value} {A : Nat → Prop} {s : State} {args : Array Value} (h : va_Z C n d v A s s.heap) (hv : v.isRef = true) : (Cond.isRef (.static C n d)).before args s = true := by
  obtain ⟨cf, kf, fi, f, a, cell, h1, h2, h3, h4, h5, h6, h7, -⟩ := h
  have he : (Term.static C n d).eval args s none [] s = some v := by
    simp [Term.eval, State.fieldNamed?, h1, h2, h4, h5, h6, h7]
  simp only [Cond.before, Cond.holds, Cond.value, he]
  cases v <;> simp_all [Value.isRef]
theorem vx_isRefq {C n d : String} {A : Nat → Prop} {s : State} {args : Array Value} (h : va_Zq C n d A s s.heap) : (Cond.isRef (.static C n d)).before args s = true := by
  rcases h with h | ⟨t, h⟩
  · exact vx_isRef h rfl
  · exact vx_isRef h rfl
/-- the same frame, seen from here: as if the method were called anew in this heap -/
theorem vx_rebase {T : State} (X : Stand p l e R s m args below meth c T locs cells slots) {R' : Room} (hf : R'.frames ≤ R.frames) (hl : R'.locals ≤ R.locals) (hc : cells + R'.cells ≤ R.cells) (hs : slots + R'.slots ≤ R.slots) :
    Stand p l e R' ((T.setVm s.vm).setFrames (.invoking m args :: below)) m args below meth c T [] 0 0 := by
  have htop : (T.setVm s.vm).topJava?.isSome := X.here.top
  have hF : ((T.setVm s.vm).setFrames (.invoking m args :: below)).frames = .invoking m args :: below := State.frames_setFrames _ (State.cur_lt_of_top htop)
  obtain ⟨g₀, hg0⟩ := Option.isSome_iff_exists.mp htop
  obtain ⟨r, hr⟩ := State.topJava?_eq_some.mp hg0
  have hl9 : e.platform.stackLimits (T.setVm s.vm).me = e.platform.stackLimits s.me := X.limits
  have hb9 : (T.setVm s.vm).me.stackBytes = s.me.stackBytes := X.bytes
  refine ⟨X.admits, X.cas, X.clock, hF, ?_, X.hears, X.method, X.code, X.here, X.tail, X.warmed, ?_, ?_, ?_⟩
  · have h := X.room
    have hU : ((T.setVm s.vm).setFrames (.invoking m args :: below)).localsInUse = s.localsInUse := by
      rw [State.localsInUse_invoking hF (meth := meth) (c := c) X.method X.code, State.localsInUse_invoking X.frames X.method X.code]
    simp only [State.hasRoom, Bool.and_eq_true, decide_eq_true_eq] at h ⊢
    obtain ⟨⟨⟨⟨h1, h2, h3, h4, h5, h6⟩, h7⟩, h8⟩, h9⟩ := h
    rw [X.frames, List.length_cons] at h2 h3
    have q1 := X.heapSize
    have q2 := X.used
    simp only [hF, hU, List.length_cons, State.stackLimits_setFrames, State.stackBytes_setFrames, hl9, hb9]
    refine ⟨⟨⟨⟨by omega, by omega, by omega, by omega, by omega, h6⟩, ?_⟩, ?_⟩, X.book⟩
    · show T.heap.size + R'.cells ≤ e.platform.maxCells
      omega
    · show T.slotsUsed + R'.slots ≤ e.platform.maxSlots
      omega
  · rw [State.stackLimits_setFrames]; rfl
  · rw [State.stackBytes_setFrames]; rfl
  · refine ⟨?_, Nat.le_refl _, Nat.le_refl _, ?_, ?_, fun a c9 h9 => ⟨c9, h9, rfl, rfl, fun _ _ => rfl⟩⟩
    · obtain ⟨t, ht, -⟩ := State.frames_cons hr
      show T.setVm s.vm = { ((T.setVm s.vm).setFrames (.invoking m args :: below)).setFrames (T.setVm s.vm).frames with heap := T.heap, slotsUsed := T.slotsUsed }
      rw [State.setFrames_setFrames, State.setFrames_self ht]
      rfl
    · show T.slotsUsed = T.slotsUsed + ((T.heap.toList.drop T.heap.size).map (·.slots.size)).sum
      rw [List.drop_eq_nil_of_le (Nat.le_of_eq Array.length_toList)]
      rfl
    · show ((T.heap.toList.drop T.heap.size).map (·.slots.size)).sum ≤ 0
      rw [List.drop_eq_nil_of_le (Nat.le_of_eq Array.length_toList)]
      exact Nat.le_refl _
/-- 'throw new E()': new; dup; invokespecial; athrow -/
theorem vx_throw0 {cc : ByteArray} {pc : Nat} (hexec : p.tables.exec = Jvm.exec) (hb : c.code = cc) (hl : l.stackTraces = false) {own cls : String} {names : List String} {ik ic mc ms : Nat} {A : Nat → Prop}
    (hown : s.vm.findClass own = some m.cls) (hcls : Bundle.fit cls = true) (hnames : ∀ n ∈ names, Bundle.fit n = true)
    (hk : (Cond.classLink own ik cls).before args s = true) (hini : (Cond.initialized cls).before args s = true) (hat : ∀ w ∈ vx_at0 own ic cls names, w.before args s = true)
    (hgood : ∀ w ∈ Cond.classLink own ik cls :: Cond.initialized cls :: vx_at0 own ic cls names, vx_ot w = true)
    (hU : vx_Zq Bundle.tN "UNASSIGNED_STACK" Bundle.steD A s s.heap) (hN : vx_Zq Bundle.tN "SUPPRESSED_SENTINEL" Bundle.listD A s s.heap) (hS : va_S A s.heap H locs) (hsize : ls.size = c.maxLocals)
    (d0 : decode cc pc = .ok (.new ik, 3)) (d3 : decode cc (pc + 3) = .ok (.dup, 1)) (d4 : decode cc (pc + 4) = .ok (.invokespecial ic, 3)) (d7 : decode cc (pc + 7) = .ok (.athrow, 1))
    (hout : ∀ x ∈ c.exceptionTable.toList, covers x (pc + 7) = false)
    (hRframes : names.length + 3 < R.frames) (hRlocals : (rest.map fun v => v.category).sum + (13 * (names.length + 1) + 42) ≤ R.locals) (hRcells : cells + 1 ≤ R.cells) (hRslots : slots + 6 ≤ R.slots) (hlocks : meth.locks = false)
    (hx : ∀ t : State, s.vm.Alike t.vm → H.size ≤ t.heap.size → (∀ q : Nat, q < H.size → t.heap[q]? = H[q]?) → XC cls s t)
    (hf : ∀ z ∈ locs, free z.base) (hc : cells + 1 ≤ mc) (hs : slots + 6 ≤ ms) :
    W p l e R s m args below meth c H locs cells slots (vx_MQ below Qc XC args s mc ms free) (F0 m pc ls rest) := by
  intro T hT X
  have htr : e.platform.stackTraces = false := (show e.platform.stackTraces = l.stackTraces by rw [X.admits.platform]).trans hl
  have Y := vx_rebase X (R' := { frames := R.frames, locals := R.locals, cells := 1, slots := 6 }) (Nat.le_refl _) (Nat.le_refl _) hRcells hRslots
  obtain ⟨s', hA⟩ : ∃ z, z = (T.setVm s.vm).setFrames (.invoking m args :: below) := ⟨_, rfl⟩
  rw [← hA] at Y
  have hvm : s'.vm = s.vm := by rw [hA]; rfl
  have hhp : s'.heap = H := by rw [hA]; exact hT
  have hW0 : s.WarmedH s'.vm := by rw [hvm]; exact State.WarmedH.refl s
  have hat' : ∀ w ∈ vx_at0 own ic cls names, w.before args s' = true := fun w hw => vx_ot_at hW0 hvm.symm (hgood w (List.mem_cons_of_mem _ (List.mem_cons_of_mem _ hw))) (hat w hw)
  have hk' : (Cond.classLink own ik cls).before args s' = true := vx_ot_at hW0 hvm.symm (hgood _ List.mem_cons_self) hk
  have hini' : (Cond.initialized cls).before args s' = true := vx_ot_at hW0 hvm.symm (hgood _ (List.mem_cons_of_mem _ List.mem_cons_self)) hini
  have hU' : vx_Zq Bundle.tN "UNASSIGNED_STACK" Bundle.steD A s' s'.heap := by rw [hhp]; exact vx_Zq.moved hW0.alike (hU.kept hS.2.1)
  have hN' : vx_Zq Bundle.tN "SUPPRESSED_SENTINEL" Bundle.listD A s' s'.heap := by rw [hhp]; exact vx_Zq.moved hW0.alike (hN.kept hS.2.1)
  have h : ∀ w ∈ Bundle.ownAtoms0 own ic cls names, w.before args s' = true := vx_own hat' (vx_isRefq hU'.1) (vx_isRefq hN'.1) hU'.2.word hN'.2.word
  have hown' : s'.vm.findClass own = some m.cls := by rw [hvm]; exact hown
  have hins : (Cond.instantiable cls 6).before args s' = true := h _ (by simp [Bundle.ownAtoms0])
  obtain ⟨vm₁, cX, kX, hfX, hkX, -, -, X₁, st1⟩ := Y.newCold hexec (own := own) (C := cls) (index := ik) (n := 6) hown' hk' hins hini'
    (g := F0 m pc ls rest) rfl (by rw [hb]; exact d0) (Nat.le_refl _) (Nat.le_refl _)
  generalize hT1 : (T.setVm vm₁).pushCell { cls := cX, slots := kX.instanceTypes.map defaultValue, vm := .none } = T1 at X₁ st1
  have hcat : (Value.ref T.heap.size).category = 1 := rfl
  have hcellA : T1.heap[T.heap.size]? = some (freshCell cX kX) := by rw [← hT1]; exact State.heap_pushCell_size _ _
  have d3' : decode c.code (pc + 3) = .ok (.dup, 1) := by rw [hb]; exact d3
  obtain ⟨U, hsteps, hrun, hend, hW, hsame, ce, hce, hO⟩ := X₁.ctorThrow0 hexec htr (own := own) (cls := cls) (names := names) (ic := ic) hown' hcls hnames h (fun x hx => nomatch hx) hfX hkX hcellA (by rw [hhp, hT]; exact Nat.le_refl _)
    (g := { method := m, pc := pc + 4, locals := ls, stack := .ref T.heap.size :: .ref T.heap.size :: rest, locked := none }) rfl hsize rfl rfl (rest := rest) rfl
    (by rw [hb]; exact d4) (by rw [hb]; exact d7) hout hRframes (by simp only [List.map_cons, List.sum_cons, hcat]; omega) hlocks
  obtain ⟨f1, f2⟩ := vx_frame hsame
  rw [hhp] at f1 f2
  have hWs : s.WarmedH U.vm := State.WarmedH.trans hW0 hW
  have hcl : s.vm.findClass cls = some ce.cls := by
    have h9 := hO.cls
    rw [hvm] at h9
    exact h9
  have hall : s.sameButNew ({ U with vm := s.vm } : State) locs mc ms := by
    subst hA
    obtain ⟨e1, e2⟩ := hsame
    rw [State.setFrames_setFrames] at e1
    have h2 : (T.setVm s.vm).sameButNew ({ U with vm := s.vm } : State) [] (0 + 1) (0 + 6) := ⟨e1, e2⟩
    have h3 := X.same.trans h2
    rw [List.append_nil] at h3
    exact h3.mono hc hs
  refine ⟨U, ?_, .threw T.heap.size, hrun, hend, Or.inr ⟨T.heap.size, rfl, cls, ce, locs, hx U hWs.alike f1 (fun q hq => f2 q hq (fun z hz => nomatch hz)), hce, hO.vm, hcl, hWs, hall, hf⟩⟩
  refine st1 _ ?_
  show Steps p.tables e below (T1.setTop { method := m, pc := pc + 3, locals := ls, stack := .ref T.heap.size :: rest, locked := none }) _
  jvm_step X₁.here [X₁.here.top, hexec, d3', Value.category]
  exact hsteps
/-- 'throw new E("text")': new; dup; ldc; invokespecial; athrow -/
theorem vx_throwS {cc : ByteArray} {pc : Nat} (hexec : p.tables.exec = Jvm.exec) (hb : c.code = cc) (hl : l.stackTraces = false) {own cls text : String} {names : List String} {ik is ic mc ms sa : Nat} {A : Nat → Prop}
    (hown : s.vm.findClass own = some m.cls) (hcls : Bundle.fit cls = true) (hnames : ∀ n ∈ names, Bundle.fit n = true)
    (hk : (Cond.classLink own ik cls).before args s = true) (hini : (Cond.initialized cls).before args s = true) (hstr : vk_R own is text sa s) (hat : ∀ w ∈ vx_atS own ic cls names, w.before args s = true)
    (hgood : ∀ w ∈ Cond.classLink own ik cls :: Cond.initialized cls :: vx_atS own ic cls names, vx_ot w = true)
    (hU : vx_Zq Bundle.tN "UNASSIGNED_STACK" Bundle.steD A s s.heap) (hN : vx_Zq Bundle.tN "SUPPRESSED_SENTINEL" Bundle.listD A s s.heap) (hS : va_S A s.heap H locs) (hsize : ls.size = c.maxLocals)
    (d0 : decode cc pc = .ok (.new ik, 3)) (d3 : decode cc (pc + 3) = .ok (.dup, 1)) (d4 : decode cc (pc + 4) = .ok (.ldc is, 2)) (d6 : decode cc (pc + 6) = .ok (.invokespecial ic, 3)) (d9 : decode cc (pc + 9) = .ok (.athrow, 1))
    (hout : ∀ x ∈ c.exceptionTable.toList, covers x (pc + 9) = false)
    (hRframes : names.length + 3 < R.frames) (hRlocals : (rest.map fun v => v.category).sum + (13 * (names.length + 1) + 43) ≤ R.locals) (hRcells : cells + 1 ≤ R.cells) (hRslots : slots + 6 ≤ R.slots) (hlocks : meth.locks = false)
    (hx : ∀ t : State, s.vm.Alike t.vm → H.size ≤ t.heap.size → (∀ q : Nat, q < H.size → t.heap[q]? = H[q]?) → XC cls s t)
    (hf : ∀ z ∈ locs, free z.base) (hc : cells + 1 ≤ mc) (hs : slots + 6 ≤ ms) :
    W p l e R s m args below meth c H locs cells slots (vx_MQ below Qc XC args s mc ms free) (F0 m pc ls rest) := by
  intro T hT X
  have htr : e.platform.stackTraces = false := (show e.platform.stackTraces = l.stackTraces by rw [X.admits.platform]).trans hl
  have Y := vx_rebase X (R' := { frames := R.frames, locals := R.locals, cells := 1, slots := 6 }) (Nat.le_refl _) (Nat.le_refl _) hRcells hRslots
  obtain ⟨s', hA⟩ : ∃ z, z = (T.setVm s.vm).setFrames (.invoking m args :: below) := ⟨_, rfl⟩
  rw [← hA] at Y
  have hvm : s'.vm = s.vm := by rw [hA]; rfl
  have hhp : s'.heap = H := by rw [hA]; exact hT
  have hW0 : s.WarmedH s'.vm := by rw [hvm]; exact State.WarmedH.refl s
  have hat' : ∀ w ∈ vx_atS own ic cls names, w.before args s' = true := fun w hw => vx_ot_at hW0 hvm.symm (hgood w (List.mem_cons_of_mem _ (List.mem_cons_of_mem _ hw))) (hat w hw)
  have hk' : (Cond.classLink own ik cls).before args s' = true := vx_ot_at hW0 hvm.symm (hgood _ List.mem_cons_self) hk
  have hini' : (Cond.initialized cls).before args s' = true := vx_ot_at hW0 hvm.symm (hgood _ (List.mem_cons_of_mem _ List.mem_cons_self)) hini
  have hU' : vx_Zq Bundle.tN "UNASSIGNED_STACK" Bundle.steD A s' s'.heap := by rw [hhp]; exact vx_Zq.moved hW0.alike (hU.kept hS.2.1)
  have hN' : vx_Zq Bundle.tN "SUPPRESSED_SENTINEL" Bundle.listD A s' s'.heap := by rw [hhp]; exact vx_Zq.moved hW0.alike (hN.kept hS.2.1)
  have h : ∀ w ∈ Bundle.ownAtoms own ic cls names, w.before args s' = true := vx_own hat' (vx_isRefq hU'.1) (vx_isRefq hN'.1) hU'.2.word hN'.2.word
  have hown' : s'.vm.findClass own = some m.cls := by rw [hvm]; exact hown
  have hins : (Cond.instantiable cls 6).before args s' = true := h _ (by simp [Bundle.ownAtoms])
  obtain ⟨vm₁, cX, kX, hfX, hkX, -, -, X₁, st1⟩ := Y.newCold hexec (own := own) (C := cls) (index := ik) (n := 6) hown' hk' hins hini'
    (g := F0 m pc ls rest) rfl (by rw [hb]; exact d0) (Nat.le_refl _) (Nat.le_refl _)
  generalize hT1 : (T.setVm vm₁).pushCell { cls := cX, slots := kX.instanceTypes.map defaultValue, vm := .none } = T1 at X₁ st1
  have hcat : (Value.ref T.heap.size).category = 1 := rfl
  have hcellA : T1.heap[T.heap.size]? = some (freshCell cX kX) := by rw [← hT1]; exact State.heap_pushCell_size _ _
  have d3' : decode c.code (pc + 3) = .ok (.dup, 1) := by rw [hb]; exact d3
  have d4' : decode c.code (pc + 4) = .ok (.ldc is, 2) := by rw [hb]; exact d4
  have hstr' : vk_R own is text sa s' := vk_R.warm hW0 hstr
  obtain ⟨U, hsteps, hrun, hend, hW, hsame, ce, hce, hO⟩ := X₁.ctorThrowS hexec htr (own := own) (cls := cls) (names := names) (ic := ic) hown' hcls hnames h (fun x hx => nomatch hx) hfX hkX hcellA (by rw [hhp, hT]; exact Nat.le_refl _) (msg := .ref sa) rfl
    (g := { method := m, pc := pc + 6, locals := ls, stack := .ref sa :: .ref T.heap.size :: .ref T.heap.size :: rest, locked := none }) rfl hsize rfl rfl (rest := rest) rfl
    (by rw [hb]; exact d6) (by rw [hb]; exact d9) hout hRframes (by simp only [List.map_cons, List.sum_cons, hcat]; omega) hlocks
  obtain ⟨f1, f2⟩ := vx_frame hsame
  rw [hhp] at f1 f2
  have hWs : s.WarmedH U.vm := State.WarmedH.trans hW0 hW
  have hcl : s.vm.findClass cls = some ce.cls := by
    have h9 := hO.cls
    rw [hvm] at h9
    exact h9
  have hall : s.sameButNew ({ U with vm := s.vm } : State) locs mc ms := by
    subst hA
    obtain ⟨e1, e2⟩ := hsame
    rw [State.setFrames_setFrames] at e1
    have h2 : (T.setVm s.vm).sameButNew ({ U with vm := s.vm } : State) [] (0 + 1) (0 + 6) := ⟨e1, e2⟩
    have h3 := X.same.trans h2
    rw [List.append_nil] at h3
    exact h3.mono hc hs
  refine ⟨U, ?_, .threw T.heap.size, hrun, hend, Or.inr ⟨T.heap.size, rfl, cls, ce, locs, hx U hWs.alike f1 (fun q hq => f2 q hq (fun z hz => nomatch hz)), hce, hO.vm, hcl, hWs, hall, hf⟩⟩
  refine st1 _ ?_
  show Steps p.tables e below (T1.setTop { method := m, pc := pc + 3, locals := ls, stack := .ref T.heap.size :: rest, locked := none }) _
  jvm_step X₁.here [X₁.here.top, hexec, d3', Value.category]
  exact X₁.ldcString hexec (own := own) (text := text) (index := is) (a := sa) hown' hstr'.1 hstr'.2
    (g := { method := m, pc := pc + 4, locals := ls, stack := .ref T.heap.size :: .ref T.heap.size :: rest, locked := none }) rfl d4' _ hsteps
/-- 'throw new E("text")', the text by a wide index -/
theorem vx_throwSW {cc : ByteArray} {pc : Nat} (hexec : p.tables.exec = Jvm.exec) (hb : c.code = cc) (hl : l.stackTraces = false) {own cls text : String} {names : List String} {ik is ic mc ms sa : Nat} {A : Nat → Prop}
    (hown : s.vm.findClass own = some m.cls) (hcls : Bundle.fit cls = true) (hnames : ∀ n ∈ names, Bundle.fit n = true)
    (hk : (Cond.classLink own ik cls).before args s = true) (hini : (Cond.initialized cls).before args s = true) (hstr : vk_R own is text sa s) (hat : ∀ w ∈ vx_atS own ic cls names, w.before args s = true)
    (hgood : ∀ w ∈ Cond.classLink own ik cls :: Cond.initialized cls :: vx_atS own ic cls names, vx_ot w = true)
    (hU : vx_Zq Bundle.tN "UNASSIGNED_STACK" Bundle.steD A s s.heap) (hN : vx_Zq Bundle.tN "SUPPRESSED_SENTINEL" Bundle.listD A s s.heap) (hS : va_S A s.heap H locs) (hsize : ls.size = c.maxLocals)
    (d0 : decode cc pc = .ok (.new ik, 3)) (d3 : decode cc (pc + 3) = .ok (.dup, 1)) (d4 : decode cc (pc + 4) = .ok (.ldc_w is, 3)) (d7 : decode cc (pc + 7) = .ok (.invokespecial ic, 3)) (d10 : decode cc (pc + 10) = .ok (.athrow, 1))
    (hout : ∀ x ∈ c.exceptionTable.toList, covers x (pc + 10) = false)
    (hRframes : names.length + 3 < R.frames) (hRlocals : (rest.map fun v => v.category).sum + (13 * (names.length + 1) + 43) ≤ R.locals) (hRcells : cells + 1 ≤ R.cells) (hRslots : slots + 6 ≤ R.slots) (hlocks : meth.locks = false)
    (hx : ∀ t : State, s.vm.Alike t.vm → H.size ≤ t.heap.size → (∀ q : Nat, q < H.size → t.heap[q]? = H[q]?) → XC cls s t)
    (hf : ∀ z ∈ locs, free z.base) (hc : cells + 1 ≤ mc) (hs : slots + 6 ≤ ms) :
    W p l e R s m args below meth c H locs cells slots (vx_MQ below Qc XC args s mc ms free) (F0 m pc ls rest) := by
  intro T hT X
  have htr : e.platform.stackTraces = false := (show e.platform.stackTraces = l.stackTraces by rw [X.admits.platform]).trans hl
  have Y := vx_rebase X (R' := { frames := R.frames, locals := R.locals, cells := 1, slots := 6 }) (Nat.le_refl _) (Nat.le_refl _) hRcells hRslots
  obtain ⟨s', hA⟩ : ∃ z, z = (T.setVm s.vm).setFrames (.invoking m args :: below) := ⟨_, rfl⟩
  rw [← hA] at Y
  have hvm : s'.vm = s.vm := by rw [hA]; rfl
  have hhp : s'.heap = H := by rw [hA]; exact hT
  have hW0 : s.WarmedH s'.vm := by rw [hvm]; exact State.WarmedH.refl s
  have hat' : ∀ w ∈ vx_atS own ic cls names, w.before args s' = true := fun w hw => vx_ot_at hW0 hvm.symm (hgood w (List.mem_cons_of_mem _ (List.mem_cons_of_mem _ hw))) (hat w hw)
  have hk' : (Cond.classLink own ik cls).before args s' = true := vx_ot_at hW0 hvm.symm (hgood _ List.mem_cons_self) hk
  have hini' : (Cond.initialized cls).before args s' = true := vx_ot_at hW0 hvm.symm (hgood _ (List.mem_cons_of_mem _ List.mem_cons_self)) hini
  have hU' : vx_Zq Bundle.tN "UNASSIGNED_STACK" Bundle.steD A s' s'.heap := by rw [hhp]; exact vx_Zq.moved hW0.alike (hU.kept hS.2.1)
  have hN' : vx_Zq Bundle.tN "SUPPRESSED_SENTINEL" Bundle.listD A s' s'.heap := by rw [hhp]; exact vx_Zq.moved hW0.alike (hN.kept hS.2.1)
  have h : ∀ w ∈ Bundle.ownAtoms own ic cls names, w.before args s' = true := vx_own hat' (vx_isRefq hU'.1) (vx_isRefq hN'.1) hU'.2.word hN'.2.word
  have hown' : s'.vm.findClass own = some m.cls := by rw [hvm]; exact hown
  have hins : (Cond.instantiable cls 6).before args s' = true := h _ (by simp [Bundle.ownAtoms])
  obtain ⟨vm₁, cX, kX, hfX, hkX, -, -, X₁, st1⟩ := Y.newCold hexec (own := own) (C := cls) (index := ik) (n := 6) hown' hk' hins hini'
    (g := F0 m pc ls rest) rfl (by rw [hb]; exact d0) (Nat.le_refl _) (Nat.le_refl _)
  generalize hT1 : (T.setVm vm₁).pushCell { cls := cX, slots := kX.instanceTypes.map defaultValue, vm := .none } = T1 at X₁ st1
  have hcat : (Value.ref T.heap.size).category = 1 := rfl
  have hcellA : T1.heap[T.heap.size]? = some (freshCell cX kX) := by rw [← hT1]; exact State.heap_pushCell_size _ _
  have d3' : decode c.code (pc + 3) = .ok (.dup, 1) := by rw [hb]; exact d3
  have d4' : decode c.code (pc + 4) = .ok (.ldc_w is, 3) := by rw [hb]; exact d4
  have hstr' : vk_R own is text sa s' := vk_R.warm hW0 hstr
  obtain ⟨U, hsteps, hrun, hend, hW, hsame, ce, hce, hO⟩ := X₁.ctorThrowS hexec htr (own := own) (cls := cls) (names := names) (ic := ic) hown' hcls hnames h (fun x hx => nomatch hx) hfX hkX hcellA (by rw [hhp, hT]; exact Nat.le_refl _) (msg := .ref sa) rfl
    (g := { method := m, pc := pc + 7, locals := ls, stack := .ref sa :: .ref T.heap.size :: .ref T.heap.size :: rest, locked := none }) rfl hsize rfl rfl (rest := rest) rfl
    (by rw [hb]; exact d7) (by rw [hb]; exact d10) hout hRframes (by simp only [List.map_cons, List.sum_cons, hcat]; omega) hlocks
  obtain ⟨f1, f2⟩ := vx_frame hsame
  rw [hhp] at f1 f2
  have hWs : s.WarmedH U.vm := State.WarmedH.trans hW0 hW
  have hcl : s.vm.findClass cls = some ce.cls := by
    have h9 := hO.cls
    rw [hvm] at h9
    exact h9
  have hall : s.sameButNew ({ U with vm := s.vm } : State) locs mc ms := by
    subst hA
    obtain ⟨e1, e2⟩ := hsame
    rw [State.setFrames_setFrames] at e1
    have h2 : (T.setVm s.vm).sameButNew ({ U with vm := s.vm } : State) [] (0 + 1) (0 + 6) := ⟨e1, e2⟩
    have h3 := X.same.trans h2
    rw [List.append_nil] at h3
    exact h3.mono hc hs
  refine ⟨U, ?_, .threw T.heap.size, hrun, hend, Or.inr ⟨T.heap.size, rfl, cls, ce, locs, hx U hWs.alike f1 (fun q hq => f2 q hq (fun z hz => nomatch hz)), hce, hO.vm, hcl, hWs, hall, hf⟩⟩
  refine st1 _ ?_
  show Steps p.tables e below (T1.setTop { method := m, pc := pc + 3, locals := ls, stack := .ref T.heap.size :: rest, locked := none }) _
  jvm_step X₁.here [X₁.here.top, hexec, d3', Value.category]
  exact X₁.ldcStringW hexec (own := own) (text := text) (index := is) (a := sa) hown' hstr'.1 hstr'.2
    (g := { method := m, pc := pc + 4, locals := ls, stack := .ref T.heap.size :: .ref T.heap.size :: rest, locked := none }) rfl d4' _ hsteps
end Ends
section Bodies
variable {l : Launch}
theorem vx_ofW {y : MethodName} {ws ws' : List Cond} {rm : Room} {Pc : Array Value → State → Prop} {Qc : Array Value → State → Outcome → State → Prop} {XC : String → State → State → Prop} {mc ms : Nat} {free : Addr → Prop} {cc : ByteArray} {maxL : Nat} {ret : Option FieldType}
    (hy : plainName y.cls = true) (hw : ws = Cond.code y cc maxL ret :: ws')
    (body : ∀ p e s m args below meth c s₁, BodyLoose p l y (headSpec ws rm) cc maxL ret e s m args below meth c s₁ → c.maxLocals = maxL → (∀ x ∈ c.exceptionTable.toList, False) → Pc args s →
      W p l e (headSpec ws rm).room s m args below meth c s.heap [] 0 0 (vx_MQ below Qc XC args s mc ms free) (entryFrame m args maxL)) : vx_Met l y ws rm Pc Qc XC mc ms free := by
  refine MetFree.of_bodyS (code := cc) (maxLocals := maxL) (ret := ret) hy ?_ ?_
  · intro args s m h hn
    obtain ⟨meth, c, h1, h2, h3, h4, h5, h6, -, -⟩ := Cond.code_spec hn (atoms_spec (ws := ws) h _ (by rw [hw]; exact List.mem_cons_self))
    exact ⟨meth, c, h1, h2, h3, h4, h5, h6⟩
  · intro p e s m args below meth c s₁ B hml hP _
    have hh0 : s₁.heap = s.heap := by rw [B.state]; rfl
    have ht : ∀ x ∈ c.exceptionTable.toList, False := by
      obtain ⟨meth9, c9, h1, h2, -, -, -, -, h7, -⟩ := Cond.code_spec B.named (atoms_spec (ws := ws) B.pre _ (by rw [hw]; exact List.mem_cons_self))
      cases Option.some.inj (h1.symm.trans B.method)
      cases Option.some.inj (h2.symm.trans (Stand.of_body B).code)
      intro x hx
      rw [Array.isEmpty_iff.mp h7] at hx
      cases hx
    obtain ⟨t, a1, o, b1, b2, b3⟩ := body p e s m args below meth c s₁ B hml ht hP s₁ hh0 (Stand.of_body B)
    exact ⟨t, o, a1, b1, b2, b3⟩
/-- the table of a body with handlers -/
theorem vx_table {p : Program} {x y : MethodName} {S : Spec} {cc bytes : ByteArray} {maxL maxL' : Nat} {ret ret' : Option FieldType} {e : Env} {s s₁ : State} {m : MethodId} {args : Array Value} {below : List Frame} {meth : Method} {c : Code} {hh : List (Nat × Nat × Nat × Nat)}
    (B : BodyLoose p l y S cc maxL ret e s m args below meth c s₁) (h : (Cond.codeWith y bytes maxL' ret' hh).before args s = true) : c.exceptionTable.toList = tableOf hh := by
  obtain ⟨m9, meth9, c9, hn9, h1, h2, -, -, h6, -⟩ := Cond.codeWith_spec h
  cases Option.some.inj (hn9.symm.trans B.named)
  cases Option.some.inj (h1.symm.trans B.method)
  cases Option.some.inj (h2.symm.trans (Stand.of_body B).code)
  rw [← h6, table_eq]
end Bodies
end VXA
/-! ===== END ===== -/
/-! ===== BEGIN a static call of a method with an exception table ===== -/
section VXS
variable {p : Program} {l : Launch} {e : Env} {R : Room} {s : State} {m : MethodId} {args : Array Value} {below : List Frame} {meth : Method} {c : Code} {T : State} {H : Heap} {locs : List Loc} {cells slots : Nat}
abbrev vx_CSW (R : Room) (s : State) (args : Array Value) (own : String) (index : Nat) (y : MethodName) (bytes : ByteArray) (maxL : Nat) (ret : Option FieldType) (hh : List (Nat × Nat × Nat × Nat)) (ws : List Cond) (rm : Room) (mc ms n : Nat) : Prop :=
  (rm.cells = mc ∧ rm.slots = ms ∧ rm.frames + 1 ≤ R.frames ∧ 8 + (maxL + 11) + rm.locals ≤ R.locals ∧ (∀ w ∈ ws, ∀ (a' : Array Value) (U : State), s.WarmedH U.vm → w.before a' U = true) ∧ Cond.codeWith y bytes maxL ret hh ∈ ws) ∧
  (Cond.codeWith y bytes maxL ret hh).before args s = true ∧ (Cond.initialized y.cls).before args s = true ∧ (y.cls ≠ "java/lang/invoke/MethodHandle" ∧ y.cls ≠ "java/lang/invoke/VarHandle") ∧
  (∀ sig, parseMethodDescriptor y.desc = some sig → n = sig.parameters.length) ∧ (Cond.methodLink own index y).before args s = true ∧ (Cond.static y).before args s = true
theorem vx_cwSW {own : String} {index maxL mc ms : Nat} {y : MethodName} {bytes : ByteArray} {ret : Option FieldType} {hh : List (Nat × Nat × Nat × Nat)} {Ts ws ws' : List Cond} {rm : Room} (n : Nat) (ht : ∀ w ∈ Ts, w.before args s = true) (hT : GoodIn Ts (va_wsS own index y ws)) (hw : ws = Cond.codeWith y bytes maxL ret hh :: ws') (hrc : rm.cells = mc) (hrs : rm.slots = ms)
    (hd : y.cls ≠ "java/lang/invoke/MethodHandle" ∧ y.cls ≠ "java/lang/invoke/VarHandle" ∧ (parseMethodDescriptor y.desc).map (fun d => d.parameters.length) = some n) (hR : rm.frames + 1 ≤ R.frames ∧ 8 + (maxL + 11) + rm.locals ≤ R.locals) :
    vx_CSW R s args own index y bytes maxL ret hh ws rm mc ms n := by
  have ok : ∀ w ∈ va_wsS own index y ws, w.before args s = true := fun w h => ht w (hT w h).1
  have hG : GoodIn Ts ws := fun w h => hT w (by unfold va_wsS; exact List.mem_append_right _ h)
  have hc : Cond.codeWith y bytes maxL ret hh ∈ ws := by rw [hw]; exact List.mem_cons_self
  refine ⟨⟨hrc, hrs, hR.1, hR.2, pay_in ht hG, hc⟩, ht _ (hG _ hc).1, ok _ (by simp [va_wsS]), ⟨hd.1, hd.2.1⟩, fun sig h => ?_, ok _ (by simp [va_wsS]), ok _ (by simp [va_wsS])⟩
  have h2 := hd.2.2
  rw [h] at h2
  exact (Option.some.inj h2).symm
theorem vx_callSW (X : Stand p l e R s m args below meth c T locs cells slots) (hexec : p.tables.exec = Jvm.exec) {own : String} {index : Nat} {y : MethodName} {bytes : ByteArray} {maxL : Nat} {ret : Option FieldType} {hh : List (Nat × Nat × Nat × Nat)}
    (hown : s.vm.findClass own = some m.cls) (hlink : (Cond.methodLink own index y).before args s = true) (hstat : (Cond.static y).before args s = true) (hinit : (Cond.initialized y.cls).before args s = true)
    (hcode : (Cond.codeWith y bytes maxL ret hh).before args s = true) (hy : y.cls ≠ "java/lang/invoke/MethodHandle" ∧ y.cls ≠ "java/lang/invoke/VarHandle")
    {W9 : Nat} {Pre : Pt → Array Value → Prop} {Post : Pt → Array Value → Option Value → Pt → Prop} (hK : Back l R p e below s args y 3 W9 Pre Post)
    {g : JFrame} (hg : g.method = m) (hsize : g.locals.size = c.maxLocals) {argsL rest : List Value} (hlen : ∀ sig, parseMethodDescriptor y.desc = some sig → argsL.length = sig.parameters.length)
    (hstack : g.stack = argsL.reverse ++ rest) (hW : 2 * g.monitorRoom + (rest.map fun v => v.category).sum ≤ W9) (hdg : decode c.code g.pc = .ok (.invokestatic index, 3))
    (hpre : ∀ vm₁, s.WarmedH vm₁ → Pre ⟨T.setVm vm₁, locs, cells, slots⟩ argsL.toArray) :
    ∃ (v : Option Value) (vm₁ : Vm) (B : Pt), s.WarmedH vm₁ ∧ Stand p l e R s m args below meth c B.U B.locs B.cells B.slots ∧ Post ⟨T.setVm vm₁, locs, cells, slots⟩ argsL.toArray v B ∧
      ∀ target, Steps p.tables e below (B.U.setTop { g with pc := g.pc + 3, stack := v.toList ++ rest }) target → Steps p.tables e below (T.setTop g) target := by
  obtain ⟨mk, methM, cM, hnamed, hmethM, -, -, -, -, -, -, hsigM⟩ := Cond.codeWith_spec hcode
  have hstatic : methM.isStatic = true := Cond.static_spec hnamed hmethM hstat
  obtain ⟨kP, hkP, -⟩ := className_of_methodNamed hnamed
  have hinitP : kP.init = .initialized := Cond.initialized_spec (findClass_of_methodNamed hnamed) hkP hinit
  obtain ⟨vm₁, X₁, hstep₁⟩ := X.invokestatic hexec hown hlink hnamed hmethM hstatic hkP hinitP hy (g := g) hg (argsL := argsL) (rest := rest) (hlen _ hsigM) hstack hdg
  obtain ⟨v, B, X', hpost, hsteps⟩ := hK m meth c ⟨T.setVm vm₁, locs, cells, slots⟩ { g with stack := rest } (.invokestatic index) mk argsL.toArray X₁ hg hsize hdg hW (X₁.named hnamed) (hpre vm₁ X₁.warmed)
  exact ⟨v, vm₁, B, X₁.warmed, X', hpost, fun target h => hstep₁ _ fun acts => by rw [doInvoke_state]; exact hsteps.trans h⟩
theorem vx_runSW {y : MethodName} {bytes cc : ByteArray} {maxL nL mc ms n index : Nat} {ret : Option FieldType} {hh : List (Nat × Nat × Nat × Nat)} {ws : List Cond} {rm : Room} {Pc : Array Value → State → Prop} {Qc : Array Value → State → Outcome → State → Prop} {free : Addr → Prop} {Ts : List Cond} {own : String} {As rest : List Value} {g : JFrame}
    (S : CallFix p m c cc nL s args Ts own) (hM : Met l y ws rm Pc Qc mc ms free) (cw : vx_CSW R s args own index y bytes maxL ret hh ws rm mc ms n) (hp : PreS s H Pc As)
    (hg : g.method = m) (hn : As.length = n) (hsize : g.locals.size = nL) (hstack : g.stack = As.reverse ++ rest) (hW : 2 * g.monitorRoom + (rest.map fun v => v.category).sum ≤ 8) (hdg : decode cc g.pc = .ok (.invokestatic index, 3)) (hf : cells + mc ≤ R.cells ∧ slots + ms ≤ R.slots) :
    va_Run p l e R s m args below meth c H locs cells slots mc ms g rest (Qc As.toArray) (free) := by
  obtain ⟨⟨hrc, hrs, hfr, hlo, hws, hcw⟩, hcode, hini, hy, hlen, hl, hstt⟩ := cw
  have hK : Back l R p e below s args y 3 8 (PreOf R mc ms Pc) (PostOf Qc mc ms free) := va_backW (hh := hh) (bytes := bytes) (maxL := maxL) (ret := ret) hM hp.1 hrc hrs hfr hlo hws hcw (fun a' U hW => word_at hW (Or.inl (by first | rfl | simp [Cond.onTables, Cond.keeps, Cond.steady])) hini)
  obtain ⟨hx, hb, hml, ho, -⟩ := S
  intro T hT X
  obtain ⟨v, vm₁, ⟨U', l2, c2, s2⟩, hW₁, X', ⟨g', mk, t, L, e1, e2, hq, h1, hL, h2, h3⟩, st⟩ := vx_callSW X hx (hh := hh) (bytes := bytes) (maxL := maxL) (ret := ret) ho hl hstt hini hcode hy hK hg (hsize.trans hml.symm) (argsL := As) (rest := rest) (fun sig h => hn.trans (hlen sig h)) hstack hW (by rw [hb]; exact hdg)
    (fun vm₁ hW₁ => ⟨hf.1, hf.2, hp.2 (T.setVm vm₁) hT hW₁⟩)
  dsimp only [Pt.U, Pt.locs, Pt.cells, Pt.slots] at X' e1 e2 h1 h2 h3 st
  subst h1; subst h2; subst h3
  exact ⟨v, (T.setVm vm₁).calling g' mk As.toArray, t, U', L, hT, X', hL, e1, e2, hq, st⟩
/-- not caught here, past rows that name other classes: it goes on to the caller -/
theorem vx_outP {p : Program} {l : Launch} {e : Env} {R : Room} {s : State} {m : MethodId} {args : Array Value} {below : List Frame} {meth : Method} {c : Code} {H : Heap} {locs : List Loc} {cells slots : Nat} {free : Addr → Prop} {ls : Array Slot} {rest : List Value} {Qc : Array Value → State → Outcome → State → Prop} {XC : String → State → State → Prop}
    {pc : Nat} {own E : String} {ce : Cell} {q : Addr} {mc ms : Nat} (hown : s.vm.findClass own = some m.cls) (hlocks : meth.locks = false)
    (hpass : ∀ z ∈ c.exceptionTable.toList, covers z pc = false ∨ (z.catchType ≠ 0 ∧ ∃ nm : String, (Cond.classLink own z.catchType nm).before args s = true ∧ va_Nc E nm s)) (hcell : H[q]? = some ce) (hv : ce.vm = .none) (hcl : s.vm.findClass E = some ce.cls)
    (hx : ∀ t : State, t.heap = H → s.vm.Alike t.vm → XC E s t) (hf : ∀ z ∈ locs, free z.base) (hc : cells ≤ mc) (hs : slots ≤ ms) :
    vx_W p l e R s m args below meth c H locs cells slots (vx_MQ below Qc XC args s mc ms free) (F0 m pc ls rest) q := by
  intro T hT X
  have hpl : e.platform.magicAccessors = ({} : Platform).magicAccessors := by rw [X.admits.platform]
  obtain ⟨vm', hW', X', st⟩ := X.outThrough hlocks q (g := F0 m pc ls rest) rfl rfl rfl (cell := ce) (by rw [hT]; exact hcell) (by rw [hv]; rfl)
    (by obtain ⟨k9, h9, -⟩ := Vm.findClass_spec hcl; exact ⟨k9, h9⟩) (fun z hz => by
      rcases hpass z hz with h | ⟨hz0, nm, hl1, hn1⟩
      · exact Or.inl h
      · obtain ⟨c6, hc6, hcl6⟩ := Cond.classLink_spec hown hl1 e.platform hpl
        obtain ⟨a8, b8, h1, h2, h3⟩ := hn1
        cases Option.some.inj (h1.symm.trans hcl)
        cases Option.some.inj (h2.symm.trans hc6)
        exact Or.inr ⟨hz0, _, hcl6, h3⟩)
  obtain ⟨g₀, hfr⟩ := X'.frames_eq
  have hcell9 : ((T.setVm vm').setFrames (.throwing q :: below)).heap[q]? = some ce := by
    show T.heap[q]? = some ce
    rw [hT]; exact hcell
  have hend : Ended ((T.setVm vm').setFrames (.throwing q :: below)) below (.threw q) := State.frames_setFrames _ (State.cur_lt_of_frames hfr)
  refine ⟨(T.setVm vm').setFrames (.throwing q :: below), ?_, .threw q, X'.here.running, hend, Or.inr ⟨q, rfl, E, ce, locs, hx _ hT (X'.ends _).1.alike, hcell9, hv, hcl, (X'.ends _).1, (X'.ends _).2.mono hc hs, hf⟩⟩
  rw [X.pushThrowing_eq]
  exact st
/-- a thing of a world lies in the heap -/
theorem vx_lt {D : va_G} {cl : List vw_C} {ws : va_W} {H1 : Heap} (h : va_P D cl ws H1) {k : Nat} {q : Nat × va_E} (hk : ws[k]? = some q) : q.1 < H1.size := (h k q hk).lt
end VXS
/-! ===== END ===== -/
/-! ===== BEGIN methods with a table of their own: called by a name, returning or throwing ===== -/
section VXH
/-! vx_backW, vx_callVX, vx_callSX, vx_callVW, vx_runVW, vx_runVX, vx_runSX, vx_ofWH follow the same proofs as their sisters above (Free/Laws.lean, Shelf42/LK1.lean); vx_outP calls Shelf42/NT130.lean (outThrough). -/
section
variable {l : Launch} {R : Room} {p : Program} {e : Env} {below : List Frame} {s : State} {sargs : Array Value} {y : MethodName} {len W9 : Nat}
theorem vx_backW {ws : List Cond} {rm : Room} {Pc : Array Value → State → Prop} {Qc : Array Value → State → Outcome → State → Prop} {XC : String → State → State → Prop} {mc ms : Nat} {free : Addr → Prop} {bytes : ByteArray} {maxL : Nat} {ret : Option FieldType} {hh : List (Nat × Nat × Nat × Nat)}
    (hM : vx_Met l y ws rm Pc Qc XC mc ms free) (hblind : FrameBlind Pc) (hrc : rm.cells = mc) (hrs : rm.slots = ms)
    (hframes : rm.frames + 1 ≤ R.frames) (hlocals : W9 + (maxL + 11) + rm.locals ≤ R.locals)
    (hws : ∀ w ∈ ws, ∀ a' U, s.WarmedH U.vm → w.before a' U = true) (hcode : Cond.codeWith y bytes maxL ret hh ∈ ws) (hinit : ∀ a' U, s.WarmedH U.vm → (Cond.initialized y.cls).before a' U = true) :
    vx_Back l R p e below s sargs y len W9 (PreOf R mc ms Pc) (PostOf Qc mc ms free) (vx_Post XC mc ms free) := by
  intro m meth c A g ig mk a X hg hsize hdg hW hn hp
  have h1 : (headSpec ws rm).pre.before a A.U = true := atoms_intro fun w hw => hws w hw _ _ X.warmed
  have h2 : (Cond.codeWith y bytes maxL ret hh).before a A.U = true := hws _ hcode _ _ X.warmed
  have h3 : (Cond.initialized y.cls).before a A.U = true := hinit _ _ X.warmed
  have h4 : A.cells + (headSpec ws rm).room.cells ≤ R.cells := by rw [show (headSpec ws rm).room.cells = mc from hrc]; exact hp.1
  have h5 : A.slots + (headSpec ws rm).room.slots ≤ R.slots := by rw [show (headSpec ws rm).room.slots = ms from hrs]; exact hp.2.1
  have hPc : Pc a (A.U.calling g mk a) := hblind _ _ _ _ hp.2.2
  obtain ⟨U, Ls, c0, s0⟩ := A
  dsimp only [Pt.U, Pt.locs, Pt.cells, Pt.slots] at h1 h2 h3 h4 h5 X hn hPc ⊢
  obtain ⟨m9, methY, cY, hn9, hmY, hcY, -, hlY, -⟩ := Cond.codeWith_spec h2
  cases Option.some.inj (hn9.symm.trans hn)
  obtain ⟨kY, hkY, -⟩ := className_of_methodNamed hn
  have hinitY : kY.init = .initialized := Cond.initialized_spec (findClass_of_methodNamed hn) hkY h3
  have h : At U g.method c below := by rw [hg]; exact X.here
  have hlocals9 : W9 + (maxL + 11) + (headSpec ws rm).room.locals ≤ R.locals := hlocals
  have happ : (headSpec ws rm).appliesLoose y e.platform (U.calling g mk a) = true :=
    Spec.appliesLoose_calling (g := g) h hdg hn hkY hinitY
      (X.room_calling (g := g) (R' := (headSpec ws rm).room) hsize hmY hcY hframes (by rw [hlY]; omega) h4 h5) h1
  obtain ⟨mid, hmid⟩ := h.above
  have hfr : (U.setTop g).frames = (.java g :: mid) ++ below := by rw [State.frames_setTop' g h.top, hmid]; rfl
  obtain ⟨o, s₂, hsteps, -, hend, hq⟩ := Steps.callFree hM p X.admits X.cas X.clock (acts := []) hfr happ hPc trivial
  have hq' : vx_Q Qc XC mc ms free a (U.calling g mk a) o s₂ := hq
  rw [State.frames_setTop' g h.top] at hend
  obtain ⟨g₀, hg0⟩ := Option.isSome_iff_exists.mp h.top
  obtain ⟨r, hr⟩ := State.topJava?_eq_some.mp hg0
  have hr' : (({ U with heap := s₂.heap, slotsUsed := s₂.slotsUsed } : State).setVm s₂.vm).frames = .java g₀ :: r := hr
  rcases hq' with ⟨hqc, L, hfe, hL⟩ | ⟨q, rfl, E, ce, L, hx, hce, hcv, hcl, hW₂, hsm, hL⟩
  · obtain ⟨⟨v, rfl⟩, hW₂, e2, q2, q3, q4, q5, q6⟩ := id hfe
    have e3 : s₂ = ({ (U.calling g mk a).setFrames s₂.frames with heap := s₂.heap, slotsUsed := s₂.slotsUsed } : State).setVm s₂.vm := by
      have : s₂ = ({ s₂ with vm := (U.calling g mk a).vm } : State).setVm s₂.vm := rfl
      rw [e2] at this
      exact this
    obtain ⟨c₂, i₂, len₂, hc₂, hd₂, hf₂⟩ := hend
    have hW' : U.WarmedH s₂.vm := hW₂
    have hcc : c₂ = c := by
      have h1 : s₂.code? g.method = U.code? g.method := by
        rw [State.code?_eq, State.code?_eq, hW'.alike.method?]
      exact Option.some.inj (hc₂.symm.trans (h1.trans h.code))
    subst hcc
    have hlen : len₂ = len := by rw [hdg] at hd₂; cases hd₂; rfl
    subst hlen
    have hs₂ : s₂ = (({ U with heap := s₂.heap, slotsUsed := s₂.slotsUsed } : State).setVm s₂.vm).setTop { g with pc := g.pc + len₂, stack := v.toList ++ g.stack } := by
      refine e3.trans ?_
      rw [hf₂, State.calling_eq h.top, State.setFrames_setFrames, State.setTop_of_frames _ hr', hr]
      rfl
    have hsame : U.sameButNew ({ U with heap := s₂.heap, slotsUsed := s₂.slotsUsed } : State) L mc ms := by
      refine ⟨?_, q2, q3, q4, q5, q6⟩
      obtain ⟨t, ht, -⟩ := State.frames_cons hr
      show ({ U with heap := s₂.heap, slotsUsed := s₂.slotsUsed } : State) = { U.setFrames U.frames with heap := s₂.heap, slotsUsed := s₂.slotsUsed }
      rw [State.setFrames_self ht]
    subst hg
    refine Or.inl ⟨v, ⟨(({ U with heap := s₂.heap, slotsUsed := s₂.slotsUsed } : State).setVm s₂.vm), Ls ++ L, c0 + mc, s0 + ms⟩,
      ⟨X.admits, X.cas, X.clock, X.frames, X.room, X.hears, X.method, X.code, (X.here.setHeapUsed s₂.heap s₂.slotsUsed).setVm hW'.alike, X.tail, State.WarmedH.trans X.warmed hW', X.limits, X.bytes, X.same.trans (hsame.setVm s.vm)⟩,
      ⟨g, mk, s₂, L, rfl, rfl, hqc, rfl, hL, rfl, rfl⟩, ?_⟩
    show Steps p.tables e below _ ((({ U with heap := s₂.heap, slotsUsed := s₂.slotsUsed } : State).setVm s₂.vm).setTop { g with pc := g.pc + len₂, stack := v.toList ++ g.stack })
    rw [← hs₂]
    exact hsteps
  · obtain ⟨e2, q2, q3, q4, q5, q6⟩ := id hsm
    have e3 : s₂ = ({ (U.calling g mk a).setFrames s₂.frames with heap := s₂.heap, slotsUsed := s₂.slotsUsed } : State).setVm s₂.vm := by
      have : s₂ = ({ s₂ with vm := (U.calling g mk a).vm } : State).setVm s₂.vm := rfl
      rw [e2] at this
      exact this
    have hf₂ : s₂.frames = .throwing q :: .java g :: U.frames.tail := hend
    have hW' : U.WarmedH s₂.vm := hW₂
    have hs₂ : s₂ = ((({ U with heap := s₂.heap, slotsUsed := s₂.slotsUsed } : State).setVm s₂.vm).setTop g).pushFrame (.throwing q) := by
      refine e3.trans ?_
      rw [hf₂, State.calling_eq h.top, State.setFrames_setFrames, State.pushFrame, State.frames_setTop _ hr', State.setTop_of_frames _ hr', State.setFrames_setFrames, hr]
      rfl
    have hsame : U.sameButNew ({ U with heap := s₂.heap, slotsUsed := s₂.slotsUsed } : State) L mc ms := by
      refine ⟨?_, q2, q3, q4, q5, q6⟩
      obtain ⟨t, ht, -⟩ := State.frames_cons hr
      show ({ U with heap := s₂.heap, slotsUsed := s₂.slotsUsed } : State) = { U.setFrames U.frames with heap := s₂.heap, slotsUsed := s₂.slotsUsed }
      rw [State.setFrames_self ht]
    subst hg
    refine Or.inr ⟨q, ⟨(({ U with heap := s₂.heap, slotsUsed := s₂.slotsUsed } : State).setVm s₂.vm), Ls ++ L, c0 + mc, s0 + ms⟩,
      ⟨X.admits, X.cas, X.clock, X.frames, X.room, X.hears, X.method, X.code, (X.here.setHeapUsed s₂.heap s₂.slotsUsed).setVm hW'.alike, X.tail, State.WarmedH.trans X.warmed hW', X.limits, X.bytes, X.same.trans (hsame.setVm s.vm)⟩,
      ⟨g, mk, s₂, L, E, ce, rfl, rfl, hx, hce, hcv, hcl, rfl, hL, rfl, rfl⟩, ?_⟩
    show Steps p.tables e below _ (((({ U with heap := s₂.heap, slotsUsed := s₂.slotsUsed } : State).setVm s₂.vm).setTop g).pushFrame (.throwing q))
    rw [← hs₂]
    exact hsteps
end
variable {p : Program} {l : Launch} {e : Env} {R : Room} {s : State} {m : MethodId} {args : Array Value} {below : List Frame} {meth : Method} {c : Code} {T : State} {H : Heap} {locs : List Loc} {cells slots : Nat}
theorem vx_callVX (X : Stand p l e R s m args below meth c T locs cells slots) (hexec : p.tables.exec = Jvm.exec) {own C : String} {index : Nat} {y : MethodName} {bytes : ByteArray} {maxL : Nat} {ret : Option FieldType} {hh : List (Nat × Nat × Nat × Nat)}
    (hown : s.vm.findClass own = some m.cls) (hlink : (Cond.methodLink own index y).before args s = true) (hinst : (Cond.instanceMethod y).before args s = true) (hsel : (Cond.selects C y y).before args s = true)
    (hcode : (Cond.codeWith y bytes maxL ret hh).before args s = true) (hy : y.cls ≠ "java/lang/invoke/MethodHandle" ∧ y.cls ≠ "java/lang/invoke/VarHandle")
    {W9 : Nat} {Pre : Pt → Array Value → Prop} {Post : Pt → Array Value → Option Value → Pt → Prop} {PostX : Pt → Array Value → Addr → Pt → Prop} (hK : vx_Back l R p e below s args y 3 W9 Pre Post PostX)
    {b : Addr} {cellB : Cell} (hcell : T.heap[b]? = some cellB) (hobj : cellB.vm.isStatics = false) (hcls : s.vm.findClass C = some cellB.cls)
    {g : JFrame} (hg : g.method = m) (hsize : g.locals.size = c.maxLocals) {argsL rest : List Value} (hlen : ∀ sig, parseMethodDescriptor y.desc = some sig → argsL.length = sig.parameters.length)
    (hstack : g.stack = argsL.reverse ++ .ref b :: rest) (hW : 2 * g.monitorRoom + (rest.map fun v => v.category).sum ≤ W9) (hdg : decode c.code g.pc = .ok (.invokevirtual index, 3))
    (hpre : ∀ vm₁, s.WarmedH vm₁ → Pre ⟨T.setVm vm₁, locs, cells, slots⟩ (Value.ref b :: argsL).toArray) :
    (∃ (v : Option Value) (vm₁ : Vm) (B : Pt), s.WarmedH vm₁ ∧ Stand p l e R s m args below meth c B.U B.locs B.cells B.slots ∧ Post ⟨T.setVm vm₁, locs, cells, slots⟩ (Value.ref b :: argsL).toArray v B ∧
      ∀ target, Steps p.tables e below (B.U.setTop { g with pc := g.pc + 3, stack := v.toList ++ rest }) target → Steps p.tables e below (T.setTop g) target) ∨
    (∃ (q : Addr) (vm₁ : Vm) (B : Pt), s.WarmedH vm₁ ∧ Stand p l e R s m args below meth c B.U B.locs B.cells B.slots ∧ PostX ⟨T.setVm vm₁, locs, cells, slots⟩ (Value.ref b :: argsL).toArray q B ∧
      Steps p.tables e below (T.setTop g) ((B.U.setTop { g with stack := rest }).pushFrame (.throwing q))) := by
  obtain ⟨mk, methM, hnamed, hmethM, hstM, habM⟩ := Cond.instanceMethod_spec hinst
  obtain ⟨m8, methM', cM, hn8, hmethM', -, -, -, -, -, -, hsigM⟩ := Cond.codeWith_spec hcode
  cases Option.some.inj (hn8.symm.trans hnamed)
  cases hmethM.symm.trans hmethM'
  obtain ⟨c2, r2, m2, q1, q2, q3, q4, kP, hkP, hkPi⟩ := Cond.selects_spec hsel
  cases hcls.symm.trans q1
  cases (State.methodFound?_of_named hnamed hy).symm.trans q2
  cases hnamed.symm.trans q3
  have hselP : selectMethod e.platform s.vm cellB.cls mk = .method mk := by rw [Launch.admits_selectMethod X.admits]; exact q4
  obtain ⟨vm₁, X₁, hstep₁⟩ := X.invokevirtual hexec hown hlink hnamed hmethM hstM hkP hkPi hy (a := b) (cell := cellB) hcell
    (fun z h => by rw [h] at hobj; cases hobj) hselP hmethM habM hkP hkPi (g := g) hg (argsL := argsL) (rest := rest) (hlen _ hsigM) hstack hdg
  rcases hK m meth c ⟨T.setVm vm₁, locs, cells, slots⟩ { g with stack := rest } (.invokevirtual index) mk (Value.ref b :: argsL).toArray X₁ hg hsize hdg hW (X₁.named hnamed) (hpre vm₁ X₁.warmed) with ⟨v, B, X', hpost, hsteps⟩ | ⟨q, B, X', hpost, hsteps⟩
  · exact Or.inl ⟨v, vm₁, B, X₁.warmed, X', hpost, fun target h => hstep₁ _ fun acts => by rw [doInvoke_state]; exact hsteps.trans h⟩
  · exact Or.inr ⟨q, vm₁, B, X₁.warmed, X', hpost, hstep₁ _ fun acts => by rw [doInvoke_state]; exact hsteps⟩
theorem vx_callSX (X : Stand p l e R s m args below meth c T locs cells slots) (hexec : p.tables.exec = Jvm.exec) {own : String} {index : Nat} {y : MethodName} {bytes : ByteArray} {maxL : Nat} {ret : Option FieldType} {hh : List (Nat × Nat × Nat × Nat)}
    (hown : s.vm.findClass own = some m.cls) (hlink : (Cond.methodLink own index y).before args s = true) (hstat : (Cond.static y).before args s = true) (hinit : (Cond.initialized y.cls).before args s = true)
    (hcode : (Cond.codeWith y bytes maxL ret hh).before args s = true) (hy : y.cls ≠ "java/lang/invoke/MethodHandle" ∧ y.cls ≠ "java/lang/invoke/VarHandle")
    {W9 : Nat} {Pre : Pt → Array Value → Prop} {Post : Pt → Array Value → Option Value → Pt → Prop} {PostX : Pt → Array Value → Addr → Pt → Prop} (hK : vx_Back l R p e below s args y 3 W9 Pre Post PostX)
    {g : JFrame} (hg : g.method = m) (hsize : g.locals.size = c.maxLocals) {argsL rest : List Value} (hlen : ∀ sig, parseMethodDescriptor y.desc = some sig → argsL.length = sig.parameters.length)
    (hstack : g.stack = argsL.reverse ++ rest) (hW : 2 * g.monitorRoom + (rest.map fun v => v.category).sum ≤ W9) (hdg : decode c.code g.pc = .ok (.invokestatic index, 3))
    (hpre : ∀ vm₁, s.WarmedH vm₁ → Pre ⟨T.setVm vm₁, locs, cells, slots⟩ argsL.toArray) :
    (∃ (v : Option Value) (vm₁ : Vm) (B : Pt), s.WarmedH vm₁ ∧ Stand p l e R s m args below meth c B.U B.locs B.cells B.slots ∧ Post ⟨T.setVm vm₁, locs, cells, slots⟩ argsL.toArray v B ∧
      ∀ target, Steps p.tables e below (B.U.setTop { g with pc := g.pc + 3, stack := v.toList ++ rest }) target → Steps p.tables e below (T.setTop g) target) ∨
    (∃ (q : Addr) (vm₁ : Vm) (B : Pt), s.WarmedH vm₁ ∧ Stand p l e R s m args below meth c B.U B.locs B.cells B.slots ∧ PostX ⟨T.setVm vm₁, locs, cells, slots⟩ argsL.toArray q B ∧
      Steps p.tables e below (T.setTop g) ((B.U.setTop { g with stack := rest }).pushFrame (.throwing q))) := by
  obtain ⟨mk, methM, cM, hnamed, hmethM, -, -, -, -, -, -, hsigM⟩ := Cond.codeWith_spec hcode
  have hstatic : methM.isStatic = true := Cond.static_spec hnamed hmethM hstat
  obtain ⟨kP, hkP, -⟩ := className_of_methodNamed hnamed
  have hinitP : kP.init = .initialized := Cond.initialized_spec (findClass_of_methodNamed hnamed) hkP hinit
  obtain ⟨vm₁, X₁, hstep₁⟩ := X.invokestatic hexec hown hlink hnamed hmethM hstatic hkP hinitP hy (g := g) hg (argsL := argsL) (rest := rest) (hlen _ hsigM) hstack hdg
  rcases hK m meth c ⟨T.setVm vm₁, locs, cells, slots⟩ { g with stack := rest } (.invokestatic index) mk argsL.toArray X₁ hg hsize hdg hW (X₁.named hnamed) (hpre vm₁ X₁.warmed) with ⟨v, B, X', hpost, hsteps⟩ | ⟨q, B, X', hpost, hsteps⟩
  · exact Or.inl ⟨v, vm₁, B, X₁.warmed, X', hpost, fun target h => hstep₁ _ fun acts => by rw [doInvoke_state]; exact hsteps.trans h⟩
  · exact Or.inr ⟨q, vm₁, B, X₁.warmed, X', hpost, hstep₁ _ fun acts => by rw [doInvoke_state]; exact hsteps⟩
theorem vx_callVW (X : Stand p l e R s m args below meth c T locs cells slots) (hexec : p.tables.exec = Jvm.exec) {own C : String} {index : Nat} {y : MethodName} {bytes : ByteArray} {maxL : Nat} {ret : Option FieldType} {hh : List (Nat × Nat × Nat × Nat)}
    (hown : s.vm.findClass own = some m.cls) (hlink : (Cond.methodLink own index y).before args s = true) (hinst : (Cond.instanceMethod y).before args s = true) (hsel : (Cond.selects C y y).before args s = true)
    (hcode : (Cond.codeWith y bytes maxL ret hh).before args s = true) (hy : y.cls ≠ "java/lang/invoke/MethodHandle" ∧ y.cls ≠ "java/lang/invoke/VarHandle")
    {W9 : Nat} {Pre : Pt → Array Value → Prop} {Post : Pt → Array Value → Option Value → Pt → Prop} (hK : Back l R p e below s args y 3 W9 Pre Post)
    {b : Addr} {cellB : Cell} (hcell : T.heap[b]? = some cellB) (hobj : cellB.vm.isStatics = false) (hcls : s.vm.findClass C = some cellB.cls)
    {g : JFrame} (hg : g.method = m) (hsize : g.locals.size = c.maxLocals) {argsL rest : List Value} (hlen : ∀ sig, parseMethodDescriptor y.desc = some sig → argsL.length = sig.parameters.length)
    (hstack : g.stack = argsL.reverse ++ .ref b :: rest) (hW : 2 * g.monitorRoom + (rest.map fun v => v.category).sum ≤ W9) (hdg : decode c.code g.pc = .ok (.invokevirtual index, 3))
    (hpre : ∀ vm₁, s.WarmedH vm₁ → Pre ⟨T.setVm vm₁, locs, cells, slots⟩ (Value.ref b :: argsL).toArray) :
    ∃ (v : Option Value) (vm₁ : Vm) (B : Pt), s.WarmedH vm₁ ∧ Stand p l e R s m args below meth c B.U B.locs B.cells B.slots ∧ Post ⟨T.setVm vm₁, locs, cells, slots⟩ (Value.ref b :: argsL).toArray v B ∧
      ∀ target, Steps p.tables e below (B.U.setTop { g with pc := g.pc + 3, stack := v.toList ++ rest }) target → Steps p.tables e below (T.setTop g) target := by
  obtain ⟨mk, methM, hnamed, hmethM, hstM, habM⟩ := Cond.instanceMethod_spec hinst
  obtain ⟨m8, methM', cM, hn8, hmethM', -, -, -, -, -, -, hsigM⟩ := Cond.codeWith_spec hcode
  cases Option.some.inj (hn8.symm.trans hnamed)
  cases hmethM.symm.trans hmethM'
  obtain ⟨c2, r2, m2, q1, q2, q3, q4, kP, hkP, hkPi⟩ := Cond.selects_spec hsel
  cases hcls.symm.trans q1
  cases (State.methodFound?_of_named hnamed hy).symm.trans q2
  cases hnamed.symm.trans q3
  have hselP : selectMethod e.platform s.vm cellB.cls mk = .method mk := by rw [Launch.admits_selectMethod X.admits]; exact q4
  obtain ⟨vm₁, X₁, hstep₁⟩ := X.invokevirtual hexec hown hlink hnamed hmethM hstM hkP hkPi hy (a := b) (cell := cellB) hcell
    (fun z h => by rw [h] at hobj; cases hobj) hselP hmethM habM hkP hkPi (g := g) hg (argsL := argsL) (rest := rest) (hlen _ hsigM) hstack hdg
  obtain ⟨v, B, X', hpost, hsteps⟩ := hK m meth c ⟨T.setVm vm₁, locs, cells, slots⟩ { g with stack := rest } (.invokevirtual index) mk (Value.ref b :: argsL).toArray X₁ hg hsize hdg hW (X₁.named hnamed) (hpre vm₁ X₁.warmed)
  exact ⟨v, vm₁, B, X₁.warmed, X', hpost, fun target h => hstep₁ _ fun acts => by rw [doInvoke_state]; exact hsteps.trans h⟩
abbrev vx_CVW (R : Room) (s : State) (args : Array Value) (own C : String) (index : Nat) (y : MethodName) (bytes : ByteArray) (maxL : Nat) (ret : Option FieldType) (hh : List (Nat × Nat × Nat × Nat)) (ws : List Cond) (rm : Room) (mc ms n : Nat) : Prop :=
  (rm.cells = mc ∧ rm.slots = ms ∧ rm.frames + 1 ≤ R.frames ∧ 8 + (maxL + 11) + rm.locals ≤ R.locals ∧ (∀ w ∈ ws, ∀ (a' : Array Value) (U : State), s.WarmedH U.vm → w.before a' U = true) ∧ Cond.codeWith y bytes maxL ret hh ∈ ws) ∧
  (Cond.codeWith y bytes maxL ret hh).before args s = true ∧ (Cond.initialized y.cls).before args s = true ∧ (y.cls ≠ "java/lang/invoke/MethodHandle" ∧ y.cls ≠ "java/lang/invoke/VarHandle") ∧
  (∀ sig, parseMethodDescriptor y.desc = some sig → n = sig.parameters.length) ∧ (Cond.methodLink own index y).before args s = true ∧ (Cond.instanceMethod y).before args s = true ∧ (Cond.selects C y y).before args s = true
theorem vx_cwVW {own C : String} {index maxL mc ms : Nat} {y : MethodName} {bytes : ByteArray} {ret : Option FieldType} {hh : List (Nat × Nat × Nat × Nat)} {Ts ws ws' : List Cond} {rm : Room} (n : Nat) (ht : ∀ w ∈ Ts, w.before args s = true) (hT : GoodIn Ts (wsV own index C y ws)) (hw : ws = Cond.codeWith y bytes maxL ret hh :: ws') (hrc : rm.cells = mc) (hrs : rm.slots = ms)
    (hd : y.cls = C ∧ y.cls ≠ "java/lang/invoke/MethodHandle" ∧ y.cls ≠ "java/lang/invoke/VarHandle" ∧ (parseMethodDescriptor y.desc).map (fun d => d.parameters.length) = some n) (hR : rm.frames + 1 ≤ R.frames ∧ 8 + (maxL + 11) + rm.locals ≤ R.locals) :
    vx_CVW R s args own C index y bytes maxL ret hh ws rm mc ms n := by
  obtain ⟨hC, hd⟩ := hd
  subst hC
  have ok : ∀ w ∈ wsV own index y.cls y ws, w.before args s = true := fun w h => ht w (hT w h).1
  have hG : GoodIn Ts ws := fun w h => hT w (by unfold wsV; exact List.mem_append_right _ h)
  have hc : Cond.codeWith y bytes maxL ret hh ∈ ws := by rw [hw]; exact List.mem_cons_self
  refine ⟨⟨hrc, hrs, hR.1, hR.2, pay_in ht hG, hc⟩, ht _ (hG _ hc).1, ok _ (by simp [wsV]), ⟨hd.1, hd.2.1⟩, fun sig h => ?_, ok _ (by simp [wsV]), ok _ (by simp [wsV]), ok _ (by simp [wsV])⟩
  have h2 := hd.2.2
  rw [h] at h2
  exact (Option.some.inj h2).symm
theorem vx_runVW {y : MethodName} {bytes cc : ByteArray} {maxL nL mc ms n index : Nat} {ret : Option FieldType} {hh : List (Nat × Nat × Nat × Nat)} {ws : List Cond} {rm : Room} {Pc : Array Value → State → Prop} {Qc : Array Value → State → Outcome → State → Prop} {free : Addr → Prop} {Ts : List Cond} {own C : String} {b : Addr} {As rest : List Value} {g : JFrame}
    (S : CallFix p m c cc nL s args Ts own) (hM : Met l y ws rm Pc Qc mc ms free) (cw : vx_CVW R s args own C index y bytes maxL ret hh ws rm mc ms n) (hp : PreV s H C b Pc As)
    (hg : g.method = m) (hn : As.length = n) (hsize : g.locals.size = nL) (hstack : g.stack = As.reverse ++ .ref b :: rest) (hW : 2 * g.monitorRoom + (rest.map fun v => v.category).sum ≤ 8) (hdg : decode cc g.pc = .ok (.invokevirtual index, 3)) (hf : cells + mc ≤ R.cells ∧ slots + ms ≤ R.slots) :
    va_Run p l e R s m args below meth c H locs cells slots mc ms g rest (Qc (Value.ref b :: As).toArray) free := by
  obtain ⟨⟨hrc, hrs, hfr, hlo, hws, hcw⟩, hcode, hini, hy, hlen, hl, hin, hse⟩ := cw
  have hK : Back l R p e below s args y 3 8 (PreOf R mc ms Pc) (PostOf Qc mc ms free) := va_backW (hh := hh) (bytes := bytes) (maxL := maxL) (ret := ret) hM hp.1 hrc hrs hfr hlo hws hcw (fun a' U hW => word_at hW (Or.inl (by first | rfl | simp [Cond.onTables, Cond.keeps, Cond.steady])) hini)
  obtain ⟨hx, hb, hml, ho, -⟩ := S
  obtain ⟨-, ⟨cellB, hcB, hoB, hclB⟩, hPc⟩ := hp
  intro T hT X
  obtain ⟨v, vm₁, ⟨U', l2, c2, s2⟩, hW₁, X', ⟨g', mk, t, L, e1, e2, hq, h1, hL, h2, h3⟩, st⟩ := vx_callVW X hx (C := C) (hh := hh) (bytes := bytes) (maxL := maxL) (ret := ret) ho hl hin hse hcode hy hK (by rw [hT]; exact hcB) hoB hclB hg (hsize.trans hml.symm) (argsL := As) (rest := rest) (fun sig h => hn.trans (hlen sig h)) hstack hW (by rw [hb]; exact hdg)
    (fun vm₁ hW₁ => ⟨hf.1, hf.2, hPc (T.setVm vm₁) hT hW₁⟩)
  dsimp only [Pt.U, Pt.locs, Pt.cells, Pt.slots] at X' e1 e2 h1 h2 h3 st
  subst h1; subst h2; subst h3
  exact ⟨v, (T.setVm vm₁).calling g' mk (Value.ref b :: As).toArray, t, U', L, hT, X', hL, e1, e2, hq, st⟩
section
variable {y : MethodName} {bytes cc : ByteArray} {maxL nL mc ms n index : Nat} {ret : Option FieldType} {ws : List Cond} {rm : Room} {Pc : Array Value → State → Prop} {Qc : Array Value → State → Outcome → State → Prop} {XC : String → State → State → Prop} {free : Addr → Prop} {Ts : List Cond} {own C : String} {b : Addr} {As rest : List Value} {g : JFrame}
theorem vx_runVX {hh : List (Nat × Nat × Nat × Nat)} (S : CallFix p m c cc nL s args Ts own) (hM : vx_Met l y ws rm Pc Qc XC mc ms free) (cw : vx_CVW R s args own C index y bytes maxL ret hh ws rm mc ms n) (hp : PreV s H C b Pc As)
    (hg : g.method = m) (hn : As.length = n) (hsize : g.locals.size = nL) (hstack : g.stack = As.reverse ++ .ref b :: rest) (hW : 2 * g.monitorRoom + (rest.map fun v => v.category).sum ≤ 8) (hdg : decode cc g.pc = .ok (.invokevirtual index, 3)) (hf : cells + mc ≤ R.cells ∧ slots + ms ≤ R.slots) :
    vx_Run p l e R s m args below meth c H locs cells slots mc ms g rest (Qc (Value.ref b :: As).toArray) XC free := by
  obtain ⟨⟨hrc, hrs, hfr, hlo, hws, hcw⟩, hcode, hini, hy, hlen, hl, hin, hse⟩ := cw
  have hK : vx_Back l R p e below s args y 3 8 (PreOf R mc ms Pc) (PostOf Qc mc ms free) (vx_Post XC mc ms free) := vx_backW (hh := hh) (bytes := bytes) (maxL := maxL) (ret := ret) hM hp.1 hrc hrs hfr hlo hws hcw (fun a' U hW => word_at hW (Or.inl (by first | rfl | simp [Cond.onTables, Cond.keeps, Cond.steady])) hini)
  obtain ⟨hx, hb, hml, ho, -⟩ := S
  obtain ⟨-, ⟨cellB, hcB, hoB, hclB⟩, hPc⟩ := hp
  intro T hT X
  rcases vx_callVX X hx (C := C) (hh := hh) (bytes := bytes) (maxL := maxL) (ret := ret) ho hl hin hse hcode hy hK (by rw [hT]; exact hcB) hoB hclB hg (hsize.trans hml.symm) (argsL := As) (rest := rest) (fun sig h => hn.trans (hlen sig h)) hstack hW (by rw [hb]; exact hdg)
    (fun vm₁ hW₁ => ⟨hf.1, hf.2, hPc (T.setVm vm₁) hT hW₁⟩) with ⟨v, vm₁, ⟨U', l2, c2, s2⟩, hW₁, X', ⟨g', mk, t, L, e1, e2, hq, h1, hL, h2, h3⟩, st⟩ | ⟨q, vm₁, ⟨U', l2, c2, s2⟩, hW₁, X', ⟨g', mk, t, L, E, ce, e1, e2, hq, hce, hcv, hcl, h1, hL, h2, h3⟩, st⟩
  · dsimp only [Pt.U, Pt.locs, Pt.cells, Pt.slots] at X' e1 e2 h1 h2 h3 st
    subst h1; subst h2; subst h3
    exact Or.inl ⟨v, (T.setVm vm₁).calling g' mk (Value.ref b :: As).toArray, t, U', L, hT, X', hL, e1, e2, hq, st⟩
  · dsimp only [Pt.U, Pt.locs, Pt.cells, Pt.slots] at X' e1 e2 h1 h2 h3 st hcl
    subst h1; subst h2; subst h3
    exact Or.inr ⟨q, (T.setVm vm₁).calling g' mk (Value.ref b :: As).toArray, t, U', L, E, ce, hT, X', hL, e1, e2, hq, hce, hcv, vx_cls hW₁ hcl, st⟩
theorem vx_runSX {hh : List (Nat × Nat × Nat × Nat)} (S : CallFix p m c cc nL s args Ts own) (hM : vx_Met l y ws rm Pc Qc XC mc ms free) (cw : vx_CSW R s args own index y bytes maxL ret hh ws rm mc ms n) (hp : PreS s H Pc As)
    (hg : g.method = m) (hn : As.length = n) (hsize : g.locals.size = nL) (hstack : g.stack = As.reverse ++ rest) (hW : 2 * g.monitorRoom + (rest.map fun v => v.category).sum ≤ 8) (hdg : decode cc g.pc = .ok (.invokestatic index, 3)) (hf : cells + mc ≤ R.cells ∧ slots + ms ≤ R.slots) :
    vx_Run p l e R s m args below meth c H locs cells slots mc ms g rest (Qc As.toArray) XC free := by
  obtain ⟨⟨hrc, hrs, hfr, hlo, hws, hcw⟩, hcode, hini, hy, hlen, hl, hstt⟩ := cw
  have hK : vx_Back l R p e below s args y 3 8 (PreOf R mc ms Pc) (PostOf Qc mc ms free) (vx_Post XC mc ms free) := vx_backW (hh := hh) (bytes := bytes) (maxL := maxL) (ret := ret) hM hp.1 hrc hrs hfr hlo hws hcw (fun a' U hW => word_at hW (Or.inl (by first | rfl | simp [Cond.onTables, Cond.keeps, Cond.steady])) hini)
  obtain ⟨hx, hb, hml, ho, -⟩ := S
  intro T hT X
  rcases vx_callSX X hx (hh := hh) (bytes := bytes) (maxL := maxL) (ret := ret) ho hl hstt hini hcode hy hK hg (hsize.trans hml.symm) (argsL := As) (rest := rest) (fun sig h => hn.trans (hlen sig h)) hstack hW (by rw [hb]; exact hdg)
    (fun vm₁ hW₁ => ⟨hf.1, hf.2, hp.2 (T.setVm vm₁) hT hW₁⟩) with ⟨v, vm₁, ⟨U', l2, c2, s2⟩, hW₁, X', ⟨g', mk, t, L, e1, e2, hq, h1, hL, h2, h3⟩, st⟩ | ⟨q, vm₁, ⟨U', l2, c2, s2⟩, hW₁, X', ⟨g', mk, t, L, E, ce, e1, e2, hq, hce, hcv, hcl, h1, hL, h2, h3⟩, st⟩
  · dsimp only [Pt.U, Pt.locs, Pt.cells, Pt.slots] at X' e1 e2 h1 h2 h3 st
    subst h1; subst h2; subst h3
    exact Or.inl ⟨v, (T.setVm vm₁).calling g' mk As.toArray, t, U', L, hT, X', hL, e1, e2, hq, st⟩
  · dsimp only [Pt.U, Pt.locs, Pt.cells, Pt.slots] at X' e1 e2 h1 h2 h3 st hcl
    subst h1; subst h2; subst h3
    exact Or.inr ⟨q, (T.setVm vm₁).calling g' mk As.toArray, t, U', L, E, ce, hT, X', hL, e1, e2, hq, hce, hcv, vx_cls hW₁ hcl, st⟩
end
end VXH
theorem vx_ofWH {l : Launch} {y : MethodName} {ws ws' : List Cond} {rm : Room} {Pc : Array Value → State → Prop} {Qc : Array Value → State → Outcome → State → Prop} {XC : String → State → State → Prop} {mc ms : Nat} {free : Addr → Prop} {cc : ByteArray} {maxL : Nat} {ret : Option FieldType} {hh : List (Nat × Nat × Nat × Nat)}
    (hy : plainName y.cls = true) (hw : ws = Cond.codeWith y cc maxL ret hh :: ws')
    (body : ∀ p e s m args below meth c s₁, BodyLoose p l y (headSpec ws rm) cc maxL ret e s m args below meth c s₁ → c.maxLocals = maxL → Pc args s →
      W p l e (headSpec ws rm).room s m args below meth c s.heap [] 0 0 (vx_MQ below Qc XC args s mc ms free) (entryFrame m args maxL)) : vx_Met l y ws rm Pc Qc XC mc ms free := by
  refine MetFree.of_bodyS (code := cc) (maxLocals := maxL) (ret := ret) hy ?_ ?_
  · intro args s m h hn
    obtain ⟨m9, meth, c, hn9, h1, h2, h3, h4, -, h5, h6, -⟩ := Cond.codeWith_spec (atoms_spec (ws := ws) h _ (by rw [hw]; exact List.mem_cons_self))
    cases hn.symm.trans hn9
    exact ⟨meth, c, h1, h2, h3, h4, h5, h6⟩
  · intro p e s m args below meth c s₁ B hml hP _
    have hh0 : s₁.heap = s.heap := by rw [B.state]; rfl
    obtain ⟨t, a1, o, b1, b2, b3⟩ := body p e s m args below meth c s₁ B hml hP s₁ hh0 (Stand.of_body B)
    exact ⟨t, o, a1, b1, b2, b3⟩
/-! ===== END ===== -/
end
section
-- ===== PART A: goes FIRST, ahead of the names: the tables' words, and 'selects' of the private methods out of them =====
/-- a private method of a class that the tables say can be made, by its rows of tables_1 -/
def lw_okq (q : MethodName × Nat) : Prop := (q.1.cls ≠ "java/lang/invoke/MethodHandle" ∧ q.1.cls ≠ "java/lang/invoke/VarHandle") ∧ Cond.instantiable q.1.cls q.2 ∈ tables_1 ∧ Cond.privateMethod q.1 ∈ tables_1 ∧ Cond.instanceMethod q.1 ∈ tables_1
theorem lw_p0 : lw_okq (⟨"Layertreaty", "treatyAt", "(I)LLayertreaty$Treaty;"⟩, 9) := ⟨⟨by decide +kernel, by decide +kernel⟩, List.mem_of_getElem? (i := 37) (by decide +kernel), List.mem_of_getElem? (i := 203) (by decide +kernel), List.mem_of_getElem? (i := 204) (by decide +kernel)⟩
theorem lw_p1 : lw_okq (⟨"java/lang/Throwable", "fillInStackTrace", "(I)Ljava/lang/Throwable;"⟩, 6) := ⟨⟨by decide +kernel, by decide +kernel⟩, List.mem_of_getElem? (i := 256) (by decide +kernel), List.mem_of_getElem? (i := 254) (by decide +kernel), List.mem_of_getElem? (i := 255) (by decide +kernel)⟩
theorem lw_p2 : lw_okq (⟨"Layertreaty$Flow", "serveLoss", "(LLayertreaty$Claim;)V"⟩, 6) := ⟨⟨by decide +kernel, by decide +kernel⟩, List.mem_of_getElem? (i := 71) (by decide +kernel), List.mem_of_getElem? (i := 356) (by decide +kernel), List.mem_of_getElem? (i := 357) (by decide +kernel)⟩
theorem lw_p3 : lw_okq (⟨"Layertreaty$Flow", "findOpen", "(LLayertreaty$Cover;)V"⟩, 6) := ⟨⟨by decide +kernel, by decide +kernel⟩, List.mem_of_getElem? (i := 71) (by decide +kernel), List.mem_of_getElem? (i := 404) (by decide +kernel), List.mem_of_getElem? (i := 405) (by decide +kernel)⟩
theorem lw_p4 : lw_okq (⟨"java/util/ArrayList", "add", "(Ljava/lang/Object;[Ljava/lang/Object;I)V"⟩, 3) := ⟨⟨by decide +kernel, by decide +kernel⟩, List.mem_of_getElem? (i := 45) (by decide +kernel), List.mem_of_getElem? (i := 416) (by decide +kernel), List.mem_of_getElem? (i := 417) (by decide +kernel)⟩
theorem lw_p5 : lw_okq (⟨"java/util/ArrayList", "grow", "()[Ljava/lang/Object;"⟩, 3) := ⟨⟨by decide +kernel, by decide +kernel⟩, List.mem_of_getElem? (i := 45) (by decide +kernel), List.mem_of_getElem? (i := 420) (by decide +kernel), List.mem_of_getElem? (i := 421) (by decide +kernel)⟩
theorem lw_p6 : lw_okq (⟨"java/util/ArrayList", "grow", "(I)[Ljava/lang/Object;"⟩, 3) := ⟨⟨by decide +kernel, by decide +kernel⟩, List.mem_of_getElem? (i := 45) (by decide +kernel), List.mem_of_getElem? (i := 424) (by decide +kernel), List.mem_of_getElem? (i := 425) (by decide +kernel)⟩
theorem lw_p7 : lw_okq (⟨"Layertreaty$Flow", "serveZone", "(LLayertreaty$Cover;IZ)V"⟩, 6) := ⟨⟨by decide +kernel, by decide +kernel⟩, List.mem_of_getElem? (i := 71) (by decide +kernel), List.mem_of_getElem? (i := 474) (by decide +kernel), List.mem_of_getElem? (i := 475) (by decide +kernel)⟩
theorem lw_p8 : lw_okq (⟨"Layertreaty$Laying", "worthOf", "(ILLayertreaty$Treaty;)J"⟩, 6) := ⟨⟨by decide +kernel, by decide +kernel⟩, List.mem_of_getElem? (i := 79) (by decide +kernel), List.mem_of_getElem? (i := 498) (by decide +kernel), List.mem_of_getElem? (i := 499) (by decide +kernel)⟩
theorem lw_p9 : lw_okq (⟨"Layertreaty$Laying", "isCut", "(II)Z"⟩, 6) := ⟨⟨by decide +kernel, by decide +kernel⟩, List.mem_of_getElem? (i := 79) (by decide +kernel), List.mem_of_getElem? (i := 502) (by decide +kernel), List.mem_of_getElem? (i := 503) (by decide +kernel)⟩
theorem lw_p10 : lw_okq (⟨"Layertreaty$Laying", "laidCuts", "()I"⟩, 6) := ⟨⟨by decide +kernel, by decide +kernel⟩, List.mem_of_getElem? (i := 79) (by decide +kernel), List.mem_of_getElem? (i := 506) (by decide +kernel), List.mem_of_getElem? (i := 507) (by decide +kernel)⟩
theorem lw_p11 : lw_okq (⟨"Layertreaty$Flow", "gather", "(III)V"⟩, 6) := ⟨⟨by decide +kernel, by decide +kernel⟩, List.mem_of_getElem? (i := 71) (by decide +kernel), List.mem_of_getElem? (i := 510) (by decide +kernel), List.mem_of_getElem? (i := 511) (by decide +kernel)⟩
theorem lw_p12 : lw_okq (⟨"Layertreaty$Flow", "serveGroup", "(LLayertreaty$Cover;)J"⟩, 6) := ⟨⟨by decide +kernel, by decide +kernel⟩, List.mem_of_getElem? (i := 71) (by decide +kernel), List.mem_of_getElem? (i := 514) (by decide +kernel), List.mem_of_getElem? (i := 515) (by decide +kernel)⟩
theorem lw_p13 : lw_okq (⟨"Layertreaty", "settle", "()V"⟩, 9) := ⟨⟨by decide +kernel, by decide +kernel⟩, List.mem_of_getElem? (i := 37) (by decide +kernel), List.mem_of_getElem? (i := 523) (by decide +kernel), List.mem_of_getElem? (i := 524) (by decide +kernel)⟩
theorem lw_p14 : lw_okq (⟨"Layertreaty", "playAll", "()V"⟩, 9) := ⟨⟨by decide +kernel, by decide +kernel⟩, List.mem_of_getElem? (i := 37) (by decide +kernel), List.mem_of_getElem? (i := 570) (by decide +kernel), List.mem_of_getElem? (i := 571) (by decide +kernel)⟩
theorem lw_p15 : lw_okq (⟨"Layertreaty", "play", "(LLayertreaty$Scenario;)V"⟩, 9) := ⟨⟨by decide +kernel, by decide +kernel⟩, List.mem_of_getElem? (i := 37) (by decide +kernel), List.mem_of_getElem? (i := 575) (by decide +kernel), List.mem_of_getElem? (i := 576) (by decide +kernel)⟩
def lw_privs_1 : List (MethodName × Nat) := [(⟨"Layertreaty", "treatyAt", "(I)LLayertreaty$Treaty;"⟩, 9), (⟨"java/lang/Throwable", "fillInStackTrace", "(I)Ljava/lang/Throwable;"⟩, 6), (⟨"Layertreaty$Flow", "serveLoss", "(LLayertreaty$Claim;)V"⟩, 6), (⟨"Layertreaty$Flow", "findOpen", "(LLayertreaty$Cover;)V"⟩, 6), (⟨"java/util/ArrayList", "add", "(Ljava/lang/Object;[Ljava/lang/Object;I)V"⟩, 3), (⟨"java/util/ArrayList", "grow", "()[Ljava/lang/Object;"⟩, 3), (⟨"java/util/ArrayList", "grow", "(I)[Ljava/lang/Object;"⟩, 3), (⟨"Layertreaty$Flow", "serveZone", "(LLayertreaty$Cover;IZ)V"⟩, 6), (⟨"Layertreaty$Laying", "worthOf", "(ILLayertreaty$Treaty;)J"⟩, 6), (⟨"Layertreaty$Laying", "isCut", "(II)Z"⟩, 6), (⟨"Layertreaty$Laying", "laidCuts", "()I"⟩, 6), (⟨"Layertreaty$Flow", "gather", "(III)V"⟩, 6), (⟨"Layertreaty$Flow", "serveGroup", "(LLayertreaty$Cover;)J"⟩, 6), (⟨"Layertreaty", "settle", "()V"⟩, 9), (⟨"Layertreaty", "playAll", "()V"⟩, 9), (⟨"Layertreaty", "play", "(LLayertreaty$Scenario;)V"⟩, 9)]
theorem lw_r1 : ∀ q ∈ lw_privs_1, lw_okq q := List.forall_mem_cons.mpr ⟨lw_p0, List.forall_mem_cons.mpr ⟨lw_p1, List.forall_mem_cons.mpr ⟨lw_p2, List.forall_mem_cons.mpr ⟨lw_p3, List.forall_mem_cons.mpr ⟨lw_p4, List.forall_mem_cons.mpr ⟨lw_p5, List.forall_mem_cons.mpr ⟨lw_p6, List.forall_mem_cons.mpr ⟨lw_p7, List.forall_mem_cons.mpr ⟨lw_p8, List.forall_mem_cons.mpr ⟨lw_p9, List.forall_mem_cons.mpr ⟨lw_p10, List.forall_mem_cons.mpr ⟨lw_p11, List.forall_mem_cons.mpr ⟨lw_p12, List.forall_mem_cons.mpr ⟨lw_p13, List.forall_mem_cons.mpr ⟨lw_p14, List.forall_mem_cons.mpr ⟨lw_p15, fun _ h => absurd h List.not_mem_nil⟩⟩⟩⟩⟩⟩⟩⟩⟩⟩⟩⟩⟩⟩⟩⟩
theorem lw_p16 : lw_okq (⟨"Layertreaty", "settlePool", "()V"⟩, 9) := ⟨⟨by decide +kernel, by decide +kernel⟩, List.mem_of_getElem? (i := 37) (by decide +kernel), List.mem_of_getElem? (i := 599) (by decide +kernel), List.mem_of_getElem? (i := 600) (by decide +kernel)⟩
theorem lw_p17 : lw_okq (⟨"Layertreaty$Pool", "goRounds", "([JI)V"⟩, 9) := ⟨⟨by decide +kernel, by decide +kernel⟩, List.mem_of_getElem? (i := 130) (by decide +kernel), List.mem_of_getElem? (i := 608) (by decide +kernel), List.mem_of_getElem? (i := 609) (by decide +kernel)⟩
theorem lw_p18 : lw_okq (⟨"java/util/ArrayList", "rangeCheckForAdd", "(I)V"⟩, 3) := ⟨⟨by decide +kernel, by decide +kernel⟩, List.mem_of_getElem? (i := 45) (by decide +kernel), List.mem_of_getElem? (i := 797) (by decide +kernel), List.mem_of_getElem? (i := 798) (by decide +kernel)⟩
theorem lw_p19 : lw_okq (⟨"java/util/ArrayList", "outOfBoundsMsg", "(I)Ljava/lang/String;"⟩, 3) := ⟨⟨by decide +kernel, by decide +kernel⟩, List.mem_of_getElem? (i := 45) (by decide +kernel), List.mem_of_getElem? (i := 802) (by decide +kernel), List.mem_of_getElem? (i := 803) (by decide +kernel)⟩
theorem lw_p20 : lw_okq (⟨"Layertreaty", "claimAt", "(I)LLayertreaty$Claim;"⟩, 9) := ⟨⟨by decide +kernel, by decide +kernel⟩, List.mem_of_getElem? (i := 37) (by decide +kernel), List.mem_of_getElem? (i := 1043) (by decide +kernel), List.mem_of_getElem? (i := 1044) (by decide +kernel)⟩
theorem lw_p21 : lw_okq (⟨"Layertreaty", "coverAt", "(I)LLayertreaty$Cover;"⟩, 9) := ⟨⟨by decide +kernel, by decide +kernel⟩, List.mem_of_getElem? (i := 37) (by decide +kernel), List.mem_of_getElem? (i := 1217) (by decide +kernel), List.mem_of_getElem? (i := 1218) (by decide +kernel)⟩
theorem lw_p22 : lw_okq (⟨"Layertreaty", "scenarioAt", "(I)LLayertreaty$Scenario;"⟩, 9) := ⟨⟨by decide +kernel, by decide +kernel⟩, List.mem_of_getElem? (i := 37) (by decide +kernel), List.mem_of_getElem? (i := 1315) (by decide +kernel), List.mem_of_getElem? (i := 1316) (by decide +kernel)⟩
theorem lw_p23 : lw_okq (⟨"Layertreaty", "weightAbove", "(J)I"⟩, 9) := ⟨⟨by decide +kernel, by decide +kernel⟩, List.mem_of_getElem? (i := 37) (by decide +kernel), List.mem_of_getElem? (i := 1353) (by decide +kernel), List.mem_of_getElem? (i := 1354) (by decide +kernel)⟩
def lw_privs_2 : List (MethodName × Nat) := [(⟨"Layertreaty", "settlePool", "()V"⟩, 9), (⟨"Layertreaty$Pool", "goRounds", "([JI)V"⟩, 9), (⟨"java/util/ArrayList", "rangeCheckForAdd", "(I)V"⟩, 3), (⟨"java/util/ArrayList", "outOfBoundsMsg", "(I)Ljava/lang/String;"⟩, 3), (⟨"Layertreaty", "claimAt", "(I)LLayertreaty$Claim;"⟩, 9), (⟨"Layertreaty", "coverAt", "(I)LLayertreaty$Cover;"⟩, 9), (⟨"Layertreaty", "scenarioAt", "(I)LLayertreaty$Scenario;"⟩, 9), (⟨"Layertreaty", "weightAbove", "(J)I"⟩, 9)]
theorem lw_r2 : ∀ q ∈ lw_privs_2, lw_okq q := List.forall_mem_cons.mpr ⟨lw_p16, List.forall_mem_cons.mpr ⟨lw_p17, List.forall_mem_cons.mpr ⟨lw_p18, List.forall_mem_cons.mpr ⟨lw_p19, List.forall_mem_cons.mpr ⟨lw_p20, List.forall_mem_cons.mpr ⟨lw_p21, List.forall_mem_cons.mpr ⟨lw_p22, List.forall_mem_cons.mpr ⟨lw_p23, fun _ h => absurd h List.not_mem_nil⟩⟩⟩⟩⟩⟩⟩⟩
def lw_privs : List (MethodName × Nat) := lw_privs_1 ++ (lw_privs_2)
def lw_tbl : List Cond := k2_sels lw_privs ++ tables_1
theorem lw_privs_ok : ∀ q ∈ lw_privs, lw_okq q := by
  show ∀ q ∈ lw_privs_1 ++ (lw_privs_2), lw_okq q
  exact List.forall_mem_append.mpr ⟨lw_r1, lw_r2⟩
/-- the streams that the claim lets the run draw from -/
abbrev lw_cs : List Choice := [Jvm.Choice.named "NaN.bits"]
theorem lw_bits : nanBits ∈ lw_cs := by first | decide | exact List.mem_cons_self | simp [lw_cs, nanBits]
/-- all words that the tables alone decide: every method's word list is its own code, then this -/
def zB : List Cond := lw_tbl.filter goodWord
theorem zb_m (k : Nat) {w : Cond} (h : lw_tbl[k]? = some w) (g : goodWord w = true) : w ∈ zB := List.mem_filter.mpr ⟨List.mem_of_getElem? h, g⟩
theorem zb_in {w : Cond} (h : w ∈ zB) : w ∈ lw_tbl := (List.mem_filter.mp h).1
theorem zb_good {w : Cond} (h : w ∈ zB) : goodWord w = true := (List.mem_filter.mp h).2
theorem zb_goodIn {y : Cond} (h : y ∈ zB) : GoodIn zB (y :: zB) := fun w hw => by
  rcases List.mem_cons.mp hw with rfl | hw
  · exact ⟨h, good_of_word (zb_good h)⟩
  · exact ⟨hw, good_of_word (zb_good hw)⟩
theorem zb_goodIn2 {y x : Cond} (h : y ∈ zB) : GoodIn (x :: zB) (y :: zB) := fun w hw => ⟨List.mem_cons_of_mem _ (zb_goodIn h w hw).1, (zb_goodIn h w hw).2⟩
def RX0 : String := "Layertreaty$Claim"
def RX1 : String := "Layertreaty$Cover"
def RX2 : String := "Layertreaty$Flow"
def RX3 : String := "Layertreaty$Laying"
def RX4 : String := "Layertreaty$Policy"
def RX5 : String := "Layertreaty$Pool"
def RX6 : String := "Layertreaty$Scenario"
def RX7 : String := "Layertreaty$Treaty"
def RX8 : String := "Layertreaty"
def RJ6 : String := "java/lang/Integer"
def RJ9 : String := "java/lang/Math"
def RJ0 : String := "java/lang/String"
def RJ1 : String := "java/lang/StringLatin1"
def RJ10 : String := "java/lang/System"
def RJxa1e45 : String := "java/util/AbstractCollection"
def RJxc12de : String := "java/util/AbstractList"
def RJx4a65c : String := "java/util/ArrayList"
def RJ7 : String := "java/util/Arrays"
def RJ15 : String := "java/util/Objects"
def RJ8 : String := "jdk/internal/util/ArraysSupport"
def RJ3 : String := "jdk/internal/util/Preconditions"
def RL : String := "LayertreatyLaw"
def TX0 : u_T := fun k => match k with
  | 0 => ("Layertreaty$Claim", "policy", "LLayertreaty$Policy;", true)
  | 1 => ("Layertreaty$Claim", "took", "[J", true)
  | 2 => ("Layertreaty$Claim", "events", "[I", true)
  | 3 => ("Layertreaty$Claim", "day", "I", false)
  | 4 => ("Layertreaty$Claim", "told", "I", false)
  | 5 => ("Layertreaty$Claim", "amount", "I", false)
  | _ => ("Layertreaty$Claim", "left", "J", false)
def tyX0 : Nat → FieldType := fun k => match k with
  | 0 => .object "Layertreaty$Policy"
  | 1 => .array .long
  | 2 => .array .int
  | 3 => .int
  | 4 => .int
  | 5 => .int
  | _ => .long
theorem nmX0 : ∀ a, a < 7 → ∀ b, b < 7 → a ≠ b → (TX0 a).2.1 ≠ (TX0 b).2.1 := by decide +kernel
theorem tyX0_ok : ∀ k, k < 7 → parseFieldDescriptor (TX0 k).2.2.1 = some (tyX0 k) := by decide +kernel
def TX1 : u_T := fun k => match k with
  | 0 => ("Layertreaty$Cover", "treaty", "LLayertreaty$Treaty;", true)
  | 1 => ("Layertreaty$Cover", "events", "[I", true)
  | 2 => ("Layertreaty$Cover", "limitLeft", "J", false)
  | 3 => ("Layertreaty$Cover", "taken", "J", false)
  | 4 => ("Layertreaty$Cover", "reinstated", "J", false)
  | _ => ("Layertreaty$Cover", "owed", "J", false)
def tyX1 : Nat → FieldType := fun k => match k with
  | 0 => .object "Layertreaty$Treaty"
  | 1 => .array .int
  | 2 => .long
  | 3 => .long
  | 4 => .long
  | _ => .long
theorem nmX1 : ∀ a, a < 6 → ∀ b, b < 6 → a ≠ b → (TX1 a).2.1 ≠ (TX1 b).2.1 := by decide +kernel
theorem tyX1_ok : ∀ k, k < 6 → parseFieldDescriptor (TX1 k).2.2.1 = some (tyX1 k) := by decide +kernel
def TX2 : u_T := fun k => match k with
  | 0 => ("Layertreaty$Flow", "claims", "Ljava/util/ArrayList;", true)
  | 1 => ("Layertreaty$Flow", "covers", "Ljava/util/ArrayList;", true)
  | 2 => ("Layertreaty$Flow", "open", "Ljava/util/ArrayList;", true)
  | 3 => ("Layertreaty$Flow", "group", "Ljava/util/ArrayList;", true)
  | 4 => ("Layertreaty$Flow", "laying", "LLayertreaty$Laying;", true)
  | _ => ("Layertreaty$Flow", "isBest", "Z", false)
def tyX2 : Nat → FieldType := fun k => match k with
  | 0 => .object "java/util/ArrayList"
  | 1 => .object "java/util/ArrayList"
  | 2 => .object "java/util/ArrayList"
  | 3 => .object "java/util/ArrayList"
  | 4 => .object "Layertreaty$Laying"
  | _ => .boolean
theorem nmX2 : ∀ a, a < 6 → ∀ b, b < 6 → a ≠ b → (TX2 a).2.1 ≠ (TX2 b).2.1 := by decide +kernel
theorem tyX2_ok : ∀ k, k < 6 → parseFieldDescriptor (TX2 k).2.2.1 = some (tyX2 k) := by decide +kernel
def TX3 : u_T := fun k => match k with
  | 0 => ("Layertreaty$Laying", "days", "[I", true)
  | 1 => ("Layertreaty$Laying", "sums", "[J", true)
  | 2 => ("Layertreaty$Laying", "ends", "[I", true)
  | 3 => ("Layertreaty$Laying", "brings", "[J", true)
  | 4 => ("Layertreaty$Laying", "counts", "[I", true)
  | _ => ("Layertreaty$Laying", "size", "I", false)
def tyX3 : Nat → FieldType := fun k => match k with
  | 0 => .array .int
  | 1 => .array .long
  | 2 => .array .int
  | 3 => .array .long
  | 4 => .array .int
  | _ => .int
theorem nmX3 : ∀ a, a < 6 → ∀ b, b < 6 → a ≠ b → (TX3 a).2.1 ≠ (TX3 b).2.1 := by decide +kernel
theorem tyX3_ok : ∀ k, k < 6 → parseFieldDescriptor (TX3 k).2.2.1 = some (tyX3 k) := by decide +kernel
def TX4 : u_T := fun k => match k with
  | 0 => ("Layertreaty$Policy", "sum", "I", true)
  | 1 => ("Layertreaty$Policy", "zone", "I", true)
  | 2 => ("Layertreaty$Policy", "first", "I", true)
  | _ => ("Layertreaty$Policy", "last", "I", true)
def tyX4 : Nat → FieldType := fun k => match k with
  | 0 => .int
  | 1 => .int
  | 2 => .int
  | _ => .int
theorem nmX4 : ∀ a, a < 4 → ∀ b, b < 4 → a ≠ b → (TX4 a).2.1 ≠ (TX4 b).2.1 := by decide +kernel
theorem tyX4_ok : ∀ k, k < 4 → parseFieldDescriptor (TX4 k).2.2.1 = some (tyX4 k) := by decide +kernel
def TX5 : u_T := fun k => match k with
  | 0 => ("Layertreaty$Pool", "isFailed", "[Z", true)
  | 1 => ("Layertreaty$Pool", "receivers", "[I", true)
  | 2 => ("Layertreaty$Pool", "bounds", "[I", true)
  | 3 => ("Layertreaty$Pool", "limits", "[I", true)
  | 4 => ("Layertreaty$Pool", "own", "[J", true)
  | 5 => ("Layertreaty$Pool", "comes", "[J", true)
  | 6 => ("Layertreaty$Pool", "early", "[J", true)
  | 7 => ("Layertreaty$Pool", "above", "[J", true)
  | _ => ("Layertreaty$Pool", "before", "[J", true)
def tyX5 : Nat → FieldType := fun k => match k with
  | 0 => .array .boolean
  | 1 => .array .int
  | 2 => .array .int
  | 3 => .array .int
  | 4 => .array .long
  | 5 => .array .long
  | 6 => .array .long
  | 7 => .array .long
  | _ => .array .long
theorem nmX5 : ∀ a, a < 9 → ∀ b, b < 9 → a ≠ b → (TX5 a).2.1 ≠ (TX5 b).2.1 := by decide +kernel
theorem tyX5_ok : ∀ k, k < 9 → parseFieldDescriptor (TX5 k).2.2.1 = some (tyX5 k) := by decide +kernel
def TX6 : u_T := fun k => match k with
  | 0 => ("Layertreaty$Scenario", "day", "I", true)
  | 1 => ("Layertreaty$Scenario", "weight", "I", true)
  | 2 => ("Layertreaty$Scenario", "damages", "[I", true)
  | _ => ("Layertreaty$Scenario", "net", "J", false)
def tyX6 : Nat → FieldType := fun k => match k with
  | 0 => .int
  | 1 => .int
  | 2 => .array .int
  | _ => .long
theorem nmX6 : ∀ a, a < 4 → ∀ b, b < 4 → a ≠ b → (TX6 a).2.1 ≠ (TX6 b).2.1 := by decide +kernel
theorem tyX6_ok : ∀ k, k < 4 → parseFieldDescriptor (TX6 k).2.2.1 = some (tyX6 k) := by decide +kernel
def TX7 : u_T := fun k => match k with
  | 0 => ("Layertreaty$Treaty", "number", "I", true)
  | 1 => ("Layertreaty$Treaty", "kind", "C", true)
  | 2 => ("Layertreaty$Treaty", "basis", "C", true)
  | 3 => ("Layertreaty$Treaty", "first", "I", true)
  | 4 => ("Layertreaty$Treaty", "last", "I", true)
  | 5 => ("Layertreaty$Treaty", "a", "I", true)
  | 6 => ("Layertreaty$Treaty", "b", "I", true)
  | 7 => ("Layertreaty$Treaty", "shares", "[I", true)
  | 8 => ("Layertreaty$Treaty", "days", "I", false)
  | 9 => ("Layertreaty$Treaty", "many", "I", false)
  | 10 => ("Layertreaty$Treaty", "price", "I", false)
  | 11 => ("Layertreaty$Treaty", "isByTime", "Z", false)
  | 12 => ("Layertreaty$Treaty", "premium", "I", false)
  | 13 => ("Layertreaty$Treaty", "isCommuted", "Z", false)
  | _ => ("Layertreaty$Treaty", "commutedFor", "I", false)
def tyX7 : Nat → FieldType := fun k => match k with
  | 0 => .int
  | 1 => .char
  | 2 => .char
  | 3 => .int
  | 4 => .int
  | 5 => .int
  | 6 => .int
  | 7 => .array .int
  | 8 => .int
  | 9 => .int
  | 10 => .int
  | 11 => .boolean
  | 12 => .int
  | 13 => .boolean
  | _ => .int
theorem nmX7 : ∀ a, a < 15 → ∀ b, b < 15 → a ≠ b → (TX7 a).2.1 ≠ (TX7 b).2.1 := by decide +kernel
theorem tyX7_ok : ∀ k, k < 15 → parseFieldDescriptor (TX7 k).2.2.1 = some (tyX7 k) := by decide +kernel
def TX8 : u_T := fun k => match k with
  | 0 => ("Layertreaty", "policies", "Ljava/util/ArrayList;", true)
  | 1 => ("Layertreaty", "claims", "Ljava/util/ArrayList;", true)
  | 2 => ("Layertreaty", "terms", "Ljava/util/ArrayList;", true)
  | 3 => ("Layertreaty", "scenarios", "Ljava/util/ArrayList;", true)
  | 4 => ("Layertreaty", "damages", "Ljava/util/ArrayList;", true)
  | 5 => ("Layertreaty", "real", "LLayertreaty$Flow;", true)
  | 6 => ("Layertreaty", "trial", "LLayertreaty$Flow;", true)
  | 7 => ("Layertreaty", "pool", "LLayertreaty$Pool;", true)
  | _ => ("Layertreaty", "isSettled", "Z", false)
def tyX8 : Nat → FieldType := fun k => match k with
  | 0 => .object "java/util/ArrayList"
  | 1 => .object "java/util/ArrayList"
  | 2 => .object "java/util/ArrayList"
  | 3 => .object "java/util/ArrayList"
  | 4 => .object "java/util/ArrayList"
  | 5 => .object "Layertreaty$Flow"
  | 6 => .object "Layertreaty$Flow"
  | 7 => .object "Layertreaty$Pool"
  | _ => .boolean
theorem nmX8 : ∀ a, a < 9 → ∀ b, b < 9 → a ≠ b → (TX8 a).2.1 ≠ (TX8 b).2.1 := by decide +kernel
theorem tyX8_ok : ∀ k, k < 9 → parseFieldDescriptor (TX8 k).2.2.1 = some (tyX8 k) := by decide +kernel
def TJx4a65c : u_T := fun k => match k with
  | 0 => ("java/util/AbstractList", "modCount", "I", false)
  | 1 => ("java/util/ArrayList", "elementData", "[Ljava/lang/Object;", false)
  | _ => ("java/util/ArrayList", "size", "I", false)
def tyJx4a65c : Nat → FieldType := fun k => match k with
  | 0 => .int
  | 1 => .array (.object "java/lang/Object")
  | _ => .int
theorem nmJx4a65c : ∀ a, a < 3 → ∀ b, b < 3 → a ≠ b → (TJx4a65c a).2.1 ≠ (TJx4a65c b).2.1 := by decide +kernel
theorem tyJx4a65c_ok : ∀ k, k < 3 → parseFieldDescriptor (TJx4a65c k).2.2.1 = some (tyJx4a65c k) := by decide +kernel
abbrev zCl : List vw_C := [(RX0, TX0, 7), (RX1, TX1, 6), (RX2, TX2, 6), (RX3, TX3, 6), (RX4, TX4, 4), (RX5, TX5, 9), (RX6, TX6, 4), (RX7, TX7, 15), (RX8, TX8, 9), (RJx4a65c, TJx4a65c, 3)]
abbrev cX0_init : ByteArray := prog_2_method_1_code
def yX0_init : MethodName := ⟨RX0, "<init>", "(LLayertreaty$Policy;)V"⟩
abbrev cX0_happen : ByteArray := prog_2_method_2_code
def yX0_happen : MethodName := ⟨RX0, "happen", "(III)V"⟩
abbrev cX0_begin : ByteArray := prog_2_method_3_code
def yX0_begin : MethodName := ⟨RX0, "begin", "()V"⟩
abbrev cX1_init : ByteArray := prog_3_method_1_code
def yX1_init : MethodName := ⟨RX1, "<init>", "(LLayertreaty$Treaty;)V"⟩
abbrev cX1_begin : ByteArray := prog_3_method_2_code
def yX1_begin : MethodName := ⟨RX1, "begin", "()V"⟩
abbrev cX1_takeFrom : ByteArray := prog_3_method_3_code
def yX1_takeFrom : MethodName := ⟨RX1, "takeFrom", "(LLayertreaty$Claim;J)V"⟩
abbrev cX1_refill : ByteArray := prog_3_method_4_code
def yX1_refill : MethodName := ⟨RX1, "refill", "(JI)V"⟩
abbrev cX2_init : ByteArray := prog_4_method_1_code
def yX2_init : MethodName := ⟨RX2, "<init>", "()V"⟩
abbrev cX2_addByDay : ByteArray := prog_4_method_2_code
def yX2_addByDay : MethodName := ⟨RX2, "addByDay", "(LLayertreaty$Claim;)V"⟩
abbrev cX2_isLaidBest : ByteArray := prog_4_method_3_code
def yX2_isLaidBest : MethodName := ⟨RX2, "isLaidBest", "(LLayertreaty$Treaty;)Z"⟩
abbrev cX2_run : ByteArray := prog_4_method_4_code
def yX2_run : MethodName := ⟨RX2, "run", "(I)V"⟩
abbrev cX2_serveLoss : ByteArray := prog_4_method_5_code
def yX2_serveLoss : MethodName := ⟨RX2, "serveLoss", "(LLayertreaty$Claim;)V"⟩
abbrev cX2_serveZone : ByteArray := prog_4_method_6_code
def yX2_serveZone : MethodName := ⟨RX2, "serveZone", "(LLayertreaty$Cover;IZ)V"⟩
abbrev cX2_findOpen : ByteArray := prog_4_method_7_code
def yX2_findOpen : MethodName := ⟨RX2, "findOpen", "(LLayertreaty$Cover;)V"⟩
abbrev cX2_gather : ByteArray := prog_4_method_8_code
def yX2_gather : MethodName := ⟨RX2, "gather", "(III)V"⟩
abbrev cX2_serveGroup : ByteArray := prog_4_method_9_code
def yX2_serveGroup : MethodName := ⟨RX2, "serveGroup", "(LLayertreaty$Cover;)J"⟩
abbrev cX2_allLeft : ByteArray := prog_4_method_10_code
def yX2_allLeft : MethodName := ⟨RX2, "allLeft", "()J"⟩
abbrev cX2_partOf : ByteArray := prog_4_method_11_code
def yX2_partOf : MethodName := ⟨RX2, "partOf", "(LLayertreaty$Treaty;I)J"⟩
abbrev cX2_allPartsOf : ByteArray := prog_4_method_12_code
def yX2_allPartsOf : MethodName := ⟨RX2, "allPartsOf", "(I)J"⟩
abbrev cX2_areLossesWhole : ByteArray := prog_4_method_13_code
def yX2_areLossesWhole : MethodName := ⟨RX2, "areLossesWhole", "()Z"⟩
abbrev cX2_areLimitsKept : ByteArray := prog_4_method_14_code
def yX2_areLimitsKept : MethodName := ⟨RX2, "areLimitsKept", "()Z"⟩
abbrev cX3_init : ByteArray := prog_5_method_1_code
def yX3_init : MethodName := ⟨RX3, "<init>", "()V"⟩
abbrev cX3_add : ByteArray := prog_5_method_2_code
def yX3_add : MethodName := ⟨RX3, "add", "(LLayertreaty$Claim;)V"⟩
abbrev cX3_lay : ByteArray := prog_5_method_3_code
def yX3_lay : MethodName := ⟨RX3, "lay", "(LLayertreaty$Treaty;)V"⟩
abbrev cX3_isBestOfAll : ByteArray := prog_5_method_4_code
def yX3_isBestOfAll : MethodName := ⟨RX3, "isBestOfAll", "(LLayertreaty$Treaty;)Z"⟩
abbrev cX3_isCut : ByteArray := prog_5_method_5_code
def yX3_isCut : MethodName := ⟨RX3, "isCut", "(II)Z"⟩
abbrev cX3_worthOf : ByteArray := prog_5_method_6_code
def yX3_worthOf : MethodName := ⟨RX3, "worthOf", "(ILLayertreaty$Treaty;)J"⟩
abbrev cX3_laidCuts : ByteArray := prog_5_method_7_code
def yX3_laidCuts : MethodName := ⟨RX3, "laidCuts", "()I"⟩
abbrev cX4_init : ByteArray := prog_6_method_1_code
def yX4_init : MethodName := ⟨RX4, "<init>", "(IIII)V"⟩
abbrev cX4_isInForce : ByteArray := prog_6_method_2_code
def yX4_isInForce : MethodName := ⟨RX4, "isInForce", "(I)Z"⟩
abbrev cX5_init : ByteArray := prog_7_method_1_code
def yX5_init : MethodName := ⟨RX5, "<init>", "()V"⟩
abbrev cX5_handedOn : ByteArray := prog_7_method_2_code
def yX5_handedOn : MethodName := ⟨RX5, "handedOn", "(IJ)J"⟩
abbrev cX5_settleRings : ByteArray := prog_7_method_3_code
def yX5_settleRings : MethodName := ⟨RX5, "settleRings", "()V"⟩
abbrev cX5_fits : ByteArray := prog_7_method_4_code
def yX5_fits : MethodName := ⟨RX5, "fits", "()Z"⟩
abbrev cX5_goRounds : ByteArray := prog_7_method_5_code
def yX5_goRounds : MethodName := ⟨RX5, "goRounds", "([JI)V"⟩
abbrev cX6_init : ByteArray := prog_8_method_1_code
def yX6_init : MethodName := ⟨RX6, "<init>", "(II)V"⟩
abbrev cX6_damageOf : ByteArray := prog_8_method_2_code
def yX6_damageOf : MethodName := ⟨RX6, "damageOf", "(LLayertreaty$Policy;)I"⟩
abbrev cX7_init : ByteArray := prog_9_method_1_code
def yX7_init : MethodName := ⟨RX7, "<init>", "(ICCIIII)V"⟩
abbrev cX7_isLimited : ByteArray := prog_9_method_2_code
def yX7_isLimited : MethodName := ⟨RX7, "isLimited", "()Z"⟩
abbrev cX7_wholeLimit : ByteArray := prog_9_method_3_code
def yX7_wholeLimit : MethodName := ⟨RX7, "wholeLimit", "()J"⟩
abbrev cX7_isForEachLoss : ByteArray := prog_9_method_4_code
def yX7_isForEachLoss : MethodName := ⟨RX7, "isForEachLoss", "()Z"⟩
abbrev cX7_coversLoss : ByteArray := prog_9_method_5_code
def yX7_coversLoss : MethodName := ⟨RX7, "coversLoss", "(LLayertreaty$Claim;)Z"⟩
abbrev cX7_layerOf : ByteArray := prog_9_method_6_code
def yX7_layerOf : MethodName := ⟨RX7, "layerOf", "(J)J"⟩
abbrev cX7_wantedOf : ByteArray := prog_9_method_7_code
def yX7_wantedOf : MethodName := ⟨RX7, "wantedOf", "(LLayertreaty$Claim;)J"⟩
abbrev cX7_priceOf : ByteArray := prog_9_method_8_code
def yX7_priceOf : MethodName := ⟨RX7, "priceOf", "(JI)J"⟩
abbrev cX7_allShares : ByteArray := prog_9_method_9_code
def yX7_allShares : MethodName := ⟨RX7, "allShares", "()I"⟩
abbrev cX8_init : ByteArray := prog_1_method_1_code
def yX8_init : MethodName := ⟨RX8, "<init>", "()V"⟩
abbrev cX8_policy : ByteArray := prog_1_method_2_code
def yX8_policy : MethodName := ⟨RX8, "policy", "(IIII)I"⟩
abbrev cX8_loss : ByteArray := prog_1_method_3_code
def yX8_loss : MethodName := ⟨RX8, "loss", "(IIII)I"⟩
abbrev cX8_setAmount : ByteArray := prog_1_method_4_code
def yX8_setAmount : MethodName := ⟨RX8, "setAmount", "(II)I"⟩
abbrev cX8_treaty : ByteArray := prog_1_method_5_code
def yX8_treaty : MethodName := ⟨RX8, "treaty", "(CCIIII)I"⟩
abbrev cX8_setDays : ByteArray := prog_1_method_6_code
def yX8_setDays : MethodName := ⟨RX8, "setDays", "(II)I"⟩
abbrev cX8_reinstate : ByteArray := prog_1_method_7_code
def yX8_reinstate : MethodName := ⟨RX8, "reinstate", "(IIIZ)I"⟩
abbrev cX8_setPremium : ByteArray := prog_1_method_8_code
def yX8_setPremium : MethodName := ⟨RX8, "setPremium", "(II)I"⟩
abbrev cX8_share : ByteArray := prog_1_method_9_code
def yX8_share : MethodName := ⟨RX8, "share", "(III)I"⟩
abbrev cX8_fail : ByteArray := prog_1_method_10_code
def yX8_fail : MethodName := ⟨RX8, "fail", "(IZ)Z"⟩
abbrev cX8_handOn : ByteArray := prog_1_method_11_code
def yX8_handOn : MethodName := ⟨RX8, "handOn", "(IIII)Z"⟩
abbrev cX8_commute : ByteArray := prog_1_method_12_code
def yX8_commute : MethodName := ⟨RX8, "commute", "(II)J"⟩
abbrev cX8_left : ByteArray := prog_1_method_13_code
def yX8_left : MethodName := ⟨RX8, "left", "(I)J"⟩
abbrev cX8_taken : ByteArray := prog_1_method_14_code
def yX8_taken : MethodName := ⟨RX8, "taken", "(I)J"⟩
abbrev cX8_takenFrom : ByteArray := prog_1_method_15_code
def yX8_takenFrom : MethodName := ⟨RX8, "takenFrom", "(II)J"⟩
abbrev cX8_limit : ByteArray := prog_1_method_16_code
def yX8_limit : MethodName := ⟨RX8, "limit", "(I)J"⟩
abbrev cX8_reinstated : ByteArray := prog_1_method_17_code
def yX8_reinstated : MethodName := ⟨RX8, "reinstated", "(I)J"⟩
abbrev cX8_owed : ByteArray := prog_1_method_18_code
def yX8_owed : MethodName := ⟨RX8, "owed", "(I)J"⟩
abbrev cX8_events : ByteArray := prog_1_method_19_code
def yX8_events : MethodName := ⟨RX8, "events", "(II)I"⟩
abbrev cX8_isSame : ByteArray := prog_1_method_21_code
def yX8_isSame : MethodName := ⟨RX8, "isSame", "(I)Z"⟩
abbrev cX8_paid : ByteArray := prog_1_method_22_code
def yX8_paid : MethodName := ⟨RX8, "paid", "(II)J"⟩
abbrev cX8_lost : ByteArray := prog_1_method_23_code
def yX8_lost : MethodName := ⟨RX8, "lost", "(I)J"⟩
abbrev cX8_comes : ByteArray := prog_1_method_24_code
def yX8_comes : MethodName := ⟨RX8, "comes", "(I)J"⟩
abbrev cX8_stays : ByteArray := prog_1_method_25_code
def yX8_stays : MethodName := ⟨RX8, "stays", "(I)J"⟩
abbrev cX8_net : ByteArray := prog_1_method_26_code
def yX8_net : MethodName := ⟨RX8, "net", "()J"⟩
abbrev cX8_scenario : ByteArray := prog_1_method_27_code
def yX8_scenario : MethodName := ⟨RX8, "scenario", "(II)I"⟩
abbrev cX8_damage : ByteArray := prog_1_method_28_code
def yX8_damage : MethodName := ⟨RX8, "damage", "(III)I"⟩
abbrev cX8_scenarioNet : ByteArray := prog_1_method_29_code
def yX8_scenarioNet : MethodName := ⟨RX8, "scenarioNet", "(I)J"⟩
abbrev cX8_tail : ByteArray := prog_1_method_30_code
def yX8_tail : MethodName := ⟨RX8, "tail", "(I)J"⟩
abbrev cX8_losses : ByteArray := prog_1_method_31_code
def yX8_losses : MethodName := ⟨RX8, "losses", "()I"⟩
abbrev cX8_allLosses : ByteArray := prog_1_method_33_code
def yX8_allLosses : MethodName := ⟨RX8, "allLosses", "()J"⟩
abbrev cX8_meanNet : ByteArray := prog_1_method_35_code
def yX8_meanNet : MethodName := ⟨RX8, "meanNet", "()D"⟩
abbrev cX8_isSound : ByteArray := prog_1_method_36_code
def yX8_isSound : MethodName := ⟨RX8, "isSound", "()Z"⟩
abbrev cX8_isOut : ByteArray := prog_1_method_37_code
def yX8_isOut : MethodName := ⟨RX8, "isOut", "(III)Z"⟩
abbrev cX8_isSpan : ByteArray := prog_1_method_38_code
def yX8_isSpan : MethodName := ⟨RX8, "isSpan", "(II)Z"⟩
abbrev cX8_isBasis : ByteArray := prog_1_method_39_code
def yX8_isBasis : MethodName := ⟨RX8, "isBasis", "(C)Z"⟩
abbrev cX8_fitsKind : ByteArray := prog_1_method_40_code
def yX8_fitsKind : MethodName := ⟨RX8, "fitsKind", "(CII)Z"⟩
abbrev cX8_claimAt : ByteArray := prog_1_method_41_code
def yX8_claimAt : MethodName := ⟨RX8, "claimAt", "(I)LLayertreaty$Claim;"⟩
abbrev cX8_treatyAt : ByteArray := prog_1_method_42_code
def yX8_treatyAt : MethodName := ⟨RX8, "treatyAt", "(I)LLayertreaty$Treaty;"⟩
abbrev cX8_coverAt : ByteArray := prog_1_method_43_code
def yX8_coverAt : MethodName := ⟨RX8, "coverAt", "(I)LLayertreaty$Cover;"⟩
abbrev cX8_scenarioAt : ByteArray := prog_1_method_44_code
def yX8_scenarioAt : MethodName := ⟨RX8, "scenarioAt", "(I)LLayertreaty$Scenario;"⟩
abbrev cX8_checkReinsurer : ByteArray := prog_1_method_45_code
def yX8_checkReinsurer : MethodName := ⟨RX8, "checkReinsurer", "(I)V"⟩
abbrev cX8_checkHasEvents : ByteArray := prog_1_method_46_code
def yX8_checkHasEvents : MethodName := ⟨RX8, "checkHasEvents", "(LLayertreaty$Treaty;)V"⟩
abbrev cX8_settle : ByteArray := prog_1_method_47_code
def yX8_settle : MethodName := ⟨RX8, "settle", "()V"⟩
abbrev cX8_settlePool : ByteArray := prog_1_method_48_code
def yX8_settlePool : MethodName := ⟨RX8, "settlePool", "()V"⟩
abbrev cX8_playAll : ByteArray := prog_1_method_49_code
def yX8_playAll : MethodName := ⟨RX8, "playAll", "()V"⟩
abbrev cX8_play : ByteArray := prog_1_method_50_code
def yX8_play : MethodName := ⟨RX8, "play", "(LLayertreaty$Scenario;)V"⟩
abbrev cX8_weightAbove : ByteArray := prog_1_method_51_code
def yX8_weightAbove : MethodName := ⟨RX8, "weightAbove", "(J)I"⟩
abbrev cJ6_bitCount_0f7a4 : ByteArray := prog_28_method_49_code
def yJ6_bitCount_0f7a4 : MethodName := ⟨RJ6, "bitCount", "(I)I"⟩
abbrev cJ0_charAt_5068e : ByteArray := prog_33_method_56_code
def yJ0_charAt_5068e : MethodName := ⟨RJ0, "charAt", "(I)C"⟩
abbrev cJ0_isLatin1_aae02 : ByteArray := prog_33_method_154_code
def yJ0_isLatin1_aae02 : MethodName := ⟨RJ0, "isLatin1", "()Z"⟩
abbrev cJ0_checkIndex_df160 : ByteArray := prog_33_method_155_code
def yJ0_checkIndex_df160 : MethodName := ⟨RJ0, "checkIndex", "(II)V"⟩
abbrev cJ1_charAt_3b067 : ByteArray := prog_35_method_2_code
def yJ1_charAt_3b067 : MethodName := ⟨RJ1, "charAt", "([BI)C"⟩
abbrev cJxa1e45_init_da8c8 : ByteArray := prog_42_method_1_code
def yJxa1e45_init_da8c8 : MethodName := ⟨RJxa1e45, "<init>", "()V"⟩
abbrev cJxc12de_init_da8c8 : ByteArray := prog_43_method_1_code
def yJxc12de_init_da8c8 : MethodName := ⟨RJxc12de, "<init>", "()V"⟩
abbrev cJx4a65c_init_da8c8 : ByteArray := prog_44_method_2_code
def yJx4a65c_init_da8c8 : MethodName := ⟨RJx4a65c, "<init>", "()V"⟩
abbrev cJx4a65c_grow_92f84 : ByteArray := prog_44_method_6_code
def yJx4a65c_grow_92f84 : MethodName := ⟨RJx4a65c, "grow", "(I)[Ljava/lang/Object;"⟩
abbrev cJx4a65c_grow_d5877 : ByteArray := prog_44_method_7_code
def yJx4a65c_grow_d5877 : MethodName := ⟨RJx4a65c, "grow", "()[Ljava/lang/Object;"⟩
abbrev cJx4a65c_size_8abf5 : ByteArray := prog_44_method_8_code
def yJx4a65c_size_8abf5 : MethodName := ⟨RJx4a65c, "size", "()I"⟩
abbrev cJx4a65c_isEmpty_aae02 : ByteArray := prog_44_method_9_code
def yJx4a65c_isEmpty_aae02 : MethodName := ⟨RJx4a65c, "isEmpty", "()Z"⟩
abbrev cJx4a65c_elementData_915e3 : ByteArray := prog_44_method_18_code
def yJx4a65c_elementData_915e3 : MethodName := ⟨RJx4a65c, "elementData", "(I)Ljava/lang/Object;"⟩
abbrev cJx4a65c_get_915e3 : ByteArray := prog_44_method_20_code
def yJx4a65c_get_915e3 : MethodName := ⟨RJx4a65c, "get", "(I)Ljava/lang/Object;"⟩
abbrev cJx4a65c_add_72be8 : ByteArray := prog_44_method_24_code
def yJx4a65c_add_72be8 : MethodName := ⟨RJx4a65c, "add", "(Ljava/lang/Object;[Ljava/lang/Object;I)V"⟩
abbrev cJx4a65c_add_9ea2d : ByteArray := prog_44_method_25_code
def yJx4a65c_add_9ea2d : MethodName := ⟨RJx4a65c, "add", "(Ljava/lang/Object;)Z"⟩
abbrev cJx4a65c_add_7a177 : ByteArray := prog_44_method_26_code
def yJx4a65c_add_7a177 : MethodName := ⟨RJx4a65c, "add", "(ILjava/lang/Object;)V"⟩
abbrev cJx4a65c_clear_da8c8 : ByteArray := prog_44_method_40_code
def yJx4a65c_clear_da8c8 : MethodName := ⟨RJx4a65c, "clear", "()V"⟩
abbrev cJx4a65c_rangeCheckForAdd_d00df : ByteArray := prog_44_method_45_code
def yJx4a65c_rangeCheckForAdd_d00df : MethodName := ⟨RJx4a65c, "rangeCheckForAdd", "(I)V"⟩
abbrev cJ7_fill_d0a16 : ByteArray := prog_45_method_101_code
def yJ7_fill_d0a16 : MethodName := ⟨RJ7, "fill", "([JJ)V"⟩
abbrev cJ7_fill_53178 : ByteArray := prog_45_method_103_code
def yJ7_fill_53178 : MethodName := ⟨RJ7, "fill", "([II)V"⟩
abbrev cJ7_copyOf_1904c : ByteArray := prog_45_method_119_code
def yJ7_copyOf_1904c : MethodName := ⟨RJ7, "copyOf", "([Ljava/lang/Object;I)[Ljava/lang/Object;"⟩
abbrev cJ7_copyOf_6403c : ByteArray := prog_45_method_120_code
def yJ7_copyOf_6403c : MethodName := ⟨RJ7, "copyOf", "([Ljava/lang/Object;ILjava/lang/Class;)[Ljava/lang/Object;"⟩
abbrev cJ15_checkIndex_7cf53 : ByteArray := prog_49_method_17_code
def yJ15_checkIndex_7cf53 : MethodName := ⟨RJ15, "checkIndex", "(II)I"⟩
abbrev cJ8_newLength_cabcc : ByteArray := prog_52_method_27_code
def yJ8_newLength_cabcc : MethodName := ⟨RJ8, "newLength", "(III)I"⟩
abbrev cJ3_checkIndex_8e157 : ByteArray := prog_53_method_11_code
def yJ3_checkIndex_8e157 : MethodName := ⟨RJ3, "checkIndex", "(IILjava/util/function/BiFunction;)I"⟩
abbrev cL_cell : ByteArray := method_2_code
def yL_cell : MethodName := ⟨RL, "cell", "([II)I"⟩
abbrev cL_some : ByteArray := method_3_code
def yL_some : MethodName := ⟨RL, "some", "([III)I"⟩
abbrev cL_policy : ByteArray := method_4_code
def yL_policy : MethodName := ⟨RL, "policy", "(LLayertreaty;IIII)I"⟩
abbrev cL_loss : ByteArray := method_5_code
def yL_loss : MethodName := ⟨RL, "loss", "(LLayertreaty;IIII)I"⟩
abbrev cL_setAmount : ByteArray := method_6_code
def yL_setAmount : MethodName := ⟨RL, "setAmount", "(LLayertreaty;II)I"⟩
abbrev cL_treaty : ByteArray := method_7_code
def yL_treaty : MethodName := ⟨RL, "treaty", "(LLayertreaty;CCIIII)I"⟩
abbrev cL_setDays : ByteArray := method_8_code
def yL_setDays : MethodName := ⟨RL, "setDays", "(LLayertreaty;II)I"⟩
abbrev cL_reinstate : ByteArray := method_9_code
def yL_reinstate : MethodName := ⟨RL, "reinstate", "(LLayertreaty;IIIZ)I"⟩
abbrev cL_setPremium : ByteArray := method_10_code
def yL_setPremium : MethodName := ⟨RL, "setPremium", "(LLayertreaty;II)I"⟩
abbrev cL_share : ByteArray := method_11_code
def yL_share : MethodName := ⟨RL, "share", "(LLayertreaty;III)I"⟩
abbrev cL_commute : ByteArray := method_12_code
def yL_commute : MethodName := ⟨RL, "commute", "(LLayertreaty;II)J"⟩
abbrev cL_left : ByteArray := method_13_code
def yL_left : MethodName := ⟨RL, "left", "(LLayertreaty;I)J"⟩
abbrev cL_taken : ByteArray := method_14_code
def yL_taken : MethodName := ⟨RL, "taken", "(LLayertreaty;I)J"⟩
abbrev cL_takenFrom : ByteArray := method_15_code
def yL_takenFrom : MethodName := ⟨RL, "takenFrom", "(LLayertreaty;II)J"⟩
abbrev cL_limit : ByteArray := method_16_code
def yL_limit : MethodName := ⟨RL, "limit", "(LLayertreaty;I)J"⟩
abbrev cL_reinstated : ByteArray := method_17_code
def yL_reinstated : MethodName := ⟨RL, "reinstated", "(LLayertreaty;I)J"⟩
abbrev cL_owed : ByteArray := method_18_code
def yL_owed : MethodName := ⟨RL, "owed", "(LLayertreaty;I)J"⟩
abbrev cL_events : ByteArray := method_19_code
def yL_events : MethodName := ⟨RL, "events", "(LLayertreaty;II)I"⟩
abbrev cL_paid : ByteArray := method_21_code
def yL_paid : MethodName := ⟨RL, "paid", "(LLayertreaty;II)J"⟩
abbrev cL_lost : ByteArray := method_22_code
def yL_lost : MethodName := ⟨RL, "lost", "(LLayertreaty;I)J"⟩
abbrev cL_comes : ByteArray := method_23_code
def yL_comes : MethodName := ⟨RL, "comes", "(LLayertreaty;I)J"⟩
abbrev cL_stays : ByteArray := method_24_code
def yL_stays : MethodName := ⟨RL, "stays", "(LLayertreaty;I)J"⟩
abbrev cL_scenario : ByteArray := method_25_code
def yL_scenario : MethodName := ⟨RL, "scenario", "(LLayertreaty;II)I"⟩
abbrev cL_damage : ByteArray := method_26_code
def yL_damage : MethodName := ⟨RL, "damage", "(LLayertreaty;III)I"⟩
abbrev cL_scenarioNet : ByteArray := method_27_code
def yL_scenarioNet : MethodName := ⟨RL, "scenarioNet", "(LLayertreaty;I)J"⟩
abbrev cL_tail : ByteArray := method_28_code
def yL_tail : MethodName := ⟨RL, "tail", "(LLayertreaty;I)J"⟩
abbrev cL_handOn : ByteArray := method_29_code
def yL_handOn : MethodName := ⟨RL, "handOn", "(LLayertreaty;IIII)I"⟩
abbrev cL_fail : ByteArray := method_30_code
def yL_fail : MethodName := ⟨RL, "fail", "(LLayertreaty;IZ)I"⟩
abbrev cL_kept : ByteArray := method_31_code
def yL_kept : MethodName := ⟨RL, "kept", "(LLayertreaty;IIJ)Z"⟩
abbrev cL_law : ByteArray := code
def yL_law : MethodName := ⟨RL, "law", "([I)Z"⟩
abbrev zI : Type := Nat × Instr × Nat
def tX0_init : List zI := [(0, .aload_n 0, 1), (1, .invokespecial 3, 3), (4, .aload_n 0, 1), (5, .bipush 8, 2), (7, .newarray .long, 2), (9, .putfield 9, 3), (12, .aload_n 0, 1), (13, .bipush 8, 2), (15, .newarray .int, 2), (17, .putfield 15, 3), (20, .aload_n 0, 1), (21, .iconst 0, 1), (22, .putfield 19, 3), (25, .aload_n 0, 1), (26, .iconst 0, 1), (27, .putfield 23, 3), (30, .aload_n 0, 1), (31, .iconst 0, 1), (32, .putfield 26, 3), (35, .aload_n 0, 1), (36, .lconst 0, 1), (37, .putfield 29, 3), (40, .aload_n 0, 1), (41, .aload_n 1, 1), (42, .putfield 33, 3), (45, .return_, 1)]
theorem kX0_init : ∀ x ∈ tX0_init, decode cX0_init x.1 = .ok (x.2.1, x.2.2) := by decide +kernel
theorem dX0_init (i : Nat) {pc ln : Nat} {ins : Instr} (h : tX0_init[i]? = some (pc, ins, ln)) : decode cX0_init pc = .ok (ins, ln) := kX0_init (pc, ins, ln) (List.mem_of_getElem? h)
def tX0_happen : List zI := [(0, .aload_n 0, 1), (1, .iload_n 1, 1), (2, .putfield 19, 3), (5, .aload_n 0, 1), (6, .iload_n 2, 1), (7, .putfield 23, 3), (10, .aload_n 0, 1), (11, .iload_n 3, 1), (12, .putfield 26, 3), (15, .return_, 1)]
theorem kX0_happen : ∀ x ∈ tX0_happen, decode cX0_happen x.1 = .ok (x.2.1, x.2.2) := by decide +kernel
theorem dX0_happen (i : Nat) {pc ln : Nat} {ins : Instr} (h : tX0_happen[i]? = some (pc, ins, ln)) : decode cX0_happen pc = .ok (ins, ln) := kX0_happen (pc, ins, ln) (List.mem_of_getElem? h)
def tX0_begin : List zI := [(0, .aload_n 0, 1), (1, .aload_n 0, 1), (2, .getfield 26, 3), (5, .i2l, 1), (6, .putfield 29, 3), (9, .aload_n 0, 1), (10, .getfield 9, 3), (13, .lconst 0, 1), (14, .invokestatic 37, 3), (17, .aload_n 0, 1), (18, .getfield 15, 3), (21, .iconst (-1), 1), (22, .invokestatic 43, 3), (25, .return_, 1)]
theorem kX0_begin : ∀ x ∈ tX0_begin, decode cX0_begin x.1 = .ok (x.2.1, x.2.2) := by decide +kernel
theorem dX0_begin (i : Nat) {pc ln : Nat} {ins : Instr} (h : tX0_begin[i]? = some (pc, ins, ln)) : decode cX0_begin pc = .ok (ins, ln) := kX0_begin (pc, ins, ln) (List.mem_of_getElem? h)
def tX1_init : List zI := [(0, .aload_n 0, 1), (1, .invokespecial 3, 3), (4, .aload_n 0, 1), (5, .iconst 4, 1), (6, .newarray .int, 2), (8, .putfield 9, 3), (11, .aload_n 0, 1), (12, .lconst 0, 1), (13, .putfield 15, 3), (16, .aload_n 0, 1), (17, .lconst 0, 1), (18, .putfield 19, 3), (21, .aload_n 0, 1), (22, .lconst 0, 1), (23, .putfield 22, 3), (26, .aload_n 0, 1), (27, .lconst 0, 1), (28, .putfield 25, 3), (31, .aload_n 0, 1), (32, .aload_n 1, 1), (33, .putfield 28, 3), (36, .return_, 1)]
theorem kX1_init : ∀ x ∈ tX1_init, decode cX1_init x.1 = .ok (x.2.1, x.2.2) := by decide +kernel
theorem dX1_init (i : Nat) {pc ln : Nat} {ins : Instr} (h : tX1_init[i]? = some (pc, ins, ln)) : decode cX1_init pc = .ok (ins, ln) := kX1_init (pc, ins, ln) (List.mem_of_getElem? h)
def tX1_begin : List zI := [(0, .aload_n 0, 1), (1, .getfield 9, 3), (4, .iconst 0, 1), (5, .invokestatic 32, 3), (8, .aload_n 0, 1), (9, .getfield 28, 3), (12, .getfield 38, 3), (15, .ifCond .ne 29, 3), (18, .aload_n 0, 1), (19, .aload_n 0, 1), (20, .getfield 28, 3), (23, .invokevirtual 44, 3), (26, .putfield 15, 3), (29, .aload_n 0, 1), (30, .lconst 0, 1), (31, .putfield 19, 3), (34, .aload_n 0, 1), (35, .lconst 0, 1), (36, .putfield 22, 3), (39, .aload_n 0, 1), (40, .lconst 0, 1), (41, .putfield 25, 3), (44, .return_, 1)]
theorem kX1_begin : ∀ x ∈ tX1_begin, decode cX1_begin x.1 = .ok (x.2.1, x.2.2) := by decide +kernel
theorem dX1_begin (i : Nat) {pc ln : Nat} {ins : Instr} (h : tX1_begin[i]? = some (pc, ins, ln)) : decode cX1_begin pc = .ok (ins, ln) := kX1_begin (pc, ins, ln) (List.mem_of_getElem? h)
def tX1_takeFrom : List zI := [(0, .aload_n 1, 1), (1, .dup, 1), (2, .getfield 48, 3), (5, .lload_n 2, 1), (6, .lsub, 1), (7, .putfield 48, 3), (10, .aload_n 1, 1), (11, .getfield 53, 3), (14, .aload_n 0, 1), (15, .getfield 28, 3), (18, .getfield 57, 3), (21, .dup2, 1), (22, .laload, 1), (23, .lload_n 2, 1), (24, .ladd, 1), (25, .lastore, 1), (26, .aload_n 0, 1), (27, .dup, 1), (28, .getfield 15, 3), (31, .lload_n 2, 1), (32, .lsub, 1), (33, .putfield 15, 3), (36, .aload_n 0, 1), (37, .dup, 1), (38, .getfield 19, 3), (41, .lload_n 2, 1), (42, .ladd, 1), (43, .putfield 19, 3), (46, .return_, 1)]
theorem kX1_takeFrom : ∀ x ∈ tX1_takeFrom, decode cX1_takeFrom x.1 = .ok (x.2.1, x.2.2) := by decide +kernel
theorem dX1_takeFrom (i : Nat) {pc ln : Nat} {ins : Instr} (h : tX1_takeFrom[i]? = some (pc, ins, ln)) : decode cX1_takeFrom pc = .ok (ins, ln) := kX1_takeFrom (pc, ins, ln) (List.mem_of_getElem? h)
def tX1_refill : List zI := [(0, .aload_n 0, 1), (1, .getfield 28, 3), (4, .invokevirtual 61, 3), (7, .ifCond .eq 61, 3), (10, .lload_n 1, 1), (11, .aload_n 0, 1), (12, .getfield 28, 3), (15, .getfield 65, 3), (18, .i2l, 1), (19, .aload_n 0, 1), (20, .getfield 28, 3), (23, .getfield 68, 3), (26, .i2l, 1), (27, .lmul, 1), (28, .aload_n 0, 1), (29, .getfield 22, 3), (32, .lsub, 1), (33, .invokestatic 71, 3), (36, .lstore 4, 2), (38, .aload_n 0, 1), (39, .dup, 1), (40, .getfield 22, 3), (43, .lload 4, 2), (45, .ladd, 1), (46, .putfield 22, 3), (49, .aload_n 0, 1), (50, .dup, 1), (51, .getfield 25, 3), (54, .aload_n 0, 1), (55, .getfield 28, 3), (58, .lload 4, 2), (60, .iload_n 3, 1), (61, .invokevirtual 77, 3), (64, .ladd, 1), (65, .putfield 25, 3), (68, .return_, 1)]
theorem kX1_refill : ∀ x ∈ tX1_refill, decode cX1_refill x.1 = .ok (x.2.1, x.2.2) := by decide +kernel
theorem dX1_refill (i : Nat) {pc ln : Nat} {ins : Instr} (h : tX1_refill[i]? = some (pc, ins, ln)) : decode cX1_refill pc = .ok (ins, ln) := kX1_refill (pc, ins, ln) (List.mem_of_getElem? h)
def tX2_init : List zI := [(0, .aload_n 0, 1), (1, .invokespecial 3, 3), (4, .aload_n 0, 1), (5, .new 9, 3), (8, .dup, 1), (9, .invokespecial 11, 3), (12, .putfield 12, 3), (15, .aload_n 0, 1), (16, .new 9, 3), (19, .dup, 1), (20, .invokespecial 11, 3), (23, .putfield 18, 3), (26, .aload_n 0, 1), (27, .new 9, 3), (30, .dup, 1), (31, .invokespecial 11, 3), (34, .putfield 21, 3), (37, .aload_n 0, 1), (38, .new 9, 3), (41, .dup, 1), (42, .invokespecial 11, 3), (45, .putfield 24, 3), (48, .aload_n 0, 1), (49, .new 27, 3), (52, .dup, 1), (53, .invokespecial 29, 3), (56, .putfield 30, 3), (59, .aload_n 0, 1), (60, .iconst 1, 1), (61, .putfield 34, 3), (64, .return_, 1)]
theorem kX2_init : ∀ x ∈ tX2_init, decode cX2_init x.1 = .ok (x.2.1, x.2.2) := by decide +kernel
theorem dX2_init (i : Nat) {pc ln : Nat} {ins : Instr} (h : tX2_init[i]? = some (pc, ins, ln)) : decode cX2_init pc = .ok (ins, ln) := kX2_init (pc, ins, ln) (List.mem_of_getElem? h)
def tX2_addByDay : List zI := [(0, .aload_n 0, 1), (1, .getfield 12, 3), (4, .invokevirtual 38, 3), (7, .istore_n 2, 1), (8, .aload_n 0, 1), (9, .getfield 12, 3), (12, .invokevirtual 38, 3), (15, .iconst 1, 1), (16, .isub, 1), (17, .istore_n 3, 1), (18, .iload_n 3, 1), (19, .ifCond .lt 32, 3), (22, .aload_n 0, 1), (23, .getfield 12, 3), (26, .iload_n 3, 1), (27, .invokevirtual 42, 3), (30, .checkcast 46, 3), (33, .getfield 48, 3), (36, .aload_n 1, 1), (37, .getfield 48, 3), (40, .if_icmp .le 11, 3), (43, .iload_n 3, 1), (44, .istore_n 2, 1), (45, .iinc 3 (-1), 3), (48, .goto (-30), 3), (51, .aload_n 0, 1), (52, .getfield 12, 3), (55, .iload_n 2, 1), (56, .aload_n 1, 1), (57, .invokevirtual 52, 3), (60, .return_, 1)]
theorem kX2_addByDay : ∀ x ∈ tX2_addByDay, decode cX2_addByDay x.1 = .ok (x.2.1, x.2.2) := by decide +kernel
theorem dX2_addByDay (i : Nat) {pc ln : Nat} {ins : Instr} (h : tX2_addByDay[i]? = some (pc, ins, ln)) : decode cX2_addByDay pc = .ok (ins, ln) := kX2_addByDay (pc, ins, ln) (List.mem_of_getElem? h)
def tX2_isLaidBest : List zI := [(0, .aload_n 0, 1), (1, .aload_n 1, 1), (2, .getfield 56, 3), (5, .invokevirtual 61, 3), (8, .aload_n 0, 1), (9, .getfield 34, 3), (12, .ireturn, 1)]
theorem kX2_isLaidBest : ∀ x ∈ tX2_isLaidBest, decode cX2_isLaidBest x.1 = .ok (x.2.1, x.2.2) := by decide +kernel
theorem dX2_isLaidBest (i : Nat) {pc ln : Nat} {ins : Instr} (h : tX2_isLaidBest[i]? = some (pc, ins, ln)) : decode cX2_isLaidBest pc = .ok (ins, ln) := kX2_isLaidBest (pc, ins, ln) (List.mem_of_getElem? h)
def tX2_run_p0 : List zI := [(0, .aload_n 0, 1), (1, .iconst 1, 1), (2, .putfield 34, 3), (5, .iconst 0, 1), (6, .istore_n 2, 1), (7, .iload_n 2, 1), (8, .aload_n 0, 1), (9, .getfield 12, 3), (12, .invokevirtual 38, 3), (15, .if_icmp .ge 23, 3), (18, .aload_n 0, 1), (19, .getfield 12, 3), (22, .iload_n 2, 1), (23, .invokevirtual 42, 3), (26, .checkcast 46, 3), (29, .invokevirtual 65, 3), (32, .iinc 2 1, 3), (35, .goto (-28), 3), (38, .iconst 0, 1), (39, .istore_n 2, 1), (40, .iload_n 2, 1), (41, .aload_n 0, 1), (42, .getfield 18, 3), (45, .invokevirtual 38, 3), (48, .if_icmp .ge 23, 3), (51, .aload_n 0, 1), (52, .getfield 18, 3), (55, .iload_n 2, 1), (56, .invokevirtual 42, 3), (59, .checkcast 68, 3), (62, .invokevirtual 70, 3), (65, .iinc 2 1, 3), (68, .goto (-28), 3), (71, .iconst 0, 1), (72, .istore_n 2, 1), (73, .iload_n 2, 1), (74, .aload_n 0, 1), (75, .getfield 12, 3), (78, .invokevirtual 38, 3), (81, .if_icmp .ge 24, 3), (84, .aload_n 0, 1), (85, .aload_n 0, 1), (86, .getfield 12, 3), (89, .iload_n 2, 1), (90, .invokevirtual 42, 3), (93, .checkcast 46, 3), (96, .invokevirtual 71, 3), (99, .iinc 2 1, 3), (102, .goto (-29), 3), (105, .iconst 0, 1)]
theorem kX2_run_p0 : ∀ x ∈ tX2_run_p0, decode cX2_run x.1 = .ok (x.2.1, x.2.2) := by decide +kernel
theorem dX2_run_p0 (i : Nat) {pc ln : Nat} {ins : Instr} (h : tX2_run_p0[i]? = some (pc, ins, ln)) : decode cX2_run pc = .ok (ins, ln) := kX2_run_p0 (pc, ins, ln) (List.mem_of_getElem? h)
def tX2_run_p1 : List zI := [(106, .istore_n 2, 1), (107, .iload_n 2, 1), (108, .aload_n 0, 1), (109, .getfield 18, 3), (112, .invokevirtual 38, 3), (115, .if_icmp .ge 85, 3), (118, .aload_n 0, 1), (119, .getfield 18, 3), (122, .iload_n 2, 1), (123, .invokevirtual 42, 3), (126, .checkcast 68, 3), (129, .getfield 75, 3), (132, .getfield 79, 3), (135, .bipush 101, 2), (137, .if_icmp .ne 57, 3), (140, .aload_n 0, 1), (141, .aload_n 0, 1), (142, .getfield 18, 3), (145, .iload_n 2, 1), (146, .invokevirtual 42, 3), (149, .checkcast 68, 3), (152, .invokevirtual 83, 3), (155, .iconst 0, 1), (156, .istore_n 3, 1), (157, .iload_n 3, 1), (158, .iconst 4, 1), (159, .if_icmp .ge 35, 3), (162, .aload_n 0, 1), (163, .aload_n 0, 1), (164, .getfield 18, 3), (167, .iload_n 2, 1), (168, .invokevirtual 42, 3), (171, .checkcast 68, 3), (174, .iload_n 3, 1), (175, .iload_n 2, 1), (176, .iload_n 1, 1), (177, .if_icmp .ne 7, 3), (180, .iconst 1, 1), (181, .goto 4, 3), (184, .iconst 0, 1), (185, .invokevirtual 87, 3), (188, .iinc 3 1, 3), (191, .goto (-34), 3), (194, .iinc 2 1, 3), (197, .goto (-90), 3), (200, .iconst 0, 1), (201, .istore_n 2, 1), (202, .iload_n 2, 1), (203, .aload_n 0, 1), (204, .getfield 18, 3)]
theorem kX2_run_p1 : ∀ x ∈ tX2_run_p1, decode cX2_run x.1 = .ok (x.2.1, x.2.2) := by decide +kernel
theorem dX2_run_p1 (i : Nat) {pc ln : Nat} {ins : Instr} (h : tX2_run_p1[i]? = some (pc, ins, ln)) : decode cX2_run pc = .ok (ins, ln) := kX2_run_p1 (pc, ins, ln) (List.mem_of_getElem? h)
def tX2_run_p2 : List zI := [(207, .invokevirtual 38, 3), (210, .if_icmp .ge 71, 3), (213, .aload_n 0, 1), (214, .getfield 18, 3), (217, .iload_n 2, 1), (218, .invokevirtual 42, 3), (221, .checkcast 68, 3), (224, .getfield 75, 3), (227, .getfield 79, 3), (230, .bipush 97, 2), (232, .if_icmp .ne 43, 3), (235, .aload_n 0, 1), (236, .aload_n 0, 1), (237, .getfield 18, 3), (240, .iload_n 2, 1), (241, .invokevirtual 42, 3), (244, .checkcast 68, 3), (247, .invokevirtual 83, 3), (250, .aload_n 0, 1), (251, .iconst (-1), 1), (252, .iconst 0, 1), (253, .sipush 999, 3), (256, .invokevirtual 91, 3), (259, .aload_n 0, 1), (260, .aload_n 0, 1), (261, .getfield 18, 3), (264, .iload_n 2, 1), (265, .invokevirtual 42, 3), (268, .checkcast 68, 3), (271, .invokevirtual 95, 3), (274, .pop2, 1), (275, .iinc 2 1, 3), (278, .goto (-76), 3), (281, .return_, 1)]
theorem kX2_run_p2 : ∀ x ∈ tX2_run_p2, decode cX2_run x.1 = .ok (x.2.1, x.2.2) := by decide +kernel
theorem dX2_run_p2 (i : Nat) {pc ln : Nat} {ins : Instr} (h : tX2_run_p2[i]? = some (pc, ins, ln)) : decode cX2_run pc = .ok (ins, ln) := kX2_run_p2 (pc, ins, ln) (List.mem_of_getElem? h)
def tX2_serveLoss : List zI := [(0, .iconst 0, 1), (1, .istore_n 2, 1), (2, .iload_n 2, 1), (3, .aload_n 0, 1), (4, .getfield 18, 3), (7, .invokevirtual 38, 3), (10, .if_icmp .ge 76, 3), (13, .aload_n 0, 1), (14, .getfield 18, 3), (17, .iload_n 2, 1), (18, .invokevirtual 42, 3), (21, .checkcast 68, 3), (24, .astore_n 3, 1), (25, .aload_n 3, 1), (26, .getfield 75, 3), (29, .invokevirtual 99, 3), (32, .ifCond .eq 48, 3), (35, .aload_n 3, 1), (36, .getfield 75, 3), (39, .aload_n 1, 1), (40, .invokevirtual 103, 3), (43, .ifCond .eq 37, 3), (46, .aload_n 3, 1), (47, .getfield 75, 3), (50, .aload_n 1, 1), (51, .invokevirtual 107, 3), (54, .aload_n 3, 1), (55, .getfield 111, 3), (58, .invokestatic 115, 3), (61, .lstore 4, 2), (63, .aload_n 3, 1), (64, .aload_n 1, 1), (65, .lload 4, 2), (67, .invokevirtual 121, 3), (70, .aload_n 3, 1), (71, .lload 4, 2), (73, .aload_n 1, 1), (74, .getfield 48, 3), (77, .invokevirtual 125, 3), (80, .iinc 2 1, 3), (83, .goto (-81), 3), (86, .return_, 1)]
theorem kX2_serveLoss : ∀ x ∈ tX2_serveLoss, decode cX2_serveLoss x.1 = .ok (x.2.1, x.2.2) := by decide +kernel
theorem dX2_serveLoss (i : Nat) {pc ln : Nat} {ins : Instr} (h : tX2_serveLoss[i]? = some (pc, ins, ln)) : decode cX2_serveLoss pc = .ok (ins, ln) := kX2_serveLoss (pc, ins, ln) (List.mem_of_getElem? h)
def tX2_serveZone_p0 : List zI := [(0, .aload_n 0, 1), (1, .getfield 30, 3), (4, .iconst 0, 1), (5, .putfield 129, 3), (8, .iconst 0, 1), (9, .istore 4, 2), (11, .iload 4, 2), (13, .aload_n 0, 1), (14, .getfield 21, 3), (17, .invokevirtual 38, 3), (20, .if_icmp .ge 50, 3), (23, .aload_n 0, 1), (24, .getfield 21, 3), (27, .iload 4, 2), (29, .invokevirtual 42, 3), (32, .checkcast 46, 3), (35, .getfield 131, 3), (38, .getfield 135, 3), (41, .iload_n 2, 1), (42, .if_icmp .ne 22, 3), (45, .aload_n 0, 1), (46, .getfield 30, 3), (49, .aload_n 0, 1), (50, .getfield 21, 3), (53, .iload 4, 2), (55, .invokevirtual 42, 3), (58, .checkcast 46, 3), (61, .invokevirtual 140, 3), (64, .iinc 4 1, 3), (67, .goto (-56), 3), (70, .aload_n 0, 1), (71, .getfield 30, 3), (74, .aload_n 1, 1), (75, .getfield 75, 3), (78, .invokevirtual 142, 3), (81, .iload_n 3, 1), (82, .ifCond .eq 22, 3), (85, .aload_n 0, 1), (86, .getfield 30, 3), (89, .aload_n 1, 1), (90, .getfield 75, 3), (93, .invokevirtual 146, 3), (96, .ifCond .ne 8, 3), (99, .aload_n 0, 1), (100, .iconst 0, 1), (101, .putfield 34, 3), (104, .iconst (-1), 1), (105, .istore 4, 2), (107, .iconst 0, 1), (108, .istore 5, 2)]
theorem kX2_serveZone_p0 : ∀ x ∈ tX2_serveZone_p0, decode cX2_serveZone x.1 = .ok (x.2.1, x.2.2) := by decide +kernel
theorem dX2_serveZone_p0 (i : Nat) {pc ln : Nat} {ins : Instr} (h : tX2_serveZone_p0[i]? = some (pc, ins, ln)) : decode cX2_serveZone pc = .ok (ins, ln) := kX2_serveZone_p0 (pc, ins, ln) (List.mem_of_getElem? h)
def tX2_serveZone_p1 : List zI := [(110, .iload 5, 2), (112, .aload_n 0, 1), (113, .getfield 30, 3), (116, .getfield 129, 3), (119, .if_icmp .ge 132, 3), (122, .iload 5, 2), (124, .iload 4, 2), (126, .if_icmp .le 119, 3), (129, .aload_n 0, 1), (130, .getfield 30, 3), (133, .getfield 150, 3), (136, .iload 5, 2), (138, .iaload, 1), (139, .istore 4, 2), (141, .aload_n 0, 1), (142, .iload_n 2, 1), (143, .aload_n 0, 1), (144, .getfield 30, 3), (147, .getfield 154, 3), (150, .iload 5, 2), (152, .iaload, 1), (153, .aload_n 0, 1), (154, .getfield 30, 3), (157, .getfield 154, 3), (160, .iload 4, 2), (162, .iaload, 1), (163, .invokevirtual 91, 3), (166, .iconst 0, 1), (167, .istore 6, 2), (169, .iload 6, 2), (171, .aload_n 0, 1), (172, .getfield 24, 3), (175, .invokevirtual 38, 3), (178, .if_icmp .ge 38, 3), (181, .aload_n 0, 1), (182, .getfield 24, 3), (185, .iload 6, 2), (187, .invokevirtual 42, 3), (190, .checkcast 46, 3), (193, .getfield 157, 3), (196, .aload_n 1, 1), (197, .getfield 75, 3), (200, .getfield 56, 3), (203, .aload_n 1, 1), (204, .getfield 160, 3), (207, .iload_n 2, 1), (208, .iaload, 1), (209, .iastore, 1), (210, .iinc 6 1, 3), (213, .goto (-44), 3)]
theorem kX2_serveZone_p1 : ∀ x ∈ tX2_serveZone_p1, decode cX2_serveZone x.1 = .ok (x.2.1, x.2.2) := by decide +kernel
theorem dX2_serveZone_p1 (i : Nat) {pc ln : Nat} {ins : Instr} (h : tX2_serveZone_p1[i]? = some (pc, ins, ln)) : decode cX2_serveZone pc = .ok (ins, ln) := kX2_serveZone_p1 (pc, ins, ln) (List.mem_of_getElem? h)
def tX2_serveZone_p2 : List zI := [(216, .aload_n 1, 1), (217, .getfield 160, 3), (220, .iload_n 2, 1), (221, .dup2, 1), (222, .iaload, 1), (223, .iconst 1, 1), (224, .iadd, 1), (225, .iastore, 1), (226, .aload_n 1, 1), (227, .aload_n 0, 1), (228, .aload_n 1, 1), (229, .invokevirtual 95, 3), (232, .aload_n 0, 1), (233, .getfield 30, 3), (236, .getfield 154, 3), (239, .iload 5, 2), (241, .iaload, 1), (242, .invokevirtual 125, 3), (245, .iinc 5 1, 3), (248, .goto (-138), 3), (251, .return_, 1)]
theorem kX2_serveZone_p2 : ∀ x ∈ tX2_serveZone_p2, decode cX2_serveZone x.1 = .ok (x.2.1, x.2.2) := by decide +kernel
theorem dX2_serveZone_p2 (i : Nat) {pc ln : Nat} {ins : Instr} (h : tX2_serveZone_p2[i]? = some (pc, ins, ln)) : decode cX2_serveZone pc = .ok (ins, ln) := kX2_serveZone_p2 (pc, ins, ln) (List.mem_of_getElem? h)
def tX2_findOpen : List zI := [(0, .aload_n 0, 1), (1, .getfield 21, 3), (4, .invokevirtual 161, 3), (7, .iconst 0, 1), (8, .istore_n 2, 1), (9, .iload_n 2, 1), (10, .aload_n 0, 1), (11, .getfield 12, 3), (14, .invokevirtual 38, 3), (17, .if_icmp .ge 68, 3), (20, .aload_n 0, 1), (21, .getfield 12, 3), (24, .iload_n 2, 1), (25, .invokevirtual 42, 3), (28, .checkcast 46, 3), (31, .getfield 164, 3), (34, .lconst 0, 1), (35, .lcmp, 1), (36, .ifCond .le 43, 3), (39, .aload_n 1, 1), (40, .getfield 75, 3), (43, .aload_n 0, 1), (44, .getfield 12, 3), (47, .iload_n 2, 1), (48, .invokevirtual 42, 3), (51, .checkcast 46, 3), (54, .invokevirtual 103, 3), (57, .ifCond .eq 22, 3), (60, .aload_n 0, 1), (61, .getfield 21, 3), (64, .aload_n 0, 1), (65, .getfield 12, 3), (68, .iload_n 2, 1), (69, .invokevirtual 42, 3), (72, .checkcast 46, 3), (75, .invokevirtual 167, 3), (78, .pop, 1), (79, .iinc 2 1, 3), (82, .goto (-73), 3), (85, .return_, 1)]
theorem kX2_findOpen : ∀ x ∈ tX2_findOpen, decode cX2_findOpen x.1 = .ok (x.2.1, x.2.2) := by decide +kernel
theorem dX2_findOpen (i : Nat) {pc ln : Nat} {ins : Instr} (h : tX2_findOpen[i]? = some (pc, ins, ln)) : decode cX2_findOpen pc = .ok (ins, ln) := kX2_findOpen (pc, ins, ln) (List.mem_of_getElem? h)
def tX2_gather : List zI := [(0, .aload_n 0, 1), (1, .getfield 24, 3), (4, .invokevirtual 161, 3), (7, .iconst 0, 1), (8, .istore 4, 2), (10, .iload 4, 2), (12, .aload_n 0, 1), (13, .getfield 21, 3), (16, .invokevirtual 38, 3), (19, .if_icmp .ge 80, 3), (22, .aload_n 0, 1), (23, .getfield 21, 3), (26, .iload 4, 2), (28, .invokevirtual 42, 3), (31, .checkcast 46, 3), (34, .astore 5, 2), (36, .iload_n 1, 1), (37, .iconst (-1), 1), (38, .if_icmp .eq 15, 3), (41, .aload 5, 2), (43, .getfield 131, 3), (46, .getfield 135, 3), (49, .iload_n 1, 1), (50, .if_icmp .ne 7, 3), (53, .iconst 1, 1), (54, .goto 4, 3), (57, .iconst 0, 1), (58, .istore 6, 2), (60, .iload 6, 2), (62, .ifCond .eq 31, 3), (65, .iload_n 2, 1), (66, .aload 5, 2), (68, .getfield 48, 3), (71, .if_icmp .gt 22, 3), (74, .aload 5, 2), (76, .getfield 48, 3), (79, .iload_n 3, 1), (80, .if_icmp .gt 13, 3), (83, .aload_n 0, 1), (84, .getfield 24, 3), (87, .aload 5, 2), (89, .invokevirtual 167, 3), (92, .pop, 1), (93, .iinc 4 1, 3), (96, .goto (-86), 3), (99, .return_, 1)]
theorem kX2_gather : ∀ x ∈ tX2_gather, decode cX2_gather x.1 = .ok (x.2.1, x.2.2) := by decide +kernel
theorem dX2_gather (i : Nat) {pc ln : Nat} {ins : Instr} (h : tX2_gather[i]? = some (pc, ins, ln)) : decode cX2_gather pc = .ok (ins, ln) := kX2_gather (pc, ins, ln) (List.mem_of_getElem? h)
def tX2_serveGroup_p0 : List zI := [(0, .lconst 0, 1), (1, .lstore_n 2, 1), (2, .iconst 0, 1), (3, .istore 4, 2), (5, .iload 4, 2), (7, .aload_n 0, 1), (8, .getfield 24, 3), (11, .invokevirtual 38, 3), (14, .if_icmp .ge 27, 3), (17, .lload_n 2, 1), (18, .aload_n 0, 1), (19, .getfield 24, 3), (22, .iload 4, 2), (24, .invokevirtual 42, 3), (27, .checkcast 46, 3), (30, .getfield 164, 3), (33, .ladd, 1), (34, .lstore_n 2, 1), (35, .iinc 4 1, 3), (38, .goto (-33), 3), (41, .lload_n 2, 1), (42, .lconst 0, 1), (43, .lcmp, 1), (44, .ifCond .gt 5, 3), (47, .lconst 0, 1), (48, .lreturn, 1), (49, .aload_n 1, 1), (50, .getfield 75, 3), (53, .lload_n 2, 1), (54, .invokevirtual 170, 3), (57, .aload_n 1, 1), (58, .getfield 111, 3), (61, .invokestatic 115, 3), (64, .lstore 4, 2), (66, .lload 4, 2), (68, .lstore 6, 2), (70, .iconst 0, 1), (71, .istore 8, 2), (73, .iload 8, 2), (75, .aload_n 0, 1), (76, .getfield 24, 3), (79, .invokevirtual 38, 3), (82, .if_icmp .ge 34, 3), (85, .lload 6, 2), (87, .lload 4, 2), (89, .aload_n 0, 1), (90, .getfield 24, 3), (93, .iload 8, 2), (95, .invokevirtual 42, 3), (98, .checkcast 46, 3)]
theorem kX2_serveGroup_p0 : ∀ x ∈ tX2_serveGroup_p0, decode cX2_serveGroup x.1 = .ok (x.2.1, x.2.2) := by decide +kernel
theorem dX2_serveGroup_p0 (i : Nat) {pc ln : Nat} {ins : Instr} (h : tX2_serveGroup_p0[i]? = some (pc, ins, ln)) : decode cX2_serveGroup pc = .ok (ins, ln) := kX2_serveGroup_p0 (pc, ins, ln) (List.mem_of_getElem? h)
def tX2_serveGroup_p1 : List zI := [(101, .getfield 164, 3), (104, .lmul, 1), (105, .lload_n 2, 1), (106, .ldiv, 1), (107, .lsub, 1), (108, .lstore 6, 2), (110, .iinc 8 1, 3), (113, .goto (-40), 3), (116, .iconst 0, 1), (117, .istore 8, 2), (119, .iload 8, 2), (121, .aload_n 0, 1), (122, .getfield 24, 3), (125, .invokevirtual 38, 3), (128, .if_icmp .ge 59, 3), (131, .aload_n 0, 1), (132, .getfield 24, 3), (135, .iload 8, 2), (137, .invokevirtual 42, 3), (140, .checkcast 46, 3), (143, .astore 9, 2), (145, .lload 4, 2), (147, .aload 9, 2), (149, .getfield 164, 3), (152, .lmul, 1), (153, .lload_n 2, 1), (154, .ldiv, 1), (155, .iload 8, 2), (157, .i2l, 1), (158, .lload 6, 2), (160, .lcmp, 1), (161, .ifCond .ge 7, 3), (164, .iconst 1, 1), (165, .goto 4, 3), (168, .iconst 0, 1), (169, .i2l, 1), (170, .ladd, 1), (171, .lstore 10, 2), (173, .aload_n 1, 1), (174, .aload 9, 2), (176, .lload 10, 2), (178, .invokevirtual 121, 3), (181, .iinc 8 1, 3), (184, .goto (-65), 3), (187, .lload 4, 2), (189, .lreturn, 1)]
theorem kX2_serveGroup_p1 : ∀ x ∈ tX2_serveGroup_p1, decode cX2_serveGroup x.1 = .ok (x.2.1, x.2.2) := by decide +kernel
theorem dX2_serveGroup_p1 (i : Nat) {pc ln : Nat} {ins : Instr} (h : tX2_serveGroup_p1[i]? = some (pc, ins, ln)) : decode cX2_serveGroup pc = .ok (ins, ln) := kX2_serveGroup_p1 (pc, ins, ln) (List.mem_of_getElem? h)
def tX2_allLeft : List zI := [(0, .lconst 0, 1), (1, .lstore_n 1, 1), (2, .iconst 0, 1), (3, .istore_n 3, 1), (4, .iload_n 3, 1), (5, .aload_n 0, 1), (6, .getfield 12, 3), (9, .invokevirtual 38, 3), (12, .if_icmp .ge 26, 3), (15, .lload_n 1, 1), (16, .aload_n 0, 1), (17, .getfield 12, 3), (20, .iload_n 3, 1), (21, .invokevirtual 42, 3), (24, .checkcast 46, 3), (27, .getfield 164, 3), (30, .ladd, 1), (31, .lstore_n 1, 1), (32, .iinc 3 1, 3), (35, .goto (-31), 3), (38, .lload_n 1, 1), (39, .lreturn, 1)]
theorem kX2_allLeft : ∀ x ∈ tX2_allLeft, decode cX2_allLeft x.1 = .ok (x.2.1, x.2.2) := by decide +kernel
theorem dX2_allLeft (i : Nat) {pc ln : Nat} {ins : Instr} (h : tX2_allLeft[i]? = some (pc, ins, ln)) : decode cX2_allLeft pc = .ok (ins, ln) := kX2_allLeft (pc, ins, ln) (List.mem_of_getElem? h)
def tX2_partOf : List zI := [(0, .lconst 0, 1), (1, .lstore_n 3, 1), (2, .iconst 0, 1), (3, .istore 5, 2), (5, .iload 5, 2), (7, .aload_n 0, 1), (8, .getfield 12, 3), (11, .invokevirtual 38, 3), (14, .if_icmp .ge 44, 3), (17, .lload_n 3, 1), (18, .aload_n 0, 1), (19, .getfield 12, 3), (22, .iload 5, 2), (24, .invokevirtual 42, 3), (27, .checkcast 46, 3), (30, .getfield 174, 3), (33, .aload_n 1, 1), (34, .getfield 56, 3), (37, .laload, 1), (38, .aload_n 1, 1), (39, .getfield 178, 3), (42, .iload_n 2, 1), (43, .iaload, 1), (44, .i2l, 1), (45, .lmul, 1), (46, .ldc2_w 181, 3), (49, .ldiv, 1), (50, .ladd, 1), (51, .lstore_n 3, 1), (52, .iinc 5 1, 3), (55, .goto (-50), 3), (58, .lload_n 3, 1), (59, .lreturn, 1)]
theorem kX2_partOf : ∀ x ∈ tX2_partOf, decode cX2_partOf x.1 = .ok (x.2.1, x.2.2) := by decide +kernel
theorem dX2_partOf (i : Nat) {pc ln : Nat} {ins : Instr} (h : tX2_partOf[i]? = some (pc, ins, ln)) : decode cX2_partOf pc = .ok (ins, ln) := kX2_partOf (pc, ins, ln) (List.mem_of_getElem? h)
def tX2_allPartsOf : List zI := [(0, .lconst 0, 1), (1, .lstore_n 2, 1), (2, .iconst 0, 1), (3, .istore 4, 2), (5, .iload 4, 2), (7, .aload_n 0, 1), (8, .getfield 18, 3), (11, .invokevirtual 38, 3), (14, .if_icmp .ge 32, 3), (17, .lload_n 2, 1), (18, .aload_n 0, 1), (19, .aload_n 0, 1), (20, .getfield 18, 3), (23, .iload 4, 2), (25, .invokevirtual 42, 3), (28, .checkcast 68, 3), (31, .getfield 75, 3), (34, .iload_n 1, 1), (35, .invokevirtual 183, 3), (38, .ladd, 1), (39, .lstore_n 2, 1), (40, .iinc 4 1, 3), (43, .goto (-38), 3), (46, .lload_n 2, 1), (47, .lreturn, 1)]
theorem kX2_allPartsOf : ∀ x ∈ tX2_allPartsOf, decode cX2_allPartsOf x.1 = .ok (x.2.1, x.2.2) := by decide +kernel
theorem dX2_allPartsOf (i : Nat) {pc ln : Nat} {ins : Instr} (h : tX2_allPartsOf[i]? = some (pc, ins, ln)) : decode cX2_allPartsOf pc = .ok (ins, ln) := kX2_allPartsOf (pc, ins, ln) (List.mem_of_getElem? h)
def tX2_areLossesWhole : List zI := [(0, .iconst 0, 1), (1, .istore_n 1, 1), (2, .iload_n 1, 1), (3, .aload_n 0, 1), (4, .getfield 12, 3), (7, .invokevirtual 38, 3), (10, .if_icmp .ge 67, 3), (13, .aload_n 0, 1), (14, .getfield 12, 3), (17, .iload_n 1, 1), (18, .invokevirtual 42, 3), (21, .checkcast 46, 3), (24, .astore_n 2, 1), (25, .aload_n 2, 1), (26, .getfield 164, 3), (29, .lstore_n 3, 1), (30, .iconst 0, 1), (31, .istore 5, 2), (33, .iload 5, 2), (35, .aload_n 2, 1), (36, .getfield 174, 3), (39, .arraylength, 1), (40, .if_icmp .ge 19, 3), (43, .lload_n 3, 1), (44, .aload_n 2, 1), (45, .getfield 174, 3), (48, .iload 5, 2), (50, .laload, 1), (51, .ladd, 1), (52, .lstore_n 3, 1), (53, .iinc 5 1, 3), (56, .goto (-23), 3), (59, .lload_n 3, 1), (60, .aload_n 2, 1), (61, .getfield 187, 3), (64, .i2l, 1), (65, .lcmp, 1), (66, .ifCond .eq 5, 3), (69, .iconst 0, 1), (70, .ireturn, 1), (71, .iinc 1 1, 3), (74, .goto (-72), 3), (77, .iconst 1, 1), (78, .ireturn, 1)]
theorem kX2_areLossesWhole : ∀ x ∈ tX2_areLossesWhole, decode cX2_areLossesWhole x.1 = .ok (x.2.1, x.2.2) := by decide +kernel
theorem dX2_areLossesWhole (i : Nat) {pc ln : Nat} {ins : Instr} (h : tX2_areLossesWhole[i]? = some (pc, ins, ln)) : decode cX2_areLossesWhole pc = .ok (ins, ln) := kX2_areLossesWhole (pc, ins, ln) (List.mem_of_getElem? h)
def tX2_areLimitsKept : List zI := [(0, .iconst 0, 1), (1, .istore_n 1, 1), (2, .iload_n 1, 1), (3, .aload_n 0, 1), (4, .getfield 18, 3), (7, .invokevirtual 38, 3), (10, .if_icmp .ge 48, 3), (13, .aload_n 0, 1), (14, .getfield 18, 3), (17, .iload_n 1, 1), (18, .invokevirtual 42, 3), (21, .checkcast 68, 3), (24, .astore_n 2, 1), (25, .aload_n 2, 1), (26, .getfield 75, 3), (29, .getfield 190, 3), (32, .ifCond .ne 20, 3), (35, .aload_n 2, 1), (36, .getfield 193, 3), (39, .aload_n 2, 1), (40, .getfield 75, 3), (43, .invokevirtual 196, 3), (46, .lcmp, 1), (47, .ifCond .le 5, 3), (50, .iconst 0, 1), (51, .ireturn, 1), (52, .iinc 1 1, 3), (55, .goto (-53), 3), (58, .iconst 1, 1), (59, .ireturn, 1)]
theorem kX2_areLimitsKept : ∀ x ∈ tX2_areLimitsKept, decode cX2_areLimitsKept x.1 = .ok (x.2.1, x.2.2) := by decide +kernel
theorem dX2_areLimitsKept (i : Nat) {pc ln : Nat} {ins : Instr} (h : tX2_areLimitsKept[i]? = some (pc, ins, ln)) : decode cX2_areLimitsKept pc = .ok (ins, ln) := kX2_areLimitsKept (pc, ins, ln) (List.mem_of_getElem? h)
def tX3_init : List zI := [(0, .aload_n 0, 1), (1, .invokespecial 3, 3), (4, .aload_n 0, 1), (5, .bipush 30, 2), (7, .newarray .int, 2), (9, .putfield 9, 3), (12, .aload_n 0, 1), (13, .bipush 30, 2), (15, .newarray .long, 2), (17, .putfield 15, 3), (20, .aload_n 0, 1), (21, .bipush 30, 2), (23, .newarray .int, 2), (25, .putfield 19, 3), (28, .aload_n 0, 1), (29, .bipush 31, 2), (31, .newarray .long, 2), (33, .putfield 22, 3), (36, .aload_n 0, 1), (37, .bipush 31, 2), (39, .newarray .int, 2), (41, .putfield 25, 3), (44, .aload_n 0, 1), (45, .iconst 0, 1), (46, .putfield 28, 3), (49, .return_, 1)]
theorem kX3_init : ∀ x ∈ tX3_init, decode cX3_init x.1 = .ok (x.2.1, x.2.2) := by decide +kernel
theorem dX3_init (i : Nat) {pc ln : Nat} {ins : Instr} (h : tX3_init[i]? = some (pc, ins, ln)) : decode cX3_init pc = .ok (ins, ln) := kX3_init (pc, ins, ln) (List.mem_of_getElem? h)
def tX3_add : List zI := [(0, .aload_n 0, 1), (1, .getfield 28, 3), (4, .ifCond .le 42, 3), (7, .aload_n 0, 1), (8, .getfield 9, 3), (11, .aload_n 0, 1), (12, .getfield 28, 3), (15, .iconst 1, 1), (16, .isub, 1), (17, .iaload, 1), (18, .aload_n 1, 1), (19, .getfield 32, 3), (22, .if_icmp .ne 24, 3), (25, .aload_n 0, 1), (26, .getfield 15, 3), (29, .aload_n 0, 1), (30, .getfield 28, 3), (33, .iconst 1, 1), (34, .isub, 1), (35, .dup2, 1), (36, .laload, 1), (37, .aload_n 1, 1), (38, .getfield 37, 3), (41, .ladd, 1), (42, .lastore, 1), (43, .goto 51, 3), (46, .aload_n 0, 1), (47, .getfield 28, 3), (50, .aload_n 0, 1), (51, .getfield 9, 3), (54, .arraylength, 1), (55, .if_icmp .ge 39, 3), (58, .aload_n 0, 1), (59, .getfield 9, 3), (62, .aload_n 0, 1), (63, .getfield 28, 3), (66, .aload_n 1, 1), (67, .getfield 32, 3), (70, .iastore, 1), (71, .aload_n 0, 1), (72, .getfield 15, 3), (75, .aload_n 0, 1), (76, .getfield 28, 3), (79, .aload_n 1, 1), (80, .getfield 37, 3), (83, .lastore, 1), (84, .aload_n 0, 1), (85, .dup, 1), (86, .getfield 28, 3), (89, .iconst 1, 1), (90, .iadd, 1), (91, .putfield 28, 3), (94, .return_, 1)]
theorem kX3_add : ∀ x ∈ tX3_add, decode cX3_add x.1 = .ok (x.2.1, x.2.2) := by decide +kernel
theorem dX3_add (i : Nat) {pc ln : Nat} {ins : Instr} (h : tX3_add[i]? = some (pc, ins, ln)) : decode cX3_add pc = .ok (ins, ln) := kX3_add (pc, ins, ln) (List.mem_of_getElem? h)
def tX3_lay_p0 : List zI := [(0, .aload_n 0, 1), (1, .getfield 22, 3), (4, .aload_n 0, 1), (5, .getfield 28, 3), (8, .lconst 0, 1), (9, .lastore, 1), (10, .aload_n 0, 1), (11, .getfield 25, 3), (14, .aload_n 0, 1), (15, .getfield 28, 3), (18, .iconst 0, 1), (19, .iastore, 1), (20, .aload_n 0, 1), (21, .getfield 28, 3), (24, .iconst 1, 1), (25, .isub, 1), (26, .istore_n 2, 1), (27, .iload_n 2, 1), (28, .ifCond .lt 155, 3), (31, .lconst 0, 1), (32, .lstore_n 3, 1), (33, .iload_n 2, 1), (34, .istore 5, 2), (36, .iload 5, 2), (38, .aload_n 0, 1), (39, .getfield 28, 3), (42, .if_icmp .ge 135, 3), (45, .aload_n 0, 1), (46, .getfield 9, 3), (49, .iload 5, 2), (51, .iaload, 1), (52, .aload_n 0, 1), (53, .getfield 9, 3), (56, .iload_n 2, 1), (57, .iaload, 1), (58, .isub, 1), (59, .aload_n 1, 1), (60, .getfield 41, 3), (63, .if_icmp .ge 114, 3), (66, .lload_n 3, 1), (67, .aload_n 0, 1), (68, .getfield 15, 3), (71, .iload 5, 2), (73, .laload, 1), (74, .ladd, 1), (75, .lstore_n 3, 1), (76, .aload_n 1, 1), (77, .lload_n 3, 1), (78, .invokevirtual 45, 3), (81, .aload_n 0, 1)]
theorem kX3_lay_p0 : ∀ x ∈ tX3_lay_p0, decode cX3_lay x.1 = .ok (x.2.1, x.2.2) := by decide +kernel
theorem dX3_lay_p0 (i : Nat) {pc ln : Nat} {ins : Instr} (h : tX3_lay_p0[i]? = some (pc, ins, ln)) : decode cX3_lay pc = .ok (ins, ln) := kX3_lay_p0 (pc, ins, ln) (List.mem_of_getElem? h)
def tX3_lay_p1 : List zI := [(82, .getfield 22, 3), (85, .iload 5, 2), (87, .iconst 1, 1), (88, .iadd, 1), (89, .laload, 1), (90, .ladd, 1), (91, .lstore 6, 2), (93, .iconst 1, 1), (94, .aload_n 0, 1), (95, .getfield 25, 3), (98, .iload 5, 2), (100, .iconst 1, 1), (101, .iadd, 1), (102, .iaload, 1), (103, .iadd, 1), (104, .istore 8, 2), (106, .iload 5, 2), (108, .iload_n 2, 1), (109, .if_icmp .eq 38, 3), (112, .lload 6, 2), (114, .aload_n 0, 1), (115, .getfield 22, 3), (118, .iload_n 2, 1), (119, .laload, 1), (120, .lcmp, 1), (121, .ifCond .gt 26, 3), (124, .lload 6, 2), (126, .aload_n 0, 1), (127, .getfield 22, 3), (130, .iload_n 2, 1), (131, .laload, 1), (132, .lcmp, 1), (133, .ifCond .ne 38, 3), (136, .iload 8, 2), (138, .aload_n 0, 1), (139, .getfield 25, 3), (142, .iload_n 2, 1), (143, .iaload, 1), (144, .if_icmp .gt 27, 3), (147, .aload_n 0, 1), (148, .getfield 22, 3), (151, .iload_n 2, 1), (152, .lload 6, 2), (154, .lastore, 1), (155, .aload_n 0, 1), (156, .getfield 25, 3), (159, .iload_n 2, 1), (160, .iload 8, 2), (162, .iastore, 1), (163, .aload_n 0, 1)]
theorem kX3_lay_p1 : ∀ x ∈ tX3_lay_p1, decode cX3_lay x.1 = .ok (x.2.1, x.2.2) := by decide +kernel
theorem dX3_lay_p1 (i : Nat) {pc ln : Nat} {ins : Instr} (h : tX3_lay_p1[i]? = some (pc, ins, ln)) : decode cX3_lay pc = .ok (ins, ln) := kX3_lay_p1 (pc, ins, ln) (List.mem_of_getElem? h)
def tX3_lay_p2 : List zI := [(164, .getfield 19, 3), (167, .iload_n 2, 1), (168, .iload 5, 2), (170, .iastore, 1), (171, .iinc 5 1, 3), (174, .goto (-138), 3), (177, .iinc 2 (-1), 3), (180, .goto (-153), 3), (183, .return_, 1)]
theorem kX3_lay_p2 : ∀ x ∈ tX3_lay_p2, decode cX3_lay x.1 = .ok (x.2.1, x.2.2) := by decide +kernel
theorem dX3_lay_p2 (i : Nat) {pc ln : Nat} {ins : Instr} (h : tX3_lay_p2[i]? = some (pc, ins, ln)) : decode cX3_lay pc = .ok (ins, ln) := kX3_lay_p2 (pc, ins, ln) (List.mem_of_getElem? h)
def tX3_isBestOfAll_p0 : List zI := [(0, .aload_n 0, 1), (1, .getfield 28, 3), (4, .ifCond .eq 12, 3), (7, .aload_n 0, 1), (8, .getfield 28, 3), (11, .bipush 12, 2), (13, .if_icmp .le 5, 3), (16, .iconst 1, 1), (17, .ireturn, 1), (18, .iconst 0, 1), (19, .istore_n 2, 1), (20, .iconst 0, 1), (21, .istore_n 3, 1), (22, .ldc2_w 49, 3), (25, .lstore 4, 2), (27, .iconst 1, 1), (28, .aload_n 0, 1), (29, .getfield 28, 3), (32, .iconst 1, 1), (33, .isub, 1), (34, .ishl, 1), (35, .istore 6, 2), (37, .iconst 0, 1), (38, .istore 7, 2), (40, .iload 7, 2), (42, .iload 6, 2), (44, .if_icmp .ge 59, 3), (47, .iconst 1, 1), (48, .iload 7, 2), (50, .invokestatic 51, 3), (53, .iadd, 1), (54, .istore 8, 2), (56, .aload_n 0, 1), (57, .iload 7, 2), (59, .aload_n 1, 1), (60, .invokevirtual 57, 3), (63, .lstore 9, 2), (65, .lload 9, 2), (67, .lload 4, 2), (69, .lcmp, 1), (70, .ifCond .gt 17, 3), (73, .lload 9, 2), (75, .lload 4, 2), (77, .lcmp, 1), (78, .ifCond .ne 19, 3), (81, .iload 8, 2), (83, .iload_n 3, 1), (84, .if_icmp .ge 13, 3), (87, .lload 9, 2), (89, .lstore 4, 2)]
theorem kX3_isBestOfAll_p0 : ∀ x ∈ tX3_isBestOfAll_p0, decode cX3_isBestOfAll x.1 = .ok (x.2.1, x.2.2) := by decide +kernel
theorem dX3_isBestOfAll_p0 (i : Nat) {pc ln : Nat} {ins : Instr} (h : tX3_isBestOfAll_p0[i]? = some (pc, ins, ln)) : decode cX3_isBestOfAll pc = .ok (ins, ln) := kX3_isBestOfAll_p0 (pc, ins, ln) (List.mem_of_getElem? h)
def tX3_isBestOfAll_p1 : List zI := [(91, .iload 8, 2), (93, .istore_n 3, 1), (94, .iload 7, 2), (96, .istore_n 2, 1), (97, .iinc 7 1, 3), (100, .goto (-60), 3), (103, .iload_n 2, 1), (104, .aload_n 0, 1), (105, .invokevirtual 61, 3), (108, .if_icmp .ne 7, 3), (111, .iconst 1, 1), (112, .goto 4, 3), (115, .iconst 0, 1), (116, .ireturn, 1)]
theorem kX3_isBestOfAll_p1 : ∀ x ∈ tX3_isBestOfAll_p1, decode cX3_isBestOfAll x.1 = .ok (x.2.1, x.2.2) := by decide +kernel
theorem dX3_isBestOfAll_p1 (i : Nat) {pc ln : Nat} {ins : Instr} (h : tX3_isBestOfAll_p1[i]? = some (pc, ins, ln)) : decode cX3_isBestOfAll pc = .ok (ins, ln) := kX3_isBestOfAll_p1 (pc, ins, ln) (List.mem_of_getElem? h)
def tX3_isCut : List zI := [(0, .iload_n 2, 1), (1, .aload_n 0, 1), (2, .getfield 28, 3), (5, .iconst 1, 1), (6, .isub, 1), (7, .if_icmp .eq 19, 3), (10, .iload_n 1, 1), (11, .aload_n 0, 1), (12, .getfield 28, 3), (15, .iconst 2, 1), (16, .isub, 1), (17, .iload_n 2, 1), (18, .isub, 1), (19, .ishr, 1), (20, .iconst 1, 1), (21, .iand, 1), (22, .iconst 1, 1), (23, .if_icmp .ne 7, 3), (26, .iconst 1, 1), (27, .goto 4, 3), (30, .iconst 0, 1), (31, .ireturn, 1)]
theorem kX3_isCut : ∀ x ∈ tX3_isCut, decode cX3_isCut x.1 = .ok (x.2.1, x.2.2) := by decide +kernel
theorem dX3_isCut (i : Nat) {pc ln : Nat} {ins : Instr} (h : tX3_isCut[i]? = some (pc, ins, ln)) : decode cX3_isCut pc = .ok (ins, ln) := kX3_isCut (pc, ins, ln) (List.mem_of_getElem? h)
def tX3_worthOf : List zI := [(0, .lconst 0, 1), (1, .lstore_n 3, 1), (2, .lconst 0, 1), (3, .lstore 5, 2), (5, .aload_n 0, 1), (6, .getfield 9, 3), (9, .iconst 0, 1), (10, .iaload, 1), (11, .istore 7, 2), (13, .iconst 0, 1), (14, .istore 8, 2), (16, .iload 8, 2), (18, .aload_n 0, 1), (19, .getfield 28, 3), (22, .if_icmp .ge 80, 3), (25, .lload 5, 2), (27, .lconst 0, 1), (28, .lcmp, 1), (29, .ifCond .ne 12, 3), (32, .aload_n 0, 1), (33, .getfield 9, 3), (36, .iload 8, 2), (38, .iaload, 1), (39, .istore 7, 2), (41, .aload_n 0, 1), (42, .getfield 9, 3), (45, .iload 8, 2), (47, .iaload, 1), (48, .iload 7, 2), (50, .isub, 1), (51, .aload_n 2, 1), (52, .getfield 41, 3), (55, .if_icmp .lt 7, 3), (58, .ldc2_w 49, 3), (61, .lreturn, 1), (62, .lload 5, 2), (64, .aload_n 0, 1), (65, .getfield 15, 3), (68, .iload 8, 2), (70, .laload, 1), (71, .ladd, 1), (72, .lstore 5, 2), (74, .aload_n 0, 1), (75, .iload_n 1, 1), (76, .iload 8, 2), (78, .invokevirtual 65, 3), (81, .ifCond .eq 15, 3), (84, .lload_n 3, 1), (85, .aload_n 2, 1), (86, .lload 5, 2), (88, .invokevirtual 45, 3), (91, .ladd, 1), (92, .lstore_n 3, 1), (93, .lconst 0, 1), (94, .lstore 5, 2), (96, .iinc 8 1, 3), (99, .goto (-83), 3), (102, .lload_n 3, 1), (103, .lreturn, 1)]
theorem kX3_worthOf : ∀ x ∈ tX3_worthOf, decode cX3_worthOf x.1 = .ok (x.2.1, x.2.2) := by decide +kernel
theorem dX3_worthOf (i : Nat) {pc ln : Nat} {ins : Instr} (h : tX3_worthOf[i]? = some (pc, ins, ln)) : decode cX3_worthOf pc = .ok (ins, ln) := kX3_worthOf (pc, ins, ln) (List.mem_of_getElem? h)
def tX3_laidCuts : List zI := [(0, .iconst 0, 1), (1, .istore_n 1, 1), (2, .iconst (-1), 1), (3, .istore_n 2, 1), (4, .iconst 0, 1), (5, .istore_n 3, 1), (6, .iload_n 3, 1), (7, .aload_n 0, 1), (8, .getfield 28, 3), (11, .iconst 1, 1), (12, .isub, 1), (13, .if_icmp .ge 39, 3), (16, .iload_n 3, 1), (17, .iload_n 2, 1), (18, .if_icmp .le 10, 3), (21, .aload_n 0, 1), (22, .getfield 19, 3), (25, .iload_n 3, 1), (26, .iaload, 1), (27, .istore_n 2, 1), (28, .iload_n 3, 1), (29, .iload_n 2, 1), (30, .if_icmp .ne 16, 3), (33, .iload_n 1, 1), (34, .iconst 1, 1), (35, .aload_n 0, 1), (36, .getfield 28, 3), (39, .iconst 2, 1), (40, .isub, 1), (41, .iload_n 3, 1), (42, .isub, 1), (43, .ishl, 1), (44, .ior, 1), (45, .istore_n 1, 1), (46, .iinc 3 1, 3), (49, .goto (-43), 3), (52, .iload_n 1, 1), (53, .ireturn, 1)]
theorem kX3_laidCuts : ∀ x ∈ tX3_laidCuts, decode cX3_laidCuts x.1 = .ok (x.2.1, x.2.2) := by decide +kernel
theorem dX3_laidCuts (i : Nat) {pc ln : Nat} {ins : Instr} (h : tX3_laidCuts[i]? = some (pc, ins, ln)) : decode cX3_laidCuts pc = .ok (ins, ln) := kX3_laidCuts (pc, ins, ln) (List.mem_of_getElem? h)
def tX4_init : List zI := [(0, .aload_n 0, 1), (1, .invokespecial 1, 3), (4, .aload_n 0, 1), (5, .iload_n 1, 1), (6, .putfield 7, 3), (9, .aload_n 0, 1), (10, .iload_n 2, 1), (11, .putfield 13, 3), (14, .aload_n 0, 1), (15, .iload_n 3, 1), (16, .putfield 16, 3), (19, .aload_n 0, 1), (20, .iload 4, 2), (22, .putfield 19, 3), (25, .return_, 1)]
theorem kX4_init : ∀ x ∈ tX4_init, decode cX4_init x.1 = .ok (x.2.1, x.2.2) := by decide +kernel
theorem dX4_init (i : Nat) {pc ln : Nat} {ins : Instr} (h : tX4_init[i]? = some (pc, ins, ln)) : decode cX4_init pc = .ok (ins, ln) := kX4_init (pc, ins, ln) (List.mem_of_getElem? h)
def tX4_isInForce : List zI := [(0, .aload_n 0, 1), (1, .getfield 16, 3), (4, .iload_n 1, 1), (5, .if_icmp .gt 15, 3), (8, .iload_n 1, 1), (9, .aload_n 0, 1), (10, .getfield 19, 3), (13, .if_icmp .gt 7, 3), (16, .iconst 1, 1), (17, .goto 4, 3), (20, .iconst 0, 1), (21, .ireturn, 1)]
theorem kX4_isInForce : ∀ x ∈ tX4_isInForce, decode cX4_isInForce x.1 = .ok (x.2.1, x.2.2) := by decide +kernel
theorem dX4_isInForce (i : Nat) {pc ln : Nat} {ins : Instr} (h : tX4_isInForce[i]? = some (pc, ins, ln)) : decode cX4_isInForce pc = .ok (ins, ln) := kX4_isInForce (pc, ins, ln) (List.mem_of_getElem? h)
def tX5_init : List zI := [(0, .aload_n 0, 1), (1, .invokespecial 3, 3), (4, .aload_n 0, 1), (5, .iconst 5, 1), (6, .newarray .boolean, 2), (8, .putfield 9, 3), (11, .aload_n 0, 1), (12, .iconst 5, 1), (13, .newarray .int, 2), (15, .putfield 15, 3), (18, .aload_n 0, 1), (19, .iconst 5, 1), (20, .newarray .int, 2), (22, .putfield 19, 3), (25, .aload_n 0, 1), (26, .iconst 5, 1), (27, .newarray .int, 2), (29, .putfield 22, 3), (32, .aload_n 0, 1), (33, .iconst 5, 1), (34, .newarray .long, 2), (36, .putfield 25, 3), (39, .aload_n 0, 1), (40, .iconst 5, 1), (41, .newarray .long, 2), (43, .putfield 29, 3), (46, .aload_n 0, 1), (47, .iconst 5, 1), (48, .newarray .long, 2), (50, .putfield 32, 3), (53, .aload_n 0, 1), (54, .iconst 5, 1), (55, .newarray .long, 2), (57, .putfield 35, 3), (60, .aload_n 0, 1), (61, .iconst 5, 1), (62, .newarray .long, 2), (64, .putfield 38, 3), (67, .return_, 1)]
theorem kX5_init : ∀ x ∈ tX5_init, decode cX5_init x.1 = .ok (x.2.1, x.2.2) := by decide +kernel
theorem dX5_init (i : Nat) {pc ln : Nat} {ins : Instr} (h : tX5_init[i]? = some (pc, ins, ln)) : decode cX5_init pc = .ok (ins, ln) := kX5_init (pc, ins, ln) (List.mem_of_getElem? h)
def tX5_handedOn : List zI := [(0, .aload_n 0, 1), (1, .getfield 9, 3), (4, .iload_n 1, 1), (5, .baload, 1), (6, .ifCond .eq 7, 3), (9, .lconst 0, 1), (10, .goto 26, 3), (13, .lconst 0, 1), (14, .lload_n 2, 1), (15, .aload_n 0, 1), (16, .getfield 19, 3), (19, .iload_n 1, 1), (20, .iaload, 1), (21, .i2l, 1), (22, .lsub, 1), (23, .aload_n 0, 1), (24, .getfield 22, 3), (27, .iload_n 1, 1), (28, .iaload, 1), (29, .i2l, 1), (30, .invokestatic 41, 3), (33, .invokestatic 47, 3), (36, .lreturn, 1)]
theorem kX5_handedOn : ∀ x ∈ tX5_handedOn, decode cX5_handedOn x.1 = .ok (x.2.1, x.2.2) := by decide +kernel
theorem dX5_handedOn (i : Nat) {pc ln : Nat} {ins : Instr} (h : tX5_handedOn[i]? = some (pc, ins, ln)) : decode cX5_handedOn pc = .ok (ins, ln) := kX5_handedOn (pc, ins, ln) (List.mem_of_getElem? h)
def tX5_settleRings : List zI := [(0, .aload_n 0, 1), (1, .getfield 29, 3), (4, .lconst 0, 1), (5, .invokestatic 50, 3), (8, .aload_n 0, 1), (9, .aload_n 0, 1), (10, .getfield 29, 3), (13, .bipush 10, 2), (15, .invokevirtual 56, 3), (18, .aload_n 0, 1), (19, .getfield 29, 3), (22, .iconst 0, 1), (23, .aload_n 0, 1), (24, .getfield 32, 3), (27, .iconst 0, 1), (28, .iconst 5, 1), (29, .invokestatic 60, 3), (32, .aload_n 0, 1), (33, .aload_n 0, 1), (34, .getfield 29, 3), (37, .iconst 5, 1), (38, .invokevirtual 56, 3), (41, .aload_n 0, 1), (42, .getfield 35, 3), (45, .ldc2_w 66, 3), (48, .invokestatic 50, 3), (51, .aload_n 0, 1), (52, .aload_n 0, 1), (53, .getfield 35, 3), (56, .bipush 10, 2), (58, .invokevirtual 56, 3), (61, .iconst 0, 1), (62, .istore_n 1, 1), (63, .iload_n 1, 1), (64, .iconst 5, 1), (65, .if_icmp .ge 37, 3), (68, .aload_n 0, 1), (69, .getfield 29, 3), (72, .iload_n 1, 1), (73, .laload, 1), (74, .aload_n 0, 1), (75, .getfield 32, 3), (78, .iload_n 1, 1), (79, .laload, 1), (80, .lcmp, 1), (81, .ifCond .eq 15, 3), (84, .aload_n 0, 1), (85, .getfield 29, 3), (88, .iload_n 1, 1), (89, .aload_n 0, 1), (90, .getfield 35, 3), (93, .iload_n 1, 1), (94, .laload, 1), (95, .lastore, 1), (96, .iinc 1 1, 3), (99, .goto (-36), 3), (102, .return_, 1)]
theorem kX5_settleRings : ∀ x ∈ tX5_settleRings, decode cX5_settleRings x.1 = .ok (x.2.1, x.2.2) := by decide +kernel
theorem dX5_settleRings (i : Nat) {pc ln : Nat} {ins : Instr} (h : tX5_settleRings[i]? = some (pc, ins, ln)) : decode cX5_settleRings pc = .ok (ins, ln) := kX5_settleRings (pc, ins, ln) (List.mem_of_getElem? h)
def tX5_fits : List zI := [(0, .aload_n 0, 1), (1, .getfield 29, 3), (4, .iconst 0, 1), (5, .aload_n 0, 1), (6, .getfield 35, 3), (9, .iconst 0, 1), (10, .iconst 5, 1), (11, .invokestatic 60, 3), (14, .aload_n 0, 1), (15, .aload_n 0, 1), (16, .getfield 35, 3), (19, .iconst 1, 1), (20, .invokevirtual 56, 3), (23, .iconst 0, 1), (24, .istore_n 1, 1), (25, .iload_n 1, 1), (26, .iconst 5, 1), (27, .if_icmp .ge 27, 3), (30, .aload_n 0, 1), (31, .getfield 35, 3), (34, .iload_n 1, 1), (35, .laload, 1), (36, .aload_n 0, 1), (37, .getfield 29, 3), (40, .iload_n 1, 1), (41, .laload, 1), (42, .lcmp, 1), (43, .ifCond .eq 5, 3), (46, .iconst 0, 1), (47, .ireturn, 1), (48, .iinc 1 1, 3), (51, .goto (-26), 3), (54, .iconst 1, 1), (55, .ireturn, 1)]
theorem kX5_fits : ∀ x ∈ tX5_fits, decode cX5_fits x.1 = .ok (x.2.1, x.2.2) := by decide +kernel
theorem dX5_fits (i : Nat) {pc ln : Nat} {ins : Instr} (h : tX5_fits[i]? = some (pc, ins, ln)) : decode cX5_fits pc = .ok (ins, ln) := kX5_fits (pc, ins, ln) (List.mem_of_getElem? h)
def tX5_goRounds : List zI := [(0, .iconst 0, 1), (1, .istore_n 3, 1), (2, .iload_n 3, 1), (3, .iload_n 2, 1), (4, .if_icmp .ge 71, 3), (7, .aload_n 1, 1), (8, .iconst 0, 1), (9, .aload_n 0, 1), (10, .getfield 38, 3), (13, .iconst 0, 1), (14, .iconst 5, 1), (15, .invokestatic 60, 3), (18, .aload_n 0, 1), (19, .getfield 25, 3), (22, .iconst 0, 1), (23, .aload_n 1, 1), (24, .iconst 0, 1), (25, .iconst 5, 1), (26, .invokestatic 60, 3), (29, .iconst 0, 1), (30, .istore 4, 2), (32, .iload 4, 2), (34, .iconst 5, 1), (35, .if_icmp .ge 34, 3), (38, .aload_n 1, 1), (39, .aload_n 0, 1), (40, .getfield 15, 3), (43, .iload 4, 2), (45, .iaload, 1), (46, .dup2, 1), (47, .laload, 1), (48, .aload_n 0, 1), (49, .iload 4, 2), (51, .aload_n 0, 1), (52, .getfield 38, 3), (55, .iload 4, 2), (57, .laload, 1), (58, .invokevirtual 68, 3), (61, .ladd, 1), (62, .lastore, 1), (63, .iinc 4 1, 3), (66, .goto (-34), 3), (69, .iinc 3 1, 3), (72, .goto (-70), 3), (75, .return_, 1)]
theorem kX5_goRounds : ∀ x ∈ tX5_goRounds, decode cX5_goRounds x.1 = .ok (x.2.1, x.2.2) := by decide +kernel
theorem dX5_goRounds (i : Nat) {pc ln : Nat} {ins : Instr} (h : tX5_goRounds[i]? = some (pc, ins, ln)) : decode cX5_goRounds pc = .ok (ins, ln) := kX5_goRounds (pc, ins, ln) (List.mem_of_getElem? h)
def tX6_init : List zI := [(0, .aload_n 0, 1), (1, .invokespecial 3, 3), (4, .aload_n 0, 1), (5, .iconst 4, 1), (6, .newarray .int, 2), (8, .putfield 9, 3), (11, .aload_n 0, 1), (12, .lconst 0, 1), (13, .putfield 15, 3), (16, .aload_n 0, 1), (17, .iload_n 1, 1), (18, .putfield 19, 3), (21, .aload_n 0, 1), (22, .iload_n 2, 1), (23, .putfield 23, 3), (26, .return_, 1)]
theorem kX6_init : ∀ x ∈ tX6_init, decode cX6_init x.1 = .ok (x.2.1, x.2.2) := by decide +kernel
theorem dX6_init (i : Nat) {pc ln : Nat} {ins : Instr} (h : tX6_init[i]? = some (pc, ins, ln)) : decode cX6_init pc = .ok (ins, ln) := kX6_init (pc, ins, ln) (List.mem_of_getElem? h)
def tX6_damageOf : List zI := [(0, .aload_n 1, 1), (1, .aload_n 0, 1), (2, .getfield 19, 3), (5, .invokevirtual 26, 3), (8, .ifCond .eq 27, 3), (11, .aload_n 1, 1), (12, .getfield 32, 3), (15, .i2l, 1), (16, .aload_n 0, 1), (17, .getfield 9, 3), (20, .aload_n 1, 1), (21, .getfield 35, 3), (24, .iaload, 1), (25, .i2l, 1), (26, .lmul, 1), (27, .ldc2_w 38, 3), (30, .ldiv, 1), (31, .l2i, 1), (32, .goto 4, 3), (35, .iconst 0, 1), (36, .ireturn, 1)]
theorem kX6_damageOf : ∀ x ∈ tX6_damageOf, decode cX6_damageOf x.1 = .ok (x.2.1, x.2.2) := by decide +kernel
theorem dX6_damageOf (i : Nat) {pc ln : Nat} {ins : Instr} (h : tX6_damageOf[i]? = some (pc, ins, ln)) : decode cX6_damageOf pc = .ok (ins, ln) := kX6_damageOf (pc, ins, ln) (List.mem_of_getElem? h)
def tX7_init : List zI := [(0, .aload_n 0, 1), (1, .invokespecial 3, 3), (4, .aload_n 0, 1), (5, .iconst 5, 1), (6, .newarray .int, 2), (8, .putfield 9, 3), (11, .aload_n 0, 1), (12, .iconst 3, 1), (13, .putfield 15, 3), (16, .aload_n 0, 1), (17, .iconst 0, 1), (18, .putfield 19, 3), (21, .aload_n 0, 1), (22, .iconst 0, 1), (23, .putfield 22, 3), (26, .aload_n 0, 1), (27, .iconst 0, 1), (28, .putfield 25, 3), (31, .aload_n 0, 1), (32, .iconst 0, 1), (33, .putfield 29, 3), (36, .aload_n 0, 1), (37, .iconst 0, 1), (38, .putfield 32, 3), (41, .aload_n 0, 1), (42, .iconst 0, 1), (43, .putfield 35, 3), (46, .aload_n 0, 1), (47, .iload_n 1, 1), (48, .putfield 38, 3), (51, .aload_n 0, 1), (52, .iload_n 2, 1), (53, .putfield 41, 3), (56, .aload_n 0, 1), (57, .iload_n 3, 1), (58, .putfield 45, 3), (61, .aload_n 0, 1), (62, .iload 4, 2), (64, .putfield 48, 3), (67, .aload_n 0, 1), (68, .iload 5, 2), (70, .putfield 51, 3), (73, .aload_n 0, 1), (74, .iload 6, 2), (76, .putfield 54, 3), (79, .aload_n 0, 1), (80, .iload 7, 2), (82, .putfield 57, 3), (85, .return_, 1)]
theorem kX7_init : ∀ x ∈ tX7_init, decode cX7_init x.1 = .ok (x.2.1, x.2.2) := by decide +kernel
theorem dX7_init (i : Nat) {pc ln : Nat} {ins : Instr} (h : tX7_init[i]? = some (pc, ins, ln)) : decode cX7_init pc = .ok (ins, ln) := kX7_init (pc, ins, ln) (List.mem_of_getElem? h)
def tX7_isLimited : List zI := [(0, .aload_n 0, 1), (1, .getfield 41, 3), (4, .bipush 114, 2), (6, .if_icmp .eq 12, 3), (9, .aload_n 0, 1), (10, .getfield 41, 3), (13, .bipush 101, 2), (15, .if_icmp .ne 7, 3), (18, .iconst 1, 1), (19, .goto 4, 3), (22, .iconst 0, 1), (23, .ireturn, 1)]
theorem kX7_isLimited : ∀ x ∈ tX7_isLimited, decode cX7_isLimited x.1 = .ok (x.2.1, x.2.2) := by decide +kernel
theorem dX7_isLimited (i : Nat) {pc ln : Nat} {ins : Instr} (h : tX7_isLimited[i]? = some (pc, ins, ln)) : decode cX7_isLimited pc = .ok (ins, ln) := kX7_isLimited (pc, ins, ln) (List.mem_of_getElem? h)
def tX7_wholeLimit : List zI := [(0, .aload_n 0, 1), (1, .invokevirtual 60, 3), (4, .ifCond .eq 19, 3), (7, .aload_n 0, 1), (8, .getfield 57, 3), (11, .i2l, 1), (12, .iconst 1, 1), (13, .aload_n 0, 1), (14, .getfield 19, 3), (17, .iadd, 1), (18, .i2l, 1), (19, .lmul, 1), (20, .goto 6, 3), (23, .ldc2_w 64, 3), (26, .lreturn, 1)]
theorem kX7_wholeLimit : ∀ x ∈ tX7_wholeLimit, decode cX7_wholeLimit x.1 = .ok (x.2.1, x.2.2) := by decide +kernel
theorem dX7_wholeLimit (i : Nat) {pc ln : Nat} {ins : Instr} (h : tX7_wholeLimit[i]? = some (pc, ins, ln)) : decode cX7_wholeLimit pc = .ok (ins, ln) := kX7_wholeLimit (pc, ins, ln) (List.mem_of_getElem? h)
def tX7_isForEachLoss : List zI := [(0, .aload_n 0, 1), (1, .getfield 41, 3), (4, .bipush 113, 2), (6, .if_icmp .eq 21, 3), (9, .aload_n 0, 1), (10, .getfield 41, 3), (13, .bipush 115, 2), (15, .if_icmp .eq 12, 3), (18, .aload_n 0, 1), (19, .getfield 41, 3), (22, .bipush 114, 2), (24, .if_icmp .ne 7, 3), (27, .iconst 1, 1), (28, .goto 4, 3), (31, .iconst 0, 1), (32, .ireturn, 1)]
theorem kX7_isForEachLoss : ∀ x ∈ tX7_isForEachLoss, decode cX7_isForEachLoss x.1 = .ok (x.2.1, x.2.2) := by decide +kernel
theorem dX7_isForEachLoss (i : Nat) {pc ln : Nat} {ins : Instr} (h : tX7_isForEachLoss[i]? = some (pc, ins, ln)) : decode cX7_isForEachLoss pc = .ok (ins, ln) := kX7_isForEachLoss (pc, ins, ln) (List.mem_of_getElem? h)
def tX7_coversLoss : List zI := [(0, .aload_n 0, 1), (1, .getfield 45, 3), (4, .bipush 111, 2), (6, .if_icmp .ne 10, 3), (9, .aload_n 1, 1), (10, .getfield 66, 3), (13, .goto 26, 3), (16, .aload_n 0, 1), (17, .getfield 45, 3), (20, .bipush 97, 2), (22, .if_icmp .ne 13, 3), (25, .aload_n 1, 1), (26, .getfield 71, 3), (29, .getfield 75, 3), (32, .goto 7, 3), (35, .aload_n 1, 1), (36, .getfield 78, 3), (39, .istore_n 2, 1), (40, .aload_n 0, 1), (41, .getfield 32, 3), (44, .ifCond .ne 23, 3), (47, .aload_n 0, 1), (48, .getfield 48, 3), (51, .iload_n 2, 1), (52, .if_icmp .gt 15, 3), (55, .iload_n 2, 1), (56, .aload_n 0, 1), (57, .getfield 51, 3), (60, .if_icmp .gt 7, 3), (63, .iconst 1, 1), (64, .goto 4, 3), (67, .iconst 0, 1), (68, .ireturn, 1)]
theorem kX7_coversLoss : ∀ x ∈ tX7_coversLoss, decode cX7_coversLoss x.1 = .ok (x.2.1, x.2.2) := by decide +kernel
theorem dX7_coversLoss (i : Nat) {pc ln : Nat} {ins : Instr} (h : tX7_coversLoss[i]? = some (pc, ins, ln)) : decode cX7_coversLoss pc = .ok (ins, ln) := kX7_coversLoss (pc, ins, ln) (List.mem_of_getElem? h)
def tX7_layerOf : List zI := [(0, .lconst 0, 1), (1, .lload_n 1, 1), (2, .aload_n 0, 1), (3, .getfield 54, 3), (6, .i2l, 1), (7, .lsub, 1), (8, .aload_n 0, 1), (9, .getfield 57, 3), (12, .i2l, 1), (13, .invokestatic 81, 3), (16, .invokestatic 87, 3), (19, .lreturn, 1)]
theorem kX7_layerOf : ∀ x ∈ tX7_layerOf, decode cX7_layerOf x.1 = .ok (x.2.1, x.2.2) := by decide +kernel
theorem dX7_layerOf (i : Nat) {pc ln : Nat} {ins : Instr} (h : tX7_layerOf[i]? = some (pc, ins, ln)) : decode cX7_layerOf pc = .ok (ins, ln) := kX7_layerOf (pc, ins, ln) (List.mem_of_getElem? h)
def tX7_wantedOf : List zI := [(0, .aload_n 0, 1), (1, .getfield 41, 3), (4, .bipush 113, 2), (6, .if_icmp .ne 18, 3), (9, .aload_n 1, 1), (10, .getfield 90, 3), (13, .aload_n 0, 1), (14, .getfield 54, 3), (17, .i2l, 1), (18, .lmul, 1), (19, .ldc2_w 94, 3), (22, .ldiv, 1), (23, .lreturn, 1), (24, .aload_n 0, 1), (25, .getfield 41, 3), (28, .bipush 115, 2), (30, .if_icmp .ne 51, 3), (33, .aload_n 1, 1), (34, .getfield 71, 3), (37, .getfield 96, 3), (40, .istore_n 2, 1), (41, .iload_n 2, 1), (42, .aload_n 0, 1), (43, .getfield 54, 3), (46, .if_icmp .le 33, 3), (49, .aload_n 1, 1), (50, .getfield 90, 3), (53, .iload_n 2, 1), (54, .aload_n 0, 1), (55, .getfield 54, 3), (58, .isub, 1), (59, .aload_n 0, 1), (60, .getfield 54, 3), (63, .aload_n 0, 1), (64, .getfield 57, 3), (67, .imul, 1), (68, .invokestatic 99, 3), (71, .i2l, 1), (72, .lmul, 1), (73, .iload_n 2, 1), (74, .i2l, 1), (75, .ldiv, 1), (76, .goto 4, 3), (79, .lconst 0, 1), (80, .lreturn, 1), (81, .aload_n 0, 1), (82, .aload_n 1, 1), (83, .getfield 90, 3), (86, .invokevirtual 102, 3), (89, .lreturn, 1)]
theorem kX7_wantedOf : ∀ x ∈ tX7_wantedOf, decode cX7_wantedOf x.1 = .ok (x.2.1, x.2.2) := by decide +kernel
theorem dX7_wantedOf (i : Nat) {pc ln : Nat} {ins : Instr} (h : tX7_wantedOf[i]? = some (pc, ins, ln)) : decode cX7_wantedOf pc = .ok (ins, ln) := kX7_wantedOf (pc, ins, ln) (List.mem_of_getElem? h)
def tX7_priceOf : List zI := [(0, .aload_n 0, 1), (1, .getfield 29, 3), (4, .i2l, 1), (5, .lload_n 1, 1), (6, .lmul, 1), (7, .aload_n 0, 1), (8, .getfield 22, 3), (11, .i2l, 1), (12, .lmul, 1), (13, .aload_n 0, 1), (14, .getfield 57, 3), (17, .i2l, 1), (18, .ldc2_w 94, 3), (21, .lmul, 1), (22, .ldiv, 1), (23, .lstore 4, 2), (25, .aload_n 0, 1), (26, .getfield 25, 3), (29, .ifCond .eq 34, 3), (32, .lload 4, 2), (34, .iconst 0, 1), (35, .aload_n 0, 1), (36, .getfield 51, 3), (39, .iload_n 3, 1), (40, .isub, 1), (41, .iconst 1, 1), (42, .iadd, 1), (43, .invokestatic 106, 3), (46, .i2l, 1), (47, .lmul, 1), (48, .aload_n 0, 1), (49, .getfield 51, 3), (52, .aload_n 0, 1), (53, .getfield 48, 3), (56, .isub, 1), (57, .iconst 1, 1), (58, .iadd, 1), (59, .i2l, 1), (60, .ldiv, 1), (61, .lstore 4, 2), (63, .lload 4, 2), (65, .lreturn, 1)]
theorem kX7_priceOf : ∀ x ∈ tX7_priceOf, decode cX7_priceOf x.1 = .ok (x.2.1, x.2.2) := by decide +kernel
theorem dX7_priceOf (i : Nat) {pc ln : Nat} {ins : Instr} (h : tX7_priceOf[i]? = some (pc, ins, ln)) : decode cX7_priceOf pc = .ok (ins, ln) := kX7_priceOf (pc, ins, ln) (List.mem_of_getElem? h)
def tX7_allShares : List zI := [(0, .iconst 0, 1), (1, .istore_n 1, 1), (2, .iconst 0, 1), (3, .istore_n 2, 1), (4, .iload_n 2, 1), (5, .aload_n 0, 1), (6, .getfield 9, 3), (9, .arraylength, 1), (10, .if_icmp .ge 18, 3), (13, .iload_n 1, 1), (14, .aload_n 0, 1), (15, .getfield 9, 3), (18, .iload_n 2, 1), (19, .iaload, 1), (20, .iadd, 1), (21, .istore_n 1, 1), (22, .iinc 2 1, 3), (25, .goto (-21), 3), (28, .iload_n 1, 1), (29, .ireturn, 1)]
theorem kX7_allShares : ∀ x ∈ tX7_allShares, decode cX7_allShares x.1 = .ok (x.2.1, x.2.2) := by decide +kernel
theorem dX7_allShares (i : Nat) {pc ln : Nat} {ins : Instr} (h : tX7_allShares[i]? = some (pc, ins, ln)) : decode cX7_allShares pc = .ok (ins, ln) := kX7_allShares (pc, ins, ln) (List.mem_of_getElem? h)
def tX8_init : List zI := [(0, .aload_n 0, 1), (1, .invokespecial 1, 3), (4, .aload_n 0, 1), (5, .new 7, 3), (8, .dup, 1), (9, .invokespecial 9, 3), (12, .putfield 10, 3), (15, .aload_n 0, 1), (16, .new 7, 3), (19, .dup, 1), (20, .invokespecial 9, 3), (23, .putfield 16, 3), (26, .aload_n 0, 1), (27, .new 7, 3), (30, .dup, 1), (31, .invokespecial 9, 3), (34, .putfield 19, 3), (37, .aload_n 0, 1), (38, .new 7, 3), (41, .dup, 1), (42, .invokespecial 9, 3), (45, .putfield 22, 3), (48, .aload_n 0, 1), (49, .new 7, 3), (52, .dup, 1), (53, .invokespecial 9, 3), (56, .putfield 25, 3), (59, .aload_n 0, 1), (60, .new 28, 3), (63, .dup, 1), (64, .invokespecial 30, 3), (67, .putfield 31, 3), (70, .aload_n 0, 1), (71, .new 28, 3), (74, .dup, 1), (75, .invokespecial 30, 3), (78, .putfield 35, 3), (81, .aload_n 0, 1), (82, .new 38, 3), (85, .dup, 1), (86, .invokespecial 40, 3), (89, .putfield 41, 3), (92, .aload_n 0, 1), (93, .iconst 0, 1), (94, .putfield 45, 3), (97, .return_, 1)]
theorem kX8_init : ∀ x ∈ tX8_init, decode cX8_init x.1 = .ok (x.2.1, x.2.2) := by decide +kernel
theorem dX8_init (i : Nat) {pc ln : Nat} {ins : Instr} (h : tX8_init[i]? = some (pc, ins, ln)) : decode cX8_init pc = .ok (ins, ln) := kX8_init (pc, ins, ln) (List.mem_of_getElem? h)
def tX8_policy : List zI := [(0, .iload_n 1, 1), (1, .iconst 1, 1), (2, .ldc 49, 2), (4, .invokestatic 50, 3), (7, .ifCond .ne 21, 3), (10, .iload_n 2, 1), (11, .iconst 0, 1), (12, .iconst 3, 1), (13, .invokestatic 50, 3), (16, .ifCond .ne 12, 3), (19, .iload_n 3, 1), (20, .iload 4, 2), (22, .invokestatic 54, 3), (25, .ifCond .ne 13, 3), (28, .new 58, 3), (31, .dup, 1), (32, .ldc 60, 2), (34, .invokespecial 62, 3), (37, .athrow, 1), (38, .aload_n 0, 1), (39, .getfield 10, 3), (42, .invokevirtual 65, 3), (45, .bipush 12, 2), (47, .if_icmp .lt 13, 3), (50, .new 69, 3), (53, .dup, 1), (54, .ldc 71, 2), (56, .invokespecial 73, 3), (59, .athrow, 1), (60, .new 74, 3), (63, .dup, 1), (64, .iload_n 1, 1), (65, .iload_n 2, 1), (66, .iload_n 3, 1), (67, .iload 4, 2), (69, .invokespecial 76, 3), (72, .astore 5, 2), (74, .aload_n 0, 1), (75, .getfield 10, 3), (78, .aload 5, 2), (80, .invokevirtual 79, 3), (83, .pop, 1), (84, .aload_n 0, 1), (85, .getfield 25, 3), (88, .new 83, 3), (91, .dup, 1), (92, .aload 5, 2), (94, .invokespecial 85, 3), (97, .invokevirtual 79, 3), (100, .pop, 1), (101, .aload_n 0, 1), (102, .getfield 10, 3), (105, .invokevirtual 65, 3), (108, .iconst 1, 1), (109, .isub, 1), (110, .ireturn, 1)]
theorem kX8_policy : ∀ x ∈ tX8_policy, decode cX8_policy x.1 = .ok (x.2.1, x.2.2) := by decide +kernel
theorem dX8_policy (i : Nat) {pc ln : Nat} {ins : Instr} (h : tX8_policy[i]? = some (pc, ins, ln)) : decode cX8_policy pc = .ok (ins, ln) := kX8_policy (pc, ins, ln) (List.mem_of_getElem? h)
def tX8_loss_p0 : List zI := [(0, .iload_n 1, 1), (1, .iconst 0, 1), (2, .aload_n 0, 1), (3, .getfield 10, 3), (6, .invokevirtual 65, 3), (9, .iconst 1, 1), (10, .isub, 1), (11, .invokestatic 50, 3), (14, .ifCond .eq 13, 3), (17, .new 88, 3), (20, .dup, 1), (21, .ldc 90, 2), (23, .invokespecial 92, 3), (26, .athrow, 1), (27, .iload_n 2, 1), (28, .iload_n 3, 1), (29, .invokestatic 54, 3), (32, .ifCond .eq 14, 3), (35, .iload 4, 2), (37, .iconst 0, 1), (38, .ldc 49, 2), (40, .invokestatic 50, 3), (43, .ifCond .eq 13, 3), (46, .new 58, 3), (49, .dup, 1), (50, .ldc 93, 2), (52, .invokespecial 62, 3), (55, .athrow, 1), (56, .aload_n 0, 1), (57, .getfield 10, 3), (60, .iload_n 1, 1), (61, .invokevirtual 95, 3), (64, .checkcast 74, 3), (67, .astore 5, 2), (69, .aload 5, 2), (71, .iload_n 2, 1), (72, .invokevirtual 99, 3), (75, .ifCond .ne 13, 3), (78, .new 103, 3), (81, .dup, 1), (82, .ldc 105, 2), (84, .invokespecial 107, 3), (87, .athrow, 1), (88, .aload_n 0, 1), (89, .getfield 16, 3), (92, .invokevirtual 65, 3), (95, .bipush 30, 2), (97, .if_icmp .lt 13, 3), (100, .new 69, 3), (103, .dup, 1)]
theorem kX8_loss_p0 : ∀ x ∈ tX8_loss_p0, decode cX8_loss x.1 = .ok (x.2.1, x.2.2) := by decide +kernel
theorem dX8_loss_p0 (i : Nat) {pc ln : Nat} {ins : Instr} (h : tX8_loss_p0[i]? = some (pc, ins, ln)) : decode cX8_loss pc = .ok (ins, ln) := kX8_loss_p0 (pc, ins, ln) (List.mem_of_getElem? h)
def tX8_loss_p1 : List zI := [(104, .ldc 108, 2), (106, .invokespecial 73, 3), (109, .athrow, 1), (110, .new 83, 3), (113, .dup, 1), (114, .aload 5, 2), (116, .invokespecial 85, 3), (119, .astore 6, 2), (121, .aload 6, 2), (123, .iload_n 2, 1), (124, .iload_n 3, 1), (125, .iload 4, 2), (127, .invokevirtual 110, 3), (130, .aload_n 0, 1), (131, .getfield 16, 3), (134, .aload 6, 2), (136, .invokevirtual 79, 3), (139, .pop, 1), (140, .aload_n 0, 1), (141, .getfield 31, 3), (144, .aload 6, 2), (146, .invokevirtual 114, 3), (149, .aload_n 0, 1), (150, .iconst 0, 1), (151, .putfield 45, 3), (154, .aload_n 0, 1), (155, .getfield 16, 3), (158, .invokevirtual 65, 3), (161, .iconst 1, 1), (162, .isub, 1), (163, .ireturn, 1)]
theorem kX8_loss_p1 : ∀ x ∈ tX8_loss_p1, decode cX8_loss x.1 = .ok (x.2.1, x.2.2) := by decide +kernel
theorem dX8_loss_p1 (i : Nat) {pc ln : Nat} {ins : Instr} (h : tX8_loss_p1[i]? = some (pc, ins, ln)) : decode cX8_loss pc = .ok (ins, ln) := kX8_loss_p1 (pc, ins, ln) (List.mem_of_getElem? h)
def tX8_setAmount : List zI := [(0, .aload_n 0, 1), (1, .iload_n 1, 1), (2, .invokevirtual 118, 3), (5, .astore_n 3, 1), (6, .iload_n 2, 1), (7, .iconst 0, 1), (8, .ldc 49, 2), (10, .invokestatic 50, 3), (13, .ifCond .eq 13, 3), (16, .new 58, 3), (19, .dup, 1), (20, .ldc 122, 2), (22, .invokespecial 62, 3), (25, .athrow, 1), (26, .aload_n 3, 1), (27, .getfield 124, 3), (30, .istore 4, 2), (32, .aload_n 3, 1), (33, .iload_n 2, 1), (34, .putfield 124, 3), (37, .aload_n 0, 1), (38, .iconst 0, 1), (39, .putfield 45, 3), (42, .iload 4, 2), (44, .ireturn, 1)]
theorem kX8_setAmount : ∀ x ∈ tX8_setAmount, decode cX8_setAmount x.1 = .ok (x.2.1, x.2.2) := by decide +kernel
theorem dX8_setAmount (i : Nat) {pc ln : Nat} {ins : Instr} (h : tX8_setAmount[i]? = some (pc, ins, ln)) : decode cX8_setAmount pc = .ok (ins, ln) := kX8_setAmount (pc, ins, ln) (List.mem_of_getElem? h)
def tX8_treaty_p0 : List zI := [(0, .iload_n 3, 1), (1, .iload 4, 2), (3, .invokestatic 54, 3), (6, .ifCond .eq 21, 3), (9, .iload_n 2, 1), (10, .invokestatic 128, 3), (13, .ifCond .eq 14, 3), (16, .iload_n 1, 1), (17, .iload 5, 2), (19, .iload 6, 2), (21, .invokestatic 132, 3), (24, .ifCond .ne 13, 3), (27, .new 58, 3), (30, .dup, 1), (31, .ldc 136, 2), (33, .invokespecial 62, 3), (36, .athrow, 1), (37, .aload_n 0, 1), (38, .getfield 19, 3), (41, .invokevirtual 65, 3), (44, .bipush 8, 2), (46, .if_icmp .lt 13, 3), (49, .new 69, 3), (52, .dup, 1), (53, .ldc 138, 2), (55, .invokespecial 73, 3), (58, .athrow, 1), (59, .new 140, 3), (62, .dup, 1), (63, .aload_n 0, 1), (64, .getfield 19, 3), (67, .invokevirtual 65, 3), (70, .iload_n 1, 1), (71, .iload_n 2, 1), (72, .iload_n 3, 1), (73, .iload 4, 2), (75, .iload 5, 2), (77, .iload 6, 2), (79, .invokespecial 142, 3), (82, .astore 7, 2), (84, .aload_n 0, 1), (85, .getfield 19, 3), (88, .aload 7, 2), (90, .invokevirtual 79, 3), (93, .pop, 1), (94, .aload_n 0, 1), (95, .getfield 31, 3), (98, .getfield 145, 3), (101, .new 148, 3), (104, .dup, 1)]
theorem kX8_treaty_p0 : ∀ x ∈ tX8_treaty_p0, decode cX8_treaty x.1 = .ok (x.2.1, x.2.2) := by decide +kernel
theorem dX8_treaty_p0 (i : Nat) {pc ln : Nat} {ins : Instr} (h : tX8_treaty_p0[i]? = some (pc, ins, ln)) : decode cX8_treaty pc = .ok (ins, ln) := kX8_treaty_p0 (pc, ins, ln) (List.mem_of_getElem? h)
def tX8_treaty_p1 : List zI := [(105, .aload 7, 2), (107, .invokespecial 150, 3), (110, .invokevirtual 79, 3), (113, .pop, 1), (114, .aload_n 0, 1), (115, .getfield 35, 3), (118, .getfield 145, 3), (121, .new 148, 3), (124, .dup, 1), (125, .aload 7, 2), (127, .invokespecial 150, 3), (130, .invokevirtual 79, 3), (133, .pop, 1), (134, .aload_n 0, 1), (135, .iconst 0, 1), (136, .putfield 45, 3), (139, .aload 7, 2), (141, .getfield 153, 3), (144, .ireturn, 1)]
theorem kX8_treaty_p1 : ∀ x ∈ tX8_treaty_p1, decode cX8_treaty x.1 = .ok (x.2.1, x.2.2) := by decide +kernel
theorem dX8_treaty_p1 (i : Nat) {pc ln : Nat} {ins : Instr} (h : tX8_treaty_p1[i]? = some (pc, ins, ln)) : decode cX8_treaty pc = .ok (ins, ln) := kX8_treaty_p1 (pc, ins, ln) (List.mem_of_getElem? h)
def tX8_setDays : List zI := [(0, .aload_n 0, 1), (1, .iload_n 1, 1), (2, .invokevirtual 156, 3), (5, .astore_n 3, 1), (6, .iload_n 2, 1), (7, .iconst 1, 1), (8, .bipush 9, 2), (10, .invokestatic 50, 3), (13, .ifCond .eq 13, 3), (16, .new 58, 3), (19, .dup, 1), (20, .ldc 160, 2), (22, .invokespecial 62, 3), (25, .athrow, 1), (26, .aload_n 3, 1), (27, .getfield 162, 3), (30, .istore 4, 2), (32, .aload_n 3, 1), (33, .iload_n 2, 1), (34, .putfield 162, 3), (37, .aload_n 0, 1), (38, .iconst 0, 1), (39, .putfield 45, 3), (42, .iload 4, 2), (44, .ireturn, 1)]
theorem kX8_setDays : ∀ x ∈ tX8_setDays, decode cX8_setDays x.1 = .ok (x.2.1, x.2.2) := by decide +kernel
theorem dX8_setDays (i : Nat) {pc ln : Nat} {ins : Instr} (h : tX8_setDays[i]? = some (pc, ins, ln)) : decode cX8_setDays pc = .ok (ins, ln) := kX8_setDays (pc, ins, ln) (List.mem_of_getElem? h)
def tX8_reinstate : List zI := [(0, .aload_n 0, 1), (1, .iload_n 1, 1), (2, .invokevirtual 156, 3), (5, .astore 5, 2), (7, .iload_n 2, 1), (8, .iconst 0, 1), (9, .iconst 5, 1), (10, .invokestatic 50, 3), (13, .ifCond .ne 14, 3), (16, .iload_n 3, 1), (17, .iconst 0, 1), (18, .sipush 200, 3), (21, .invokestatic 50, 3), (24, .ifCond .eq 13, 3), (27, .new 58, 3), (30, .dup, 1), (31, .ldc 165, 2), (33, .invokespecial 62, 3), (36, .athrow, 1), (37, .aload 5, 2), (39, .invokevirtual 167, 3), (42, .ifCond .ne 13, 3), (45, .new 103, 3), (48, .dup, 1), (49, .ldc 171, 2), (51, .invokespecial 107, 3), (54, .athrow, 1), (55, .aload 5, 2), (57, .getfield 173, 3), (60, .istore 6, 2), (62, .aload 5, 2), (64, .iload_n 2, 1), (65, .putfield 173, 3), (68, .aload 5, 2), (70, .iload_n 3, 1), (71, .putfield 176, 3), (74, .aload 5, 2), (76, .iload 4, 2), (78, .putfield 179, 3), (81, .aload_n 0, 1), (82, .iconst 0, 1), (83, .putfield 45, 3), (86, .iload 6, 2), (88, .ireturn, 1)]
theorem kX8_reinstate : ∀ x ∈ tX8_reinstate, decode cX8_reinstate x.1 = .ok (x.2.1, x.2.2) := by decide +kernel
theorem dX8_reinstate (i : Nat) {pc ln : Nat} {ins : Instr} (h : tX8_reinstate[i]? = some (pc, ins, ln)) : decode cX8_reinstate pc = .ok (ins, ln) := kX8_reinstate (pc, ins, ln) (List.mem_of_getElem? h)
def tX8_setPremium : List zI := [(0, .aload_n 0, 1), (1, .iload_n 1, 1), (2, .invokevirtual 156, 3), (5, .astore_n 3, 1), (6, .iload_n 2, 1), (7, .iconst 0, 1), (8, .ldc 49, 2), (10, .invokestatic 50, 3), (13, .ifCond .eq 13, 3), (16, .new 58, 3), (19, .dup, 1), (20, .ldc 182, 2), (22, .invokespecial 62, 3), (25, .athrow, 1), (26, .aload_n 3, 1), (27, .getfield 184, 3), (30, .istore 4, 2), (32, .aload_n 3, 1), (33, .iload_n 2, 1), (34, .putfield 184, 3), (37, .aload_n 0, 1), (38, .iconst 0, 1), (39, .putfield 45, 3), (42, .iload 4, 2), (44, .ireturn, 1)]
theorem kX8_setPremium : ∀ x ∈ tX8_setPremium, decode cX8_setPremium x.1 = .ok (x.2.1, x.2.2) := by decide +kernel
theorem dX8_setPremium (i : Nat) {pc ln : Nat} {ins : Instr} (h : tX8_setPremium[i]? = some (pc, ins, ln)) : decode cX8_setPremium pc = .ok (ins, ln) := kX8_setPremium (pc, ins, ln) (List.mem_of_getElem? h)
def tX8_share : List zI := [(0, .aload_n 0, 1), (1, .iload_n 1, 1), (2, .invokevirtual 156, 3), (5, .astore 4, 2), (7, .iload_n 2, 1), (8, .invokestatic 187, 3), (11, .iload_n 3, 1), (12, .iconst 0, 1), (13, .bipush 100, 2), (15, .invokestatic 50, 3), (18, .ifCond .eq 13, 3), (21, .new 58, 3), (24, .dup, 1), (25, .ldc 191, 2), (27, .invokespecial 62, 3), (30, .athrow, 1), (31, .aload 4, 2), (33, .getfield 193, 3), (36, .iload_n 2, 1), (37, .iaload, 1), (38, .istore 5, 2), (40, .aload 4, 2), (42, .invokevirtual 197, 3), (45, .iload 5, 2), (47, .isub, 1), (48, .iload_n 3, 1), (49, .iadd, 1), (50, .bipush 100, 2), (52, .if_icmp .le 13, 3), (55, .new 103, 3), (58, .dup, 1), (59, .ldc 200, 2), (61, .invokespecial 107, 3), (64, .athrow, 1), (65, .aload 4, 2), (67, .getfield 193, 3), (70, .iload_n 2, 1), (71, .iload_n 3, 1), (72, .iastore, 1), (73, .iload 5, 2), (75, .ireturn, 1)]
theorem kX8_share : ∀ x ∈ tX8_share, decode cX8_share x.1 = .ok (x.2.1, x.2.2) := by decide +kernel
theorem dX8_share (i : Nat) {pc ln : Nat} {ins : Instr} (h : tX8_share[i]? = some (pc, ins, ln)) : decode cX8_share pc = .ok (ins, ln) := kX8_share (pc, ins, ln) (List.mem_of_getElem? h)
def tX8_fail : List zI := [(0, .iload_n 1, 1), (1, .invokestatic 187, 3), (4, .aload_n 0, 1), (5, .getfield 41, 3), (8, .getfield 202, 3), (11, .iload_n 1, 1), (12, .baload, 1), (13, .istore_n 3, 1), (14, .aload_n 0, 1), (15, .getfield 41, 3), (18, .getfield 202, 3), (21, .iload_n 1, 1), (22, .iload_n 2, 1), (23, .bastore, 1), (24, .iload_n 3, 1), (25, .ireturn, 1)]
theorem kX8_fail : ∀ x ∈ tX8_fail, decode cX8_fail x.1 = .ok (x.2.1, x.2.2) := by decide +kernel
theorem dX8_fail (i : Nat) {pc ln : Nat} {ins : Instr} (h : tX8_fail[i]? = some (pc, ins, ln)) : decode cX8_fail pc = .ok (ins, ln) := kX8_fail (pc, ins, ln) (List.mem_of_getElem? h)
def tX8_handOn : List zI := [(0, .iload_n 1, 1), (1, .invokestatic 187, 3), (4, .iload_n 2, 1), (5, .invokestatic 187, 3), (8, .iload_n 1, 1), (9, .iload_n 2, 1), (10, .if_icmp .eq 24, 3), (13, .iload_n 3, 1), (14, .iconst 0, 1), (15, .ldc 49, 2), (17, .invokestatic 50, 3), (20, .ifCond .ne 14, 3), (23, .iload 4, 2), (25, .iconst 0, 1), (26, .ldc 49, 2), (28, .invokestatic 50, 3), (31, .ifCond .eq 13, 3), (34, .new 58, 3), (37, .dup, 1), (38, .ldc 206, 2), (40, .invokespecial 62, 3), (43, .athrow, 1), (44, .aload_n 0, 1), (45, .getfield 41, 3), (48, .getfield 208, 3), (51, .iload_n 1, 1), (52, .iaload, 1), (53, .ifCond .le 7, 3), (56, .iconst 1, 1), (57, .goto 4, 3), (60, .iconst 0, 1), (61, .istore 5, 2), (63, .aload_n 0, 1), (64, .getfield 41, 3), (67, .getfield 211, 3), (70, .iload_n 1, 1), (71, .iload_n 2, 1), (72, .iastore, 1), (73, .aload_n 0, 1), (74, .getfield 41, 3), (77, .getfield 214, 3), (80, .iload_n 1, 1), (81, .iload_n 3, 1), (82, .iastore, 1), (83, .aload_n 0, 1), (84, .getfield 41, 3), (87, .getfield 208, 3), (90, .iload_n 1, 1), (91, .iload 4, 2), (93, .iastore, 1), (94, .iload 5, 2), (96, .ireturn, 1)]
theorem kX8_handOn : ∀ x ∈ tX8_handOn, decode cX8_handOn x.1 = .ok (x.2.1, x.2.2) := by decide +kernel
theorem dX8_handOn (i : Nat) {pc ln : Nat} {ins : Instr} (h : tX8_handOn[i]? = some (pc, ins, ln)) : decode cX8_handOn pc = .ok (ins, ln) := kX8_handOn (pc, ins, ln) (List.mem_of_getElem? h)
def tX8_commute : List zI := [(0, .aload_n 0, 1), (1, .iload_n 1, 1), (2, .invokevirtual 217, 3), (5, .astore_n 3, 1), (6, .iload_n 2, 1), (7, .iconst 0, 1), (8, .ldc 49, 2), (10, .invokestatic 50, 3), (13, .ifCond .eq 13, 3), (16, .new 58, 3), (19, .dup, 1), (20, .ldc 221, 2), (22, .invokespecial 62, 3), (25, .athrow, 1), (26, .aload_n 3, 1), (27, .getfield 223, 3), (30, .getfield 227, 3), (33, .ifCond .eq 13, 3), (36, .new 103, 3), (39, .dup, 1), (40, .ldc 230, 2), (42, .invokespecial 107, 3), (45, .athrow, 1), (46, .aload_n 0, 1), (47, .invokevirtual 232, 3), (50, .aload_n 3, 1), (51, .getfield 223, 3), (54, .iconst 1, 1), (55, .putfield 227, 3), (58, .aload_n 3, 1), (59, .getfield 223, 3), (62, .iload_n 2, 1), (63, .putfield 235, 3), (66, .aload_n 0, 1), (67, .iconst 0, 1), (68, .putfield 45, 3), (71, .aload_n 3, 1), (72, .getfield 238, 3), (75, .lreturn, 1)]
theorem kX8_commute : ∀ x ∈ tX8_commute, decode cX8_commute x.1 = .ok (x.2.1, x.2.2) := by decide +kernel
theorem dX8_commute (i : Nat) {pc ln : Nat} {ins : Instr} (h : tX8_commute[i]? = some (pc, ins, ln)) : decode cX8_commute pc = .ok (ins, ln) := kX8_commute (pc, ins, ln) (List.mem_of_getElem? h)
def tX8_left : List zI := [(0, .aload_n 0, 1), (1, .iload_n 1, 1), (2, .invokevirtual 118, 3), (5, .astore_n 2, 1), (6, .aload_n 0, 1), (7, .invokevirtual 232, 3), (10, .aload_n 2, 1), (11, .getfield 242, 3), (14, .lreturn, 1)]
theorem kX8_left : ∀ x ∈ tX8_left, decode cX8_left x.1 = .ok (x.2.1, x.2.2) := by decide +kernel
theorem dX8_left (i : Nat) {pc ln : Nat} {ins : Instr} (h : tX8_left[i]? = some (pc, ins, ln)) : decode cX8_left pc = .ok (ins, ln) := kX8_left (pc, ins, ln) (List.mem_of_getElem? h)
def tX8_taken : List zI := [(0, .aload_n 0, 1), (1, .invokevirtual 232, 3), (4, .aload_n 0, 1), (5, .iload_n 1, 1), (6, .invokevirtual 217, 3), (9, .getfield 238, 3), (12, .lreturn, 1)]
theorem kX8_taken : ∀ x ∈ tX8_taken, decode cX8_taken x.1 = .ok (x.2.1, x.2.2) := by decide +kernel
theorem dX8_taken (i : Nat) {pc ln : Nat} {ins : Instr} (h : tX8_taken[i]? = some (pc, ins, ln)) : decode cX8_taken pc = .ok (ins, ln) := kX8_taken (pc, ins, ln) (List.mem_of_getElem? h)
def tX8_takenFrom : List zI := [(0, .aload_n 0, 1), (1, .iload_n 1, 1), (2, .invokevirtual 156, 3), (5, .astore_n 3, 1), (6, .aload_n 0, 1), (7, .iload_n 2, 1), (8, .invokevirtual 118, 3), (11, .astore 4, 2), (13, .aload_n 0, 1), (14, .invokevirtual 232, 3), (17, .aload 4, 2), (19, .getfield 245, 3), (22, .aload_n 3, 1), (23, .getfield 153, 3), (26, .laload, 1), (27, .lreturn, 1)]
theorem kX8_takenFrom : ∀ x ∈ tX8_takenFrom, decode cX8_takenFrom x.1 = .ok (x.2.1, x.2.2) := by decide +kernel
theorem dX8_takenFrom (i : Nat) {pc ln : Nat} {ins : Instr} (h : tX8_takenFrom[i]? = some (pc, ins, ln)) : decode cX8_takenFrom pc = .ok (ins, ln) := kX8_takenFrom (pc, ins, ln) (List.mem_of_getElem? h)
def tX8_limit : List zI := [(0, .aload_n 0, 1), (1, .iload_n 1, 1), (2, .invokevirtual 217, 3), (5, .astore_n 2, 1), (6, .aload_n 2, 1), (7, .getfield 223, 3), (10, .invokevirtual 167, 3), (13, .ifCond .ne 13, 3), (16, .new 103, 3), (19, .dup, 1), (20, .ldc 249, 2), (22, .invokespecial 107, 3), (25, .athrow, 1), (26, .aload_n 2, 1), (27, .getfield 223, 3), (30, .getfield 227, 3), (33, .ifCond .eq 13, 3), (36, .new 69, 3), (39, .dup, 1), (40, .ldc 251, 2), (42, .invokespecial 73, 3), (45, .athrow, 1), (46, .aload_n 0, 1), (47, .invokevirtual 232, 3), (50, .aload_n 2, 1), (51, .getfield 253, 3), (54, .lreturn, 1)]
theorem kX8_limit : ∀ x ∈ tX8_limit, decode cX8_limit x.1 = .ok (x.2.1, x.2.2) := by decide +kernel
theorem dX8_limit (i : Nat) {pc ln : Nat} {ins : Instr} (h : tX8_limit[i]? = some (pc, ins, ln)) : decode cX8_limit pc = .ok (ins, ln) := kX8_limit (pc, ins, ln) (List.mem_of_getElem? h)
def tX8_reinstated : List zI := [(0, .aload_n 0, 1), (1, .invokevirtual 232, 3), (4, .aload_n 0, 1), (5, .iload_n 1, 1), (6, .invokevirtual 217, 3), (9, .getfield 256, 3), (12, .lreturn, 1)]
theorem kX8_reinstated : ∀ x ∈ tX8_reinstated, decode cX8_reinstated x.1 = .ok (x.2.1, x.2.2) := by decide +kernel
theorem dX8_reinstated (i : Nat) {pc ln : Nat} {ins : Instr} (h : tX8_reinstated[i]? = some (pc, ins, ln)) : decode cX8_reinstated pc = .ok (ins, ln) := kX8_reinstated (pc, ins, ln) (List.mem_of_getElem? h)
def tX8_owed : List zI := [(0, .aload_n 0, 1), (1, .invokevirtual 232, 3), (4, .aload_n 0, 1), (5, .iload_n 1, 1), (6, .invokevirtual 217, 3), (9, .getfield 259, 3), (12, .lreturn, 1)]
theorem kX8_owed : ∀ x ∈ tX8_owed, decode cX8_owed x.1 = .ok (x.2.1, x.2.2) := by decide +kernel
theorem dX8_owed (i : Nat) {pc ln : Nat} {ins : Instr} (h : tX8_owed[i]? = some (pc, ins, ln)) : decode cX8_owed pc = .ok (ins, ln) := kX8_owed (pc, ins, ln) (List.mem_of_getElem? h)
def tX8_events : List zI := [(0, .aload_n 0, 1), (1, .iload_n 1, 1), (2, .invokevirtual 217, 3), (5, .astore_n 3, 1), (6, .iload_n 2, 1), (7, .iconst 0, 1), (8, .iconst 3, 1), (9, .invokestatic 50, 3), (12, .ifCond .eq 14, 3), (15, .new 58, 3), (18, .dup, 1), (19, .ldc_w 262, 3), (22, .invokespecial 62, 3), (25, .athrow, 1), (26, .aload_n 3, 1), (27, .getfield 223, 3), (30, .invokestatic 264, 3), (33, .aload_n 0, 1), (34, .invokevirtual 232, 3), (37, .aload_n 3, 1), (38, .getfield 267, 3), (41, .iload_n 2, 1), (42, .iaload, 1), (43, .ireturn, 1)]
theorem kX8_events : ∀ x ∈ tX8_events, decode cX8_events x.1 = .ok (x.2.1, x.2.2) := by decide +kernel
theorem dX8_events (i : Nat) {pc ln : Nat} {ins : Instr} (h : tX8_events[i]? = some (pc, ins, ln)) : decode cX8_events pc = .ok (ins, ln) := kX8_events (pc, ins, ln) (List.mem_of_getElem? h)
def tX8_isSame : List zI := [(0, .aload_n 0, 1), (1, .iload_n 1, 1), (2, .invokevirtual 156, 3), (5, .astore_n 2, 1), (6, .aload_n 2, 1), (7, .invokestatic 264, 3), (10, .aload_n 0, 1), (11, .getfield 31, 3), (14, .aload_n 2, 1), (15, .invokevirtual 276, 3), (18, .ireturn, 1)]
theorem kX8_isSame : ∀ x ∈ tX8_isSame, decode cX8_isSame x.1 = .ok (x.2.1, x.2.2) := by decide +kernel
theorem dX8_isSame (i : Nat) {pc ln : Nat} {ins : Instr} (h : tX8_isSame[i]? = some (pc, ins, ln)) : decode cX8_isSame pc = .ok (ins, ln) := kX8_isSame (pc, ins, ln) (List.mem_of_getElem? h)
def tX8_paid : List zI := [(0, .aload_n 0, 1), (1, .iload_n 1, 1), (2, .invokevirtual 156, 3), (5, .astore_n 3, 1), (6, .iload_n 2, 1), (7, .invokestatic 187, 3), (10, .aload_n 0, 1), (11, .invokevirtual 232, 3), (14, .aload_n 0, 1), (15, .getfield 41, 3), (18, .getfield 202, 3), (21, .iload_n 2, 1), (22, .baload, 1), (23, .ifCond .eq 7, 3), (26, .lconst 0, 1), (27, .goto 12, 3), (30, .aload_n 0, 1), (31, .getfield 31, 3), (34, .aload_n 3, 1), (35, .iload_n 2, 1), (36, .invokevirtual 280, 3), (39, .lreturn, 1)]
theorem kX8_paid : ∀ x ∈ tX8_paid, decode cX8_paid x.1 = .ok (x.2.1, x.2.2) := by decide +kernel
theorem dX8_paid (i : Nat) {pc ln : Nat} {ins : Instr} (h : tX8_paid[i]? = some (pc, ins, ln)) : decode cX8_paid pc = .ok (ins, ln) := kX8_paid (pc, ins, ln) (List.mem_of_getElem? h)
def tX8_lost : List zI := [(0, .iload_n 1, 1), (1, .invokestatic 187, 3), (4, .aload_n 0, 1), (5, .invokevirtual 232, 3), (8, .aload_n 0, 1), (9, .getfield 41, 3), (12, .getfield 202, 3), (15, .iload_n 1, 1), (16, .baload, 1), (17, .ifCond .eq 14, 3), (20, .aload_n 0, 1), (21, .getfield 31, 3), (24, .iload_n 1, 1), (25, .invokevirtual 284, 3), (28, .goto 4, 3), (31, .lconst 0, 1), (32, .lreturn, 1)]
theorem kX8_lost : ∀ x ∈ tX8_lost, decode cX8_lost x.1 = .ok (x.2.1, x.2.2) := by decide +kernel
theorem dX8_lost (i : Nat) {pc ln : Nat} {ins : Instr} (h : tX8_lost[i]? = some (pc, ins, ln)) : decode cX8_lost pc = .ok (ins, ln) := kX8_lost (pc, ins, ln) (List.mem_of_getElem? h)
def tX8_comes : List zI := [(0, .iload_n 1, 1), (1, .invokestatic 187, 3), (4, .aload_n 0, 1), (5, .invokevirtual 288, 3), (8, .aload_n 0, 1), (9, .getfield 41, 3), (12, .getfield 291, 3), (15, .iload_n 1, 1), (16, .laload, 1), (17, .lreturn, 1)]
theorem kX8_comes : ∀ x ∈ tX8_comes, decode cX8_comes x.1 = .ok (x.2.1, x.2.2) := by decide +kernel
theorem dX8_comes (i : Nat) {pc ln : Nat} {ins : Instr} (h : tX8_comes[i]? = some (pc, ins, ln)) : decode cX8_comes pc = .ok (ins, ln) := kX8_comes (pc, ins, ln) (List.mem_of_getElem? h)
def tX8_stays : List zI := [(0, .iload_n 1, 1), (1, .invokestatic 187, 3), (4, .aload_n 0, 1), (5, .invokevirtual 288, 3), (8, .aload_n 0, 1), (9, .getfield 41, 3), (12, .getfield 291, 3), (15, .iload_n 1, 1), (16, .laload, 1), (17, .aload_n 0, 1), (18, .getfield 41, 3), (21, .iload_n 1, 1), (22, .aload_n 0, 1), (23, .getfield 41, 3), (26, .getfield 291, 3), (29, .iload_n 1, 1), (30, .laload, 1), (31, .invokevirtual 294, 3), (34, .lsub, 1), (35, .lreturn, 1)]
theorem kX8_stays : ∀ x ∈ tX8_stays, decode cX8_stays x.1 = .ok (x.2.1, x.2.2) := by decide +kernel
theorem dX8_stays (i : Nat) {pc ln : Nat} {ins : Instr} (h : tX8_stays[i]? = some (pc, ins, ln)) : decode cX8_stays pc = .ok (ins, ln) := kX8_stays (pc, ins, ln) (List.mem_of_getElem? h)
def tX8_net_p0 : List zI := [(0, .aload_n 0, 1), (1, .invokevirtual 232, 3), (4, .aload_n 0, 1), (5, .getfield 31, 3), (8, .invokevirtual 298, 3), (11, .lstore_n 1, 1), (12, .iconst 0, 1), (13, .istore_n 3, 1), (14, .iload_n 3, 1), (15, .aload_n 0, 1), (16, .getfield 31, 3), (19, .getfield 145, 3), (22, .invokevirtual 65, 3), (25, .if_icmp .ge 73, 3), (28, .aload_n 0, 1), (29, .getfield 31, 3), (32, .getfield 145, 3), (35, .iload_n 3, 1), (36, .invokevirtual 95, 3), (39, .checkcast 148, 3), (42, .astore 4, 2), (44, .lload_n 1, 1), (45, .aload 4, 2), (47, .getfield 259, 3), (50, .ladd, 1), (51, .lstore_n 1, 1), (52, .aload 4, 2), (54, .getfield 223, 3), (57, .getfield 227, 3), (60, .ifCond .eq 24, 3), (63, .lload_n 1, 1), (64, .aload 4, 2), (66, .getfield 238, 3), (69, .aload 4, 2), (71, .getfield 223, 3), (74, .getfield 235, 3), (77, .i2l, 1), (78, .ladd, 1), (79, .lsub, 1), (80, .lstore_n 1, 1), (81, .goto 11, 3), (84, .lload_n 1, 1), (85, .aload 4, 2), (87, .getfield 238, 3), (90, .ladd, 1), (91, .lstore_n 1, 1), (92, .iinc 3 1, 3), (95, .goto (-81), 3), (98, .iconst 0, 1), (99, .istore_n 3, 1)]
theorem kX8_net_p0 : ∀ x ∈ tX8_net_p0, decode cX8_net x.1 = .ok (x.2.1, x.2.2) := by decide +kernel
theorem dX8_net_p0 (i : Nat) {pc ln : Nat} {ins : Instr} (h : tX8_net_p0[i]? = some (pc, ins, ln)) : decode cX8_net pc = .ok (ins, ln) := kX8_net_p0 (pc, ins, ln) (List.mem_of_getElem? h)
def tX8_net_p1 : List zI := [(100, .iload_n 3, 1), (101, .iconst 5, 1), (102, .if_icmp .ge 32, 3), (105, .aload_n 0, 1), (106, .getfield 41, 3), (109, .getfield 202, 3), (112, .iload_n 3, 1), (113, .baload, 1), (114, .ifCond .ne 14, 3), (117, .lload_n 1, 1), (118, .aload_n 0, 1), (119, .getfield 31, 3), (122, .iload_n 3, 1), (123, .invokevirtual 284, 3), (126, .lsub, 1), (127, .lstore_n 1, 1), (128, .iinc 3 1, 3), (131, .goto (-31), 3), (134, .lload_n 1, 1), (135, .lreturn, 1)]
theorem kX8_net_p1 : ∀ x ∈ tX8_net_p1, decode cX8_net x.1 = .ok (x.2.1, x.2.2) := by decide +kernel
theorem dX8_net_p1 (i : Nat) {pc ln : Nat} {ins : Instr} (h : tX8_net_p1[i]? = some (pc, ins, ln)) : decode cX8_net pc = .ok (ins, ln) := kX8_net_p1 (pc, ins, ln) (List.mem_of_getElem? h)
def tX8_scenario : List zI := [(0, .iload_n 1, 1), (1, .iconst 0, 1), (2, .sipush 999, 3), (5, .invokestatic 50, 3), (8, .ifCond .ne 13, 3), (11, .iload_n 2, 1), (12, .iconst 1, 1), (13, .bipush 9, 2), (15, .invokestatic 50, 3), (18, .ifCond .eq 14, 3), (21, .new 58, 3), (24, .dup, 1), (25, .ldc_w 302, 3), (28, .invokespecial 62, 3), (31, .athrow, 1), (32, .aload_n 0, 1), (33, .getfield 22, 3), (36, .invokevirtual 65, 3), (39, .bipush 12, 2), (41, .if_icmp .lt 14, 3), (44, .new 69, 3), (47, .dup, 1), (48, .ldc_w 304, 3), (51, .invokespecial 73, 3), (54, .athrow, 1), (55, .aload_n 0, 1), (56, .getfield 22, 3), (59, .new 306, 3), (62, .dup, 1), (63, .iload_n 1, 1), (64, .iload_n 2, 1), (65, .invokespecial 308, 3), (68, .invokevirtual 79, 3), (71, .pop, 1), (72, .aload_n 0, 1), (73, .getfield 22, 3), (76, .invokevirtual 65, 3), (79, .iconst 1, 1), (80, .isub, 1), (81, .ireturn, 1)]
theorem kX8_scenario : ∀ x ∈ tX8_scenario, decode cX8_scenario x.1 = .ok (x.2.1, x.2.2) := by decide +kernel
theorem dX8_scenario (i : Nat) {pc ln : Nat} {ins : Instr} (h : tX8_scenario[i]? = some (pc, ins, ln)) : decode cX8_scenario pc = .ok (ins, ln) := kX8_scenario (pc, ins, ln) (List.mem_of_getElem? h)
def tX8_damage : List zI := [(0, .aload_n 0, 1), (1, .iload_n 1, 1), (2, .invokevirtual 311, 3), (5, .astore 4, 2), (7, .iload_n 2, 1), (8, .iconst 0, 1), (9, .iconst 3, 1), (10, .invokestatic 50, 3), (13, .ifCond .ne 13, 3), (16, .iload_n 3, 1), (17, .iconst 0, 1), (18, .bipush 100, 2), (20, .invokestatic 50, 3), (23, .ifCond .eq 14, 3), (26, .new 58, 3), (29, .dup, 1), (30, .ldc_w 315, 3), (33, .invokespecial 62, 3), (36, .athrow, 1), (37, .aload 4, 2), (39, .getfield 317, 3), (42, .iload_n 2, 1), (43, .iaload, 1), (44, .istore 5, 2), (46, .aload 4, 2), (48, .getfield 317, 3), (51, .iload_n 2, 1), (52, .iload_n 3, 1), (53, .iastore, 1), (54, .iload 5, 2), (56, .ireturn, 1)]
theorem kX8_damage : ∀ x ∈ tX8_damage, decode cX8_damage x.1 = .ok (x.2.1, x.2.2) := by decide +kernel
theorem dX8_damage (i : Nat) {pc ln : Nat} {ins : Instr} (h : tX8_damage[i]? = some (pc, ins, ln)) : decode cX8_damage pc = .ok (ins, ln) := kX8_damage (pc, ins, ln) (List.mem_of_getElem? h)
def tX8_scenarioNet : List zI := [(0, .aload_n 0, 1), (1, .iload_n 1, 1), (2, .invokevirtual 311, 3), (5, .astore_n 2, 1), (6, .aload_n 0, 1), (7, .aload_n 2, 1), (8, .invokevirtual 319, 3), (11, .aload_n 2, 1), (12, .getfield 323, 3), (15, .lreturn, 1)]
theorem kX8_scenarioNet : ∀ x ∈ tX8_scenarioNet, decode cX8_scenarioNet x.1 = .ok (x.2.1, x.2.2) := by decide +kernel
theorem dX8_scenarioNet (i : Nat) {pc ln : Nat} {ins : Instr} (h : tX8_scenarioNet[i]? = some (pc, ins, ln)) : decode cX8_scenarioNet pc = .ok (ins, ln) := kX8_scenarioNet (pc, ins, ln) (List.mem_of_getElem? h)
def tX8_tail : List zI := [(0, .iload_n 1, 1), (1, .iconst 0, 1), (2, .bipush 99, 2), (4, .invokestatic 50, 3), (7, .ifCond .eq 14, 3), (10, .new 58, 3), (13, .dup, 1), (14, .ldc_w 326, 3), (17, .invokespecial 62, 3), (20, .athrow, 1), (21, .aload_n 0, 1), (22, .getfield 22, 3), (25, .invokevirtual 328, 3), (28, .ifCond .eq 14, 3), (31, .new 271, 3), (34, .dup, 1), (35, .ldc_w 331, 3), (38, .invokespecial 275, 3), (41, .athrow, 1), (42, .aload_n 0, 1), (43, .invokevirtual 333, 3), (46, .iload_n 1, 1), (47, .aload_n 0, 1), (48, .ldc2_w 336, 3), (51, .invokevirtual 338, 3), (54, .imul, 1), (55, .istore_n 2, 1), (56, .ldc2_w 342, 3), (59, .lstore_n 3, 1), (60, .iconst 0, 1), (61, .istore 5, 2), (63, .iload 5, 2), (65, .aload_n 0, 1), (66, .getfield 22, 3), (69, .invokevirtual 65, 3), (72, .if_icmp .ge 49, 3), (75, .aload_n 0, 1), (76, .getfield 22, 3), (79, .iload 5, 2), (81, .invokevirtual 95, 3), (84, .checkcast 306, 3), (87, .getfield 323, 3), (90, .lstore 6, 2), (92, .lload 6, 2), (94, .lload_n 3, 1), (95, .lcmp, 1), (96, .ifCond .ge 19, 3), (99, .aload_n 0, 1), (100, .lload 6, 2), (102, .invokevirtual 338, 3), (105, .bipush 100, 2), (107, .imul, 1), (108, .iload_n 2, 1), (109, .if_icmp .gt 6, 3), (112, .lload 6, 2), (114, .lstore_n 3, 1), (115, .iinc 5 1, 3), (118, .goto (-55), 3), (121, .lload_n 3, 1), (122, .lreturn, 1)]
theorem kX8_tail : ∀ x ∈ tX8_tail, decode cX8_tail x.1 = .ok (x.2.1, x.2.2) := by decide +kernel
theorem dX8_tail (i : Nat) {pc ln : Nat} {ins : Instr} (h : tX8_tail[i]? = some (pc, ins, ln)) : decode cX8_tail pc = .ok (ins, ln) := kX8_tail (pc, ins, ln) (List.mem_of_getElem? h)
def tX8_losses : List zI := [(0, .aload_n 0, 1), (1, .getfield 16, 3), (4, .invokevirtual 65, 3), (7, .ireturn, 1)]
theorem kX8_losses : ∀ x ∈ tX8_losses, decode cX8_losses x.1 = .ok (x.2.1, x.2.2) := by decide +kernel
theorem dX8_losses (i : Nat) {pc ln : Nat} {ins : Instr} (h : tX8_losses[i]? = some (pc, ins, ln)) : decode cX8_losses pc = .ok (ins, ln) := kX8_losses (pc, ins, ln) (List.mem_of_getElem? h)
def tX8_allLosses : List zI := [(0, .lconst 0, 1), (1, .lstore_n 1, 1), (2, .iconst 0, 1), (3, .istore_n 3, 1), (4, .iload_n 3, 1), (5, .aload_n 0, 1), (6, .getfield 16, 3), (9, .invokevirtual 65, 3), (12, .if_icmp .ge 27, 3), (15, .lload_n 1, 1), (16, .aload_n 0, 1), (17, .getfield 16, 3), (20, .iload_n 3, 1), (21, .invokevirtual 95, 3), (24, .checkcast 83, 3), (27, .getfield 124, 3), (30, .i2l, 1), (31, .ladd, 1), (32, .lstore_n 1, 1), (33, .iinc 3 1, 3), (36, .goto (-32), 3), (39, .lload_n 1, 1), (40, .lreturn, 1)]
theorem kX8_allLosses : ∀ x ∈ tX8_allLosses, decode cX8_allLosses x.1 = .ok (x.2.1, x.2.2) := by decide +kernel
theorem dX8_allLosses (i : Nat) {pc ln : Nat} {ins : Instr} (h : tX8_allLosses[i]? = some (pc, ins, ln)) : decode cX8_allLosses pc = .ok (ins, ln) := kX8_allLosses (pc, ins, ln) (List.mem_of_getElem? h)
def tX8_meanNet : List zI := [(0, .aload_n 0, 1), (1, .getfield 22, 3), (4, .invokevirtual 328, 3), (7, .ifCond .eq 14, 3), (10, .new 347, 3), (13, .dup, 1), (14, .ldc_w 331, 3), (17, .invokespecial 351, 3), (20, .athrow, 1), (21, .aload_n 0, 1), (22, .invokevirtual 333, 3), (25, .lconst 0, 1), (26, .lstore_n 1, 1), (27, .lconst 0, 1), (28, .lstore_n 3, 1), (29, .iconst 0, 1), (30, .istore 5, 2), (32, .iload 5, 2), (34, .aload_n 0, 1), (35, .getfield 22, 3), (38, .invokevirtual 65, 3), (41, .if_icmp .ge 47, 3), (44, .aload_n 0, 1), (45, .getfield 22, 3), (48, .iload 5, 2), (50, .invokevirtual 95, 3), (53, .checkcast 306, 3), (56, .astore 6, 2), (58, .lload_n 1, 1), (59, .aload 6, 2), (61, .getfield 323, 3), (64, .aload 6, 2), (66, .getfield 352, 3), (69, .i2l, 1), (70, .lmul, 1), (71, .ladd, 1), (72, .lstore_n 1, 1), (73, .lload_n 3, 1), (74, .aload 6, 2), (76, .getfield 352, 3), (79, .i2l, 1), (80, .ladd, 1), (81, .lstore_n 3, 1), (82, .iinc 5 1, 3), (85, .goto (-53), 3), (88, .lload_n 1, 1), (89, .l2d, 1), (90, .lload_n 3, 1), (91, .l2d, 1), (92, .ddiv, 1), (93, .dreturn, 1)]
theorem kX8_meanNet : ∀ x ∈ tX8_meanNet, decode cX8_meanNet x.1 = .ok (x.2.1, x.2.2) := by decide +kernel
theorem dX8_meanNet (i : Nat) {pc ln : Nat} {ins : Instr} (h : tX8_meanNet[i]? = some (pc, ins, ln)) : decode cX8_meanNet pc = .ok (ins, ln) := kX8_meanNet (pc, ins, ln) (List.mem_of_getElem? h)
def tX8_isSound : List zI := [(0, .aload_n 0, 1), (1, .invokevirtual 288, 3), (4, .aload_n 0, 1), (5, .getfield 31, 3), (8, .invokevirtual 355, 3), (11, .ifCond .eq 27, 3), (14, .aload_n 0, 1), (15, .getfield 31, 3), (18, .invokevirtual 358, 3), (21, .ifCond .eq 17, 3), (24, .aload_n 0, 1), (25, .getfield 41, 3), (28, .invokevirtual 361, 3), (31, .ifCond .eq 7, 3), (34, .iconst 1, 1), (35, .goto 4, 3), (38, .iconst 0, 1), (39, .ireturn, 1)]
theorem kX8_isSound : ∀ x ∈ tX8_isSound, decode cX8_isSound x.1 = .ok (x.2.1, x.2.2) := by decide +kernel
theorem dX8_isSound (i : Nat) {pc ln : Nat} {ins : Instr} (h : tX8_isSound[i]? = some (pc, ins, ln)) : decode cX8_isSound pc = .ok (ins, ln) := kX8_isSound (pc, ins, ln) (List.mem_of_getElem? h)
def tX8_isOut : List zI := [(0, .iload_n 0, 1), (1, .iload_n 1, 1), (2, .if_icmp .lt 8, 3), (5, .iload_n 0, 1), (6, .iload_n 2, 1), (7, .if_icmp .le 7, 3), (10, .iconst 1, 1), (11, .goto 4, 3), (14, .iconst 0, 1), (15, .ireturn, 1)]
theorem kX8_isOut : ∀ x ∈ tX8_isOut, decode cX8_isOut x.1 = .ok (x.2.1, x.2.2) := by decide +kernel
theorem dX8_isOut (i : Nat) {pc ln : Nat} {ins : Instr} (h : tX8_isOut[i]? = some (pc, ins, ln)) : decode cX8_isOut pc = .ok (ins, ln) := kX8_isOut (pc, ins, ln) (List.mem_of_getElem? h)
def tX8_isSpan : List zI := [(0, .iload_n 0, 1), (1, .ifCond .lt 19, 3), (4, .iload_n 0, 1), (5, .iload_n 1, 1), (6, .if_icmp .gt 14, 3), (9, .iload_n 1, 1), (10, .sipush 999, 3), (13, .if_icmp .gt 7, 3), (16, .iconst 1, 1), (17, .goto 4, 3), (20, .iconst 0, 1), (21, .ireturn, 1)]
theorem kX8_isSpan : ∀ x ∈ tX8_isSpan, decode cX8_isSpan x.1 = .ok (x.2.1, x.2.2) := by decide +kernel
theorem dX8_isSpan (i : Nat) {pc ln : Nat} {ins : Instr} (h : tX8_isSpan[i]? = some (pc, ins, ln)) : decode cX8_isSpan pc = .ok (ins, ln) := kX8_isSpan (pc, ins, ln) (List.mem_of_getElem? h)
def tX8_isBasis : List zI := [(0, .iload_n 0, 1), (1, .bipush 111, 2), (3, .if_icmp .eq 15, 3), (6, .iload_n 0, 1), (7, .bipush 97, 2), (9, .if_icmp .eq 9, 3), (12, .iload_n 0, 1), (13, .bipush 99, 2), (15, .if_icmp .ne 7, 3), (18, .iconst 1, 1), (19, .goto 4, 3), (22, .iconst 0, 1), (23, .ireturn, 1)]
theorem kX8_isBasis : ∀ x ∈ tX8_isBasis, decode cX8_isBasis x.1 = .ok (x.2.1, x.2.2) := by decide +kernel
theorem dX8_isBasis (i : Nat) {pc ln : Nat} {ins : Instr} (h : tX8_isBasis[i]? = some (pc, ins, ln)) : decode cX8_isBasis pc = .ok (ins, ln) := kX8_isBasis (pc, ins, ln) (List.mem_of_getElem? h)
def tX8_fitsKind : List zI := [(0, .iload_n 0, 1), (1, .bipush 113, 2), (3, .if_icmp .ne 19, 3), (6, .iload_n 1, 1), (7, .iconst 0, 1), (8, .bipush 100, 2), (10, .invokestatic 50, 3), (13, .ifCond .ne 7, 3), (16, .iconst 1, 1), (17, .goto 4, 3), (20, .iconst 0, 1), (21, .ireturn, 1), (22, .iload_n 0, 1), (23, .bipush 115, 2), (25, .if_icmp .ne 29, 3), (28, .iload_n 1, 1), (29, .iconst 1, 1), (30, .ldc 49, 2), (32, .invokestatic 50, 3), (35, .ifCond .ne 17, 3), (38, .iload_n 2, 1), (39, .iconst 1, 1), (40, .bipush 20, 2), (42, .invokestatic 50, 3), (45, .ifCond .ne 7, 3), (48, .iconst 1, 1), (49, .goto 4, 3), (52, .iconst 0, 1), (53, .ireturn, 1), (54, .iload_n 0, 1), (55, .bipush 114, 2), (57, .if_icmp .eq 15, 3), (60, .iload_n 0, 1), (61, .bipush 101, 2), (63, .if_icmp .eq 9, 3), (66, .iload_n 0, 1), (67, .bipush 97, 2), (69, .if_icmp .ne 27, 3), (72, .iload_n 1, 1), (73, .iconst 0, 1), (74, .ldc 49, 2), (76, .invokestatic 50, 3), (79, .ifCond .ne 17, 3), (82, .iload_n 2, 1), (83, .iconst 1, 1), (84, .ldc 49, 2), (86, .invokestatic 50, 3), (89, .ifCond .ne 7, 3), (92, .iconst 1, 1), (93, .goto 4, 3), (96, .iconst 0, 1), (97, .ireturn, 1)]
theorem kX8_fitsKind : ∀ x ∈ tX8_fitsKind, decode cX8_fitsKind x.1 = .ok (x.2.1, x.2.2) := by decide +kernel
theorem dX8_fitsKind (i : Nat) {pc ln : Nat} {ins : Instr} (h : tX8_fitsKind[i]? = some (pc, ins, ln)) : decode cX8_fitsKind pc = .ok (ins, ln) := kX8_fitsKind (pc, ins, ln) (List.mem_of_getElem? h)
def tX8_claimAt : List zI := [(0, .iload_n 1, 1), (1, .iconst 0, 1), (2, .aload_n 0, 1), (3, .getfield 16, 3), (6, .invokevirtual 65, 3), (9, .iconst 1, 1), (10, .isub, 1), (11, .invokestatic 50, 3), (14, .ifCond .eq 14, 3), (17, .new 88, 3), (20, .dup, 1), (21, .ldc_w 364, 3), (24, .invokespecial 92, 3), (27, .athrow, 1), (28, .aload_n 0, 1), (29, .getfield 16, 3), (32, .iload_n 1, 1), (33, .invokevirtual 95, 3), (36, .checkcast 83, 3), (39, .areturn, 1)]
theorem kX8_claimAt : ∀ x ∈ tX8_claimAt, decode cX8_claimAt x.1 = .ok (x.2.1, x.2.2) := by decide +kernel
theorem dX8_claimAt (i : Nat) {pc ln : Nat} {ins : Instr} (h : tX8_claimAt[i]? = some (pc, ins, ln)) : decode cX8_claimAt pc = .ok (ins, ln) := kX8_claimAt (pc, ins, ln) (List.mem_of_getElem? h)
def tX8_treatyAt : List zI := [(0, .iload_n 1, 1), (1, .iconst 0, 1), (2, .aload_n 0, 1), (3, .getfield 19, 3), (6, .invokevirtual 65, 3), (9, .iconst 1, 1), (10, .isub, 1), (11, .invokestatic 50, 3), (14, .ifCond .eq 13, 3), (17, .new 88, 3), (20, .dup, 1), (21, .ldc 136, 2), (23, .invokespecial 92, 3), (26, .athrow, 1), (27, .aload_n 0, 1), (28, .getfield 19, 3), (31, .iload_n 1, 1), (32, .invokevirtual 95, 3), (35, .checkcast 140, 3), (38, .areturn, 1)]
theorem kX8_treatyAt : ∀ x ∈ tX8_treatyAt, decode cX8_treatyAt x.1 = .ok (x.2.1, x.2.2) := by decide +kernel
theorem dX8_treatyAt (i : Nat) {pc ln : Nat} {ins : Instr} (h : tX8_treatyAt[i]? = some (pc, ins, ln)) : decode cX8_treatyAt pc = .ok (ins, ln) := kX8_treatyAt (pc, ins, ln) (List.mem_of_getElem? h)
def tX8_coverAt : List zI := [(0, .iload_n 1, 1), (1, .iconst 0, 1), (2, .aload_n 0, 1), (3, .getfield 31, 3), (6, .getfield 145, 3), (9, .invokevirtual 65, 3), (12, .iconst 1, 1), (13, .isub, 1), (14, .invokestatic 50, 3), (17, .ifCond .eq 13, 3), (20, .new 88, 3), (23, .dup, 1), (24, .ldc 136, 2), (26, .invokespecial 92, 3), (29, .athrow, 1), (30, .aload_n 0, 1), (31, .getfield 31, 3), (34, .getfield 145, 3), (37, .iload_n 1, 1), (38, .invokevirtual 95, 3), (41, .checkcast 148, 3), (44, .areturn, 1)]
theorem kX8_coverAt : ∀ x ∈ tX8_coverAt, decode cX8_coverAt x.1 = .ok (x.2.1, x.2.2) := by decide +kernel
theorem dX8_coverAt (i : Nat) {pc ln : Nat} {ins : Instr} (h : tX8_coverAt[i]? = some (pc, ins, ln)) : decode cX8_coverAt pc = .ok (ins, ln) := kX8_coverAt (pc, ins, ln) (List.mem_of_getElem? h)
def tX8_scenarioAt : List zI := [(0, .iload_n 1, 1), (1, .iconst 0, 1), (2, .aload_n 0, 1), (3, .getfield 22, 3), (6, .invokevirtual 65, 3), (9, .iconst 1, 1), (10, .isub, 1), (11, .invokestatic 50, 3), (14, .ifCond .eq 14, 3), (17, .new 88, 3), (20, .dup, 1), (21, .ldc_w 366, 3), (24, .invokespecial 92, 3), (27, .athrow, 1), (28, .aload_n 0, 1), (29, .getfield 22, 3), (32, .iload_n 1, 1), (33, .invokevirtual 95, 3), (36, .checkcast 306, 3), (39, .areturn, 1)]
theorem kX8_scenarioAt : ∀ x ∈ tX8_scenarioAt, decode cX8_scenarioAt x.1 = .ok (x.2.1, x.2.2) := by decide +kernel
theorem dX8_scenarioAt (i : Nat) {pc ln : Nat} {ins : Instr} (h : tX8_scenarioAt[i]? = some (pc, ins, ln)) : decode cX8_scenarioAt pc = .ok (ins, ln) := kX8_scenarioAt (pc, ins, ln) (List.mem_of_getElem? h)
def tX8_checkReinsurer : List zI := [(0, .iload_n 0, 1), (1, .iconst 0, 1), (2, .iconst 4, 1), (3, .invokestatic 50, 3), (6, .ifCond .eq 14, 3), (9, .new 88, 3), (12, .dup, 1), (13, .ldc_w 368, 3), (16, .invokespecial 92, 3), (19, .athrow, 1), (20, .return_, 1)]
theorem kX8_checkReinsurer : ∀ x ∈ tX8_checkReinsurer, decode cX8_checkReinsurer x.1 = .ok (x.2.1, x.2.2) := by decide +kernel
theorem dX8_checkReinsurer (i : Nat) {pc ln : Nat} {ins : Instr} (h : tX8_checkReinsurer[i]? = some (pc, ins, ln)) : decode cX8_checkReinsurer pc = .ok (ins, ln) := kX8_checkReinsurer (pc, ins, ln) (List.mem_of_getElem? h)
def tX8_checkHasEvents : List zI := [(0, .aload_n 0, 1), (1, .getfield 370, 3), (4, .bipush 101, 2), (6, .if_icmp .eq 14, 3), (9, .new 103, 3), (12, .dup, 1), (13, .ldc_w 374, 3), (16, .invokespecial 107, 3), (19, .athrow, 1), (20, .return_, 1)]
theorem kX8_checkHasEvents : ∀ x ∈ tX8_checkHasEvents, decode cX8_checkHasEvents x.1 = .ok (x.2.1, x.2.2) := by decide +kernel
theorem dX8_checkHasEvents (i : Nat) {pc ln : Nat} {ins : Instr} (h : tX8_checkHasEvents[i]? = some (pc, ins, ln)) : decode cX8_checkHasEvents pc = .ok (ins, ln) := kX8_checkHasEvents (pc, ins, ln) (List.mem_of_getElem? h)
def tX8_settle : List zI := [(0, .aload_n 0, 1), (1, .getfield 45, 3), (4, .ifCond .ne 16, 3), (7, .aload_n 0, 1), (8, .getfield 31, 3), (11, .iconst (-1), 1), (12, .invokevirtual 376, 3), (15, .aload_n 0, 1), (16, .iconst 1, 1), (17, .putfield 45, 3), (20, .return_, 1)]
theorem kX8_settle : ∀ x ∈ tX8_settle, decode cX8_settle x.1 = .ok (x.2.1, x.2.2) := by decide +kernel
theorem dX8_settle (i : Nat) {pc ln : Nat} {ins : Instr} (h : tX8_settle[i]? = some (pc, ins, ln)) : decode cX8_settle pc = .ok (ins, ln) := kX8_settle (pc, ins, ln) (List.mem_of_getElem? h)
def tX8_settlePool : List zI := [(0, .aload_n 0, 1), (1, .invokevirtual 232, 3), (4, .iconst 0, 1), (5, .istore_n 1, 1), (6, .iload_n 1, 1), (7, .iconst 5, 1), (8, .if_icmp .ge 42, 3), (11, .aload_n 0, 1), (12, .getfield 41, 3), (15, .getfield 379, 3), (18, .iload_n 1, 1), (19, .aload_n 0, 1), (20, .getfield 41, 3), (23, .getfield 202, 3), (26, .iload_n 1, 1), (27, .baload, 1), (28, .ifCond .eq 7, 3), (31, .lconst 0, 1), (32, .goto 11, 3), (35, .aload_n 0, 1), (36, .getfield 31, 3), (39, .iload_n 1, 1), (40, .invokevirtual 284, 3), (43, .lastore, 1), (44, .iinc 1 1, 3), (47, .goto (-41), 3), (50, .aload_n 0, 1), (51, .getfield 41, 3), (54, .invokevirtual 382, 3), (57, .return_, 1)]
theorem kX8_settlePool : ∀ x ∈ tX8_settlePool, decode cX8_settlePool x.1 = .ok (x.2.1, x.2.2) := by decide +kernel
theorem dX8_settlePool (i : Nat) {pc ln : Nat} {ins : Instr} (h : tX8_settlePool[i]? = some (pc, ins, ln)) : decode cX8_settlePool pc = .ok (ins, ln) := kX8_settlePool (pc, ins, ln) (List.mem_of_getElem? h)
def tX8_playAll : List zI := [(0, .iconst 0, 1), (1, .istore_n 1, 1), (2, .iload_n 1, 1), (3, .aload_n 0, 1), (4, .getfield 22, 3), (7, .invokevirtual 65, 3), (10, .if_icmp .ge 24, 3), (13, .aload_n 0, 1), (14, .aload_n 0, 1), (15, .getfield 22, 3), (18, .iload_n 1, 1), (19, .invokevirtual 95, 3), (22, .checkcast 306, 3), (25, .invokevirtual 319, 3), (28, .iinc 1 1, 3), (31, .goto (-29), 3), (34, .return_, 1)]
theorem kX8_playAll : ∀ x ∈ tX8_playAll, decode cX8_playAll x.1 = .ok (x.2.1, x.2.2) := by decide +kernel
theorem dX8_playAll (i : Nat) {pc ln : Nat} {ins : Instr} (h : tX8_playAll[i]? = some (pc, ins, ln)) : decode cX8_playAll pc = .ok (ins, ln) := kX8_playAll (pc, ins, ln) (List.mem_of_getElem? h)
def tX8_play : List zI := [(0, .aload_n 0, 1), (1, .getfield 35, 3), (4, .getfield 385, 3), (7, .invokevirtual 386, 3), (10, .iconst 0, 1), (11, .istore_n 2, 1), (12, .iload_n 2, 1), (13, .aload_n 0, 1), (14, .getfield 25, 3), (17, .invokevirtual 65, 3), (20, .if_icmp .ge 62, 3), (23, .aload_n 0, 1), (24, .getfield 25, 3), (27, .iload_n 2, 1), (28, .invokevirtual 95, 3), (31, .checkcast 83, 3), (34, .astore_n 3, 1), (35, .aload_n 1, 1), (36, .aload_n 3, 1), (37, .getfield 389, 3), (40, .invokevirtual 393, 3), (43, .istore 4, 2), (45, .iload 4, 2), (47, .ifCond .le 29, 3), (50, .aload_n 3, 1), (51, .aload_n 1, 1), (52, .getfield 397, 3), (55, .aload_n 1, 1), (56, .getfield 397, 3), (59, .iload 4, 2), (61, .invokevirtual 110, 3), (64, .aload_n 0, 1), (65, .getfield 35, 3), (68, .getfield 385, 3), (71, .aload_n 3, 1), (72, .invokevirtual 79, 3), (75, .pop, 1), (76, .iinc 2 1, 3), (79, .goto (-67), 3), (82, .aload_n 0, 1), (83, .getfield 35, 3), (86, .iconst (-1), 1), (87, .invokevirtual 376, 3), (90, .aload_n 1, 1), (91, .aload_n 0, 1), (92, .getfield 35, 3), (95, .invokevirtual 298, 3), (98, .putfield 323, 3), (101, .return_, 1)]
theorem kX8_play : ∀ x ∈ tX8_play, decode cX8_play x.1 = .ok (x.2.1, x.2.2) := by decide +kernel
theorem dX8_play (i : Nat) {pc ln : Nat} {ins : Instr} (h : tX8_play[i]? = some (pc, ins, ln)) : decode cX8_play pc = .ok (ins, ln) := kX8_play (pc, ins, ln) (List.mem_of_getElem? h)
def tX8_weightAbove : List zI := [(0, .iconst 0, 1), (1, .istore_n 3, 1), (2, .iconst 0, 1), (3, .istore 4, 2), (5, .iload 4, 2), (7, .aload_n 0, 1), (8, .getfield 22, 3), (11, .invokevirtual 65, 3), (14, .if_icmp .ge 47, 3), (17, .aload_n 0, 1), (18, .getfield 22, 3), (21, .iload 4, 2), (23, .invokevirtual 95, 3), (26, .checkcast 306, 3), (29, .getfield 323, 3), (32, .lload_n 1, 1), (33, .lcmp, 1), (34, .ifCond .le 21, 3), (37, .iload_n 3, 1), (38, .aload_n 0, 1), (39, .getfield 22, 3), (42, .iload 4, 2), (44, .invokevirtual 95, 3), (47, .checkcast 306, 3), (50, .getfield 352, 3), (53, .iadd, 1), (54, .istore_n 3, 1), (55, .iinc 4 1, 3), (58, .goto (-53), 3), (61, .iload_n 3, 1), (62, .ireturn, 1)]
theorem kX8_weightAbove : ∀ x ∈ tX8_weightAbove, decode cX8_weightAbove x.1 = .ok (x.2.1, x.2.2) := by decide +kernel
theorem dX8_weightAbove (i : Nat) {pc ln : Nat} {ins : Instr} (h : tX8_weightAbove[i]? = some (pc, ins, ln)) : decode cX8_weightAbove pc = .ok (ins, ln) := kX8_weightAbove (pc, ins, ln) (List.mem_of_getElem? h)
def tJ6_bitCount_0f7a4 : List zI := [(0, .iload_n 0, 1), (1, .iload_n 0, 1), (2, .iconst 1, 1), (3, .iushr, 1), (4, .ldc_w 265, 3), (7, .iand, 1), (8, .isub, 1), (9, .istore_n 0, 1), (10, .iload_n 0, 1), (11, .ldc_w 266, 3), (14, .iand, 1), (15, .iload_n 0, 1), (16, .iconst 2, 1), (17, .iushr, 1), (18, .ldc_w 266, 3), (21, .iand, 1), (22, .iadd, 1), (23, .istore_n 0, 1), (24, .iload_n 0, 1), (25, .iload_n 0, 1), (26, .iconst 4, 1), (27, .iushr, 1), (28, .iadd, 1), (29, .ldc_w 267, 3), (32, .iand, 1), (33, .istore_n 0, 1), (34, .iload_n 0, 1), (35, .iload_n 0, 1), (36, .bipush 8, 2), (38, .iushr, 1), (39, .iadd, 1), (40, .istore_n 0, 1), (41, .iload_n 0, 1), (42, .iload_n 0, 1), (43, .bipush 16, 2), (45, .iushr, 1), (46, .iadd, 1), (47, .istore_n 0, 1), (48, .iload_n 0, 1), (49, .bipush 63, 2), (51, .iand, 1), (52, .ireturn, 1)]
theorem kJ6_bitCount_0f7a4 : ∀ x ∈ tJ6_bitCount_0f7a4, decode cJ6_bitCount_0f7a4 x.1 = .ok (x.2.1, x.2.2) := by decide +kernel
theorem dJ6_bitCount_0f7a4 (i : Nat) {pc ln : Nat} {ins : Instr} (h : tJ6_bitCount_0f7a4[i]? = some (pc, ins, ln)) : decode cJ6_bitCount_0f7a4 pc = .ok (ins, ln) := kJ6_bitCount_0f7a4 (pc, ins, ln) (List.mem_of_getElem? h)
def tJ0_charAt_5068e : List zI := [(0, .aload_n 0, 1), (1, .invokevirtual 492, 3), (4, .ifCond .eq 12, 3), (7, .aload_n 0, 1), (8, .getfield 9, 3), (11, .iload_n 1, 1), (12, .invokestatic 495, 3), (15, .ireturn, 1), (16, .aload_n 0, 1), (17, .getfield 9, 3), (20, .iload_n 1, 1), (21, .invokestatic 498, 3), (24, .ireturn, 1)]
theorem kJ0_charAt_5068e : ∀ x ∈ tJ0_charAt_5068e, decode cJ0_charAt_5068e x.1 = .ok (x.2.1, x.2.2) := by decide +kernel
theorem dJ0_charAt_5068e (i : Nat) {pc ln : Nat} {ins : Instr} (h : tJ0_charAt_5068e[i]? = some (pc, ins, ln)) : decode cJ0_charAt_5068e pc = .ok (ins, ln) := kJ0_charAt_5068e (pc, ins, ln) (List.mem_of_getElem? h)
def tJ0_isLatin1_aae02 : List zI := [(0, .getstatic 38, 3), (3, .ifCond .eq 14, 3), (6, .aload_n 0, 1), (7, .getfield 15, 3), (10, .ifCond .ne 7, 3), (13, .iconst 1, 1), (14, .goto 4, 3), (17, .iconst 0, 1), (18, .ireturn, 1)]
theorem kJ0_isLatin1_aae02 : ∀ x ∈ tJ0_isLatin1_aae02, decode cJ0_isLatin1_aae02 x.1 = .ok (x.2.1, x.2.2) := by decide +kernel
theorem dJ0_isLatin1_aae02 (i : Nat) {pc ln : Nat} {ins : Instr} (h : tJ0_isLatin1_aae02[i]? = some (pc, ins, ln)) : decode cJ0_isLatin1_aae02 pc = .ok (ins, ln) := kJ0_isLatin1_aae02 (pc, ins, ln) (List.mem_of_getElem? h)
def tJ0_checkIndex_df160 : List zI := [(0, .iload_n 0, 1), (1, .iload_n 1, 1), (2, .getstatic 1053, 3), (5, .invokestatic 1059, 3), (8, .pop, 1), (9, .return_, 1)]
theorem kJ0_checkIndex_df160 : ∀ x ∈ tJ0_checkIndex_df160, decode cJ0_checkIndex_df160 x.1 = .ok (x.2.1, x.2.2) := by decide +kernel
theorem dJ0_checkIndex_df160 (i : Nat) {pc ln : Nat} {ins : Instr} (h : tJ0_checkIndex_df160[i]? = some (pc, ins, ln)) : decode cJ0_checkIndex_df160 pc = .ok (ins, ln) := kJ0_checkIndex_df160 (pc, ins, ln) (List.mem_of_getElem? h)
def tJ1_charAt_3b067 : List zI := [(0, .iload_n 1, 1), (1, .aload_n 0, 1), (2, .arraylength, 1), (3, .invokestatic 9, 3), (6, .aload_n 0, 1), (7, .iload_n 1, 1), (8, .baload, 1), (9, .sipush 255, 3), (12, .iand, 1), (13, .i2c, 1), (14, .ireturn, 1)]
theorem kJ1_charAt_3b067 : ∀ x ∈ tJ1_charAt_3b067, decode cJ1_charAt_3b067 x.1 = .ok (x.2.1, x.2.2) := by decide +kernel
theorem dJ1_charAt_3b067 (i : Nat) {pc ln : Nat} {ins : Instr} (h : tJ1_charAt_3b067[i]? = some (pc, ins, ln)) : decode cJ1_charAt_3b067 pc = .ok (ins, ln) := kJ1_charAt_3b067 (pc, ins, ln) (List.mem_of_getElem? h)
def tJxa1e45_init_da8c8 : List zI := [(0, .aload_n 0, 1), (1, .invokespecial 1, 3), (4, .return_, 1)]
theorem kJxa1e45_init_da8c8 : ∀ x ∈ tJxa1e45_init_da8c8, decode cJxa1e45_init_da8c8 x.1 = .ok (x.2.1, x.2.2) := by decide +kernel
theorem dJxa1e45_init_da8c8 (i : Nat) {pc ln : Nat} {ins : Instr} (h : tJxa1e45_init_da8c8[i]? = some (pc, ins, ln)) : decode cJxa1e45_init_da8c8 pc = .ok (ins, ln) := kJxa1e45_init_da8c8 (pc, ins, ln) (List.mem_of_getElem? h)
def tJxc12de_init_da8c8 : List zI := [(0, .aload_n 0, 1), (1, .invokespecial 1, 3), (4, .aload_n 0, 1), (5, .iconst 0, 1), (6, .putfield 7, 3), (9, .return_, 1)]
theorem kJxc12de_init_da8c8 : ∀ x ∈ tJxc12de_init_da8c8, decode cJxc12de_init_da8c8 x.1 = .ok (x.2.1, x.2.2) := by decide +kernel
theorem dJxc12de_init_da8c8 (i : Nat) {pc ln : Nat} {ins : Instr} (h : tJxc12de_init_da8c8[i]? = some (pc, ins, ln)) : decode cJxc12de_init_da8c8 pc = .ok (ins, ln) := kJxc12de_init_da8c8 (pc, ins, ln) (List.mem_of_getElem? h)
def tJx4a65c_init_da8c8 : List zI := [(0, .aload_n 0, 1), (1, .invokespecial 1, 3), (4, .aload_n 0, 1), (5, .getstatic 39, 3), (8, .putfield 9, 3), (11, .return_, 1)]
theorem kJx4a65c_init_da8c8 : ∀ x ∈ tJx4a65c_init_da8c8, decode cJx4a65c_init_da8c8 x.1 = .ok (x.2.1, x.2.2) := by decide +kernel
theorem dJx4a65c_init_da8c8 (i : Nat) {pc ln : Nat} {ins : Instr} (h : tJx4a65c_init_da8c8[i]? = some (pc, ins, ln)) : decode cJx4a65c_init_da8c8 pc = .ok (ins, ln) := kJx4a65c_init_da8c8 (pc, ins, ln) (List.mem_of_getElem? h)
def tJx4a65c_grow_92f84 : List zI := [(0, .aload_n 0, 1), (1, .getfield 9, 3), (4, .arraylength, 1), (5, .istore_n 2, 1), (6, .iload_n 2, 1), (7, .ifCond .gt 13, 3), (10, .aload_n 0, 1), (11, .getfield 9, 3), (14, .getstatic 39, 3), (17, .if_acmp .eq 28, 3), (20, .iload_n 2, 1), (21, .iload_n 1, 1), (22, .iload_n 2, 1), (23, .isub, 1), (24, .iload_n 2, 1), (25, .iconst 1, 1), (26, .ishr, 1), (27, .invokestatic 73, 3), (30, .istore_n 3, 1), (31, .aload_n 0, 1), (32, .aload_n 0, 1), (33, .getfield 9, 3), (36, .iload_n 3, 1), (37, .invokestatic 66, 3), (40, .dup_x1, 1), (41, .putfield 9, 3), (44, .areturn, 1), (45, .aload_n 0, 1), (46, .bipush 10, 2), (48, .iload_n 1, 1), (49, .invokestatic 79, 3), (52, .anewarray 7, 3), (55, .dup_x1, 1), (56, .putfield 9, 3), (59, .areturn, 1)]
theorem kJx4a65c_grow_92f84 : ∀ x ∈ tJx4a65c_grow_92f84, decode cJx4a65c_grow_92f84 x.1 = .ok (x.2.1, x.2.2) := by decide +kernel
theorem dJx4a65c_grow_92f84 (i : Nat) {pc ln : Nat} {ins : Instr} (h : tJx4a65c_grow_92f84[i]? = some (pc, ins, ln)) : decode cJx4a65c_grow_92f84 pc = .ok (ins, ln) := kJx4a65c_grow_92f84 (pc, ins, ln) (List.mem_of_getElem? h)
def tJx4a65c_grow_d5877 : List zI := [(0, .aload_n 0, 1), (1, .aload_n 0, 1), (2, .getfield 48, 3), (5, .iconst 1, 1), (6, .iadd, 1), (7, .invokevirtual 69, 3), (10, .areturn, 1)]
theorem kJx4a65c_grow_d5877 : ∀ x ∈ tJx4a65c_grow_d5877, decode cJx4a65c_grow_d5877 x.1 = .ok (x.2.1, x.2.2) := by decide +kernel
theorem dJx4a65c_grow_d5877 (i : Nat) {pc ln : Nat} {ins : Instr} (h : tJx4a65c_grow_d5877[i]? = some (pc, ins, ln)) : decode cJx4a65c_grow_d5877 pc = .ok (ins, ln) := kJx4a65c_grow_d5877 (pc, ins, ln) (List.mem_of_getElem? h)
def tJx4a65c_size_8abf5 : List zI := [(0, .aload_n 0, 1), (1, .getfield 48, 3), (4, .ireturn, 1)]
theorem kJx4a65c_size_8abf5 : ∀ x ∈ tJx4a65c_size_8abf5, decode cJx4a65c_size_8abf5 x.1 = .ok (x.2.1, x.2.2) := by decide +kernel
theorem dJx4a65c_size_8abf5 (i : Nat) {pc ln : Nat} {ins : Instr} (h : tJx4a65c_size_8abf5[i]? = some (pc, ins, ln)) : decode cJx4a65c_size_8abf5 pc = .ok (ins, ln) := kJx4a65c_size_8abf5 (pc, ins, ln) (List.mem_of_getElem? h)
def tJx4a65c_isEmpty_aae02 : List zI := [(0, .aload_n 0, 1), (1, .getfield 48, 3), (4, .ifCond .ne 7, 3), (7, .iconst 1, 1), (8, .goto 4, 3), (11, .iconst 0, 1), (12, .ireturn, 1)]
theorem kJx4a65c_isEmpty_aae02 : ∀ x ∈ tJx4a65c_isEmpty_aae02, decode cJx4a65c_isEmpty_aae02 x.1 = .ok (x.2.1, x.2.2) := by decide +kernel
theorem dJx4a65c_isEmpty_aae02 (i : Nat) {pc ln : Nat} {ins : Instr} (h : tJx4a65c_isEmpty_aae02[i]? = some (pc, ins, ln)) : decode cJx4a65c_isEmpty_aae02 pc = .ok (ins, ln) := kJx4a65c_isEmpty_aae02 (pc, ins, ln) (List.mem_of_getElem? h)
def tJx4a65c_elementData_915e3 : List zI := [(0, .aload_n 0, 1), (1, .getfield 9, 3), (4, .iload_n 1, 1), (5, .aaload, 1), (6, .areturn, 1)]
theorem kJx4a65c_elementData_915e3 : ∀ x ∈ tJx4a65c_elementData_915e3, decode cJx4a65c_elementData_915e3 x.1 = .ok (x.2.1, x.2.2) := by decide +kernel
theorem dJx4a65c_elementData_915e3 (i : Nat) {pc ln : Nat} {ins : Instr} (h : tJx4a65c_elementData_915e3[i]? = some (pc, ins, ln)) : decode cJx4a65c_elementData_915e3 pc = .ok (ins, ln) := kJx4a65c_elementData_915e3 (pc, ins, ln) (List.mem_of_getElem? h)
def tJx4a65c_get_915e3 : List zI := [(0, .iload_n 1, 1), (1, .aload_n 0, 1), (2, .getfield 48, 3), (5, .invokestatic 118, 3), (8, .pop, 1), (9, .aload_n 0, 1), (10, .iload_n 1, 1), (11, .invokevirtual 123, 3), (14, .areturn, 1)]
theorem kJx4a65c_get_915e3 : ∀ x ∈ tJx4a65c_get_915e3, decode cJx4a65c_get_915e3 x.1 = .ok (x.2.1, x.2.2) := by decide +kernel
theorem dJx4a65c_get_915e3 (i : Nat) {pc ln : Nat} {ins : Instr} (h : tJx4a65c_get_915e3[i]? = some (pc, ins, ln)) : decode cJx4a65c_get_915e3 pc = .ok (ins, ln) := kJx4a65c_get_915e3 (pc, ins, ln) (List.mem_of_getElem? h)
def tJx4a65c_add_72be8 : List zI := [(0, .iload_n 3, 1), (1, .aload_n 2, 1), (2, .arraylength, 1), (3, .if_icmp .ne 8, 3), (6, .aload_n 0, 1), (7, .invokevirtual 129, 3), (10, .astore_n 2, 1), (11, .aload_n 2, 1), (12, .iload_n 3, 1), (13, .aload_n 1, 1), (14, .aastore, 1), (15, .aload_n 0, 1), (16, .iload_n 3, 1), (17, .iconst 1, 1), (18, .iadd, 1), (19, .putfield 48, 3), (22, .return_, 1)]
theorem kJx4a65c_add_72be8 : ∀ x ∈ tJx4a65c_add_72be8, decode cJx4a65c_add_72be8 x.1 = .ok (x.2.1, x.2.2) := by decide +kernel
theorem dJx4a65c_add_72be8 (i : Nat) {pc ln : Nat} {ins : Instr} (h : tJx4a65c_add_72be8[i]? = some (pc, ins, ln)) : decode cJx4a65c_add_72be8 pc = .ok (ins, ln) := kJx4a65c_add_72be8 (pc, ins, ln) (List.mem_of_getElem? h)
def tJx4a65c_add_9ea2d : List zI := [(0, .aload_n 0, 1), (1, .dup, 1), (2, .getfield 63, 3), (5, .iconst 1, 1), (6, .iadd, 1), (7, .putfield 63, 3), (10, .aload_n 0, 1), (11, .aload_n 1, 1), (12, .aload_n 0, 1), (13, .getfield 9, 3), (16, .aload_n 0, 1), (17, .getfield 48, 3), (20, .invokevirtual 131, 3), (23, .iconst 1, 1), (24, .ireturn, 1)]
theorem kJx4a65c_add_9ea2d : ∀ x ∈ tJx4a65c_add_9ea2d, decode cJx4a65c_add_9ea2d x.1 = .ok (x.2.1, x.2.2) := by decide +kernel
theorem dJx4a65c_add_9ea2d (i : Nat) {pc ln : Nat} {ins : Instr} (h : tJx4a65c_add_9ea2d[i]? = some (pc, ins, ln)) : decode cJx4a65c_add_9ea2d pc = .ok (ins, ln) := kJx4a65c_add_9ea2d (pc, ins, ln) (List.mem_of_getElem? h)
def tJx4a65c_add_7a177 : List zI := [(0, .aload_n 0, 1), (1, .iload_n 1, 1), (2, .invokevirtual 135, 3), (5, .aload_n 0, 1), (6, .dup, 1), (7, .getfield 63, 3), (10, .iconst 1, 1), (11, .iadd, 1), (12, .putfield 63, 3), (15, .aload_n 0, 1), (16, .getfield 48, 3), (19, .dup, 1), (20, .istore_n 3, 1), (21, .aload_n 0, 1), (22, .getfield 9, 3), (25, .dup, 1), (26, .astore 4, 2), (28, .arraylength, 1), (29, .if_icmp .ne 9, 3), (32, .aload_n 0, 1), (33, .invokevirtual 129, 3), (36, .astore 4, 2), (38, .aload 4, 2), (40, .iload_n 1, 1), (41, .aload 4, 2), (43, .iload_n 1, 1), (44, .iconst 1, 1), (45, .iadd, 1), (46, .iload_n 3, 1), (47, .iload_n 1, 1), (48, .isub, 1), (49, .invokestatic 112, 3), (52, .aload 4, 2), (54, .iload_n 1, 1), (55, .aload_n 2, 1), (56, .aastore, 1), (57, .aload_n 0, 1), (58, .iload_n 3, 1), (59, .iconst 1, 1), (60, .iadd, 1), (61, .putfield 48, 3), (64, .return_, 1)]
theorem kJx4a65c_add_7a177 : ∀ x ∈ tJx4a65c_add_7a177, decode cJx4a65c_add_7a177 x.1 = .ok (x.2.1, x.2.2) := by decide +kernel
theorem dJx4a65c_add_7a177 (i : Nat) {pc ln : Nat} {ins : Instr} (h : tJx4a65c_add_7a177[i]? = some (pc, ins, ln)) : decode cJx4a65c_add_7a177 pc = .ok (ins, ln) := kJx4a65c_add_7a177 (pc, ins, ln) (List.mem_of_getElem? h)
def tJx4a65c_clear_da8c8 : List zI := [(0, .aload_n 0, 1), (1, .dup, 1), (2, .getfield 63, 3), (5, .iconst 1, 1), (6, .iadd, 1), (7, .putfield 63, 3), (10, .aload_n 0, 1), (11, .getfield 9, 3), (14, .astore_n 1, 1), (15, .aload_n 0, 1), (16, .getfield 48, 3), (19, .istore_n 2, 1), (20, .aload_n 0, 1), (21, .iconst 0, 1), (22, .dup_x1, 1), (23, .putfield 48, 3), (26, .istore_n 3, 1), (27, .iload_n 3, 1), (28, .iload_n 2, 1), (29, .if_icmp .ge 13, 3), (32, .aload_n 1, 1), (33, .iload_n 3, 1), (34, .aconst_null, 1), (35, .aastore, 1), (36, .iinc 3 1, 3), (39, .goto (-12), 3), (42, .return_, 1)]
theorem kJx4a65c_clear_da8c8 : ∀ x ∈ tJx4a65c_clear_da8c8, decode cJx4a65c_clear_da8c8 x.1 = .ok (x.2.1, x.2.2) := by decide +kernel
theorem dJx4a65c_clear_da8c8 (i : Nat) {pc ln : Nat} {ins : Instr} (h : tJx4a65c_clear_da8c8[i]? = some (pc, ins, ln)) : decode cJx4a65c_clear_da8c8 pc = .ok (ins, ln) := kJx4a65c_clear_da8c8 (pc, ins, ln) (List.mem_of_getElem? h)
def tJx4a65c_rangeCheckForAdd_d00df : List zI := [(0, .iload_n 1, 1), (1, .aload_n 0, 1), (2, .getfield 48, 3), (5, .if_icmp .gt 7, 3), (8, .iload_n 1, 1), (9, .ifCond .ge 16, 3), (12, .new 187, 3), (15, .dup, 1), (16, .aload_n 0, 1), (17, .iload_n 1, 1), (18, .invokevirtual 198, 3), (21, .invokespecial 193, 3), (24, .athrow, 1), (25, .return_, 1)]
theorem kJx4a65c_rangeCheckForAdd_d00df : ∀ x ∈ tJx4a65c_rangeCheckForAdd_d00df, decode cJx4a65c_rangeCheckForAdd_d00df x.1 = .ok (x.2.1, x.2.2) := by decide +kernel
theorem dJx4a65c_rangeCheckForAdd_d00df (i : Nat) {pc ln : Nat} {ins : Instr} (h : tJx4a65c_rangeCheckForAdd_d00df[i]? = some (pc, ins, ln)) : decode cJx4a65c_rangeCheckForAdd_d00df pc = .ok (ins, ln) := kJx4a65c_rangeCheckForAdd_d00df (pc, ins, ln) (List.mem_of_getElem? h)
def tJ7_fill_d0a16 : List zI := [(0, .iconst 0, 1), (1, .istore_n 3, 1), (2, .aload_n 0, 1), (3, .arraylength, 1), (4, .istore 4, 2), (6, .iload_n 3, 1), (7, .iload 4, 2), (9, .if_icmp .ge 13, 3), (12, .aload_n 0, 1), (13, .iload_n 3, 1), (14, .lload_n 1, 1), (15, .lastore, 1), (16, .iinc 3 1, 3), (19, .goto (-13), 3), (22, .return_, 1)]
theorem kJ7_fill_d0a16 : ∀ x ∈ tJ7_fill_d0a16, decode cJ7_fill_d0a16 x.1 = .ok (x.2.1, x.2.2) := by decide +kernel
theorem dJ7_fill_d0a16 (i : Nat) {pc ln : Nat} {ins : Instr} (h : tJ7_fill_d0a16[i]? = some (pc, ins, ln)) : decode cJ7_fill_d0a16 pc = .ok (ins, ln) := kJ7_fill_d0a16 (pc, ins, ln) (List.mem_of_getElem? h)
def tJ7_fill_53178 : List zI := [(0, .iconst 0, 1), (1, .istore_n 2, 1), (2, .aload_n 0, 1), (3, .arraylength, 1), (4, .istore_n 3, 1), (5, .iload_n 2, 1), (6, .iload_n 3, 1), (7, .if_icmp .ge 13, 3), (10, .aload_n 0, 1), (11, .iload_n 2, 1), (12, .iload_n 1, 1), (13, .iastore, 1), (14, .iinc 2 1, 3), (17, .goto (-12), 3), (20, .return_, 1)]
theorem kJ7_fill_53178 : ∀ x ∈ tJ7_fill_53178, decode cJ7_fill_53178 x.1 = .ok (x.2.1, x.2.2) := by decide +kernel
theorem dJ7_fill_53178 (i : Nat) {pc ln : Nat} {ins : Instr} (h : tJ7_fill_53178[i]? = some (pc, ins, ln)) : decode cJ7_fill_53178 pc = .ok (ins, ln) := kJ7_fill_53178 (pc, ins, ln) (List.mem_of_getElem? h)
def tJ7_copyOf_1904c : List zI := [(0, .aload_n 0, 1), (1, .iload_n 1, 1), (2, .aload_n 0, 1), (3, .invokevirtual 86, 3), (6, .invokestatic 300, 3), (9, .areturn, 1)]
theorem kJ7_copyOf_1904c : ∀ x ∈ tJ7_copyOf_1904c, decode cJ7_copyOf_1904c x.1 = .ok (x.2.1, x.2.2) := by decide +kernel
theorem dJ7_copyOf_1904c (i : Nat) {pc ln : Nat} {ins : Instr} (h : tJ7_copyOf_1904c[i]? = some (pc, ins, ln)) : decode cJ7_copyOf_1904c pc = .ok (ins, ln) := kJ7_copyOf_1904c (pc, ins, ln) (List.mem_of_getElem? h)
def tJ7_copyOf_6403c : List zI := [(0, .aload_n 2, 1), (1, .ldc 110, 2), (3, .if_acmp .ne 10, 3), (6, .iload_n 1, 1), (7, .anewarray 2, 3), (10, .goto 14, 3), (13, .aload_n 2, 1), (14, .invokevirtual 90, 3), (17, .iload_n 1, 1), (18, .invokestatic 95, 3), (21, .checkcast 110, 3), (24, .astore_n 3, 1), (25, .aload_n 0, 1), (26, .iconst 0, 1), (27, .aload_n 3, 1), (28, .iconst 0, 1), (29, .aload_n 0, 1), (30, .arraylength, 1), (31, .iload_n 1, 1), (32, .invokestatic 304, 3), (35, .invokestatic 150, 3), (38, .aload_n 3, 1), (39, .areturn, 1)]
theorem kJ7_copyOf_6403c : ∀ x ∈ tJ7_copyOf_6403c, decode cJ7_copyOf_6403c x.1 = .ok (x.2.1, x.2.2) := by decide +kernel
theorem dJ7_copyOf_6403c (i : Nat) {pc ln : Nat} {ins : Instr} (h : tJ7_copyOf_6403c[i]? = some (pc, ins, ln)) : decode cJ7_copyOf_6403c pc = .ok (ins, ln) := kJ7_copyOf_6403c (pc, ins, ln) (List.mem_of_getElem? h)
def tJ15_checkIndex_7cf53 : List zI := [(0, .iload_n 0, 1), (1, .iload_n 1, 1), (2, .aconst_null, 1), (3, .invokestatic 105, 3), (6, .ireturn, 1)]
theorem kJ15_checkIndex_7cf53 : ∀ x ∈ tJ15_checkIndex_7cf53, decode cJ15_checkIndex_7cf53 x.1 = .ok (x.2.1, x.2.2) := by decide +kernel
theorem dJ15_checkIndex_7cf53 (i : Nat) {pc ln : Nat} {ins : Instr} (h : tJ15_checkIndex_7cf53[i]? = some (pc, ins, ln)) : decode cJ15_checkIndex_7cf53 pc = .ok (ins, ln) := kJ15_checkIndex_7cf53 (pc, ins, ln) (List.mem_of_getElem? h)
def tJ8_newLength_cabcc : List zI := [(0, .iload_n 0, 1), (1, .iload_n 1, 1), (2, .iload_n 2, 1), (3, .invokestatic 194, 3), (6, .iadd, 1), (7, .istore_n 3, 1), (8, .iconst 0, 1), (9, .iload_n 3, 1), (10, .if_icmp .ge 11, 3), (13, .iload_n 3, 1), (14, .ldc 200, 2), (16, .if_icmp .gt 5, 3), (19, .iload_n 3, 1), (20, .ireturn, 1), (21, .iload_n 0, 1), (22, .iload_n 1, 1), (23, .invokestatic 201, 3), (26, .ireturn, 1)]
theorem kJ8_newLength_cabcc : ∀ x ∈ tJ8_newLength_cabcc, decode cJ8_newLength_cabcc x.1 = .ok (x.2.1, x.2.2) := by decide +kernel
theorem dJ8_newLength_cabcc (i : Nat) {pc ln : Nat} {ins : Instr} (h : tJ8_newLength_cabcc[i]? = some (pc, ins, ln)) : decode cJ8_newLength_cabcc pc = .ok (ins, ln) := kJ8_newLength_cabcc (pc, ins, ln) (List.mem_of_getElem? h)
def tJ3_checkIndex_8e157 : List zI := [(0, .iload_n 0, 1), (1, .ifCond .lt 8, 3), (4, .iload_n 0, 1), (5, .iload_n 1, 1), (6, .if_icmp .lt 10, 3), (9, .aload_n 2, 1), (10, .iload_n 0, 1), (11, .iload_n 1, 1), (12, .invokestatic 95, 3), (15, .athrow, 1), (16, .iload_n 0, 1), (17, .ireturn, 1)]
theorem kJ3_checkIndex_8e157 : ∀ x ∈ tJ3_checkIndex_8e157, decode cJ3_checkIndex_8e157 x.1 = .ok (x.2.1, x.2.2) := by decide +kernel
theorem dJ3_checkIndex_8e157 (i : Nat) {pc ln : Nat} {ins : Instr} (h : tJ3_checkIndex_8e157[i]? = some (pc, ins, ln)) : decode cJ3_checkIndex_8e157 pc = .ok (ins, ln) := kJ3_checkIndex_8e157 (pc, ins, ln) (List.mem_of_getElem? h)
end
section
theorem zb_m0 {w : Cond} (h : w ∈ k2_sels lw_privs) (g : goodWord w = true) : w ∈ zB := List.mem_filter.mpr ⟨List.mem_append_left _ h, g⟩
theorem zb_m1 {w : Cond} (h : w ∈ tables_1_1) (g : goodWord w = true) : w ∈ zB := List.mem_filter.mpr ⟨List.mem_append_right _ (List.mem_append_left _ h), g⟩
theorem zb_m2 {w : Cond} (h : w ∈ tables_1_2) (g : goodWord w = true) : w ∈ zB := List.mem_filter.mpr ⟨List.mem_append_right _ (List.mem_append_right _ (List.mem_append_left _ h)), g⟩
theorem zb_m3 {w : Cond} (h : w ∈ tables_1_3) (g : goodWord w = true) : w ∈ zB := List.mem_filter.mpr ⟨List.mem_append_right _ (List.mem_append_right _ (List.mem_append_right _ (List.mem_append_left _ h))), g⟩
theorem zb_m4 {w : Cond} (h : w ∈ tables_1_4) (g : goodWord w = true) : w ∈ zB := List.mem_filter.mpr ⟨List.mem_append_right _ (List.mem_append_right _ (List.mem_append_right _ (List.mem_append_right _ (List.mem_append_left _ h)))), g⟩
theorem zb_m5 {w : Cond} (h : w ∈ tables_1_5) (g : goodWord w = true) : w ∈ zB := List.mem_filter.mpr ⟨List.mem_append_right _ (List.mem_append_right _ (List.mem_append_right _ (List.mem_append_right _ (List.mem_append_right _ (List.mem_append_left _ h))))), g⟩
theorem zb_m6 {w : Cond} (h : w ∈ tables_1_6) (g : goodWord w = true) : w ∈ zB := List.mem_filter.mpr ⟨List.mem_append_right _ (List.mem_append_right _ (List.mem_append_right _ (List.mem_append_right _ (List.mem_append_right _ (List.mem_append_right _ (List.mem_append_left _ h)))))), g⟩
theorem zb_m7 {w : Cond} (h : w ∈ tables_1_7) (g : goodWord w = true) : w ∈ zB := List.mem_filter.mpr ⟨List.mem_append_right _ (List.mem_append_right _ (List.mem_append_right _ (List.mem_append_right _ (List.mem_append_right _ (List.mem_append_right _ (List.mem_append_right _ (h))))))), g⟩
theorem w_64 : (.code yX8_init cX8_init 1 none : Cond) ∈ zB := zb_m1 (List.mem_of_getElem? (i := 40) rfl) rfl
theorem w_72 : (.code yJx4a65c_init_da8c8 cJx4a65c_init_da8c8 1 none : Cond) ∈ zB := zb_m1 (List.mem_of_getElem? (i := 48) rfl) rfl
theorem w_75 : (.code yJxc12de_init_da8c8 cJxc12de_init_da8c8 1 none : Cond) ∈ zB := zb_m1 (List.mem_of_getElem? (i := 51) rfl) rfl
theorem w_78 : (.code yJxa1e45_init_da8c8 cJxa1e45_init_da8c8 1 none : Cond) ∈ zB := zb_m1 (List.mem_of_getElem? (i := 54) rfl) rfl
theorem w_98 : (.code yX2_init cX2_init 1 none : Cond) ∈ zB := zb_m1 (List.mem_of_getElem? (i := 74) rfl) rfl
theorem w_106 : (.code yX3_init cX3_init 1 none : Cond) ∈ zB := zb_m1 (List.mem_of_getElem? (i := 82) rfl) rfl
theorem w_157 : (.code yX5_init cX5_init 1 none : Cond) ∈ zB := zb_m1 (List.mem_of_getElem? (i := 133) rfl) rfl
theorem w_225 : (.code yX8_isSame cX8_isSame 3 (some FieldType.boolean) : Cond) ∈ zB := zb_m1 (List.mem_of_getElem? (i := 201) rfl) rfl
theorem w_229 : (.code yX8_treatyAt cX8_treatyAt 2 (some (FieldType.object "Layertreaty$Treaty")) : Cond) ∈ zB := zb_m1 (List.mem_of_getElem? (i := 205) rfl) rfl
theorem w_233 : (.code yJx4a65c_size_8abf5 cJx4a65c_size_8abf5 1 (some FieldType.int) : Cond) ∈ zB := zb_m1 (List.mem_of_getElem? (i := 209) rfl) rfl
theorem w_236 : (.code yX8_isOut cX8_isOut 3 (some FieldType.boolean) : Cond) ∈ zB := zb_m1 (List.mem_of_getElem? (i := 212) rfl) rfl
theorem w_312 : (.code yJx4a65c_get_915e3 cJx4a65c_get_915e3 2 (some (FieldType.object "java/lang/Object")) : Cond) ∈ zB := zb_m2 (List.mem_of_getElem? (i := 48) rfl) rfl
theorem w_315 : (.code yJ15_checkIndex_7cf53 cJ15_checkIndex_7cf53 2 (some FieldType.int) : Cond) ∈ zB := zb_m2 (List.mem_of_getElem? (i := 51) rfl) rfl
theorem w_318 : (.code yJ3_checkIndex_8e157 cJ3_checkIndex_8e157 3 (some FieldType.int) : Cond) ∈ zB := zb_m2 (List.mem_of_getElem? (i := 54) rfl) rfl
theorem w_322 : (.code yJx4a65c_elementData_915e3 cJx4a65c_elementData_915e3 2 (some (FieldType.object "java/lang/Object")) : Cond) ∈ zB := zb_m2 (List.mem_of_getElem? (i := 58) rfl) rfl
theorem w_326 : (.code yX8_checkHasEvents cX8_checkHasEvents 1 none : Cond) ∈ zB := zb_m2 (List.mem_of_getElem? (i := 62) rfl) rfl
theorem w_346 : (.code yX2_isLaidBest cX2_isLaidBest 2 (some FieldType.boolean) : Cond) ∈ zB := zb_m2 (List.mem_of_getElem? (i := 82) rfl) rfl
theorem w_350 : (.code yX2_run cX2_run 4 none : Cond) ∈ zB := zb_m2 (List.mem_of_getElem? (i := 86) rfl) rfl
theorem w_357 : (.code yX0_begin cX0_begin 1 none : Cond) ∈ zB := zb_m2 (List.mem_of_getElem? (i := 93) rfl) rfl
theorem w_360 : (.code yJ7_fill_d0a16 cJ7_fill_d0a16 5 none : Cond) ∈ zB := zb_m2 (List.mem_of_getElem? (i := 96) rfl) rfl
theorem w_363 : (.code yJ7_fill_53178 cJ7_fill_53178 4 none : Cond) ∈ zB := zb_m2 (List.mem_of_getElem? (i := 99) rfl) rfl
theorem w_368 : (.code yX1_begin cX1_begin 1 none : Cond) ∈ zB := zb_m2 (List.mem_of_getElem? (i := 104) rfl) rfl
theorem w_373 : (.code yX7_wholeLimit cX7_wholeLimit 1 (some FieldType.long) : Cond) ∈ zB := zb_m2 (List.mem_of_getElem? (i := 109) rfl) rfl
theorem w_377 : (.code yX7_isLimited cX7_isLimited 1 (some FieldType.boolean) : Cond) ∈ zB := zb_m2 (List.mem_of_getElem? (i := 113) rfl) rfl
theorem w_382 : (.code yX2_serveLoss cX2_serveLoss 6 none : Cond) ∈ zB := zb_m2 (List.mem_of_getElem? (i := 118) rfl) rfl
theorem w_386 : (.code yX7_isForEachLoss cX7_isForEachLoss 1 (some FieldType.boolean) : Cond) ∈ zB := zb_m2 (List.mem_of_getElem? (i := 122) rfl) rfl
theorem w_390 : (.code yX7_coversLoss cX7_coversLoss 3 (some FieldType.boolean) : Cond) ∈ zB := zb_m2 (List.mem_of_getElem? (i := 126) rfl) rfl
theorem w_394 : (.code yX7_wantedOf cX7_wantedOf 3 (some FieldType.long) : Cond) ∈ zB := zb_m2 (List.mem_of_getElem? (i := 130) rfl) rfl
theorem w_402 : (.code yX7_layerOf cX7_layerOf 3 (some FieldType.long) : Cond) ∈ zB := zb_m2 (List.mem_of_getElem? (i := 138) rfl) rfl
theorem w_413 : (.code yX1_takeFrom cX1_takeFrom 4 none : Cond) ∈ zB := zb_m2 (List.mem_of_getElem? (i := 149) rfl) rfl
theorem w_417 : (.code yX1_refill cX1_refill 6 none : Cond) ∈ zB := zb_m2 (List.mem_of_getElem? (i := 153) rfl) rfl
theorem w_423 : (.code yX7_priceOf cX7_priceOf 6 (some FieldType.long) : Cond) ∈ zB := zb_m2 (List.mem_of_getElem? (i := 159) rfl) rfl
theorem w_430 : (.code yX2_findOpen cX2_findOpen 3 none : Cond) ∈ zB := zb_m2 (List.mem_of_getElem? (i := 166) rfl) rfl
theorem w_434 : (.code yJx4a65c_clear_da8c8 cJx4a65c_clear_da8c8 4 none : Cond) ∈ zB := zb_m2 (List.mem_of_getElem? (i := 170) rfl) rfl
theorem w_438 : (.code yJx4a65c_add_9ea2d cJx4a65c_add_9ea2d 2 (some FieldType.boolean) : Cond) ∈ zB := zb_m2 (List.mem_of_getElem? (i := 174) rfl) rfl
theorem w_442 : (.code yJx4a65c_add_72be8 cJx4a65c_add_72be8 4 none : Cond) ∈ zB := zb_m2 (List.mem_of_getElem? (i := 178) rfl) rfl
theorem w_446 : (.code yJx4a65c_grow_d5877 cJx4a65c_grow_d5877 1 (some (FieldType.array (FieldType.object "java/lang/Object"))) : Cond) ∈ zB := zb_m2 (List.mem_of_getElem? (i := 182) rfl) rfl
theorem w_450 : (.code yJx4a65c_grow_92f84 cJx4a65c_grow_92f84 4 (some (FieldType.array (FieldType.object "java/lang/Object"))) : Cond) ∈ zB := zb_m2 (List.mem_of_getElem? (i := 186) rfl) rfl
theorem w_453 : (.code yJ8_newLength_cabcc cJ8_newLength_cabcc 4 (some FieldType.int) : Cond) ∈ zB := zb_m2 (List.mem_of_getElem? (i := 189) rfl) rfl
theorem w_461 : (.code yJ7_copyOf_1904c cJ7_copyOf_1904c 2 (some (FieldType.array (FieldType.object "java/lang/Object"))) : Cond) ∈ zB := zb_m2 (List.mem_of_getElem? (i := 197) rfl) rfl
theorem w_487 : (.code yJ7_copyOf_6403c cJ7_copyOf_6403c 4 (some (FieldType.array (FieldType.object "java/lang/Object"))) : Cond) ∈ zB := zb_m2 (List.mem_of_getElem? (i := 223) rfl) rfl
theorem w_500 : (.code yX2_serveZone cX2_serveZone 7 none : Cond) ∈ zB := zb_m2 (List.mem_of_getElem? (i := 236) rfl) rfl
theorem w_504 : (.code yX3_add cX3_add 2 none : Cond) ∈ zB := zb_m3 (List.mem_of_getElem? (i := 0) rfl) rfl
theorem w_508 : (.code yX3_lay cX3_lay 9 none : Cond) ∈ zB := zb_m3 (List.mem_of_getElem? (i := 4) rfl) rfl
theorem w_513 : (.code yX3_isBestOfAll cX3_isBestOfAll 11 (some FieldType.boolean) : Cond) ∈ zB := zb_m3 (List.mem_of_getElem? (i := 9) rfl) rfl
theorem w_517 : (.code yJ6_bitCount_0f7a4 cJ6_bitCount_0f7a4 1 (some FieldType.int) : Cond) ∈ zB := zb_m3 (List.mem_of_getElem? (i := 13) rfl) rfl
theorem w_524 : (.code yX3_worthOf cX3_worthOf 9 (some FieldType.long) : Cond) ∈ zB := zb_m3 (List.mem_of_getElem? (i := 20) rfl) rfl
theorem w_528 : (.code yX3_isCut cX3_isCut 3 (some FieldType.boolean) : Cond) ∈ zB := zb_m3 (List.mem_of_getElem? (i := 24) rfl) rfl
theorem w_532 : (.code yX3_laidCuts cX3_laidCuts 4 (some FieldType.int) : Cond) ∈ zB := zb_m3 (List.mem_of_getElem? (i := 28) rfl) rfl
theorem w_536 : (.code yX2_gather cX2_gather 7 none : Cond) ∈ zB := zb_m3 (List.mem_of_getElem? (i := 32) rfl) rfl
theorem w_540 : (.code yX2_serveGroup cX2_serveGroup 12 (some FieldType.long) : Cond) ∈ zB := zb_m3 (List.mem_of_getElem? (i := 36) rfl) rfl
theorem w_545 : (.code yX8_net cX8_net 5 (some FieldType.long) : Cond) ∈ zB := zb_m3 (List.mem_of_getElem? (i := 41) rfl) rfl
theorem w_549 : (.code yX8_settle cX8_settle 1 none : Cond) ∈ zB := zb_m3 (List.mem_of_getElem? (i := 45) rfl) rfl
theorem w_554 : (.code yX2_allLeft cX2_allLeft 4 (some FieldType.long) : Cond) ∈ zB := zb_m3 (List.mem_of_getElem? (i := 50) rfl) rfl
theorem w_559 : (.code yX2_allPartsOf cX2_allPartsOf 5 (some FieldType.long) : Cond) ∈ zB := zb_m3 (List.mem_of_getElem? (i := 55) rfl) rfl
theorem w_563 : (.code yX2_partOf cX2_partOf 6 (some FieldType.long) : Cond) ∈ zB := zb_m3 (List.mem_of_getElem? (i := 59) rfl) rfl
theorem w_568 : (.code yX8_losses cX8_losses 1 (some FieldType.int) : Cond) ∈ zB := zb_m3 (List.mem_of_getElem? (i := 64) rfl) rfl
theorem w_572 : (.code yX8_meanNet cX8_meanNet 7 (some FieldType.double) : Cond) ∈ zB := zb_m3 (List.mem_of_getElem? (i := 68) rfl) rfl
theorem w_576 : (.code yJx4a65c_isEmpty_aae02 cJx4a65c_isEmpty_aae02 1 (some FieldType.boolean) : Cond) ∈ zB := zb_m3 (List.mem_of_getElem? (i := 72) rfl) rfl
theorem w_596 : (.code yX8_playAll cX8_playAll 2 none : Cond) ∈ zB := zb_m3 (List.mem_of_getElem? (i := 92) rfl) rfl
theorem w_601 : (.code yX8_play cX8_play 5 none : Cond) ∈ zB := zb_m3 (List.mem_of_getElem? (i := 97) rfl) rfl
theorem w_607 : (.code yX6_damageOf cX6_damageOf 2 (some FieldType.int) : Cond) ∈ zB := zb_m3 (List.mem_of_getElem? (i := 103) rfl) rfl
theorem w_611 : (.code yX4_isInForce cX4_isInForce 2 (some FieldType.boolean) : Cond) ∈ zB := zb_m3 (List.mem_of_getElem? (i := 107) rfl) rfl
theorem w_616 : (.code yX0_happen cX0_happen 4 none : Cond) ∈ zB := zb_m3 (List.mem_of_getElem? (i := 112) rfl) rfl
theorem w_621 : (.code yX8_isSound cX8_isSound 1 (some FieldType.boolean) : Cond) ∈ zB := zb_m3 (List.mem_of_getElem? (i := 117) rfl) rfl
theorem w_625 : (.code yX8_settlePool cX8_settlePool 2 none : Cond) ∈ zB := zb_m3 (List.mem_of_getElem? (i := 121) rfl) rfl
theorem w_629 : (.code yX5_settleRings cX5_settleRings 2 none : Cond) ∈ zB := zb_m3 (List.mem_of_getElem? (i := 125) rfl) rfl
theorem w_634 : (.code yX5_goRounds cX5_goRounds 5 none : Cond) ∈ zB := zb_m3 (List.mem_of_getElem? (i := 130) rfl) rfl
theorem w_639 : (.code yX5_handedOn cX5_handedOn 4 (some FieldType.long) : Cond) ∈ zB := zb_m3 (List.mem_of_getElem? (i := 135) rfl) rfl
theorem w_646 : (.code yX2_areLossesWhole cX2_areLossesWhole 6 (some FieldType.boolean) : Cond) ∈ zB := zb_m3 (List.mem_of_getElem? (i := 142) rfl) rfl
theorem w_650 : (.code yX2_areLimitsKept cX2_areLimitsKept 3 (some FieldType.boolean) : Cond) ∈ zB := zb_m3 (List.mem_of_getElem? (i := 146) rfl) rfl
theorem w_655 : (.code yX5_fits cX5_fits 2 (some FieldType.boolean) : Cond) ∈ zB := zb_m3 (List.mem_of_getElem? (i := 151) rfl) rfl
theorem w_658 : (.code yL_some cL_some 3 (some FieldType.int) : Cond) ∈ zB := zb_m3 (List.mem_of_getElem? (i := 154) rfl) rfl
theorem w_661 : (.code yL_cell cL_cell 2 (some FieldType.int) : Cond) ∈ zB := zb_m3 (List.mem_of_getElem? (i := 157) rfl) rfl
theorem w_670 : (.code yX8_policy cX8_policy 6 (some FieldType.int) : Cond) ∈ zB := zb_m3 (List.mem_of_getElem? (i := 166) rfl) rfl
theorem w_674 : (.code yX8_isSpan cX8_isSpan 2 (some FieldType.boolean) : Cond) ∈ zB := zb_m3 (List.mem_of_getElem? (i := 170) rfl) rfl
theorem w_711 : (.code yX4_init cX4_init 5 none : Cond) ∈ zB := zb_m3 (List.mem_of_getElem? (i := 207) rfl) rfl
theorem w_734 : (.code yX0_init cX0_init 2 none : Cond) ∈ zB := zb_m3 (List.mem_of_getElem? (i := 230) rfl) rfl
theorem w_806 : (.code yX8_loss cX8_loss 7 (some FieldType.int) : Cond) ∈ zB := zb_m4 (List.mem_of_getElem? (i := 62) rfl) rfl
theorem w_815 : (.code yX2_addByDay cX2_addByDay 4 none : Cond) ∈ zB := zb_m4 (List.mem_of_getElem? (i := 71) rfl) rfl
theorem w_819 : (.code yJx4a65c_add_7a177 cJx4a65c_add_7a177 5 none : Cond) ∈ zB := zb_m4 (List.mem_of_getElem? (i := 75) rfl) rfl
theorem w_823 : (.code yJx4a65c_rangeCheckForAdd_d00df cJx4a65c_rangeCheckForAdd_d00df 2 none : Cond) ∈ zB := zb_m4 (List.mem_of_getElem? (i := 79) rfl) rfl
theorem w_1065 : (.code yX8_setAmount cX8_setAmount 5 (some FieldType.int) : Cond) ∈ zB := zb_m5 (List.mem_of_getElem? (i := 81) rfl) rfl
theorem w_1069 : (.code yX8_claimAt cX8_claimAt 2 (some (FieldType.object "Layertreaty$Claim")) : Cond) ∈ zB := zb_m5 (List.mem_of_getElem? (i := 85) rfl) rfl
theorem w_1078 : (.code yX8_treaty cX8_treaty 8 (some FieldType.int) : Cond) ∈ zB := zb_m5 (List.mem_of_getElem? (i := 94) rfl) rfl
theorem w_1081 : (.code yX8_isBasis cX8_isBasis 1 (some FieldType.boolean) : Cond) ∈ zB := zb_m5 (List.mem_of_getElem? (i := 97) rfl) rfl
theorem w_1084 : (.code yX8_fitsKind cX8_fitsKind 3 (some FieldType.boolean) : Cond) ∈ zB := zb_m5 (List.mem_of_getElem? (i := 100) rfl) rfl
theorem w_1089 : (.code yX7_init cX7_init 8 none : Cond) ∈ zB := zb_m5 (List.mem_of_getElem? (i := 105) rfl) rfl
theorem w_1159 : (.code yX1_init cX1_init 2 none : Cond) ∈ zB := zb_m5 (List.mem_of_getElem? (i := 175) rfl) rfl
theorem w_1196 : (.code yX8_setDays cX8_setDays 5 (some FieldType.int) : Cond) ∈ zB := zb_m5 (List.mem_of_getElem? (i := 212) rfl) rfl
theorem w_1204 : (.code yX8_reinstate cX8_reinstate 7 (some FieldType.int) : Cond) ∈ zB := zb_m5 (List.mem_of_getElem? (i := 220) rfl) rfl
theorem w_1214 : (.code yX8_setPremium cX8_setPremium 5 (some FieldType.int) : Cond) ∈ zB := zb_m5 (List.mem_of_getElem? (i := 230) rfl) rfl
theorem w_1222 : (.code yX8_share cX8_share 6 (some FieldType.int) : Cond) ∈ zB := zb_m5 (List.mem_of_getElem? (i := 238) rfl) rfl
theorem w_1225 : (.code yX8_checkReinsurer cX8_checkReinsurer 1 none : Cond) ∈ zB := zb_m6 (List.mem_of_getElem? (i := 1) rfl) rfl
theorem w_1231 : (.code yX7_allShares cX7_allShares 3 (some FieldType.int) : Cond) ∈ zB := zb_m6 (List.mem_of_getElem? (i := 7) rfl) rfl
theorem w_1239 : (.code yX8_commute cX8_commute 4 (some FieldType.long) : Cond) ∈ zB := zb_m6 (List.mem_of_getElem? (i := 15) rfl) rfl
theorem w_1243 : (.code yX8_coverAt cX8_coverAt 2 (some (FieldType.object "Layertreaty$Cover")) : Cond) ∈ zB := zb_m6 (List.mem_of_getElem? (i := 19) rfl) rfl
theorem w_1255 : (.code yX8_left cX8_left 3 (some FieldType.long) : Cond) ∈ zB := zb_m6 (List.mem_of_getElem? (i := 31) rfl) rfl
theorem w_1262 : (.code yX8_taken cX8_taken 2 (some FieldType.long) : Cond) ∈ zB := zb_m6 (List.mem_of_getElem? (i := 38) rfl) rfl
theorem w_1269 : (.code yX8_owed cX8_owed 2 (some FieldType.long) : Cond) ∈ zB := zb_m6 (List.mem_of_getElem? (i := 45) rfl) rfl
theorem w_1276 : (.code yX8_events cX8_events 4 (some FieldType.int) : Cond) ∈ zB := zb_m6 (List.mem_of_getElem? (i := 52) rfl) rfl
theorem w_1284 : (.code yX8_lost cX8_lost 2 (some FieldType.long) : Cond) ∈ zB := zb_m6 (List.mem_of_getElem? (i := 60) rfl) rfl
theorem w_1291 : (.code yX8_comes cX8_comes 2 (some FieldType.long) : Cond) ∈ zB := zb_m6 (List.mem_of_getElem? (i := 67) rfl) rfl
theorem w_1298 : (.code yX8_stays cX8_stays 2 (some FieldType.long) : Cond) ∈ zB := zb_m6 (List.mem_of_getElem? (i := 74) rfl) rfl
theorem w_1306 : (.code yX8_scenario cX8_scenario 3 (some FieldType.int) : Cond) ∈ zB := zb_m6 (List.mem_of_getElem? (i := 82) rfl) rfl
theorem w_1312 : (.code yX6_init cX6_init 3 none : Cond) ∈ zB := zb_m6 (List.mem_of_getElem? (i := 88) rfl) rfl
theorem w_1337 : (.code yX8_damage cX8_damage 6 (some FieldType.int) : Cond) ∈ zB := zb_m6 (List.mem_of_getElem? (i := 113) rfl) rfl
theorem w_1341 : (.code yX8_scenarioAt cX8_scenarioAt 2 (some (FieldType.object "Layertreaty$Scenario")) : Cond) ∈ zB := zb_m6 (List.mem_of_getElem? (i := 117) rfl) rfl
theorem w_1350 : (.code yX8_scenarioNet cX8_scenarioNet 3 (some FieldType.long) : Cond) ∈ zB := zb_m6 (List.mem_of_getElem? (i := 126) rfl) rfl
theorem w_1358 : (.code yX8_tail cX8_tail 8 (some FieldType.long) : Cond) ∈ zB := zb_m6 (List.mem_of_getElem? (i := 134) rfl) rfl
theorem w_1379 : (.code yX8_weightAbove cX8_weightAbove 5 (some FieldType.int) : Cond) ∈ zB := zb_m6 (List.mem_of_getElem? (i := 155) rfl) rfl
theorem w_1388 : (.code yX8_handOn cX8_handOn 6 (some FieldType.boolean) : Cond) ∈ zB := zb_m6 (List.mem_of_getElem? (i := 164) rfl) rfl
theorem w_1396 : (.code yX8_fail cX8_fail 4 (some FieldType.boolean) : Cond) ∈ zB := zb_m6 (List.mem_of_getElem? (i := 172) rfl) rfl
theorem w_1399 : (.code yL_kept cL_kept 28 (some FieldType.boolean) : Cond) ∈ zB := zb_m6 (List.mem_of_getElem? (i := 175) rfl) rfl
theorem w_1406 : (.code yX8_takenFrom cX8_takenFrom 5 (some FieldType.long) : Cond) ∈ zB := zb_m6 (List.mem_of_getElem? (i := 182) rfl) rfl
theorem w_1413 : (.code yX8_limit cX8_limit 3 (some FieldType.long) : Cond) ∈ zB := zb_m6 (List.mem_of_getElem? (i := 189) rfl) rfl
theorem w_1423 : (.code yX8_reinstated cX8_reinstated 2 (some FieldType.long) : Cond) ∈ zB := zb_m6 (List.mem_of_getElem? (i := 199) rfl) rfl
theorem w_1430 : (.code yX8_paid cX8_paid 4 (some FieldType.long) : Cond) ∈ zB := zb_m6 (List.mem_of_getElem? (i := 206) rfl) rfl
theorem w_1435 : (.code yX8_allLosses cX8_allLosses 4 (some FieldType.long) : Cond) ∈ zB := zb_m6 (List.mem_of_getElem? (i := 211) rfl) rfl
theorem w_1439 : (.code yJ0_charAt_5068e cJ0_charAt_5068e 2 (some FieldType.char) : Cond) ∈ zB := zb_m6 (List.mem_of_getElem? (i := 215) rfl) rfl
theorem w_1443 : (.code yJ0_isLatin1_aae02 cJ0_isLatin1_aae02 1 (some FieldType.boolean) : Cond) ∈ zB := zb_m6 (List.mem_of_getElem? (i := 219) rfl) rfl
theorem w_1446 : (.code yJ1_charAt_3b067 cJ1_charAt_3b067 2 (some FieldType.char) : Cond) ∈ zB := zb_m6 (List.mem_of_getElem? (i := 222) rfl) rfl
theorem w_1449 : (.code yJ0_checkIndex_df160 cJ0_checkIndex_df160 2 none : Cond) ∈ zB := zb_m6 (List.mem_of_getElem? (i := 225) rfl) rfl
theorem w_62 : (.methodLink RL 162 yX8_init : Cond) ∈ zB := zb_m1 (List.mem_of_getElem? (i := 38) rfl) rfl
theorem w_65 : (.methodLink RX8 1 ⟨"java/lang/Object", "<init>", "()V"⟩ : Cond) ∈ zB := zb_m1 (List.mem_of_getElem? (i := 41) rfl) rfl
theorem w_70 : (.methodLink RX8 9 yJx4a65c_init_da8c8 : Cond) ∈ zB := zb_m1 (List.mem_of_getElem? (i := 46) rfl) rfl
theorem w_73 : (.methodLink RJx4a65c 1 yJxc12de_init_da8c8 : Cond) ∈ zB := zb_m1 (List.mem_of_getElem? (i := 49) rfl) rfl
theorem w_76 : (.methodLink RJxc12de 1 yJxa1e45_init_da8c8 : Cond) ∈ zB := zb_m1 (List.mem_of_getElem? (i := 52) rfl) rfl
theorem w_79 : (.methodLink RJxa1e45 1 ⟨"java/lang/Object", "<init>", "()V"⟩ : Cond) ∈ zB := zb_m1 (List.mem_of_getElem? (i := 55) rfl) rfl
theorem w_99 : (.methodLink RX2 3 ⟨"java/lang/Object", "<init>", "()V"⟩ : Cond) ∈ zB := zb_m1 (List.mem_of_getElem? (i := 75) rfl) rfl
theorem w_101 : (.methodLink RX2 11 yJx4a65c_init_da8c8 : Cond) ∈ zB := zb_m1 (List.mem_of_getElem? (i := 77) rfl) rfl
theorem w_107 : (.methodLink RX3 3 ⟨"java/lang/Object", "<init>", "()V"⟩ : Cond) ∈ zB := zb_m1 (List.mem_of_getElem? (i := 83) rfl) rfl
theorem w_158 : (.methodLink RX5 3 ⟨"java/lang/Object", "<init>", "()V"⟩ : Cond) ∈ zB := zb_m1 (List.mem_of_getElem? (i := 134) rfl) rfl
theorem w_222 : (.methodLink RL 214 yX8_isSame : Cond) ∈ zB := zb_m1 (List.mem_of_getElem? (i := 198) rfl) rfl
theorem w_226 : (.methodLink RX8 156 yX8_treatyAt : Cond) ∈ zB := zb_m1 (List.mem_of_getElem? (i := 202) rfl) rfl
theorem w_230 : (.methodLink RX8 65 yJx4a65c_size_8abf5 : Cond) ∈ zB := zb_m1 (List.mem_of_getElem? (i := 206) rfl) rfl
theorem w_234 : (.methodLink RX8 50 yX8_isOut : Cond) ∈ zB := zb_m1 (List.mem_of_getElem? (i := 210) rfl) rfl
theorem w_309 : (.methodLink RX8 95 yJx4a65c_get_915e3 : Cond) ∈ zB := zb_m2 (List.mem_of_getElem? (i := 45) rfl) rfl
theorem w_313 : (.methodLink RJx4a65c 118 yJ15_checkIndex_7cf53 : Cond) ∈ zB := zb_m2 (List.mem_of_getElem? (i := 49) rfl) rfl
theorem w_316 : (.methodLink RJ15 105 yJ3_checkIndex_8e157 : Cond) ∈ zB := zb_m2 (List.mem_of_getElem? (i := 52) rfl) rfl
theorem w_319 : (.methodLink RJx4a65c 123 yJx4a65c_elementData_915e3 : Cond) ∈ zB := zb_m2 (List.mem_of_getElem? (i := 55) rfl) rfl
theorem w_324 : (.methodLink RX8 264 yX8_checkHasEvents : Cond) ∈ zB := zb_m2 (List.mem_of_getElem? (i := 60) rfl) rfl
theorem w_343 : (.methodLink RX8 276 yX2_isLaidBest : Cond) ∈ zB := zb_m2 (List.mem_of_getElem? (i := 79) rfl) rfl
theorem w_347 : (.methodLink RX2 61 yX2_run : Cond) ∈ zB := zb_m2 (List.mem_of_getElem? (i := 83) rfl) rfl
theorem w_351 : (.methodLink RX2 38 yJx4a65c_size_8abf5 : Cond) ∈ zB := zb_m2 (List.mem_of_getElem? (i := 87) rfl) rfl
theorem w_352 : (.methodLink RX2 42 yJx4a65c_get_915e3 : Cond) ∈ zB := zb_m2 (List.mem_of_getElem? (i := 88) rfl) rfl
theorem w_354 : (.methodLink RX2 65 yX0_begin : Cond) ∈ zB := zb_m2 (List.mem_of_getElem? (i := 90) rfl) rfl
theorem w_358 : (.methodLink RX0 37 yJ7_fill_d0a16 : Cond) ∈ zB := zb_m2 (List.mem_of_getElem? (i := 94) rfl) rfl
theorem w_361 : (.methodLink RX0 43 yJ7_fill_53178 : Cond) ∈ zB := zb_m2 (List.mem_of_getElem? (i := 97) rfl) rfl
theorem w_365 : (.methodLink RX2 70 yX1_begin : Cond) ∈ zB := zb_m2 (List.mem_of_getElem? (i := 101) rfl) rfl
theorem w_369 : (.methodLink RX1 32 yJ7_fill_53178 : Cond) ∈ zB := zb_m2 (List.mem_of_getElem? (i := 105) rfl) rfl
theorem w_370 : (.methodLink RX1 44 yX7_wholeLimit : Cond) ∈ zB := zb_m2 (List.mem_of_getElem? (i := 106) rfl) rfl
theorem w_374 : (.methodLink RX7 60 yX7_isLimited : Cond) ∈ zB := zb_m2 (List.mem_of_getElem? (i := 110) rfl) rfl
theorem w_379 : (.methodLink RX2 71 yX2_serveLoss : Cond) ∈ zB := zb_m2 (List.mem_of_getElem? (i := 115) rfl) rfl
theorem w_383 : (.methodLink RX2 99 yX7_isForEachLoss : Cond) ∈ zB := zb_m2 (List.mem_of_getElem? (i := 119) rfl) rfl
theorem w_387 : (.methodLink RX2 103 yX7_coversLoss : Cond) ∈ zB := zb_m2 (List.mem_of_getElem? (i := 123) rfl) rfl
theorem w_391 : (.methodLink RX2 107 yX7_wantedOf : Cond) ∈ zB := zb_m2 (List.mem_of_getElem? (i := 127) rfl) rfl
theorem w_396 : (.methodLink RX7 99 ⟨RJ9, "min", "(II)I"⟩ : Cond) ∈ zB := zb_m2 (List.mem_of_getElem? (i := 132) rfl) rfl
theorem w_399 : (.methodLink RX7 102 yX7_layerOf : Cond) ∈ zB := zb_m2 (List.mem_of_getElem? (i := 135) rfl) rfl
theorem w_403 : (.methodLink RX7 81 ⟨RJ9, "min", "(JJ)J"⟩ : Cond) ∈ zB := zb_m2 (List.mem_of_getElem? (i := 139) rfl) rfl
theorem w_406 : (.methodLink RX7 87 ⟨RJ9, "max", "(JJ)J"⟩ : Cond) ∈ zB := zb_m2 (List.mem_of_getElem? (i := 142) rfl) rfl
theorem w_409 : (.methodLink RX2 115 ⟨RJ9, "min", "(JJ)J"⟩ : Cond) ∈ zB := zb_m2 (List.mem_of_getElem? (i := 145) rfl) rfl
theorem w_410 : (.methodLink RX2 121 yX1_takeFrom : Cond) ∈ zB := zb_m2 (List.mem_of_getElem? (i := 146) rfl) rfl
theorem w_414 : (.methodLink RX2 125 yX1_refill : Cond) ∈ zB := zb_m2 (List.mem_of_getElem? (i := 150) rfl) rfl
theorem w_418 : (.methodLink RX1 61 yX7_isLimited : Cond) ∈ zB := zb_m2 (List.mem_of_getElem? (i := 154) rfl) rfl
theorem w_419 : (.methodLink RX1 71 ⟨RJ9, "min", "(JJ)J"⟩ : Cond) ∈ zB := zb_m2 (List.mem_of_getElem? (i := 155) rfl) rfl
theorem w_420 : (.methodLink RX1 77 yX7_priceOf : Cond) ∈ zB := zb_m2 (List.mem_of_getElem? (i := 156) rfl) rfl
theorem w_424 : (.methodLink RX7 106 ⟨RJ9, "max", "(II)I"⟩ : Cond) ∈ zB := zb_m2 (List.mem_of_getElem? (i := 160) rfl) rfl
theorem w_427 : (.methodLink RX2 83 yX2_findOpen : Cond) ∈ zB := zb_m2 (List.mem_of_getElem? (i := 163) rfl) rfl
theorem w_431 : (.methodLink RX2 161 yJx4a65c_clear_da8c8 : Cond) ∈ zB := zb_m2 (List.mem_of_getElem? (i := 167) rfl) rfl
theorem w_435 : (.methodLink RX2 167 yJx4a65c_add_9ea2d : Cond) ∈ zB := zb_m2 (List.mem_of_getElem? (i := 171) rfl) rfl
theorem w_439 : (.methodLink RJx4a65c 131 yJx4a65c_add_72be8 : Cond) ∈ zB := zb_m2 (List.mem_of_getElem? (i := 175) rfl) rfl
theorem w_443 : (.methodLink RJx4a65c 129 yJx4a65c_grow_d5877 : Cond) ∈ zB := zb_m2 (List.mem_of_getElem? (i := 179) rfl) rfl
theorem w_447 : (.methodLink RJx4a65c 69 yJx4a65c_grow_92f84 : Cond) ∈ zB := zb_m2 (List.mem_of_getElem? (i := 183) rfl) rfl
theorem w_451 : (.methodLink RJx4a65c 73 yJ8_newLength_cabcc : Cond) ∈ zB := zb_m2 (List.mem_of_getElem? (i := 187) rfl) rfl
theorem w_454 : (.methodLink RJ8 194 ⟨RJ9, "max", "(II)I"⟩ : Cond) ∈ zB := zb_m2 (List.mem_of_getElem? (i := 190) rfl) rfl
theorem w_459 : (.methodLink RJx4a65c 66 yJ7_copyOf_1904c : Cond) ∈ zB := zb_m2 (List.mem_of_getElem? (i := 195) rfl) rfl
theorem w_462 : (.methodLink RJ7 86 ⟨"java/lang/Object", "getClass", "()Ljava/lang/Class;"⟩ : Cond) ∈ zB := zb_m2 (List.mem_of_getElem? (i := 198) rfl) rfl
theorem w_485 : (.methodLink RJ7 300 yJ7_copyOf_6403c : Cond) ∈ zB := zb_m2 (List.mem_of_getElem? (i := 221) rfl) rfl
theorem w_491 : (.methodLink RJ7 304 ⟨RJ9, "min", "(II)I"⟩ : Cond) ∈ zB := zb_m2 (List.mem_of_getElem? (i := 227) rfl) rfl
theorem w_492 : (.methodLink RJ7 150 ⟨RJ10, "arraycopy", "(Ljava/lang/Object;ILjava/lang/Object;II)V"⟩ : Cond) ∈ zB := zb_m2 (List.mem_of_getElem? (i := 228) rfl) rfl
theorem w_495 : (.methodLink RJx4a65c 79 ⟨RJ9, "max", "(II)I"⟩ : Cond) ∈ zB := zb_m2 (List.mem_of_getElem? (i := 231) rfl) rfl
theorem w_497 : (.methodLink RX2 87 yX2_serveZone : Cond) ∈ zB := zb_m2 (List.mem_of_getElem? (i := 233) rfl) rfl
theorem w_501 : (.methodLink RX2 140 yX3_add : Cond) ∈ zB := zb_m2 (List.mem_of_getElem? (i := 237) rfl) rfl
theorem w_505 : (.methodLink RX2 142 yX3_lay : Cond) ∈ zB := zb_m3 (List.mem_of_getElem? (i := 1) rfl) rfl
theorem w_509 : (.methodLink RX3 45 yX7_layerOf : Cond) ∈ zB := zb_m3 (List.mem_of_getElem? (i := 5) rfl) rfl
theorem w_510 : (.methodLink RX2 146 yX3_isBestOfAll : Cond) ∈ zB := zb_m3 (List.mem_of_getElem? (i := 6) rfl) rfl
theorem w_515 : (.methodLink RX3 51 yJ6_bitCount_0f7a4 : Cond) ∈ zB := zb_m3 (List.mem_of_getElem? (i := 11) rfl) rfl
theorem w_521 : (.methodLink RX3 57 yX3_worthOf : Cond) ∈ zB := zb_m3 (List.mem_of_getElem? (i := 17) rfl) rfl
theorem w_525 : (.methodLink RX3 65 yX3_isCut : Cond) ∈ zB := zb_m3 (List.mem_of_getElem? (i := 21) rfl) rfl
theorem w_529 : (.methodLink RX3 61 yX3_laidCuts : Cond) ∈ zB := zb_m3 (List.mem_of_getElem? (i := 25) rfl) rfl
theorem w_533 : (.methodLink RX2 91 yX2_gather : Cond) ∈ zB := zb_m3 (List.mem_of_getElem? (i := 29) rfl) rfl
theorem w_537 : (.methodLink RX2 95 yX2_serveGroup : Cond) ∈ zB := zb_m3 (List.mem_of_getElem? (i := 33) rfl) rfl
theorem w_541 : (.methodLink RX2 170 yX7_layerOf : Cond) ∈ zB := zb_m3 (List.mem_of_getElem? (i := 37) rfl) rfl
theorem w_542 : (.methodLink RL 159 yX8_net : Cond) ∈ zB := zb_m3 (List.mem_of_getElem? (i := 38) rfl) rfl
theorem w_546 : (.methodLink RX8 232 yX8_settle : Cond) ∈ zB := zb_m3 (List.mem_of_getElem? (i := 42) rfl) rfl
theorem w_550 : (.methodLink RX8 376 yX2_run : Cond) ∈ zB := zb_m3 (List.mem_of_getElem? (i := 46) rfl) rfl
theorem w_551 : (.methodLink RX8 298 yX2_allLeft : Cond) ∈ zB := zb_m3 (List.mem_of_getElem? (i := 47) rfl) rfl
theorem w_556 : (.methodLink RX8 284 yX2_allPartsOf : Cond) ∈ zB := zb_m3 (List.mem_of_getElem? (i := 52) rfl) rfl
theorem w_560 : (.methodLink RX2 183 yX2_partOf : Cond) ∈ zB := zb_m3 (List.mem_of_getElem? (i := 56) rfl) rfl
theorem w_565 : (.methodLink RL 228 yX8_losses : Cond) ∈ zB := zb_m3 (List.mem_of_getElem? (i := 61) rfl) rfl
theorem w_569 : (.methodLink RL 220 yX8_meanNet : Cond) ∈ zB := zb_m3 (List.mem_of_getElem? (i := 65) rfl) rfl
theorem w_573 : (.methodLink RX8 328 yJx4a65c_isEmpty_aae02 : Cond) ∈ zB := zb_m3 (List.mem_of_getElem? (i := 69) rfl) rfl
theorem w_593 : (.methodLink RX8 333 yX8_playAll : Cond) ∈ zB := zb_m3 (List.mem_of_getElem? (i := 89) rfl) rfl
theorem w_598 : (.methodLink RX8 319 yX8_play : Cond) ∈ zB := zb_m3 (List.mem_of_getElem? (i := 94) rfl) rfl
theorem w_602 : (.methodLink RX8 386 yJx4a65c_clear_da8c8 : Cond) ∈ zB := zb_m3 (List.mem_of_getElem? (i := 98) rfl) rfl
theorem w_604 : (.methodLink RX8 393 yX6_damageOf : Cond) ∈ zB := zb_m3 (List.mem_of_getElem? (i := 100) rfl) rfl
theorem w_608 : (.methodLink RX6 26 yX4_isInForce : Cond) ∈ zB := zb_m3 (List.mem_of_getElem? (i := 104) rfl) rfl
theorem w_613 : (.methodLink RX8 110 yX0_happen : Cond) ∈ zB := zb_m3 (List.mem_of_getElem? (i := 109) rfl) rfl
theorem w_617 : (.methodLink RX8 79 yJx4a65c_add_9ea2d : Cond) ∈ zB := zb_m3 (List.mem_of_getElem? (i := 113) rfl) rfl
theorem w_618 : (.methodLink RL 224 yX8_isSound : Cond) ∈ zB := zb_m3 (List.mem_of_getElem? (i := 114) rfl) rfl
theorem w_622 : (.methodLink RX8 288 yX8_settlePool : Cond) ∈ zB := zb_m3 (List.mem_of_getElem? (i := 118) rfl) rfl
theorem w_626 : (.methodLink RX8 382 yX5_settleRings : Cond) ∈ zB := zb_m3 (List.mem_of_getElem? (i := 122) rfl) rfl
theorem w_630 : (.methodLink RX5 50 yJ7_fill_d0a16 : Cond) ∈ zB := zb_m3 (List.mem_of_getElem? (i := 126) rfl) rfl
theorem w_631 : (.methodLink RX5 56 yX5_goRounds : Cond) ∈ zB := zb_m3 (List.mem_of_getElem? (i := 127) rfl) rfl
theorem w_635 : (.methodLink RX5 60 ⟨RJ10, "arraycopy", "(Ljava/lang/Object;ILjava/lang/Object;II)V"⟩ : Cond) ∈ zB := zb_m3 (List.mem_of_getElem? (i := 131) rfl) rfl
theorem w_636 : (.methodLink RX5 68 yX5_handedOn : Cond) ∈ zB := zb_m3 (List.mem_of_getElem? (i := 132) rfl) rfl
theorem w_640 : (.methodLink RX5 41 ⟨RJ9, "min", "(JJ)J"⟩ : Cond) ∈ zB := zb_m3 (List.mem_of_getElem? (i := 136) rfl) rfl
theorem w_641 : (.methodLink RX5 47 ⟨RJ9, "max", "(JJ)J"⟩ : Cond) ∈ zB := zb_m3 (List.mem_of_getElem? (i := 137) rfl) rfl
theorem w_643 : (.methodLink RX8 355 yX2_areLossesWhole : Cond) ∈ zB := zb_m3 (List.mem_of_getElem? (i := 139) rfl) rfl
theorem w_647 : (.methodLink RX8 358 yX2_areLimitsKept : Cond) ∈ zB := zb_m3 (List.mem_of_getElem? (i := 143) rfl) rfl
theorem w_651 : (.methodLink RX2 196 yX7_wholeLimit : Cond) ∈ zB := zb_m3 (List.mem_of_getElem? (i := 147) rfl) rfl
theorem w_652 : (.methodLink RX8 361 yX5_fits : Cond) ∈ zB := zb_m3 (List.mem_of_getElem? (i := 148) rfl) rfl
theorem w_656 : (.methodLink RL 163 yL_some : Cond) ∈ zB := zb_m3 (List.mem_of_getElem? (i := 152) rfl) rfl
theorem w_659 : (.methodLink RL 7 yL_cell : Cond) ∈ zB := zb_m3 (List.mem_of_getElem? (i := 155) rfl) rfl
theorem w_662 : (.methodLink RL 167 yL_policy : Cond) ∈ zB := zb_m3 (List.mem_of_getElem? (i := 158) rfl) rfl
theorem w_667 : (.methodLink RL 13 yX8_policy : Cond) ∈ zB := zb_m3 (List.mem_of_getElem? (i := 163) rfl) rfl
theorem w_672 : (.methodLink RX8 54 yX8_isSpan : Cond) ∈ zB := zb_m3 (List.mem_of_getElem? (i := 168) rfl) rfl
theorem w_709 : (.methodLink RX8 76 yX4_init : Cond) ∈ zB := zb_m3 (List.mem_of_getElem? (i := 205) rfl) rfl
theorem w_712 : (.methodLink RX4 1 ⟨"java/lang/Object", "<init>", "()V"⟩ : Cond) ∈ zB := zb_m3 (List.mem_of_getElem? (i := 208) rfl) rfl
theorem w_732 : (.methodLink RX8 85 yX0_init : Cond) ∈ zB := zb_m3 (List.mem_of_getElem? (i := 228) rfl) rfl
theorem w_735 : (.methodLink RX0 3 ⟨"java/lang/Object", "<init>", "()V"⟩ : Cond) ∈ zB := zb_m3 (List.mem_of_getElem? (i := 231) rfl) rfl
theorem w_778 : (.methodLink RL 170 yL_loss : Cond) ∈ zB := zb_m4 (List.mem_of_getElem? (i := 34) rfl) rfl
theorem w_803 : (.methodLink RL 25 yX8_loss : Cond) ∈ zB := zb_m4 (List.mem_of_getElem? (i := 59) rfl) rfl
theorem w_809 : (.methodLink RX8 99 yX4_isInForce : Cond) ∈ zB := zb_m4 (List.mem_of_getElem? (i := 65) rfl) rfl
theorem w_812 : (.methodLink RX8 114 yX2_addByDay : Cond) ∈ zB := zb_m4 (List.mem_of_getElem? (i := 68) rfl) rfl
theorem w_816 : (.methodLink RX2 52 yJx4a65c_add_7a177 : Cond) ∈ zB := zb_m4 (List.mem_of_getElem? (i := 72) rfl) rfl
theorem w_820 : (.methodLink RJx4a65c 135 yJx4a65c_rangeCheckForAdd_d00df : Cond) ∈ zB := zb_m4 (List.mem_of_getElem? (i := 76) rfl) rfl
theorem w_964 : (.methodLink RJ0 212 ⟨RJ10, "arraycopy", "(Ljava/lang/Object;ILjava/lang/Object;II)V"⟩ : Cond) ∈ zB := zb_m4 (List.mem_of_getElem? (i := 220) rfl) rfl
theorem w_1003 : (.methodLink RJ0 1 ⟨"java/lang/Object", "<init>", "()V"⟩ : Cond) ∈ zB := zb_m5 (List.mem_of_getElem? (i := 19) rfl) rfl
theorem w_1056 : (.methodLink RJx4a65c 112 ⟨RJ10, "arraycopy", "(Ljava/lang/Object;ILjava/lang/Object;II)V"⟩ : Cond) ∈ zB := zb_m5 (List.mem_of_getElem? (i := 72) rfl) rfl
theorem w_1059 : (.methodLink RL 204 yL_setAmount : Cond) ∈ zB := zb_m5 (List.mem_of_getElem? (i := 75) rfl) rfl
theorem w_1062 : (.methodLink RL 34 yX8_setAmount : Cond) ∈ zB := zb_m5 (List.mem_of_getElem? (i := 78) rfl) rfl
theorem w_1066 : (.methodLink RX8 118 yX8_claimAt : Cond) ∈ zB := zb_m5 (List.mem_of_getElem? (i := 82) rfl) rfl
theorem w_1072 : (.methodLink RL 182 yL_treaty : Cond) ∈ zB := zb_m5 (List.mem_of_getElem? (i := 88) rfl) rfl
theorem w_1075 : (.methodLink RL 38 yX8_treaty : Cond) ∈ zB := zb_m5 (List.mem_of_getElem? (i := 91) rfl) rfl
theorem w_1079 : (.methodLink RX8 128 yX8_isBasis : Cond) ∈ zB := zb_m5 (List.mem_of_getElem? (i := 95) rfl) rfl
theorem w_1082 : (.methodLink RX8 132 yX8_fitsKind : Cond) ∈ zB := zb_m5 (List.mem_of_getElem? (i := 98) rfl) rfl
theorem w_1087 : (.methodLink RX8 142 yX7_init : Cond) ∈ zB := zb_m5 (List.mem_of_getElem? (i := 103) rfl) rfl
theorem w_1090 : (.methodLink RX7 3 ⟨"java/lang/Object", "<init>", "()V"⟩ : Cond) ∈ zB := zb_m5 (List.mem_of_getElem? (i := 106) rfl) rfl
theorem w_1157 : (.methodLink RX8 150 yX1_init : Cond) ∈ zB := zb_m5 (List.mem_of_getElem? (i := 173) rfl) rfl
theorem w_1160 : (.methodLink RX1 3 ⟨"java/lang/Object", "<init>", "()V"⟩ : Cond) ∈ zB := zb_m5 (List.mem_of_getElem? (i := 176) rfl) rfl
theorem w_1190 : (.methodLink RL 202 yL_setDays : Cond) ∈ zB := zb_m5 (List.mem_of_getElem? (i := 206) rfl) rfl
theorem w_1193 : (.methodLink RL 42 yX8_setDays : Cond) ∈ zB := zb_m5 (List.mem_of_getElem? (i := 209) rfl) rfl
theorem w_1198 : (.methodLink RL 196 yL_reinstate : Cond) ∈ zB := zb_m5 (List.mem_of_getElem? (i := 214) rfl) rfl
theorem w_1201 : (.methodLink RL 45 yX8_reinstate : Cond) ∈ zB := zb_m5 (List.mem_of_getElem? (i := 217) rfl) rfl
theorem w_1206 : (.methodLink RX8 167 yX7_isLimited : Cond) ∈ zB := zb_m5 (List.mem_of_getElem? (i := 222) rfl) rfl
theorem w_1208 : (.methodLink RL 199 yL_setPremium : Cond) ∈ zB := zb_m5 (List.mem_of_getElem? (i := 224) rfl) rfl
theorem w_1211 : (.methodLink RL 49 yX8_setPremium : Cond) ∈ zB := zb_m5 (List.mem_of_getElem? (i := 227) rfl) rfl
theorem w_1216 : (.methodLink RL 185 yL_share : Cond) ∈ zB := zb_m5 (List.mem_of_getElem? (i := 232) rfl) rfl
theorem w_1219 : (.methodLink RL 52 yX8_share : Cond) ∈ zB := zb_m5 (List.mem_of_getElem? (i := 235) rfl) rfl
theorem w_1223 : (.methodLink RX8 187 yX8_checkReinsurer : Cond) ∈ zB := zb_m5 (List.mem_of_getElem? (i := 239) rfl) rfl
theorem w_1228 : (.methodLink RX8 197 yX7_allShares : Cond) ∈ zB := zb_m6 (List.mem_of_getElem? (i := 4) rfl) rfl
theorem w_1233 : (.methodLink RL 194 yL_commute : Cond) ∈ zB := zb_m6 (List.mem_of_getElem? (i := 9) rfl) rfl
theorem w_1236 : (.methodLink RL 56 yX8_commute : Cond) ∈ zB := zb_m6 (List.mem_of_getElem? (i := 12) rfl) rfl
theorem w_1240 : (.methodLink RX8 217 yX8_coverAt : Cond) ∈ zB := zb_m6 (List.mem_of_getElem? (i := 16) rfl) rfl
theorem w_1249 : (.methodLink RL 130 yL_left : Cond) ∈ zB := zb_m6 (List.mem_of_getElem? (i := 25) rfl) rfl
theorem w_1252 : (.methodLink RL 66 yX8_left : Cond) ∈ zB := zb_m6 (List.mem_of_getElem? (i := 28) rfl) rfl
theorem w_1256 : (.methodLink RL 140 yL_taken : Cond) ∈ zB := zb_m6 (List.mem_of_getElem? (i := 32) rfl) rfl
theorem w_1259 : (.methodLink RL 70 yX8_taken : Cond) ∈ zB := zb_m6 (List.mem_of_getElem? (i := 35) rfl) rfl
theorem w_1263 : (.methodLink RL 142 yL_owed : Cond) ∈ zB := zb_m6 (List.mem_of_getElem? (i := 39) rfl) rfl
theorem w_1266 : (.methodLink RL 84 yX8_owed : Cond) ∈ zB := zb_m6 (List.mem_of_getElem? (i := 42) rfl) rfl
theorem w_1270 : (.methodLink RL 212 yL_events : Cond) ∈ zB := zb_m6 (List.mem_of_getElem? (i := 46) rfl) rfl
theorem w_1273 : (.methodLink RL 87 yX8_events : Cond) ∈ zB := zb_m6 (List.mem_of_getElem? (i := 49) rfl) rfl
theorem w_1278 : (.methodLink RL 150 yL_lost : Cond) ∈ zB := zb_m6 (List.mem_of_getElem? (i := 54) rfl) rfl
theorem w_1281 : (.methodLink RL 99 yX8_lost : Cond) ∈ zB := zb_m6 (List.mem_of_getElem? (i := 57) rfl) rfl
theorem w_1285 : (.methodLink RL 146 yL_comes : Cond) ∈ zB := zb_m6 (List.mem_of_getElem? (i := 61) rfl) rfl
theorem w_1288 : (.methodLink RL 102 yX8_comes : Cond) ∈ zB := zb_m6 (List.mem_of_getElem? (i := 64) rfl) rfl
theorem w_1292 : (.methodLink RL 148 yL_stays : Cond) ∈ zB := zb_m6 (List.mem_of_getElem? (i := 68) rfl) rfl
theorem w_1295 : (.methodLink RL 105 yX8_stays : Cond) ∈ zB := zb_m6 (List.mem_of_getElem? (i := 71) rfl) rfl
theorem w_1299 : (.methodLink RX8 294 yX5_handedOn : Cond) ∈ zB := zb_m6 (List.mem_of_getElem? (i := 75) rfl) rfl
theorem w_1300 : (.methodLink RL 206 yL_scenario : Cond) ∈ zB := zb_m6 (List.mem_of_getElem? (i := 76) rfl) rfl
theorem w_1303 : (.methodLink RL 108 yX8_scenario : Cond) ∈ zB := zb_m6 (List.mem_of_getElem? (i := 79) rfl) rfl
theorem w_1310 : (.methodLink RX8 308 yX6_init : Cond) ∈ zB := zb_m6 (List.mem_of_getElem? (i := 86) rfl) rfl
theorem w_1313 : (.methodLink RX6 3 ⟨"java/lang/Object", "<init>", "()V"⟩ : Cond) ∈ zB := zb_m6 (List.mem_of_getElem? (i := 89) rfl) rfl
theorem w_1331 : (.methodLink RL 210 yL_damage : Cond) ∈ zB := zb_m6 (List.mem_of_getElem? (i := 107) rfl) rfl
theorem w_1334 : (.methodLink RL 111 yX8_damage : Cond) ∈ zB := zb_m6 (List.mem_of_getElem? (i := 110) rfl) rfl
theorem w_1338 : (.methodLink RX8 311 yX8_scenarioAt : Cond) ∈ zB := zb_m6 (List.mem_of_getElem? (i := 114) rfl) rfl
theorem w_1344 : (.methodLink RL 208 yL_scenarioNet : Cond) ∈ zB := zb_m6 (List.mem_of_getElem? (i := 120) rfl) rfl
theorem w_1347 : (.methodLink RL 114 yX8_scenarioNet : Cond) ∈ zB := zb_m6 (List.mem_of_getElem? (i := 123) rfl) rfl
theorem w_1351 : (.methodLink RL 218 yL_tail : Cond) ∈ zB := zb_m6 (List.mem_of_getElem? (i := 127) rfl) rfl
theorem w_1355 : (.methodLink RL 117 yX8_tail : Cond) ∈ zB := zb_m6 (List.mem_of_getElem? (i := 131) rfl) rfl
theorem w_1376 : (.methodLink RX8 338 yX8_weightAbove : Cond) ∈ zB := zb_m6 (List.mem_of_getElem? (i := 152) rfl) rfl
theorem w_1382 : (.methodLink RL 188 yL_handOn : Cond) ∈ zB := zb_m6 (List.mem_of_getElem? (i := 158) rfl) rfl
theorem w_1385 : (.methodLink RL 122 yX8_handOn : Cond) ∈ zB := zb_m6 (List.mem_of_getElem? (i := 161) rfl) rfl
theorem w_1390 : (.methodLink RL 152 yL_fail : Cond) ∈ zB := zb_m6 (List.mem_of_getElem? (i := 166) rfl) rfl
theorem w_1393 : (.methodLink RL 126 yX8_fail : Cond) ∈ zB := zb_m6 (List.mem_of_getElem? (i := 169) rfl) rfl
theorem w_1397 : (.methodLink RL 190 yL_kept : Cond) ∈ zB := zb_m6 (List.mem_of_getElem? (i := 173) rfl) rfl
theorem w_1400 : (.methodLink RL 133 yL_takenFrom : Cond) ∈ zB := zb_m6 (List.mem_of_getElem? (i := 176) rfl) rfl
theorem w_1403 : (.methodLink RL 73 yX8_takenFrom : Cond) ∈ zB := zb_m6 (List.mem_of_getElem? (i := 179) rfl) rfl
theorem w_1407 : (.methodLink RL 136 yL_limit : Cond) ∈ zB := zb_m6 (List.mem_of_getElem? (i := 183) rfl) rfl
theorem w_1410 : (.methodLink RL 76 yX8_limit : Cond) ∈ zB := zb_m6 (List.mem_of_getElem? (i := 186) rfl) rfl
theorem w_1417 : (.methodLink RL 138 yL_reinstated : Cond) ∈ zB := zb_m6 (List.mem_of_getElem? (i := 193) rfl) rfl
theorem w_1420 : (.methodLink RL 81 yX8_reinstated : Cond) ∈ zB := zb_m6 (List.mem_of_getElem? (i := 196) rfl) rfl
theorem w_1424 : (.methodLink RL 144 yL_paid : Cond) ∈ zB := zb_m6 (List.mem_of_getElem? (i := 200) rfl) rfl
theorem w_1427 : (.methodLink RL 96 yX8_paid : Cond) ∈ zB := zb_m6 (List.mem_of_getElem? (i := 203) rfl) rfl
theorem w_1431 : (.methodLink RX8 280 yX2_partOf : Cond) ∈ zB := zb_m6 (List.mem_of_getElem? (i := 207) rfl) rfl
theorem w_1432 : (.methodLink RL 155 yX8_allLosses : Cond) ∈ zB := zb_m6 (List.mem_of_getElem? (i := 208) rfl) rfl
theorem w_1436 : (.methodLink RL 174 yJ0_charAt_5068e : Cond) ∈ zB := zb_m6 (List.mem_of_getElem? (i := 212) rfl) rfl
theorem w_1440 : (.methodLink RJ0 492 yJ0_isLatin1_aae02 : Cond) ∈ zB := zb_m6 (List.mem_of_getElem? (i := 216) rfl) rfl
theorem w_1444 : (.methodLink RJ0 495 yJ1_charAt_3b067 : Cond) ∈ zB := zb_m6 (List.mem_of_getElem? (i := 220) rfl) rfl
theorem w_1447 : (.methodLink RJ1 9 yJ0_checkIndex_df160 : Cond) ∈ zB := zb_m6 (List.mem_of_getElem? (i := 223) rfl) rfl
theorem w_1450 : (.methodLink RJ0 1059 yJ3_checkIndex_8e157 : Cond) ∈ zB := zb_m6 (List.mem_of_getElem? (i := 226) rfl) rfl
theorem w_80 : (.fieldLink RJx4a65c 39 "java/util/ArrayList" "DEFAULTCAPACITY_EMPTY_ELEMENTDATA" "[Ljava/lang/Object;" : Cond) ∈ zB := zb_m1 (List.mem_of_getElem? (i := 56) rfl) rfl
theorem w_82 : (.fieldLink RJx4a65c 9 "java/util/ArrayList" "elementData" "[Ljava/lang/Object;" : Cond) ∈ zB := zb_m1 (List.mem_of_getElem? (i := 58) rfl) rfl
theorem w_83 : (.fieldLink RJx4a65c 48 "java/util/ArrayList" "size" "I" : Cond) ∈ zB := zb_m1 (List.mem_of_getElem? (i := 59) rfl) rfl
theorem w_84 : (.fieldLink RJxc12de 7 "java/util/AbstractList" "modCount" "I" : Cond) ∈ zB := zb_m1 (List.mem_of_getElem? (i := 60) rfl) rfl
theorem w_85 : (.fieldLink RJx4a65c 63 "java/util/ArrayList" "modCount" "I" : Cond) ∈ zB := zb_m1 (List.mem_of_getElem? (i := 61) rfl) rfl
theorem w_108 : (.fieldLink RX3 9 "Layertreaty$Laying" "days" "[I" : Cond) ∈ zB := zb_m1 (List.mem_of_getElem? (i := 84) rfl) rfl
theorem w_109 : (.fieldLink RX2 154 "Layertreaty$Laying" "days" "[I" : Cond) ∈ zB := zb_m1 (List.mem_of_getElem? (i := 85) rfl) rfl
theorem w_110 : (.fieldLink RX3 15 "Layertreaty$Laying" "sums" "[J" : Cond) ∈ zB := zb_m1 (List.mem_of_getElem? (i := 86) rfl) rfl
theorem w_111 : (.fieldLink RX3 19 "Layertreaty$Laying" "ends" "[I" : Cond) ∈ zB := zb_m1 (List.mem_of_getElem? (i := 87) rfl) rfl
theorem w_112 : (.fieldLink RX2 150 "Layertreaty$Laying" "ends" "[I" : Cond) ∈ zB := zb_m1 (List.mem_of_getElem? (i := 88) rfl) rfl
theorem w_113 : (.fieldLink RX3 22 "Layertreaty$Laying" "brings" "[J" : Cond) ∈ zB := zb_m1 (List.mem_of_getElem? (i := 89) rfl) rfl
theorem w_114 : (.fieldLink RX3 25 "Layertreaty$Laying" "counts" "[I" : Cond) ∈ zB := zb_m1 (List.mem_of_getElem? (i := 90) rfl) rfl
theorem w_115 : (.fieldLink RX3 28 "Layertreaty$Laying" "size" "I" : Cond) ∈ zB := zb_m1 (List.mem_of_getElem? (i := 91) rfl) rfl
theorem w_116 : (.fieldLink RX2 129 "Layertreaty$Laying" "size" "I" : Cond) ∈ zB := zb_m1 (List.mem_of_getElem? (i := 92) rfl) rfl
theorem w_132 : (.fieldLink RX2 12 "Layertreaty$Flow" "claims" "Ljava/util/ArrayList;" : Cond) ∈ zB := zb_m1 (List.mem_of_getElem? (i := 108) rfl) rfl
theorem w_133 : (.fieldLink RX8 385 "Layertreaty$Flow" "claims" "Ljava/util/ArrayList;" : Cond) ∈ zB := zb_m1 (List.mem_of_getElem? (i := 109) rfl) rfl
theorem w_134 : (.fieldLink RX2 18 "Layertreaty$Flow" "covers" "Ljava/util/ArrayList;" : Cond) ∈ zB := zb_m1 (List.mem_of_getElem? (i := 110) rfl) rfl
theorem w_135 : (.fieldLink RX8 145 "Layertreaty$Flow" "covers" "Ljava/util/ArrayList;" : Cond) ∈ zB := zb_m1 (List.mem_of_getElem? (i := 111) rfl) rfl
theorem w_136 : (.fieldLink RX2 21 "Layertreaty$Flow" "open" "Ljava/util/ArrayList;" : Cond) ∈ zB := zb_m1 (List.mem_of_getElem? (i := 112) rfl) rfl
theorem w_137 : (.fieldLink RX2 24 "Layertreaty$Flow" "group" "Ljava/util/ArrayList;" : Cond) ∈ zB := zb_m1 (List.mem_of_getElem? (i := 113) rfl) rfl
theorem w_138 : (.fieldLink RX2 30 "Layertreaty$Flow" "laying" "LLayertreaty$Laying;" : Cond) ∈ zB := zb_m1 (List.mem_of_getElem? (i := 114) rfl) rfl
theorem w_139 : (.fieldLink RX2 34 "Layertreaty$Flow" "isBest" "Z" : Cond) ∈ zB := zb_m1 (List.mem_of_getElem? (i := 115) rfl) rfl
theorem w_159 : (.fieldLink RX5 9 "Layertreaty$Pool" "isFailed" "[Z" : Cond) ∈ zB := zb_m1 (List.mem_of_getElem? (i := 135) rfl) rfl
theorem w_160 : (.fieldLink RX8 202 "Layertreaty$Pool" "isFailed" "[Z" : Cond) ∈ zB := zb_m1 (List.mem_of_getElem? (i := 136) rfl) rfl
theorem w_161 : (.fieldLink RX5 15 "Layertreaty$Pool" "receivers" "[I" : Cond) ∈ zB := zb_m1 (List.mem_of_getElem? (i := 137) rfl) rfl
theorem w_162 : (.fieldLink RX8 211 "Layertreaty$Pool" "receivers" "[I" : Cond) ∈ zB := zb_m1 (List.mem_of_getElem? (i := 138) rfl) rfl
theorem w_163 : (.fieldLink RX5 19 "Layertreaty$Pool" "bounds" "[I" : Cond) ∈ zB := zb_m1 (List.mem_of_getElem? (i := 139) rfl) rfl
theorem w_164 : (.fieldLink RX8 214 "Layertreaty$Pool" "bounds" "[I" : Cond) ∈ zB := zb_m1 (List.mem_of_getElem? (i := 140) rfl) rfl
theorem w_165 : (.fieldLink RX5 22 "Layertreaty$Pool" "limits" "[I" : Cond) ∈ zB := zb_m1 (List.mem_of_getElem? (i := 141) rfl) rfl
theorem w_166 : (.fieldLink RX8 208 "Layertreaty$Pool" "limits" "[I" : Cond) ∈ zB := zb_m1 (List.mem_of_getElem? (i := 142) rfl) rfl
theorem w_167 : (.fieldLink RX5 25 "Layertreaty$Pool" "own" "[J" : Cond) ∈ zB := zb_m1 (List.mem_of_getElem? (i := 143) rfl) rfl
theorem w_168 : (.fieldLink RX8 379 "Layertreaty$Pool" "own" "[J" : Cond) ∈ zB := zb_m1 (List.mem_of_getElem? (i := 144) rfl) rfl
theorem w_169 : (.fieldLink RX5 29 "Layertreaty$Pool" "comes" "[J" : Cond) ∈ zB := zb_m1 (List.mem_of_getElem? (i := 145) rfl) rfl
theorem w_170 : (.fieldLink RX8 291 "Layertreaty$Pool" "comes" "[J" : Cond) ∈ zB := zb_m1 (List.mem_of_getElem? (i := 146) rfl) rfl
theorem w_171 : (.fieldLink RX5 32 "Layertreaty$Pool" "early" "[J" : Cond) ∈ zB := zb_m1 (List.mem_of_getElem? (i := 147) rfl) rfl
theorem w_172 : (.fieldLink RX5 35 "Layertreaty$Pool" "above" "[J" : Cond) ∈ zB := zb_m1 (List.mem_of_getElem? (i := 148) rfl) rfl
theorem w_173 : (.fieldLink RX5 38 "Layertreaty$Pool" "before" "[J" : Cond) ∈ zB := zb_m1 (List.mem_of_getElem? (i := 149) rfl) rfl
theorem w_194 : (.fieldLink RX8 10 "Layertreaty" "policies" "Ljava/util/ArrayList;" : Cond) ∈ zB := zb_m1 (List.mem_of_getElem? (i := 170) rfl) rfl
theorem w_195 : (.fieldLink RX8 16 "Layertreaty" "claims" "Ljava/util/ArrayList;" : Cond) ∈ zB := zb_m1 (List.mem_of_getElem? (i := 171) rfl) rfl
theorem w_196 : (.fieldLink RX8 19 "Layertreaty" "terms" "Ljava/util/ArrayList;" : Cond) ∈ zB := zb_m1 (List.mem_of_getElem? (i := 172) rfl) rfl
theorem w_197 : (.fieldLink RX8 22 "Layertreaty" "scenarios" "Ljava/util/ArrayList;" : Cond) ∈ zB := zb_m1 (List.mem_of_getElem? (i := 173) rfl) rfl
theorem w_198 : (.fieldLink RX8 25 "Layertreaty" "damages" "Ljava/util/ArrayList;" : Cond) ∈ zB := zb_m1 (List.mem_of_getElem? (i := 174) rfl) rfl
theorem w_199 : (.fieldLink RX8 31 "Layertreaty" "real" "LLayertreaty$Flow;" : Cond) ∈ zB := zb_m1 (List.mem_of_getElem? (i := 175) rfl) rfl
theorem w_200 : (.fieldLink RX8 35 "Layertreaty" "trial" "LLayertreaty$Flow;" : Cond) ∈ zB := zb_m1 (List.mem_of_getElem? (i := 176) rfl) rfl
theorem w_201 : (.fieldLink RX8 41 "Layertreaty" "pool" "LLayertreaty$Pool;" : Cond) ∈ zB := zb_m1 (List.mem_of_getElem? (i := 177) rfl) rfl
theorem w_202 : (.fieldLink RX8 45 "Layertreaty" "isSettled" "Z" : Cond) ∈ zB := zb_m1 (List.mem_of_getElem? (i := 178) rfl) rfl
theorem w_713 : (.fieldLink RX4 7 "Layertreaty$Policy" "sum" "I" : Cond) ∈ zB := zb_m3 (List.mem_of_getElem? (i := 209) rfl) rfl
theorem w_714 : (.fieldLink RX6 32 "Layertreaty$Policy" "sum" "I" : Cond) ∈ zB := zb_m3 (List.mem_of_getElem? (i := 210) rfl) rfl
theorem w_715 : (.fieldLink RX7 96 "Layertreaty$Policy" "sum" "I" : Cond) ∈ zB := zb_m3 (List.mem_of_getElem? (i := 211) rfl) rfl
theorem w_716 : (.fieldLink RX4 13 "Layertreaty$Policy" "zone" "I" : Cond) ∈ zB := zb_m3 (List.mem_of_getElem? (i := 212) rfl) rfl
theorem w_717 : (.fieldLink RX6 35 "Layertreaty$Policy" "zone" "I" : Cond) ∈ zB := zb_m3 (List.mem_of_getElem? (i := 213) rfl) rfl
theorem w_718 : (.fieldLink RX2 135 "Layertreaty$Policy" "zone" "I" : Cond) ∈ zB := zb_m3 (List.mem_of_getElem? (i := 214) rfl) rfl
theorem w_719 : (.fieldLink RX4 16 "Layertreaty$Policy" "first" "I" : Cond) ∈ zB := zb_m3 (List.mem_of_getElem? (i := 215) rfl) rfl
theorem w_720 : (.fieldLink RX7 75 "Layertreaty$Policy" "first" "I" : Cond) ∈ zB := zb_m3 (List.mem_of_getElem? (i := 216) rfl) rfl
theorem w_721 : (.fieldLink RX4 19 "Layertreaty$Policy" "last" "I" : Cond) ∈ zB := zb_m3 (List.mem_of_getElem? (i := 217) rfl) rfl
theorem w_736 : (.fieldLink RX0 33 "Layertreaty$Claim" "policy" "LLayertreaty$Policy;" : Cond) ∈ zB := zb_m3 (List.mem_of_getElem? (i := 232) rfl) rfl
theorem w_737 : (.fieldLink RX7 71 "Layertreaty$Claim" "policy" "LLayertreaty$Policy;" : Cond) ∈ zB := zb_m3 (List.mem_of_getElem? (i := 233) rfl) rfl
theorem w_738 : (.fieldLink RX2 131 "Layertreaty$Claim" "policy" "LLayertreaty$Policy;" : Cond) ∈ zB := zb_m3 (List.mem_of_getElem? (i := 234) rfl) rfl
theorem w_739 : (.fieldLink RX8 389 "Layertreaty$Claim" "policy" "LLayertreaty$Policy;" : Cond) ∈ zB := zb_m3 (List.mem_of_getElem? (i := 235) rfl) rfl
theorem w_740 : (.fieldLink RX0 9 "Layertreaty$Claim" "took" "[J" : Cond) ∈ zB := zb_m3 (List.mem_of_getElem? (i := 236) rfl) rfl
theorem w_741 : (.fieldLink RX1 53 "Layertreaty$Claim" "took" "[J" : Cond) ∈ zB := zb_m3 (List.mem_of_getElem? (i := 237) rfl) rfl
theorem w_742 : (.fieldLink RX2 174 "Layertreaty$Claim" "took" "[J" : Cond) ∈ zB := zb_m3 (List.mem_of_getElem? (i := 238) rfl) rfl
theorem w_743 : (.fieldLink RX8 245 "Layertreaty$Claim" "took" "[J" : Cond) ∈ zB := zb_m3 (List.mem_of_getElem? (i := 239) rfl) rfl
theorem w_744 : (.fieldLink RX0 15 "Layertreaty$Claim" "events" "[I" : Cond) ∈ zB := zb_m4 (List.mem_of_getElem? (i := 0) rfl) rfl
theorem w_745 : (.fieldLink RX2 157 "Layertreaty$Claim" "events" "[I" : Cond) ∈ zB := zb_m4 (List.mem_of_getElem? (i := 1) rfl) rfl
theorem w_746 : (.fieldLink RX0 19 "Layertreaty$Claim" "day" "I" : Cond) ∈ zB := zb_m4 (List.mem_of_getElem? (i := 2) rfl) rfl
theorem w_747 : (.fieldLink RX3 32 "Layertreaty$Claim" "day" "I" : Cond) ∈ zB := zb_m4 (List.mem_of_getElem? (i := 3) rfl) rfl
theorem w_748 : (.fieldLink RX2 48 "Layertreaty$Claim" "day" "I" : Cond) ∈ zB := zb_m4 (List.mem_of_getElem? (i := 4) rfl) rfl
theorem w_749 : (.fieldLink RX7 66 "Layertreaty$Claim" "day" "I" : Cond) ∈ zB := zb_m4 (List.mem_of_getElem? (i := 5) rfl) rfl
theorem w_750 : (.fieldLink RX0 23 "Layertreaty$Claim" "told" "I" : Cond) ∈ zB := zb_m4 (List.mem_of_getElem? (i := 6) rfl) rfl
theorem w_751 : (.fieldLink RX7 78 "Layertreaty$Claim" "told" "I" : Cond) ∈ zB := zb_m4 (List.mem_of_getElem? (i := 7) rfl) rfl
theorem w_752 : (.fieldLink RX0 26 "Layertreaty$Claim" "amount" "I" : Cond) ∈ zB := zb_m4 (List.mem_of_getElem? (i := 8) rfl) rfl
theorem w_753 : (.fieldLink RX8 124 "Layertreaty$Claim" "amount" "I" : Cond) ∈ zB := zb_m4 (List.mem_of_getElem? (i := 9) rfl) rfl
theorem w_754 : (.fieldLink RX2 187 "Layertreaty$Claim" "amount" "I" : Cond) ∈ zB := zb_m4 (List.mem_of_getElem? (i := 10) rfl) rfl
theorem w_755 : (.fieldLink RX0 29 "Layertreaty$Claim" "left" "J" : Cond) ∈ zB := zb_m4 (List.mem_of_getElem? (i := 11) rfl) rfl
theorem w_756 : (.fieldLink RX3 37 "Layertreaty$Claim" "left" "J" : Cond) ∈ zB := zb_m4 (List.mem_of_getElem? (i := 12) rfl) rfl
theorem w_757 : (.fieldLink RX1 48 "Layertreaty$Claim" "left" "J" : Cond) ∈ zB := zb_m4 (List.mem_of_getElem? (i := 13) rfl) rfl
theorem w_758 : (.fieldLink RX7 90 "Layertreaty$Claim" "left" "J" : Cond) ∈ zB := zb_m4 (List.mem_of_getElem? (i := 14) rfl) rfl
theorem w_759 : (.fieldLink RX2 164 "Layertreaty$Claim" "left" "J" : Cond) ∈ zB := zb_m4 (List.mem_of_getElem? (i := 15) rfl) rfl
theorem w_760 : (.fieldLink RX8 242 "Layertreaty$Claim" "left" "J" : Cond) ∈ zB := zb_m4 (List.mem_of_getElem? (i := 16) rfl) rfl
theorem w_849 : (.fieldLink RJ0 1048 "java/lang/AbstractStringBuilder" "maybeLatin1" "Z" : Cond) ∈ zB := zb_m4 (List.mem_of_getElem? (i := 105) rfl) rfl
theorem w_909 : (.fieldLink RJ0 1053 "jdk/internal/util/Preconditions" "SIOOBE_FORMATTER" "Ljava/util/function/BiFunction;" : Cond) ∈ zB := zb_m4 (List.mem_of_getElem? (i := 165) rfl) rfl
theorem w_931 : (.fieldLink RJ0 38 "java/lang/String" "COMPACT_STRINGS" "Z" : Cond) ∈ zB := zb_m4 (List.mem_of_getElem? (i := 187) rfl) rfl
theorem w_979 : (.fieldLink RJ6 83 "java/lang/Integer" "DigitOnes" "[B" : Cond) ∈ zB := zb_m4 (List.mem_of_getElem? (i := 235) rfl) rfl
theorem w_981 : (.fieldLink RJ6 87 "java/lang/Integer" "DigitTens" "[B" : Cond) ∈ zB := zb_m4 (List.mem_of_getElem? (i := 237) rfl) rfl
theorem w_1048 : (.fieldLink RJ0 9 "java/lang/String" "value" "[B" : Cond) ∈ zB := zb_m5 (List.mem_of_getElem? (i := 64) rfl) rfl
theorem w_1049 : (.fieldLink RJ0 15 "java/lang/String" "coder" "B" : Cond) ∈ zB := zb_m5 (List.mem_of_getElem? (i := 65) rfl) rfl
theorem w_1091 : (.fieldLink RX7 38 "Layertreaty$Treaty" "number" "I" : Cond) ∈ zB := zb_m5 (List.mem_of_getElem? (i := 107) rfl) rfl
theorem w_1092 : (.fieldLink RX2 56 "Layertreaty$Treaty" "number" "I" : Cond) ∈ zB := zb_m5 (List.mem_of_getElem? (i := 108) rfl) rfl
theorem w_1093 : (.fieldLink RX1 57 "Layertreaty$Treaty" "number" "I" : Cond) ∈ zB := zb_m5 (List.mem_of_getElem? (i := 109) rfl) rfl
theorem w_1094 : (.fieldLink RX8 153 "Layertreaty$Treaty" "number" "I" : Cond) ∈ zB := zb_m5 (List.mem_of_getElem? (i := 110) rfl) rfl
theorem w_1095 : (.fieldLink RX7 41 "Layertreaty$Treaty" "kind" "C" : Cond) ∈ zB := zb_m5 (List.mem_of_getElem? (i := 111) rfl) rfl
theorem w_1096 : (.fieldLink RX2 79 "Layertreaty$Treaty" "kind" "C" : Cond) ∈ zB := zb_m5 (List.mem_of_getElem? (i := 112) rfl) rfl
theorem w_1097 : (.fieldLink RX8 370 "Layertreaty$Treaty" "kind" "C" : Cond) ∈ zB := zb_m5 (List.mem_of_getElem? (i := 113) rfl) rfl
theorem w_1098 : (.fieldLink RX7 45 "Layertreaty$Treaty" "basis" "C" : Cond) ∈ zB := zb_m5 (List.mem_of_getElem? (i := 114) rfl) rfl
theorem w_1099 : (.fieldLink RX7 48 "Layertreaty$Treaty" "first" "I" : Cond) ∈ zB := zb_m5 (List.mem_of_getElem? (i := 115) rfl) rfl
theorem w_1100 : (.fieldLink RX7 51 "Layertreaty$Treaty" "last" "I" : Cond) ∈ zB := zb_m5 (List.mem_of_getElem? (i := 116) rfl) rfl
theorem w_1101 : (.fieldLink RX7 54 "Layertreaty$Treaty" "a" "I" : Cond) ∈ zB := zb_m5 (List.mem_of_getElem? (i := 117) rfl) rfl
theorem w_1102 : (.fieldLink RX7 57 "Layertreaty$Treaty" "b" "I" : Cond) ∈ zB := zb_m5 (List.mem_of_getElem? (i := 118) rfl) rfl
theorem w_1103 : (.fieldLink RX1 65 "Layertreaty$Treaty" "b" "I" : Cond) ∈ zB := zb_m5 (List.mem_of_getElem? (i := 119) rfl) rfl
theorem w_1104 : (.fieldLink RX7 9 "Layertreaty$Treaty" "shares" "[I" : Cond) ∈ zB := zb_m5 (List.mem_of_getElem? (i := 120) rfl) rfl
theorem w_1105 : (.fieldLink RX8 193 "Layertreaty$Treaty" "shares" "[I" : Cond) ∈ zB := zb_m5 (List.mem_of_getElem? (i := 121) rfl) rfl
theorem w_1106 : (.fieldLink RX2 178 "Layertreaty$Treaty" "shares" "[I" : Cond) ∈ zB := zb_m5 (List.mem_of_getElem? (i := 122) rfl) rfl
theorem w_1107 : (.fieldLink RX7 15 "Layertreaty$Treaty" "days" "I" : Cond) ∈ zB := zb_m5 (List.mem_of_getElem? (i := 123) rfl) rfl
theorem w_1108 : (.fieldLink RX3 41 "Layertreaty$Treaty" "days" "I" : Cond) ∈ zB := zb_m5 (List.mem_of_getElem? (i := 124) rfl) rfl
theorem w_1109 : (.fieldLink RX8 162 "Layertreaty$Treaty" "days" "I" : Cond) ∈ zB := zb_m5 (List.mem_of_getElem? (i := 125) rfl) rfl
theorem w_1110 : (.fieldLink RX7 19 "Layertreaty$Treaty" "many" "I" : Cond) ∈ zB := zb_m5 (List.mem_of_getElem? (i := 126) rfl) rfl
theorem w_1111 : (.fieldLink RX1 68 "Layertreaty$Treaty" "many" "I" : Cond) ∈ zB := zb_m5 (List.mem_of_getElem? (i := 127) rfl) rfl
theorem w_1112 : (.fieldLink RX8 173 "Layertreaty$Treaty" "many" "I" : Cond) ∈ zB := zb_m5 (List.mem_of_getElem? (i := 128) rfl) rfl
theorem w_1113 : (.fieldLink RX7 22 "Layertreaty$Treaty" "price" "I" : Cond) ∈ zB := zb_m5 (List.mem_of_getElem? (i := 129) rfl) rfl
theorem w_1114 : (.fieldLink RX8 176 "Layertreaty$Treaty" "price" "I" : Cond) ∈ zB := zb_m5 (List.mem_of_getElem? (i := 130) rfl) rfl
theorem w_1115 : (.fieldLink RX7 25 "Layertreaty$Treaty" "isByTime" "Z" : Cond) ∈ zB := zb_m5 (List.mem_of_getElem? (i := 131) rfl) rfl
theorem w_1116 : (.fieldLink RX8 179 "Layertreaty$Treaty" "isByTime" "Z" : Cond) ∈ zB := zb_m5 (List.mem_of_getElem? (i := 132) rfl) rfl
theorem w_1117 : (.fieldLink RX7 29 "Layertreaty$Treaty" "premium" "I" : Cond) ∈ zB := zb_m5 (List.mem_of_getElem? (i := 133) rfl) rfl
theorem w_1118 : (.fieldLink RX8 184 "Layertreaty$Treaty" "premium" "I" : Cond) ∈ zB := zb_m5 (List.mem_of_getElem? (i := 134) rfl) rfl
theorem w_1119 : (.fieldLink RX7 32 "Layertreaty$Treaty" "isCommuted" "Z" : Cond) ∈ zB := zb_m5 (List.mem_of_getElem? (i := 135) rfl) rfl
theorem w_1120 : (.fieldLink RX1 38 "Layertreaty$Treaty" "isCommuted" "Z" : Cond) ∈ zB := zb_m5 (List.mem_of_getElem? (i := 136) rfl) rfl
theorem w_1121 : (.fieldLink RX8 227 "Layertreaty$Treaty" "isCommuted" "Z" : Cond) ∈ zB := zb_m5 (List.mem_of_getElem? (i := 137) rfl) rfl
theorem w_1122 : (.fieldLink RX2 190 "Layertreaty$Treaty" "isCommuted" "Z" : Cond) ∈ zB := zb_m5 (List.mem_of_getElem? (i := 138) rfl) rfl
theorem w_1123 : (.fieldLink RX7 35 "Layertreaty$Treaty" "commutedFor" "I" : Cond) ∈ zB := zb_m5 (List.mem_of_getElem? (i := 139) rfl) rfl
theorem w_1124 : (.fieldLink RX8 235 "Layertreaty$Treaty" "commutedFor" "I" : Cond) ∈ zB := zb_m5 (List.mem_of_getElem? (i := 140) rfl) rfl
theorem w_1161 : (.fieldLink RX1 28 "Layertreaty$Cover" "treaty" "LLayertreaty$Treaty;" : Cond) ∈ zB := zb_m5 (List.mem_of_getElem? (i := 177) rfl) rfl
theorem w_1162 : (.fieldLink RX2 75 "Layertreaty$Cover" "treaty" "LLayertreaty$Treaty;" : Cond) ∈ zB := zb_m5 (List.mem_of_getElem? (i := 178) rfl) rfl
theorem w_1163 : (.fieldLink RX8 223 "Layertreaty$Cover" "treaty" "LLayertreaty$Treaty;" : Cond) ∈ zB := zb_m5 (List.mem_of_getElem? (i := 179) rfl) rfl
theorem w_1164 : (.fieldLink RX1 9 "Layertreaty$Cover" "events" "[I" : Cond) ∈ zB := zb_m5 (List.mem_of_getElem? (i := 180) rfl) rfl
theorem w_1165 : (.fieldLink RX2 160 "Layertreaty$Cover" "events" "[I" : Cond) ∈ zB := zb_m5 (List.mem_of_getElem? (i := 181) rfl) rfl
theorem w_1166 : (.fieldLink RX8 267 "Layertreaty$Cover" "events" "[I" : Cond) ∈ zB := zb_m5 (List.mem_of_getElem? (i := 182) rfl) rfl
theorem w_1167 : (.fieldLink RX1 15 "Layertreaty$Cover" "limitLeft" "J" : Cond) ∈ zB := zb_m5 (List.mem_of_getElem? (i := 183) rfl) rfl
theorem w_1168 : (.fieldLink RX2 111 "Layertreaty$Cover" "limitLeft" "J" : Cond) ∈ zB := zb_m5 (List.mem_of_getElem? (i := 184) rfl) rfl
theorem w_1169 : (.fieldLink RX8 253 "Layertreaty$Cover" "limitLeft" "J" : Cond) ∈ zB := zb_m5 (List.mem_of_getElem? (i := 185) rfl) rfl
theorem w_1170 : (.fieldLink RX1 19 "Layertreaty$Cover" "taken" "J" : Cond) ∈ zB := zb_m5 (List.mem_of_getElem? (i := 186) rfl) rfl
theorem w_1171 : (.fieldLink RX8 238 "Layertreaty$Cover" "taken" "J" : Cond) ∈ zB := zb_m5 (List.mem_of_getElem? (i := 187) rfl) rfl
theorem w_1172 : (.fieldLink RX2 193 "Layertreaty$Cover" "taken" "J" : Cond) ∈ zB := zb_m5 (List.mem_of_getElem? (i := 188) rfl) rfl
theorem w_1173 : (.fieldLink RX1 22 "Layertreaty$Cover" "reinstated" "J" : Cond) ∈ zB := zb_m5 (List.mem_of_getElem? (i := 189) rfl) rfl
theorem w_1174 : (.fieldLink RX8 256 "Layertreaty$Cover" "reinstated" "J" : Cond) ∈ zB := zb_m5 (List.mem_of_getElem? (i := 190) rfl) rfl
theorem w_1175 : (.fieldLink RX1 25 "Layertreaty$Cover" "owed" "J" : Cond) ∈ zB := zb_m5 (List.mem_of_getElem? (i := 191) rfl) rfl
theorem w_1176 : (.fieldLink RX8 259 "Layertreaty$Cover" "owed" "J" : Cond) ∈ zB := zb_m5 (List.mem_of_getElem? (i := 192) rfl) rfl
theorem w_1314 : (.fieldLink RX6 19 "Layertreaty$Scenario" "day" "I" : Cond) ∈ zB := zb_m6 (List.mem_of_getElem? (i := 90) rfl) rfl
theorem w_1315 : (.fieldLink RX8 397 "Layertreaty$Scenario" "day" "I" : Cond) ∈ zB := zb_m6 (List.mem_of_getElem? (i := 91) rfl) rfl
theorem w_1316 : (.fieldLink RX6 23 "Layertreaty$Scenario" "weight" "I" : Cond) ∈ zB := zb_m6 (List.mem_of_getElem? (i := 92) rfl) rfl
theorem w_1317 : (.fieldLink RX8 352 "Layertreaty$Scenario" "weight" "I" : Cond) ∈ zB := zb_m6 (List.mem_of_getElem? (i := 93) rfl) rfl
theorem w_1318 : (.fieldLink RX6 9 "Layertreaty$Scenario" "damages" "[I" : Cond) ∈ zB := zb_m6 (List.mem_of_getElem? (i := 94) rfl) rfl
theorem w_1319 : (.fieldLink RX8 317 "Layertreaty$Scenario" "damages" "[I" : Cond) ∈ zB := zb_m6 (List.mem_of_getElem? (i := 95) rfl) rfl
theorem w_1320 : (.fieldLink RX6 15 "Layertreaty$Scenario" "net" "J" : Cond) ∈ zB := zb_m6 (List.mem_of_getElem? (i := 96) rfl) rfl
theorem w_1321 : (.fieldLink RX8 323 "Layertreaty$Scenario" "net" "J" : Cond) ∈ zB := zb_m6 (List.mem_of_getElem? (i := 97) rfl) rfl
theorem w_235 : (.static yX8_isOut : Cond) ∈ zB := zb_m1 (List.mem_of_getElem? (i := 211) rfl) rfl
theorem w_314 : (.static yJ15_checkIndex_7cf53 : Cond) ∈ zB := zb_m2 (List.mem_of_getElem? (i := 50) rfl) rfl
theorem w_317 : (.static yJ3_checkIndex_8e157 : Cond) ∈ zB := zb_m2 (List.mem_of_getElem? (i := 53) rfl) rfl
theorem w_325 : (.static yX8_checkHasEvents : Cond) ∈ zB := zb_m2 (List.mem_of_getElem? (i := 61) rfl) rfl
theorem w_359 : (.static yJ7_fill_d0a16 : Cond) ∈ zB := zb_m2 (List.mem_of_getElem? (i := 95) rfl) rfl
theorem w_362 : (.static yJ7_fill_53178 : Cond) ∈ zB := zb_m2 (List.mem_of_getElem? (i := 98) rfl) rfl
theorem w_397 : (.static ⟨RJ9, "min", "(II)I"⟩ : Cond) ∈ zB := zb_m2 (List.mem_of_getElem? (i := 133) rfl) rfl
theorem w_404 : (.static ⟨RJ9, "min", "(JJ)J"⟩ : Cond) ∈ zB := zb_m2 (List.mem_of_getElem? (i := 140) rfl) rfl
theorem w_407 : (.static ⟨RJ9, "max", "(JJ)J"⟩ : Cond) ∈ zB := zb_m2 (List.mem_of_getElem? (i := 143) rfl) rfl
theorem w_425 : (.static ⟨RJ9, "max", "(II)I"⟩ : Cond) ∈ zB := zb_m2 (List.mem_of_getElem? (i := 161) rfl) rfl
theorem w_452 : (.static yJ8_newLength_cabcc : Cond) ∈ zB := zb_m2 (List.mem_of_getElem? (i := 188) rfl) rfl
theorem w_460 : (.static yJ7_copyOf_1904c : Cond) ∈ zB := zb_m2 (List.mem_of_getElem? (i := 196) rfl) rfl
theorem w_486 : (.static yJ7_copyOf_6403c : Cond) ∈ zB := zb_m2 (List.mem_of_getElem? (i := 222) rfl) rfl
theorem w_493 : (.static ⟨RJ10, "arraycopy", "(Ljava/lang/Object;ILjava/lang/Object;II)V"⟩ : Cond) ∈ zB := zb_m2 (List.mem_of_getElem? (i := 229) rfl) rfl
theorem w_516 : (.static yJ6_bitCount_0f7a4 : Cond) ∈ zB := zb_m3 (List.mem_of_getElem? (i := 12) rfl) rfl
theorem w_657 : (.static yL_some : Cond) ∈ zB := zb_m3 (List.mem_of_getElem? (i := 153) rfl) rfl
theorem w_660 : (.static yL_cell : Cond) ∈ zB := zb_m3 (List.mem_of_getElem? (i := 156) rfl) rfl
theorem w_663 : (.static yL_policy : Cond) ∈ zB := zb_m3 (List.mem_of_getElem? (i := 159) rfl) rfl
theorem w_673 : (.static yX8_isSpan : Cond) ∈ zB := zb_m3 (List.mem_of_getElem? (i := 169) rfl) rfl
theorem w_779 : (.static yL_loss : Cond) ∈ zB := zb_m4 (List.mem_of_getElem? (i := 35) rfl) rfl
theorem w_1060 : (.static yL_setAmount : Cond) ∈ zB := zb_m5 (List.mem_of_getElem? (i := 76) rfl) rfl
theorem w_1073 : (.static yL_treaty : Cond) ∈ zB := zb_m5 (List.mem_of_getElem? (i := 89) rfl) rfl
theorem w_1080 : (.static yX8_isBasis : Cond) ∈ zB := zb_m5 (List.mem_of_getElem? (i := 96) rfl) rfl
theorem w_1083 : (.static yX8_fitsKind : Cond) ∈ zB := zb_m5 (List.mem_of_getElem? (i := 99) rfl) rfl
theorem w_1191 : (.static yL_setDays : Cond) ∈ zB := zb_m5 (List.mem_of_getElem? (i := 207) rfl) rfl
theorem w_1199 : (.static yL_reinstate : Cond) ∈ zB := zb_m5 (List.mem_of_getElem? (i := 215) rfl) rfl
theorem w_1209 : (.static yL_setPremium : Cond) ∈ zB := zb_m5 (List.mem_of_getElem? (i := 225) rfl) rfl
theorem w_1217 : (.static yL_share : Cond) ∈ zB := zb_m5 (List.mem_of_getElem? (i := 233) rfl) rfl
theorem w_1224 : (.static yX8_checkReinsurer : Cond) ∈ zB := zb_m6 (List.mem_of_getElem? (i := 0) rfl) rfl
theorem w_1234 : (.static yL_commute : Cond) ∈ zB := zb_m6 (List.mem_of_getElem? (i := 10) rfl) rfl
theorem w_1250 : (.static yL_left : Cond) ∈ zB := zb_m6 (List.mem_of_getElem? (i := 26) rfl) rfl
theorem w_1257 : (.static yL_taken : Cond) ∈ zB := zb_m6 (List.mem_of_getElem? (i := 33) rfl) rfl
theorem w_1264 : (.static yL_owed : Cond) ∈ zB := zb_m6 (List.mem_of_getElem? (i := 40) rfl) rfl
theorem w_1271 : (.static yL_events : Cond) ∈ zB := zb_m6 (List.mem_of_getElem? (i := 47) rfl) rfl
theorem w_1279 : (.static yL_lost : Cond) ∈ zB := zb_m6 (List.mem_of_getElem? (i := 55) rfl) rfl
theorem w_1286 : (.static yL_comes : Cond) ∈ zB := zb_m6 (List.mem_of_getElem? (i := 62) rfl) rfl
theorem w_1293 : (.static yL_stays : Cond) ∈ zB := zb_m6 (List.mem_of_getElem? (i := 69) rfl) rfl
theorem w_1301 : (.static yL_scenario : Cond) ∈ zB := zb_m6 (List.mem_of_getElem? (i := 77) rfl) rfl
theorem w_1332 : (.static yL_damage : Cond) ∈ zB := zb_m6 (List.mem_of_getElem? (i := 108) rfl) rfl
theorem w_1345 : (.static yL_scenarioNet : Cond) ∈ zB := zb_m6 (List.mem_of_getElem? (i := 121) rfl) rfl
theorem w_1352 : (.static yL_tail : Cond) ∈ zB := zb_m6 (List.mem_of_getElem? (i := 128) rfl) rfl
theorem w_1383 : (.static yL_handOn : Cond) ∈ zB := zb_m6 (List.mem_of_getElem? (i := 159) rfl) rfl
theorem w_1391 : (.static yL_fail : Cond) ∈ zB := zb_m6 (List.mem_of_getElem? (i := 167) rfl) rfl
theorem w_1398 : (.static yL_kept : Cond) ∈ zB := zb_m6 (List.mem_of_getElem? (i := 174) rfl) rfl
theorem w_1401 : (.static yL_takenFrom : Cond) ∈ zB := zb_m6 (List.mem_of_getElem? (i := 177) rfl) rfl
theorem w_1408 : (.static yL_limit : Cond) ∈ zB := zb_m6 (List.mem_of_getElem? (i := 184) rfl) rfl
theorem w_1418 : (.static yL_reinstated : Cond) ∈ zB := zb_m6 (List.mem_of_getElem? (i := 194) rfl) rfl
theorem w_1425 : (.static yL_paid : Cond) ∈ zB := zb_m6 (List.mem_of_getElem? (i := 201) rfl) rfl
theorem w_1445 : (.static yJ1_charAt_3b067 : Cond) ∈ zB := zb_m6 (List.mem_of_getElem? (i := 221) rfl) rfl
theorem w_1448 : (.static yJ0_checkIndex_df160 : Cond) ∈ zB := zb_m6 (List.mem_of_getElem? (i := 224) rfl) rfl
theorem w_63 : (.instanceMethod yX8_init : Cond) ∈ zB := zb_m1 (List.mem_of_getElem? (i := 39) rfl) rfl
theorem w_66 : (.instanceMethod ⟨"java/lang/Object", "<init>", "()V"⟩ : Cond) ∈ zB := zb_m1 (List.mem_of_getElem? (i := 42) rfl) rfl
theorem w_71 : (.instanceMethod yJx4a65c_init_da8c8 : Cond) ∈ zB := zb_m1 (List.mem_of_getElem? (i := 47) rfl) rfl
theorem w_74 : (.instanceMethod yJxc12de_init_da8c8 : Cond) ∈ zB := zb_m1 (List.mem_of_getElem? (i := 50) rfl) rfl
theorem w_77 : (.instanceMethod yJxa1e45_init_da8c8 : Cond) ∈ zB := zb_m1 (List.mem_of_getElem? (i := 53) rfl) rfl
theorem w_97 : (.instanceMethod yX2_init : Cond) ∈ zB := zb_m1 (List.mem_of_getElem? (i := 73) rfl) rfl
theorem w_105 : (.instanceMethod yX3_init : Cond) ∈ zB := zb_m1 (List.mem_of_getElem? (i := 81) rfl) rfl
theorem w_156 : (.instanceMethod yX5_init : Cond) ∈ zB := zb_m1 (List.mem_of_getElem? (i := 132) rfl) rfl
theorem w_223 : (.instanceMethod yX8_isSame : Cond) ∈ zB := zb_m1 (List.mem_of_getElem? (i := 199) rfl) rfl
theorem w_228 : (.instanceMethod yX8_treatyAt : Cond) ∈ zB := zb_m1 (List.mem_of_getElem? (i := 204) rfl) rfl
theorem w_231 : (.instanceMethod yJx4a65c_size_8abf5 : Cond) ∈ zB := zb_m1 (List.mem_of_getElem? (i := 207) rfl) rfl
theorem w_310 : (.instanceMethod yJx4a65c_get_915e3 : Cond) ∈ zB := zb_m2 (List.mem_of_getElem? (i := 46) rfl) rfl
theorem w_320 : (.instanceMethod yJx4a65c_elementData_915e3 : Cond) ∈ zB := zb_m2 (List.mem_of_getElem? (i := 56) rfl) rfl
theorem w_344 : (.instanceMethod yX2_isLaidBest : Cond) ∈ zB := zb_m2 (List.mem_of_getElem? (i := 80) rfl) rfl
theorem w_348 : (.instanceMethod yX2_run : Cond) ∈ zB := zb_m2 (List.mem_of_getElem? (i := 84) rfl) rfl
theorem w_355 : (.instanceMethod yX0_begin : Cond) ∈ zB := zb_m2 (List.mem_of_getElem? (i := 91) rfl) rfl
theorem w_366 : (.instanceMethod yX1_begin : Cond) ∈ zB := zb_m2 (List.mem_of_getElem? (i := 102) rfl) rfl
theorem w_371 : (.instanceMethod yX7_wholeLimit : Cond) ∈ zB := zb_m2 (List.mem_of_getElem? (i := 107) rfl) rfl
theorem w_375 : (.instanceMethod yX7_isLimited : Cond) ∈ zB := zb_m2 (List.mem_of_getElem? (i := 111) rfl) rfl
theorem w_381 : (.instanceMethod yX2_serveLoss : Cond) ∈ zB := zb_m2 (List.mem_of_getElem? (i := 117) rfl) rfl
theorem w_384 : (.instanceMethod yX7_isForEachLoss : Cond) ∈ zB := zb_m2 (List.mem_of_getElem? (i := 120) rfl) rfl
theorem w_388 : (.instanceMethod yX7_coversLoss : Cond) ∈ zB := zb_m2 (List.mem_of_getElem? (i := 124) rfl) rfl
theorem w_392 : (.instanceMethod yX7_wantedOf : Cond) ∈ zB := zb_m2 (List.mem_of_getElem? (i := 128) rfl) rfl
theorem w_400 : (.instanceMethod yX7_layerOf : Cond) ∈ zB := zb_m2 (List.mem_of_getElem? (i := 136) rfl) rfl
theorem w_411 : (.instanceMethod yX1_takeFrom : Cond) ∈ zB := zb_m2 (List.mem_of_getElem? (i := 147) rfl) rfl
theorem w_415 : (.instanceMethod yX1_refill : Cond) ∈ zB := zb_m2 (List.mem_of_getElem? (i := 151) rfl) rfl
theorem w_421 : (.instanceMethod yX7_priceOf : Cond) ∈ zB := zb_m2 (List.mem_of_getElem? (i := 157) rfl) rfl
theorem w_429 : (.instanceMethod yX2_findOpen : Cond) ∈ zB := zb_m2 (List.mem_of_getElem? (i := 165) rfl) rfl
theorem w_432 : (.instanceMethod yJx4a65c_clear_da8c8 : Cond) ∈ zB := zb_m2 (List.mem_of_getElem? (i := 168) rfl) rfl
theorem w_436 : (.instanceMethod yJx4a65c_add_9ea2d : Cond) ∈ zB := zb_m2 (List.mem_of_getElem? (i := 172) rfl) rfl
theorem w_441 : (.instanceMethod yJx4a65c_add_72be8 : Cond) ∈ zB := zb_m2 (List.mem_of_getElem? (i := 177) rfl) rfl
theorem w_445 : (.instanceMethod yJx4a65c_grow_d5877 : Cond) ∈ zB := zb_m2 (List.mem_of_getElem? (i := 181) rfl) rfl
theorem w_449 : (.instanceMethod yJx4a65c_grow_92f84 : Cond) ∈ zB := zb_m2 (List.mem_of_getElem? (i := 185) rfl) rfl
theorem w_463 : (.instanceMethod ⟨"java/lang/Object", "getClass", "()Ljava/lang/Class;"⟩ : Cond) ∈ zB := zb_m2 (List.mem_of_getElem? (i := 199) rfl) rfl
theorem w_499 : (.instanceMethod yX2_serveZone : Cond) ∈ zB := zb_m2 (List.mem_of_getElem? (i := 235) rfl) rfl
theorem w_502 : (.instanceMethod yX3_add : Cond) ∈ zB := zb_m2 (List.mem_of_getElem? (i := 238) rfl) rfl
theorem w_506 : (.instanceMethod yX3_lay : Cond) ∈ zB := zb_m3 (List.mem_of_getElem? (i := 2) rfl) rfl
theorem w_511 : (.instanceMethod yX3_isBestOfAll : Cond) ∈ zB := zb_m3 (List.mem_of_getElem? (i := 7) rfl) rfl
theorem w_523 : (.instanceMethod yX3_worthOf : Cond) ∈ zB := zb_m3 (List.mem_of_getElem? (i := 19) rfl) rfl
theorem w_527 : (.instanceMethod yX3_isCut : Cond) ∈ zB := zb_m3 (List.mem_of_getElem? (i := 23) rfl) rfl
theorem w_531 : (.instanceMethod yX3_laidCuts : Cond) ∈ zB := zb_m3 (List.mem_of_getElem? (i := 27) rfl) rfl
theorem w_535 : (.instanceMethod yX2_gather : Cond) ∈ zB := zb_m3 (List.mem_of_getElem? (i := 31) rfl) rfl
theorem w_539 : (.instanceMethod yX2_serveGroup : Cond) ∈ zB := zb_m3 (List.mem_of_getElem? (i := 35) rfl) rfl
theorem w_543 : (.instanceMethod yX8_net : Cond) ∈ zB := zb_m3 (List.mem_of_getElem? (i := 39) rfl) rfl
theorem w_548 : (.instanceMethod yX8_settle : Cond) ∈ zB := zb_m3 (List.mem_of_getElem? (i := 44) rfl) rfl
theorem w_552 : (.instanceMethod yX2_allLeft : Cond) ∈ zB := zb_m3 (List.mem_of_getElem? (i := 48) rfl) rfl
theorem w_557 : (.instanceMethod yX2_allPartsOf : Cond) ∈ zB := zb_m3 (List.mem_of_getElem? (i := 53) rfl) rfl
theorem w_561 : (.instanceMethod yX2_partOf : Cond) ∈ zB := zb_m3 (List.mem_of_getElem? (i := 57) rfl) rfl
theorem w_566 : (.instanceMethod yX8_losses : Cond) ∈ zB := zb_m3 (List.mem_of_getElem? (i := 62) rfl) rfl
theorem w_570 : (.instanceMethod yX8_meanNet : Cond) ∈ zB := zb_m3 (List.mem_of_getElem? (i := 66) rfl) rfl
theorem w_574 : (.instanceMethod yJx4a65c_isEmpty_aae02 : Cond) ∈ zB := zb_m3 (List.mem_of_getElem? (i := 70) rfl) rfl
theorem w_595 : (.instanceMethod yX8_playAll : Cond) ∈ zB := zb_m3 (List.mem_of_getElem? (i := 91) rfl) rfl
theorem w_600 : (.instanceMethod yX8_play : Cond) ∈ zB := zb_m3 (List.mem_of_getElem? (i := 96) rfl) rfl
theorem w_605 : (.instanceMethod yX6_damageOf : Cond) ∈ zB := zb_m3 (List.mem_of_getElem? (i := 101) rfl) rfl
theorem w_609 : (.instanceMethod yX4_isInForce : Cond) ∈ zB := zb_m3 (List.mem_of_getElem? (i := 105) rfl) rfl
theorem w_614 : (.instanceMethod yX0_happen : Cond) ∈ zB := zb_m3 (List.mem_of_getElem? (i := 110) rfl) rfl
theorem w_619 : (.instanceMethod yX8_isSound : Cond) ∈ zB := zb_m3 (List.mem_of_getElem? (i := 115) rfl) rfl
theorem w_624 : (.instanceMethod yX8_settlePool : Cond) ∈ zB := zb_m3 (List.mem_of_getElem? (i := 120) rfl) rfl
theorem w_627 : (.instanceMethod yX5_settleRings : Cond) ∈ zB := zb_m3 (List.mem_of_getElem? (i := 123) rfl) rfl
theorem w_633 : (.instanceMethod yX5_goRounds : Cond) ∈ zB := zb_m3 (List.mem_of_getElem? (i := 129) rfl) rfl
theorem w_637 : (.instanceMethod yX5_handedOn : Cond) ∈ zB := zb_m3 (List.mem_of_getElem? (i := 133) rfl) rfl
theorem w_644 : (.instanceMethod yX2_areLossesWhole : Cond) ∈ zB := zb_m3 (List.mem_of_getElem? (i := 140) rfl) rfl
theorem w_648 : (.instanceMethod yX2_areLimitsKept : Cond) ∈ zB := zb_m3 (List.mem_of_getElem? (i := 144) rfl) rfl
theorem w_653 : (.instanceMethod yX5_fits : Cond) ∈ zB := zb_m3 (List.mem_of_getElem? (i := 149) rfl) rfl
theorem w_668 : (.instanceMethod yX8_policy : Cond) ∈ zB := zb_m3 (List.mem_of_getElem? (i := 164) rfl) rfl
theorem w_710 : (.instanceMethod yX4_init : Cond) ∈ zB := zb_m3 (List.mem_of_getElem? (i := 206) rfl) rfl
theorem w_733 : (.instanceMethod yX0_init : Cond) ∈ zB := zb_m3 (List.mem_of_getElem? (i := 229) rfl) rfl
theorem w_804 : (.instanceMethod yX8_loss : Cond) ∈ zB := zb_m4 (List.mem_of_getElem? (i := 60) rfl) rfl
theorem w_813 : (.instanceMethod yX2_addByDay : Cond) ∈ zB := zb_m4 (List.mem_of_getElem? (i := 69) rfl) rfl
theorem w_817 : (.instanceMethod yJx4a65c_add_7a177 : Cond) ∈ zB := zb_m4 (List.mem_of_getElem? (i := 73) rfl) rfl
theorem w_822 : (.instanceMethod yJx4a65c_rangeCheckForAdd_d00df : Cond) ∈ zB := zb_m4 (List.mem_of_getElem? (i := 78) rfl) rfl
theorem w_888 : (.instanceMethod ⟨"java/lang/Object", "clone", "()Ljava/lang/Object;"⟩ : Cond) ∈ zB := zb_m4 (List.mem_of_getElem? (i := 144) rfl) rfl
theorem w_1063 : (.instanceMethod yX8_setAmount : Cond) ∈ zB := zb_m5 (List.mem_of_getElem? (i := 79) rfl) rfl
theorem w_1068 : (.instanceMethod yX8_claimAt : Cond) ∈ zB := zb_m5 (List.mem_of_getElem? (i := 84) rfl) rfl
theorem w_1076 : (.instanceMethod yX8_treaty : Cond) ∈ zB := zb_m5 (List.mem_of_getElem? (i := 92) rfl) rfl
theorem w_1088 : (.instanceMethod yX7_init : Cond) ∈ zB := zb_m5 (List.mem_of_getElem? (i := 104) rfl) rfl
theorem w_1158 : (.instanceMethod yX1_init : Cond) ∈ zB := zb_m5 (List.mem_of_getElem? (i := 174) rfl) rfl
theorem w_1194 : (.instanceMethod yX8_setDays : Cond) ∈ zB := zb_m5 (List.mem_of_getElem? (i := 210) rfl) rfl
theorem w_1202 : (.instanceMethod yX8_reinstate : Cond) ∈ zB := zb_m5 (List.mem_of_getElem? (i := 218) rfl) rfl
theorem w_1212 : (.instanceMethod yX8_setPremium : Cond) ∈ zB := zb_m5 (List.mem_of_getElem? (i := 228) rfl) rfl
theorem w_1220 : (.instanceMethod yX8_share : Cond) ∈ zB := zb_m5 (List.mem_of_getElem? (i := 236) rfl) rfl
theorem w_1229 : (.instanceMethod yX7_allShares : Cond) ∈ zB := zb_m6 (List.mem_of_getElem? (i := 5) rfl) rfl
theorem w_1237 : (.instanceMethod yX8_commute : Cond) ∈ zB := zb_m6 (List.mem_of_getElem? (i := 13) rfl) rfl
theorem w_1242 : (.instanceMethod yX8_coverAt : Cond) ∈ zB := zb_m6 (List.mem_of_getElem? (i := 18) rfl) rfl
theorem w_1253 : (.instanceMethod yX8_left : Cond) ∈ zB := zb_m6 (List.mem_of_getElem? (i := 29) rfl) rfl
theorem w_1260 : (.instanceMethod yX8_taken : Cond) ∈ zB := zb_m6 (List.mem_of_getElem? (i := 36) rfl) rfl
theorem w_1267 : (.instanceMethod yX8_owed : Cond) ∈ zB := zb_m6 (List.mem_of_getElem? (i := 43) rfl) rfl
theorem w_1274 : (.instanceMethod yX8_events : Cond) ∈ zB := zb_m6 (List.mem_of_getElem? (i := 50) rfl) rfl
theorem w_1282 : (.instanceMethod yX8_lost : Cond) ∈ zB := zb_m6 (List.mem_of_getElem? (i := 58) rfl) rfl
theorem w_1289 : (.instanceMethod yX8_comes : Cond) ∈ zB := zb_m6 (List.mem_of_getElem? (i := 65) rfl) rfl
theorem w_1296 : (.instanceMethod yX8_stays : Cond) ∈ zB := zb_m6 (List.mem_of_getElem? (i := 72) rfl) rfl
theorem w_1304 : (.instanceMethod yX8_scenario : Cond) ∈ zB := zb_m6 (List.mem_of_getElem? (i := 80) rfl) rfl
theorem w_1311 : (.instanceMethod yX6_init : Cond) ∈ zB := zb_m6 (List.mem_of_getElem? (i := 87) rfl) rfl
theorem w_1335 : (.instanceMethod yX8_damage : Cond) ∈ zB := zb_m6 (List.mem_of_getElem? (i := 111) rfl) rfl
theorem w_1340 : (.instanceMethod yX8_scenarioAt : Cond) ∈ zB := zb_m6 (List.mem_of_getElem? (i := 116) rfl) rfl
theorem w_1348 : (.instanceMethod yX8_scenarioNet : Cond) ∈ zB := zb_m6 (List.mem_of_getElem? (i := 124) rfl) rfl
theorem w_1356 : (.instanceMethod yX8_tail : Cond) ∈ zB := zb_m6 (List.mem_of_getElem? (i := 132) rfl) rfl
theorem w_1378 : (.instanceMethod yX8_weightAbove : Cond) ∈ zB := zb_m6 (List.mem_of_getElem? (i := 154) rfl) rfl
theorem w_1386 : (.instanceMethod yX8_handOn : Cond) ∈ zB := zb_m6 (List.mem_of_getElem? (i := 162) rfl) rfl
theorem w_1394 : (.instanceMethod yX8_fail : Cond) ∈ zB := zb_m6 (List.mem_of_getElem? (i := 170) rfl) rfl
theorem w_1404 : (.instanceMethod yX8_takenFrom : Cond) ∈ zB := zb_m6 (List.mem_of_getElem? (i := 180) rfl) rfl
theorem w_1411 : (.instanceMethod yX8_limit : Cond) ∈ zB := zb_m6 (List.mem_of_getElem? (i := 187) rfl) rfl
theorem w_1421 : (.instanceMethod yX8_reinstated : Cond) ∈ zB := zb_m6 (List.mem_of_getElem? (i := 197) rfl) rfl
theorem w_1428 : (.instanceMethod yX8_paid : Cond) ∈ zB := zb_m6 (List.mem_of_getElem? (i := 204) rfl) rfl
theorem w_1433 : (.instanceMethod yX8_allLosses : Cond) ∈ zB := zb_m6 (List.mem_of_getElem? (i := 209) rfl) rfl
theorem w_1437 : (.instanceMethod yJ0_charAt_5068e : Cond) ∈ zB := zb_m6 (List.mem_of_getElem? (i := 213) rfl) rfl
theorem w_1441 : (.instanceMethod yJ0_isLatin1_aae02 : Cond) ∈ zB := zb_m6 (List.mem_of_getElem? (i := 217) rfl) rfl
theorem w_224 : (.selects RX8 yX8_isSame yX8_isSame : Cond) ∈ zB := zb_m1 (List.mem_of_getElem? (i := 200) rfl) rfl
theorem w_232 : (.selects RJx4a65c yJx4a65c_size_8abf5 yJx4a65c_size_8abf5 : Cond) ∈ zB := zb_m1 (List.mem_of_getElem? (i := 208) rfl) rfl
theorem w_311 : (.selects RJx4a65c yJx4a65c_get_915e3 yJx4a65c_get_915e3 : Cond) ∈ zB := zb_m2 (List.mem_of_getElem? (i := 47) rfl) rfl
theorem w_321 : (.selects RJx4a65c yJx4a65c_elementData_915e3 yJx4a65c_elementData_915e3 : Cond) ∈ zB := zb_m2 (List.mem_of_getElem? (i := 57) rfl) rfl
theorem w_345 : (.selects RX2 yX2_isLaidBest yX2_isLaidBest : Cond) ∈ zB := zb_m2 (List.mem_of_getElem? (i := 81) rfl) rfl
theorem w_349 : (.selects RX2 yX2_run yX2_run : Cond) ∈ zB := zb_m2 (List.mem_of_getElem? (i := 85) rfl) rfl
theorem w_356 : (.selects RX0 yX0_begin yX0_begin : Cond) ∈ zB := zb_m2 (List.mem_of_getElem? (i := 92) rfl) rfl
theorem w_367 : (.selects RX1 yX1_begin yX1_begin : Cond) ∈ zB := zb_m2 (List.mem_of_getElem? (i := 103) rfl) rfl
theorem w_372 : (.selects RX7 yX7_wholeLimit yX7_wholeLimit : Cond) ∈ zB := zb_m2 (List.mem_of_getElem? (i := 108) rfl) rfl
theorem w_376 : (.selects RX7 yX7_isLimited yX7_isLimited : Cond) ∈ zB := zb_m2 (List.mem_of_getElem? (i := 112) rfl) rfl
theorem w_385 : (.selects RX7 yX7_isForEachLoss yX7_isForEachLoss : Cond) ∈ zB := zb_m2 (List.mem_of_getElem? (i := 121) rfl) rfl
theorem w_389 : (.selects RX7 yX7_coversLoss yX7_coversLoss : Cond) ∈ zB := zb_m2 (List.mem_of_getElem? (i := 125) rfl) rfl
theorem w_393 : (.selects RX7 yX7_wantedOf yX7_wantedOf : Cond) ∈ zB := zb_m2 (List.mem_of_getElem? (i := 129) rfl) rfl
theorem w_401 : (.selects RX7 yX7_layerOf yX7_layerOf : Cond) ∈ zB := zb_m2 (List.mem_of_getElem? (i := 137) rfl) rfl
theorem w_412 : (.selects RX1 yX1_takeFrom yX1_takeFrom : Cond) ∈ zB := zb_m2 (List.mem_of_getElem? (i := 148) rfl) rfl
theorem w_416 : (.selects RX1 yX1_refill yX1_refill : Cond) ∈ zB := zb_m2 (List.mem_of_getElem? (i := 152) rfl) rfl
theorem w_422 : (.selects RX7 yX7_priceOf yX7_priceOf : Cond) ∈ zB := zb_m2 (List.mem_of_getElem? (i := 158) rfl) rfl
theorem w_433 : (.selects RJx4a65c yJx4a65c_clear_da8c8 yJx4a65c_clear_da8c8 : Cond) ∈ zB := zb_m2 (List.mem_of_getElem? (i := 169) rfl) rfl
theorem w_437 : (.selects RJx4a65c yJx4a65c_add_9ea2d yJx4a65c_add_9ea2d : Cond) ∈ zB := zb_m2 (List.mem_of_getElem? (i := 173) rfl) rfl
theorem w_503 : (.selects RX3 yX3_add yX3_add : Cond) ∈ zB := zb_m2 (List.mem_of_getElem? (i := 239) rfl) rfl
theorem w_507 : (.selects RX3 yX3_lay yX3_lay : Cond) ∈ zB := zb_m3 (List.mem_of_getElem? (i := 3) rfl) rfl
theorem w_512 : (.selects RX3 yX3_isBestOfAll yX3_isBestOfAll : Cond) ∈ zB := zb_m3 (List.mem_of_getElem? (i := 8) rfl) rfl
theorem w_544 : (.selects RX8 yX8_net yX8_net : Cond) ∈ zB := zb_m3 (List.mem_of_getElem? (i := 40) rfl) rfl
theorem w_553 : (.selects RX2 yX2_allLeft yX2_allLeft : Cond) ∈ zB := zb_m3 (List.mem_of_getElem? (i := 49) rfl) rfl
theorem w_558 : (.selects RX2 yX2_allPartsOf yX2_allPartsOf : Cond) ∈ zB := zb_m3 (List.mem_of_getElem? (i := 54) rfl) rfl
theorem w_562 : (.selects RX2 yX2_partOf yX2_partOf : Cond) ∈ zB := zb_m3 (List.mem_of_getElem? (i := 58) rfl) rfl
theorem w_567 : (.selects RX8 yX8_losses yX8_losses : Cond) ∈ zB := zb_m3 (List.mem_of_getElem? (i := 63) rfl) rfl
theorem w_571 : (.selects RX8 yX8_meanNet yX8_meanNet : Cond) ∈ zB := zb_m3 (List.mem_of_getElem? (i := 67) rfl) rfl
theorem w_575 : (.selects RJx4a65c yJx4a65c_isEmpty_aae02 yJx4a65c_isEmpty_aae02 : Cond) ∈ zB := zb_m3 (List.mem_of_getElem? (i := 71) rfl) rfl
theorem w_606 : (.selects RX6 yX6_damageOf yX6_damageOf : Cond) ∈ zB := zb_m3 (List.mem_of_getElem? (i := 102) rfl) rfl
theorem w_610 : (.selects RX4 yX4_isInForce yX4_isInForce : Cond) ∈ zB := zb_m3 (List.mem_of_getElem? (i := 106) rfl) rfl
theorem w_615 : (.selects RX0 yX0_happen yX0_happen : Cond) ∈ zB := zb_m3 (List.mem_of_getElem? (i := 111) rfl) rfl
theorem w_620 : (.selects RX8 yX8_isSound yX8_isSound : Cond) ∈ zB := zb_m3 (List.mem_of_getElem? (i := 116) rfl) rfl
theorem w_628 : (.selects RX5 yX5_settleRings yX5_settleRings : Cond) ∈ zB := zb_m3 (List.mem_of_getElem? (i := 124) rfl) rfl
theorem w_638 : (.selects RX5 yX5_handedOn yX5_handedOn : Cond) ∈ zB := zb_m3 (List.mem_of_getElem? (i := 134) rfl) rfl
theorem w_645 : (.selects RX2 yX2_areLossesWhole yX2_areLossesWhole : Cond) ∈ zB := zb_m3 (List.mem_of_getElem? (i := 141) rfl) rfl
theorem w_649 : (.selects RX2 yX2_areLimitsKept yX2_areLimitsKept : Cond) ∈ zB := zb_m3 (List.mem_of_getElem? (i := 145) rfl) rfl
theorem w_654 : (.selects RX5 yX5_fits yX5_fits : Cond) ∈ zB := zb_m3 (List.mem_of_getElem? (i := 150) rfl) rfl
theorem w_669 : (.selects RX8 yX8_policy yX8_policy : Cond) ∈ zB := zb_m3 (List.mem_of_getElem? (i := 165) rfl) rfl
theorem w_805 : (.selects RX8 yX8_loss yX8_loss : Cond) ∈ zB := zb_m4 (List.mem_of_getElem? (i := 61) rfl) rfl
theorem w_814 : (.selects RX2 yX2_addByDay yX2_addByDay : Cond) ∈ zB := zb_m4 (List.mem_of_getElem? (i := 70) rfl) rfl
theorem w_818 : (.selects RJx4a65c yJx4a65c_add_7a177 yJx4a65c_add_7a177 : Cond) ∈ zB := zb_m4 (List.mem_of_getElem? (i := 74) rfl) rfl
theorem w_1064 : (.selects RX8 yX8_setAmount yX8_setAmount : Cond) ∈ zB := zb_m5 (List.mem_of_getElem? (i := 80) rfl) rfl
theorem w_1077 : (.selects RX8 yX8_treaty yX8_treaty : Cond) ∈ zB := zb_m5 (List.mem_of_getElem? (i := 93) rfl) rfl
theorem w_1195 : (.selects RX8 yX8_setDays yX8_setDays : Cond) ∈ zB := zb_m5 (List.mem_of_getElem? (i := 211) rfl) rfl
theorem w_1203 : (.selects RX8 yX8_reinstate yX8_reinstate : Cond) ∈ zB := zb_m5 (List.mem_of_getElem? (i := 219) rfl) rfl
theorem w_1213 : (.selects RX8 yX8_setPremium yX8_setPremium : Cond) ∈ zB := zb_m5 (List.mem_of_getElem? (i := 229) rfl) rfl
theorem w_1221 : (.selects RX8 yX8_share yX8_share : Cond) ∈ zB := zb_m5 (List.mem_of_getElem? (i := 237) rfl) rfl
theorem w_1230 : (.selects RX7 yX7_allShares yX7_allShares : Cond) ∈ zB := zb_m6 (List.mem_of_getElem? (i := 6) rfl) rfl
theorem w_1238 : (.selects RX8 yX8_commute yX8_commute : Cond) ∈ zB := zb_m6 (List.mem_of_getElem? (i := 14) rfl) rfl
theorem w_1254 : (.selects RX8 yX8_left yX8_left : Cond) ∈ zB := zb_m6 (List.mem_of_getElem? (i := 30) rfl) rfl
theorem w_1261 : (.selects RX8 yX8_taken yX8_taken : Cond) ∈ zB := zb_m6 (List.mem_of_getElem? (i := 37) rfl) rfl
theorem w_1268 : (.selects RX8 yX8_owed yX8_owed : Cond) ∈ zB := zb_m6 (List.mem_of_getElem? (i := 44) rfl) rfl
theorem w_1275 : (.selects RX8 yX8_events yX8_events : Cond) ∈ zB := zb_m6 (List.mem_of_getElem? (i := 51) rfl) rfl
theorem w_1283 : (.selects RX8 yX8_lost yX8_lost : Cond) ∈ zB := zb_m6 (List.mem_of_getElem? (i := 59) rfl) rfl
theorem w_1290 : (.selects RX8 yX8_comes yX8_comes : Cond) ∈ zB := zb_m6 (List.mem_of_getElem? (i := 66) rfl) rfl
theorem w_1297 : (.selects RX8 yX8_stays yX8_stays : Cond) ∈ zB := zb_m6 (List.mem_of_getElem? (i := 73) rfl) rfl
theorem w_1305 : (.selects RX8 yX8_scenario yX8_scenario : Cond) ∈ zB := zb_m6 (List.mem_of_getElem? (i := 81) rfl) rfl
theorem w_1336 : (.selects RX8 yX8_damage yX8_damage : Cond) ∈ zB := zb_m6 (List.mem_of_getElem? (i := 112) rfl) rfl
theorem w_1349 : (.selects RX8 yX8_scenarioNet yX8_scenarioNet : Cond) ∈ zB := zb_m6 (List.mem_of_getElem? (i := 125) rfl) rfl
theorem w_1357 : (.selects RX8 yX8_tail yX8_tail : Cond) ∈ zB := zb_m6 (List.mem_of_getElem? (i := 133) rfl) rfl
theorem w_1387 : (.selects RX8 yX8_handOn yX8_handOn : Cond) ∈ zB := zb_m6 (List.mem_of_getElem? (i := 163) rfl) rfl
theorem w_1395 : (.selects RX8 yX8_fail yX8_fail : Cond) ∈ zB := zb_m6 (List.mem_of_getElem? (i := 171) rfl) rfl
theorem w_1405 : (.selects RX8 yX8_takenFrom yX8_takenFrom : Cond) ∈ zB := zb_m6 (List.mem_of_getElem? (i := 181) rfl) rfl
theorem w_1412 : (.selects RX8 yX8_limit yX8_limit : Cond) ∈ zB := zb_m6 (List.mem_of_getElem? (i := 188) rfl) rfl
theorem w_1422 : (.selects RX8 yX8_reinstated yX8_reinstated : Cond) ∈ zB := zb_m6 (List.mem_of_getElem? (i := 198) rfl) rfl
theorem w_1429 : (.selects RX8 yX8_paid yX8_paid : Cond) ∈ zB := zb_m6 (List.mem_of_getElem? (i := 205) rfl) rfl
theorem w_1434 : (.selects RX8 yX8_allLosses yX8_allLosses : Cond) ∈ zB := zb_m6 (List.mem_of_getElem? (i := 210) rfl) rfl
theorem w_1438 : (.selects RJ0 yJ0_charAt_5068e yJ0_charAt_5068e : Cond) ∈ zB := zb_m6 (List.mem_of_getElem? (i := 214) rfl) rfl
theorem w_1442 : (.selects RJ0 yJ0_isLatin1_aae02 yJ0_isLatin1_aae02 : Cond) ∈ zB := zb_m6 (List.mem_of_getElem? (i := 218) rfl) rfl
theorem w_0 : (.selects RX8 yX8_treatyAt yX8_treatyAt : Cond) ∈ zB := zb_m0 (List.mem_of_getElem? (i := 0) rfl) rfl
theorem w_2 : (.selects RX2 yX2_serveLoss yX2_serveLoss : Cond) ∈ zB := zb_m0 (List.mem_of_getElem? (i := 2) rfl) rfl
theorem w_3 : (.selects RX2 yX2_findOpen yX2_findOpen : Cond) ∈ zB := zb_m0 (List.mem_of_getElem? (i := 3) rfl) rfl
theorem w_4 : (.selects RJx4a65c yJx4a65c_add_72be8 yJx4a65c_add_72be8 : Cond) ∈ zB := zb_m0 (List.mem_of_getElem? (i := 4) rfl) rfl
theorem w_5 : (.selects RJx4a65c yJx4a65c_grow_d5877 yJx4a65c_grow_d5877 : Cond) ∈ zB := zb_m0 (List.mem_of_getElem? (i := 5) rfl) rfl
theorem w_6 : (.selects RJx4a65c yJx4a65c_grow_92f84 yJx4a65c_grow_92f84 : Cond) ∈ zB := zb_m0 (List.mem_of_getElem? (i := 6) rfl) rfl
theorem w_7 : (.selects RX2 yX2_serveZone yX2_serveZone : Cond) ∈ zB := zb_m0 (List.mem_of_getElem? (i := 7) rfl) rfl
theorem w_8 : (.selects RX3 yX3_worthOf yX3_worthOf : Cond) ∈ zB := zb_m0 (List.mem_of_getElem? (i := 8) rfl) rfl
theorem w_9 : (.selects RX3 yX3_isCut yX3_isCut : Cond) ∈ zB := zb_m0 (List.mem_of_getElem? (i := 9) rfl) rfl
theorem w_10 : (.selects RX3 yX3_laidCuts yX3_laidCuts : Cond) ∈ zB := zb_m0 (List.mem_of_getElem? (i := 10) rfl) rfl
theorem w_11 : (.selects RX2 yX2_gather yX2_gather : Cond) ∈ zB := zb_m0 (List.mem_of_getElem? (i := 11) rfl) rfl
theorem w_12 : (.selects RX2 yX2_serveGroup yX2_serveGroup : Cond) ∈ zB := zb_m0 (List.mem_of_getElem? (i := 12) rfl) rfl
theorem w_13 : (.selects RX8 yX8_settle yX8_settle : Cond) ∈ zB := zb_m0 (List.mem_of_getElem? (i := 13) rfl) rfl
theorem w_14 : (.selects RX8 yX8_playAll yX8_playAll : Cond) ∈ zB := zb_m0 (List.mem_of_getElem? (i := 14) rfl) rfl
theorem w_15 : (.selects RX8 yX8_play yX8_play : Cond) ∈ zB := zb_m0 (List.mem_of_getElem? (i := 15) rfl) rfl
theorem w_16 : (.selects RX8 yX8_settlePool yX8_settlePool : Cond) ∈ zB := zb_m0 (List.mem_of_getElem? (i := 16) rfl) rfl
theorem w_17 : (.selects RX5 yX5_goRounds yX5_goRounds : Cond) ∈ zB := zb_m0 (List.mem_of_getElem? (i := 17) rfl) rfl
theorem w_18 : (.selects RJx4a65c yJx4a65c_rangeCheckForAdd_d00df yJx4a65c_rangeCheckForAdd_d00df : Cond) ∈ zB := zb_m0 (List.mem_of_getElem? (i := 18) rfl) rfl
theorem w_20 : (.selects RX8 yX8_claimAt yX8_claimAt : Cond) ∈ zB := zb_m0 (List.mem_of_getElem? (i := 20) rfl) rfl
theorem w_21 : (.selects RX8 yX8_coverAt yX8_coverAt : Cond) ∈ zB := zb_m0 (List.mem_of_getElem? (i := 21) rfl) rfl
theorem w_22 : (.selects RX8 yX8_scenarioAt yX8_scenarioAt : Cond) ∈ zB := zb_m0 (List.mem_of_getElem? (i := 22) rfl) rfl
theorem w_23 : (.selects RX8 yX8_weightAbove yX8_weightAbove : Cond) ∈ zB := zb_m0 (List.mem_of_getElem? (i := 23) rfl) rfl
theorem w_24 : (.initialized RL : Cond) ∈ zB := zb_m1 (List.mem_of_getElem? (i := 0) rfl) rfl
theorem w_25 : (.initialized RX8 : Cond) ∈ zB := zb_m1 (List.mem_of_getElem? (i := 1) rfl) rfl
theorem w_26 : (.initialized RJxa1e45 : Cond) ∈ zB := zb_m1 (List.mem_of_getElem? (i := 2) rfl) rfl
theorem w_27 : (.initialized RJxc12de : Cond) ∈ zB := zb_m1 (List.mem_of_getElem? (i := 3) rfl) rfl
theorem w_28 : (.initialized RJx4a65c : Cond) ∈ zB := zb_m1 (List.mem_of_getElem? (i := 4) rfl) rfl
theorem w_29 : (.initialized RX2 : Cond) ∈ zB := zb_m1 (List.mem_of_getElem? (i := 5) rfl) rfl
theorem w_30 : (.initialized RX3 : Cond) ∈ zB := zb_m1 (List.mem_of_getElem? (i := 6) rfl) rfl
theorem w_31 : (.initialized RX5 : Cond) ∈ zB := zb_m1 (List.mem_of_getElem? (i := 7) rfl) rfl
theorem w_32 : (.initialized "java/lang/Throwable" : Cond) ∈ zB := zb_m1 (List.mem_of_getElem? (i := 8) rfl) rfl
theorem w_37 : (.initialized RX4 : Cond) ∈ zB := zb_m1 (List.mem_of_getElem? (i := 13) rfl) rfl
theorem w_38 : (.initialized RJ8 : Cond) ∈ zB := zb_m1 (List.mem_of_getElem? (i := 14) rfl) rfl
theorem w_39 : (.initialized RJ9 : Cond) ∈ zB := zb_m1 (List.mem_of_getElem? (i := 15) rfl) rfl
theorem w_40 : (.initialized RJ7 : Cond) ∈ zB := zb_m1 (List.mem_of_getElem? (i := 16) rfl) rfl
theorem w_41 : (.initialized RJ10 : Cond) ∈ zB := zb_m1 (List.mem_of_getElem? (i := 17) rfl) rfl
theorem w_42 : (.initialized RX0 : Cond) ∈ zB := zb_m1 (List.mem_of_getElem? (i := 18) rfl) rfl
theorem w_45 : (.initialized RJ0 : Cond) ∈ zB := zb_m1 (List.mem_of_getElem? (i := 21) rfl) rfl
theorem w_46 : (.initialized RJ15 : Cond) ∈ zB := zb_m1 (List.mem_of_getElem? (i := 22) rfl) rfl
theorem w_47 : (.initialized RJ3 : Cond) ∈ zB := zb_m1 (List.mem_of_getElem? (i := 23) rfl) rfl
theorem w_52 : (.initialized RJ1 : Cond) ∈ zB := zb_m1 (List.mem_of_getElem? (i := 28) rfl) rfl
theorem w_54 : (.initialized RJ6 : Cond) ∈ zB := zb_m1 (List.mem_of_getElem? (i := 30) rfl) rfl
theorem w_55 : (.initialized RX7 : Cond) ∈ zB := zb_m1 (List.mem_of_getElem? (i := 31) rfl) rfl
theorem w_56 : (.initialized RX1 : Cond) ∈ zB := zb_m1 (List.mem_of_getElem? (i := 32) rfl) rfl
theorem w_57 : (.initialized RX6 : Cond) ∈ zB := zb_m1 (List.mem_of_getElem? (i := 33) rfl) rfl
theorem w_60 : (.classLink RL 14 RX8 : Cond) ∈ zB := zb_m1 (List.mem_of_getElem? (i := 36) rfl) rfl
theorem w_68 : (.classLink RX8 7 RJx4a65c : Cond) ∈ zB := zb_m1 (List.mem_of_getElem? (i := 44) rfl) rfl
theorem w_94 : (.classLink RX8 28 RX2 : Cond) ∈ zB := zb_m1 (List.mem_of_getElem? (i := 70) rfl) rfl
theorem w_100 : (.classLink RX2 9 RJx4a65c : Cond) ∈ zB := zb_m1 (List.mem_of_getElem? (i := 76) rfl) rfl
theorem w_102 : (.classLink RX2 27 RX3 : Cond) ∈ zB := zb_m1 (List.mem_of_getElem? (i := 78) rfl) rfl
theorem w_153 : (.classLink RX8 38 RX5 : Cond) ∈ zB := zb_m1 (List.mem_of_getElem? (i := 129) rfl) rfl
theorem w_237 : (.classLink RX8 88 "java/lang/IndexOutOfBoundsException" : Cond) ∈ zB := zb_m1 (List.mem_of_getElem? (i := 213) rfl) rfl
theorem w_323 : (.classLink RX8 140 RX7 : Cond) ∈ zB := zb_m2 (List.mem_of_getElem? (i := 59) rfl) rfl
theorem w_327 : (.classLink RX8 103 "java/lang/UnsupportedOperationException" : Cond) ∈ zB := zb_m2 (List.mem_of_getElem? (i := 63) rfl) rfl
theorem w_353 : (.classLink RX2 46 RX0 : Cond) ∈ zB := zb_m2 (List.mem_of_getElem? (i := 89) rfl) rfl
theorem w_364 : (.classLink RX2 68 RX1 : Cond) ∈ zB := zb_m2 (List.mem_of_getElem? (i := 100) rfl) rfl
theorem w_488 : (.classLink RJ7 110 "[Ljava/lang/Object;" : Cond) ∈ zB := zb_m2 (List.mem_of_getElem? (i := 224) rfl) rfl
theorem w_490 : (.classLink RJ7 2 "java/lang/Object" : Cond) ∈ zB := zb_m2 (List.mem_of_getElem? (i := 226) rfl) rfl
theorem w_496 : (.classLink RJx4a65c 7 "java/lang/Object" : Cond) ∈ zB := zb_m2 (List.mem_of_getElem? (i := 232) rfl) rfl
theorem w_555 : (.classLink RX8 148 RX1 : Cond) ∈ zB := zb_m3 (List.mem_of_getElem? (i := 51) rfl) rfl
theorem w_577 : (.classLink RX8 347 "java/lang/ArithmeticException" : Cond) ∈ zB := zb_m3 (List.mem_of_getElem? (i := 73) rfl) rfl
theorem w_597 : (.classLink RX8 306 RX6 : Cond) ∈ zB := zb_m3 (List.mem_of_getElem? (i := 93) rfl) rfl
theorem w_603 : (.classLink RX8 83 RX0 : Cond) ∈ zB := zb_m3 (List.mem_of_getElem? (i := 99) rfl) rfl
theorem w_665 : (.classLink RL 19 "java/lang/IllegalArgumentException" : Cond) ∈ zB := zb_m3 (List.mem_of_getElem? (i := 161) rfl) rfl
theorem w_666 : (.classLink RL 22 "java/lang/IllegalStateException" : Cond) ∈ zB := zb_m3 (List.mem_of_getElem? (i := 162) rfl) rfl
theorem w_675 : (.classLink RX8 58 "java/lang/IllegalArgumentException" : Cond) ∈ zB := zb_m3 (List.mem_of_getElem? (i := 171) rfl) rfl
theorem w_691 : (.classLink RX8 69 "java/lang/IllegalStateException" : Cond) ∈ zB := zb_m3 (List.mem_of_getElem? (i := 187) rfl) rfl
theorem w_707 : (.classLink RX8 74 RX4 : Cond) ∈ zB := zb_m3 (List.mem_of_getElem? (i := 203) rfl) rfl
theorem w_781 : (.classLink RL 28 "java/lang/IndexOutOfBoundsException" : Cond) ∈ zB := zb_m4 (List.mem_of_getElem? (i := 37) rfl) rfl
theorem w_802 : (.classLink RL 31 "java/lang/UnsupportedOperationException" : Cond) ∈ zB := zb_m4 (List.mem_of_getElem? (i := 58) rfl) rfl
theorem w_824 : (.classLink RJx4a65c 187 "java/lang/IndexOutOfBoundsException" : Cond) ∈ zB := zb_m4 (List.mem_of_getElem? (i := 80) rfl) rfl
theorem w_829 : (.classLink RJx4a65c 20 "java/lang/StringBuilder" : Cond) ∈ zB := zb_m4 (List.mem_of_getElem? (i := 85) rfl) rfl
theorem w_891 : (.classLink RJ7 311 "[B" : Cond) ∈ zB := zb_m4 (List.mem_of_getElem? (i := 147) rfl) rfl
theorem w_1027 : (.classLink RJ7 43 "java/lang/IllegalArgumentException" : Cond) ∈ zB := zb_m5 (List.mem_of_getElem? (i := 43) rfl) rfl
theorem w_1028 : (.classLink RJ7 45 "java/lang/StringBuilder" : Cond) ∈ zB := zb_m5 (List.mem_of_getElem? (i := 44) rfl) rfl
theorem w_1354 : (.classLink RL 93 "java/util/NoSuchElementException" : Cond) ∈ zB := zb_m6 (List.mem_of_getElem? (i := 130) rfl) rfl
theorem w_1360 : (.classLink RX8 271 "java/util/NoSuchElementException" : Cond) ∈ zB := zb_m6 (List.mem_of_getElem? (i := 136) rfl) rfl
theorem w_61 : (.instantiable RX8 9 : Cond) ∈ zB := zb_m1 (List.mem_of_getElem? (i := 37) rfl) rfl
theorem w_69 : (.instantiable RJx4a65c 3 : Cond) ∈ zB := zb_m1 (List.mem_of_getElem? (i := 45) rfl) rfl
theorem w_95 : (.instantiable RX2 6 : Cond) ∈ zB := zb_m1 (List.mem_of_getElem? (i := 71) rfl) rfl
theorem w_103 : (.instantiable RX3 6 : Cond) ∈ zB := zb_m1 (List.mem_of_getElem? (i := 79) rfl) rfl
theorem w_154 : (.instantiable RX5 9 : Cond) ∈ zB := zb_m1 (List.mem_of_getElem? (i := 130) rfl) rfl
theorem w_708 : (.instantiable RX4 4 : Cond) ∈ zB := zb_m3 (List.mem_of_getElem? (i := 204) rfl) rfl
theorem w_731 : (.instantiable RX0 7 : Cond) ∈ zB := zb_m3 (List.mem_of_getElem? (i := 227) rfl) rfl
theorem w_797 : (.instantiable RJ0 4 : Cond) ∈ zB := zb_m4 (List.mem_of_getElem? (i := 53) rfl) rfl
theorem w_1086 : (.instantiable RX7 15 : Cond) ∈ zB := zb_m5 (List.mem_of_getElem? (i := 102) rfl) rfl
theorem w_1156 : (.instantiable RX1 6 : Cond) ∈ zB := zb_m5 (List.mem_of_getElem? (i := 172) rfl) rfl
theorem w_1309 : (.instantiable RX6 4 : Cond) ∈ zB := zb_m6 (List.mem_of_getElem? (i := 85) rfl) rfl
theorem w_455 : (.constant RJ8 200 (2147483639) : Cond) ∈ zB := zb_m2 (List.mem_of_getElem? (i := 191) rfl) rfl
theorem w_518 : (.constant RJ6 265 (1431655765) : Cond) ∈ zB := zb_m3 (List.mem_of_getElem? (i := 14) rfl) rfl
theorem w_519 : (.constant RJ6 266 (858993459) : Cond) ∈ zB := zb_m3 (List.mem_of_getElem? (i := 15) rfl) rfl
theorem w_520 : (.constant RJ6 267 (252645135) : Cond) ∈ zB := zb_m3 (List.mem_of_getElem? (i := 16) rfl) rfl
theorem w_671 : (.constant RX8 49 (1000000) : Cond) ∈ zB := zb_m3 (List.mem_of_getElem? (i := 167) rfl) rfl
theorem w_776 : (.constant RL 21 (-2000000) : Cond) ∈ zB := zb_m4 (List.mem_of_getElem? (i := 32) rfl) rfl
theorem w_777 : (.constant RL 24 (-1000000) : Cond) ∈ zB := zb_m4 (List.mem_of_getElem? (i := 33) rfl) rfl
theorem w_1057 : (.constant RL 30 (-2500000) : Cond) ∈ zB := zb_m5 (List.mem_of_getElem? (i := 73) rfl) rfl
theorem w_1058 : (.constant RL 33 (-1500000) : Cond) ∈ zB := zb_m5 (List.mem_of_getElem? (i := 74) rfl) rfl
theorem w_378 : (.constantLong RX7 64 (1000000000000) : Cond) ∈ zB := zb_m2 (List.mem_of_getElem? (i := 114) rfl) rfl
theorem w_395 : (.constantLong RX7 94 (100) : Cond) ∈ zB := zb_m2 (List.mem_of_getElem? (i := 131) rfl) rfl
theorem w_514 : (.constantLong RX3 49 (-1) : Cond) ∈ zB := zb_m3 (List.mem_of_getElem? (i := 10) rfl) rfl
theorem w_564 : (.constantLong RX2 181 (100) : Cond) ∈ zB := zb_m3 (List.mem_of_getElem? (i := 60) rfl) rfl
theorem w_612 : (.constantLong RX6 38 (100) : Cond) ∈ zB := zb_m3 (List.mem_of_getElem? (i := 108) rfl) rfl
theorem w_642 : (.constantLong RX5 66 (1000000000000) : Cond) ∈ zB := zb_m3 (List.mem_of_getElem? (i := 138) rfl) rfl
theorem w_1246 : (.constantLong RL 60 (-2500000) : Cond) ∈ zB := zb_m6 (List.mem_of_getElem? (i := 22) rfl) rfl
theorem w_1247 : (.constantLong RL 62 (-2000000) : Cond) ∈ zB := zb_m6 (List.mem_of_getElem? (i := 23) rfl) rfl
theorem w_1248 : (.constantLong RL 64 (-1500000) : Cond) ∈ zB := zb_m6 (List.mem_of_getElem? (i := 24) rfl) rfl
theorem w_1375 : (.constantLong RX8 336 (-1) : Cond) ∈ zB := zb_m6 (List.mem_of_getElem? (i := 151) rfl) rfl
theorem w_1380 : (.constantLong RX8 342 (1000000000000) : Cond) ∈ zB := zb_m6 (List.mem_of_getElem? (i := 156) rfl) rfl
theorem w_1381 : (.constantLong RL 120 (-3000000) : Cond) ∈ zB := zb_m6 (List.mem_of_getElem? (i := 157) rfl) rfl
theorem w_1416 : (.constantLong RL 79 (-1000000) : Cond) ∈ zB := zb_m6 (List.mem_of_getElem? (i := 192) rfl) rfl
theorem w_87 : (.lays RJx4a65c "java/util/ArrayList" "elementData" "[Ljava/lang/Object;" : Cond) ∈ zB := zb_m1 (List.mem_of_getElem? (i := 63) rfl) rfl
theorem w_89 : (.lays RJx4a65c "java/util/ArrayList" "size" "I" : Cond) ∈ zB := zb_m1 (List.mem_of_getElem? (i := 65) rfl) rfl
theorem w_91 : (.lays RJx4a65c "java/util/AbstractList" "modCount" "I" : Cond) ∈ zB := zb_m1 (List.mem_of_getElem? (i := 67) rfl) rfl
theorem w_117 : (.laysFinal RX3 "Layertreaty$Laying" "days" "[I" : Cond) ∈ zB := zb_m1 (List.mem_of_getElem? (i := 93) rfl) rfl
theorem w_119 : (.laysFinal RX3 "Layertreaty$Laying" "sums" "[J" : Cond) ∈ zB := zb_m1 (List.mem_of_getElem? (i := 95) rfl) rfl
theorem w_121 : (.laysFinal RX3 "Layertreaty$Laying" "ends" "[I" : Cond) ∈ zB := zb_m1 (List.mem_of_getElem? (i := 97) rfl) rfl
theorem w_123 : (.laysFinal RX3 "Layertreaty$Laying" "brings" "[J" : Cond) ∈ zB := zb_m1 (List.mem_of_getElem? (i := 99) rfl) rfl
theorem w_125 : (.laysFinal RX3 "Layertreaty$Laying" "counts" "[I" : Cond) ∈ zB := zb_m1 (List.mem_of_getElem? (i := 101) rfl) rfl
theorem w_127 : (.lays RX3 "Layertreaty$Laying" "size" "I" : Cond) ∈ zB := zb_m1 (List.mem_of_getElem? (i := 103) rfl) rfl
theorem w_140 : (.laysFinal RX2 "Layertreaty$Flow" "claims" "Ljava/util/ArrayList;" : Cond) ∈ zB := zb_m1 (List.mem_of_getElem? (i := 116) rfl) rfl
theorem w_142 : (.laysFinal RX2 "Layertreaty$Flow" "covers" "Ljava/util/ArrayList;" : Cond) ∈ zB := zb_m1 (List.mem_of_getElem? (i := 118) rfl) rfl
theorem w_144 : (.laysFinal RX2 "Layertreaty$Flow" "open" "Ljava/util/ArrayList;" : Cond) ∈ zB := zb_m1 (List.mem_of_getElem? (i := 120) rfl) rfl
theorem w_146 : (.laysFinal RX2 "Layertreaty$Flow" "group" "Ljava/util/ArrayList;" : Cond) ∈ zB := zb_m1 (List.mem_of_getElem? (i := 122) rfl) rfl
theorem w_148 : (.laysFinal RX2 "Layertreaty$Flow" "laying" "LLayertreaty$Laying;" : Cond) ∈ zB := zb_m1 (List.mem_of_getElem? (i := 124) rfl) rfl
theorem w_150 : (.lays RX2 "Layertreaty$Flow" "isBest" "Z" : Cond) ∈ zB := zb_m1 (List.mem_of_getElem? (i := 126) rfl) rfl
theorem w_174 : (.laysFinal RX5 "Layertreaty$Pool" "isFailed" "[Z" : Cond) ∈ zB := zb_m1 (List.mem_of_getElem? (i := 150) rfl) rfl
theorem w_176 : (.laysFinal RX5 "Layertreaty$Pool" "receivers" "[I" : Cond) ∈ zB := zb_m1 (List.mem_of_getElem? (i := 152) rfl) rfl
theorem w_178 : (.laysFinal RX5 "Layertreaty$Pool" "bounds" "[I" : Cond) ∈ zB := zb_m1 (List.mem_of_getElem? (i := 154) rfl) rfl
theorem w_180 : (.laysFinal RX5 "Layertreaty$Pool" "limits" "[I" : Cond) ∈ zB := zb_m1 (List.mem_of_getElem? (i := 156) rfl) rfl
theorem w_182 : (.laysFinal RX5 "Layertreaty$Pool" "own" "[J" : Cond) ∈ zB := zb_m1 (List.mem_of_getElem? (i := 158) rfl) rfl
theorem w_184 : (.laysFinal RX5 "Layertreaty$Pool" "comes" "[J" : Cond) ∈ zB := zb_m1 (List.mem_of_getElem? (i := 160) rfl) rfl
theorem w_186 : (.laysFinal RX5 "Layertreaty$Pool" "early" "[J" : Cond) ∈ zB := zb_m1 (List.mem_of_getElem? (i := 162) rfl) rfl
theorem w_188 : (.laysFinal RX5 "Layertreaty$Pool" "above" "[J" : Cond) ∈ zB := zb_m1 (List.mem_of_getElem? (i := 164) rfl) rfl
theorem w_190 : (.laysFinal RX5 "Layertreaty$Pool" "before" "[J" : Cond) ∈ zB := zb_m1 (List.mem_of_getElem? (i := 166) rfl) rfl
theorem w_203 : (.laysFinal RX8 "Layertreaty" "policies" "Ljava/util/ArrayList;" : Cond) ∈ zB := zb_m1 (List.mem_of_getElem? (i := 179) rfl) rfl
theorem w_205 : (.laysFinal RX8 "Layertreaty" "claims" "Ljava/util/ArrayList;" : Cond) ∈ zB := zb_m1 (List.mem_of_getElem? (i := 181) rfl) rfl
theorem w_207 : (.laysFinal RX8 "Layertreaty" "terms" "Ljava/util/ArrayList;" : Cond) ∈ zB := zb_m1 (List.mem_of_getElem? (i := 183) rfl) rfl
theorem w_209 : (.laysFinal RX8 "Layertreaty" "scenarios" "Ljava/util/ArrayList;" : Cond) ∈ zB := zb_m1 (List.mem_of_getElem? (i := 185) rfl) rfl
theorem w_211 : (.laysFinal RX8 "Layertreaty" "damages" "Ljava/util/ArrayList;" : Cond) ∈ zB := zb_m1 (List.mem_of_getElem? (i := 187) rfl) rfl
theorem w_213 : (.laysFinal RX8 "Layertreaty" "real" "LLayertreaty$Flow;" : Cond) ∈ zB := zb_m1 (List.mem_of_getElem? (i := 189) rfl) rfl
theorem w_215 : (.laysFinal RX8 "Layertreaty" "trial" "LLayertreaty$Flow;" : Cond) ∈ zB := zb_m1 (List.mem_of_getElem? (i := 191) rfl) rfl
theorem w_217 : (.laysFinal RX8 "Layertreaty" "pool" "LLayertreaty$Pool;" : Cond) ∈ zB := zb_m1 (List.mem_of_getElem? (i := 193) rfl) rfl
theorem w_219 : (.lays RX8 "Layertreaty" "isSettled" "Z" : Cond) ∈ zB := zb_m1 (List.mem_of_getElem? (i := 195) rfl) rfl
theorem w_722 : (.laysFinal RX4 "Layertreaty$Policy" "sum" "I" : Cond) ∈ zB := zb_m3 (List.mem_of_getElem? (i := 218) rfl) rfl
theorem w_724 : (.laysFinal RX4 "Layertreaty$Policy" "zone" "I" : Cond) ∈ zB := zb_m3 (List.mem_of_getElem? (i := 220) rfl) rfl
theorem w_726 : (.laysFinal RX4 "Layertreaty$Policy" "first" "I" : Cond) ∈ zB := zb_m3 (List.mem_of_getElem? (i := 222) rfl) rfl
theorem w_728 : (.laysFinal RX4 "Layertreaty$Policy" "last" "I" : Cond) ∈ zB := zb_m3 (List.mem_of_getElem? (i := 224) rfl) rfl
theorem w_761 : (.laysFinal RX0 "Layertreaty$Claim" "policy" "LLayertreaty$Policy;" : Cond) ∈ zB := zb_m4 (List.mem_of_getElem? (i := 17) rfl) rfl
theorem w_763 : (.laysFinal RX0 "Layertreaty$Claim" "took" "[J" : Cond) ∈ zB := zb_m4 (List.mem_of_getElem? (i := 19) rfl) rfl
theorem w_765 : (.laysFinal RX0 "Layertreaty$Claim" "events" "[I" : Cond) ∈ zB := zb_m4 (List.mem_of_getElem? (i := 21) rfl) rfl
theorem w_767 : (.lays RX0 "Layertreaty$Claim" "day" "I" : Cond) ∈ zB := zb_m4 (List.mem_of_getElem? (i := 23) rfl) rfl
theorem w_769 : (.lays RX0 "Layertreaty$Claim" "told" "I" : Cond) ∈ zB := zb_m4 (List.mem_of_getElem? (i := 25) rfl) rfl
theorem w_771 : (.lays RX0 "Layertreaty$Claim" "amount" "I" : Cond) ∈ zB := zb_m4 (List.mem_of_getElem? (i := 27) rfl) rfl
theorem w_773 : (.lays RX0 "Layertreaty$Claim" "left" "J" : Cond) ∈ zB := zb_m4 (List.mem_of_getElem? (i := 29) rfl) rfl
theorem w_798 : (.laysFinal RJ0 "java/lang/String" "value" "[B" : Cond) ∈ zB := zb_m4 (List.mem_of_getElem? (i := 54) rfl) rfl
theorem w_800 : (.laysFinal RJ0 "java/lang/String" "coder" "B" : Cond) ∈ zB := zb_m4 (List.mem_of_getElem? (i := 56) rfl) rfl
theorem w_1050 : (.lays RJ0 "java/lang/String" "hash" "I" : Cond) ∈ zB := zb_m5 (List.mem_of_getElem? (i := 66) rfl) rfl
theorem w_1052 : (.lays RJ0 "java/lang/String" "hashIsZero" "Z" : Cond) ∈ zB := zb_m5 (List.mem_of_getElem? (i := 68) rfl) rfl
theorem w_1125 : (.laysFinal RX7 "Layertreaty$Treaty" "number" "I" : Cond) ∈ zB := zb_m5 (List.mem_of_getElem? (i := 141) rfl) rfl
theorem w_1127 : (.laysFinal RX7 "Layertreaty$Treaty" "kind" "C" : Cond) ∈ zB := zb_m5 (List.mem_of_getElem? (i := 143) rfl) rfl
theorem w_1129 : (.laysFinal RX7 "Layertreaty$Treaty" "basis" "C" : Cond) ∈ zB := zb_m5 (List.mem_of_getElem? (i := 145) rfl) rfl
theorem w_1131 : (.laysFinal RX7 "Layertreaty$Treaty" "first" "I" : Cond) ∈ zB := zb_m5 (List.mem_of_getElem? (i := 147) rfl) rfl
theorem w_1133 : (.laysFinal RX7 "Layertreaty$Treaty" "last" "I" : Cond) ∈ zB := zb_m5 (List.mem_of_getElem? (i := 149) rfl) rfl
theorem w_1135 : (.laysFinal RX7 "Layertreaty$Treaty" "a" "I" : Cond) ∈ zB := zb_m5 (List.mem_of_getElem? (i := 151) rfl) rfl
theorem w_1137 : (.laysFinal RX7 "Layertreaty$Treaty" "b" "I" : Cond) ∈ zB := zb_m5 (List.mem_of_getElem? (i := 153) rfl) rfl
theorem w_1139 : (.laysFinal RX7 "Layertreaty$Treaty" "shares" "[I" : Cond) ∈ zB := zb_m5 (List.mem_of_getElem? (i := 155) rfl) rfl
theorem w_1141 : (.lays RX7 "Layertreaty$Treaty" "days" "I" : Cond) ∈ zB := zb_m5 (List.mem_of_getElem? (i := 157) rfl) rfl
theorem w_1143 : (.lays RX7 "Layertreaty$Treaty" "many" "I" : Cond) ∈ zB := zb_m5 (List.mem_of_getElem? (i := 159) rfl) rfl
theorem w_1145 : (.lays RX7 "Layertreaty$Treaty" "price" "I" : Cond) ∈ zB := zb_m5 (List.mem_of_getElem? (i := 161) rfl) rfl
theorem w_1147 : (.lays RX7 "Layertreaty$Treaty" "isByTime" "Z" : Cond) ∈ zB := zb_m5 (List.mem_of_getElem? (i := 163) rfl) rfl
theorem w_1149 : (.lays RX7 "Layertreaty$Treaty" "premium" "I" : Cond) ∈ zB := zb_m5 (List.mem_of_getElem? (i := 165) rfl) rfl
theorem w_1151 : (.lays RX7 "Layertreaty$Treaty" "isCommuted" "Z" : Cond) ∈ zB := zb_m5 (List.mem_of_getElem? (i := 167) rfl) rfl
theorem w_1153 : (.lays RX7 "Layertreaty$Treaty" "commutedFor" "I" : Cond) ∈ zB := zb_m5 (List.mem_of_getElem? (i := 169) rfl) rfl
theorem w_1177 : (.laysFinal RX1 "Layertreaty$Cover" "treaty" "LLayertreaty$Treaty;" : Cond) ∈ zB := zb_m5 (List.mem_of_getElem? (i := 193) rfl) rfl
theorem w_1179 : (.laysFinal RX1 "Layertreaty$Cover" "events" "[I" : Cond) ∈ zB := zb_m5 (List.mem_of_getElem? (i := 195) rfl) rfl
theorem w_1181 : (.lays RX1 "Layertreaty$Cover" "limitLeft" "J" : Cond) ∈ zB := zb_m5 (List.mem_of_getElem? (i := 197) rfl) rfl
theorem w_1183 : (.lays RX1 "Layertreaty$Cover" "taken" "J" : Cond) ∈ zB := zb_m5 (List.mem_of_getElem? (i := 199) rfl) rfl
theorem w_1185 : (.lays RX1 "Layertreaty$Cover" "reinstated" "J" : Cond) ∈ zB := zb_m5 (List.mem_of_getElem? (i := 201) rfl) rfl
theorem w_1187 : (.lays RX1 "Layertreaty$Cover" "owed" "J" : Cond) ∈ zB := zb_m5 (List.mem_of_getElem? (i := 203) rfl) rfl
theorem w_1322 : (.laysFinal RX6 "Layertreaty$Scenario" "day" "I" : Cond) ∈ zB := zb_m6 (List.mem_of_getElem? (i := 98) rfl) rfl
theorem w_1324 : (.laysFinal RX6 "Layertreaty$Scenario" "weight" "I" : Cond) ∈ zB := zb_m6 (List.mem_of_getElem? (i := 100) rfl) rfl
theorem w_1326 : (.laysFinal RX6 "Layertreaty$Scenario" "damages" "[I" : Cond) ∈ zB := zb_m6 (List.mem_of_getElem? (i := 102) rfl) rfl
theorem w_1328 : (.lays RX6 "Layertreaty$Scenario" "net" "J" : Cond) ∈ zB := zb_m6 (List.mem_of_getElem? (i := 104) rfl) rfl
theorem w_130 : (.arrayClass FieldType.int : Cond) ∈ zB := zb_m1 (List.mem_of_getElem? (i := 106) rfl) rfl
theorem w_131 : (.arrayClass FieldType.long : Cond) ∈ zB := zb_m1 (List.mem_of_getElem? (i := 107) rfl) rfl
theorem w_193 : (.arrayClass FieldType.boolean : Cond) ∈ zB := zb_m1 (List.mem_of_getElem? (i := 169) rfl) rfl
theorem w_308 : (.arrayClass FieldType.byte : Cond) ∈ zB := zb_m2 (List.mem_of_getElem? (i := 44) rfl) rfl
theorem w_86 : (.sameField "java/util/ArrayList" "java/util/AbstractList" "modCount" "I" : Cond) ∈ zB := zb_m1 (List.mem_of_getElem? (i := 62) rfl) rfl
theorem inX0 : ∀ w ∈ u_ws RX0 TX0 7, w ∈ zB := by
  intro w hw
  obtain ⟨k, hk, rfl⟩ := List.mem_map.mp hw
  have hk := List.mem_range.mp hk
  match k, hk with
  | 0, _ => exact w_761
  | 1, _ => exact w_763
  | 2, _ => exact w_765
  | 3, _ => exact w_767
  | 4, _ => exact w_769
  | 5, _ => exact w_771
  | 6, _ => exact w_773
  | q + 7, h => exact absurd h (by omega)
theorem inX1 : ∀ w ∈ u_ws RX1 TX1 6, w ∈ zB := by
  intro w hw
  obtain ⟨k, hk, rfl⟩ := List.mem_map.mp hw
  have hk := List.mem_range.mp hk
  match k, hk with
  | 0, _ => exact w_1177
  | 1, _ => exact w_1179
  | 2, _ => exact w_1181
  | 3, _ => exact w_1183
  | 4, _ => exact w_1185
  | 5, _ => exact w_1187
  | q + 6, h => exact absurd h (by omega)
theorem inX2 : ∀ w ∈ u_ws RX2 TX2 6, w ∈ zB := by
  intro w hw
  obtain ⟨k, hk, rfl⟩ := List.mem_map.mp hw
  have hk := List.mem_range.mp hk
  match k, hk with
  | 0, _ => exact w_140
  | 1, _ => exact w_142
  | 2, _ => exact w_144
  | 3, _ => exact w_146
  | 4, _ => exact w_148
  | 5, _ => exact w_150
  | q + 6, h => exact absurd h (by omega)
theorem inX3 : ∀ w ∈ u_ws RX3 TX3 6, w ∈ zB := by
  intro w hw
  obtain ⟨k, hk, rfl⟩ := List.mem_map.mp hw
  have hk := List.mem_range.mp hk
  match k, hk with
  | 0, _ => exact w_117
  | 1, _ => exact w_119
  | 2, _ => exact w_121
  | 3, _ => exact w_123
  | 4, _ => exact w_125
  | 5, _ => exact w_127
  | q + 6, h => exact absurd h (by omega)
theorem inX4 : ∀ w ∈ u_ws RX4 TX4 4, w ∈ zB := by
  intro w hw
  obtain ⟨k, hk, rfl⟩ := List.mem_map.mp hw
  have hk := List.mem_range.mp hk
  match k, hk with
  | 0, _ => exact w_722
  | 1, _ => exact w_724
  | 2, _ => exact w_726
  | 3, _ => exact w_728
  | q + 4, h => exact absurd h (by omega)
theorem inX5 : ∀ w ∈ u_ws RX5 TX5 9, w ∈ zB := by
  intro w hw
  obtain ⟨k, hk, rfl⟩ := List.mem_map.mp hw
  have hk := List.mem_range.mp hk
  match k, hk with
  | 0, _ => exact w_174
  | 1, _ => exact w_176
  | 2, _ => exact w_178
  | 3, _ => exact w_180
  | 4, _ => exact w_182
  | 5, _ => exact w_184
  | 6, _ => exact w_186
  | 7, _ => exact w_188
  | 8, _ => exact w_190
  | q + 9, h => exact absurd h (by omega)
theorem inX6 : ∀ w ∈ u_ws RX6 TX6 4, w ∈ zB := by
  intro w hw
  obtain ⟨k, hk, rfl⟩ := List.mem_map.mp hw
  have hk := List.mem_range.mp hk
  match k, hk with
  | 0, _ => exact w_1322
  | 1, _ => exact w_1324
  | 2, _ => exact w_1326
  | 3, _ => exact w_1328
  | q + 4, h => exact absurd h (by omega)
theorem inX7 : ∀ w ∈ u_ws RX7 TX7 15, w ∈ zB := by
  intro w hw
  obtain ⟨k, hk, rfl⟩ := List.mem_map.mp hw
  have hk := List.mem_range.mp hk
  match k, hk with
  | 0, _ => exact w_1125
  | 1, _ => exact w_1127
  | 2, _ => exact w_1129
  | 3, _ => exact w_1131
  | 4, _ => exact w_1133
  | 5, _ => exact w_1135
  | 6, _ => exact w_1137
  | 7, _ => exact w_1139
  | 8, _ => exact w_1141
  | 9, _ => exact w_1143
  | 10, _ => exact w_1145
  | 11, _ => exact w_1147
  | 12, _ => exact w_1149
  | 13, _ => exact w_1151
  | 14, _ => exact w_1153
  | q + 15, h => exact absurd h (by omega)
theorem inX8 : ∀ w ∈ u_ws RX8 TX8 9, w ∈ zB := by
  intro w hw
  obtain ⟨k, hk, rfl⟩ := List.mem_map.mp hw
  have hk := List.mem_range.mp hk
  match k, hk with
  | 0, _ => exact w_203
  | 1, _ => exact w_205
  | 2, _ => exact w_207
  | 3, _ => exact w_209
  | 4, _ => exact w_211
  | 5, _ => exact w_213
  | 6, _ => exact w_215
  | 7, _ => exact w_217
  | 8, _ => exact w_219
  | q + 9, h => exact absurd h (by omega)
theorem inJx4a65c : ∀ w ∈ u_ws RJx4a65c TJx4a65c 3, w ∈ zB := by
  intro w hw
  obtain ⟨k, hk, rfl⟩ := List.mem_map.mp hw
  have hk := List.mem_range.mp hk
  match k, hk with
  | 0, _ => exact w_91
  | 1, _ => exact w_87
  | 2, _ => exact w_89
  | q + 3, h => exact absurd h (by omega)
end
section
/-! the judgement zV: the walk of a body, over a picture P of the heap -/
abbrev zX : Type := Program × Launch × Env × Room × State × MethodId × Array Value × List Frame × Method × Code × (State → Prop)
abbrev zG : Type := Launch × (Nat → Prop) × va_G × (Nat → ClassId) × (Nat → Nat)
abbrev xp (X : zX) := X.1
abbrev xl (X : zX) := X.2.1
abbrev xe (X : zX) := X.2.2.1
abbrev xR (X : zX) := X.2.2.2.1
abbrev xs (X : zX) := X.2.2.2.2.1
abbrev xm (X : zX) := X.2.2.2.2.2.1
abbrev xa (X : zX) := X.2.2.2.2.2.2.1
abbrev xb (X : zX) := X.2.2.2.2.2.2.2.1
abbrev xh (X : zX) := X.2.2.2.2.2.2.2.2.1
abbrev xc (X : zX) := X.2.2.2.2.2.2.2.2.2.1
abbrev xQ (X : zX) := X.2.2.2.2.2.2.2.2.2.2
abbrev gA (G : zG) := G.2.1
def zty (dA : Nat → ClassId) : List (ClassId × FieldType) := [(dA 0, .int), (dA 1, .long), (dA 2, .boolean), (dA 3, .object "java/lang/Object")]
/-- the classes and array classes, as the tables have them; castable to Object, for stores into lists -/
def zF : List String := [RX0, RX1, RX2, RX3, RX4, RX5, RX6, RX7, RX8, RJx4a65c]
def zFn : List (String × Nat × MethodName) := [(RX8, 30, yX2_init), (RX2, 29, yX3_init), (RX8, 40, yX5_init)]
def zStr : List (Nat × String) := [(60, "no such sum, zone or days"), (71, "no more policies"), (90, "no such policy"), (93, "no such days or amount"), (105, "not in force on this day"), (108, "no more losses"), (138, "no more treaties"), (200, "shares of more than 100"), (230, "commuted before"), (171, "neither r nor e"), (249, "a limit without end"), (251, "commuted"), (374, "no treaty with events"), (304, "no more scenarios"), (364, "no such loss"), (136, "no such treaty")]
def zN (G : zG) (U : State) : Prop := va_K G.2.2.1 zCl (zty G.2.2.2.1) U ∧ G.1.stackTraces = false ∧ vx_Zq Bundle.tN "UNASSIGNED_STACK" Bundle.steD (gA G) U U.heap ∧ vx_Zq Bundle.tN "SUPPRESSED_SENTINEL" Bundle.listD (gA G) U U.heap ∧
  (∀ C ∈ zF, va_Nw (.castable C "java/lang/Object") U) ∧ va_AO "java/lang/Object" U ∧ (∀ x ∈ zFn, va_Nw (.methodLinkNest x.1 x.2.1 x.2.2 RX8) U) ∧ (∀ x ∈ zStr, ∃ a, vk_R RX8 x.1 x.2 a U) ∧
  va_Z RJx4a65c "DEFAULTCAPACITY_EMPTY_ELEMENTDATA" "[Ljava/lang/Object;" (.ref (G.2.2.2.2 0)) (gA G) U U.heap ∧ U.heap[G.2.2.2.2 0]? = some (vp_cell (G.2.2.2.1 3) (0, .inr (.inr (.inr (.inr fun _ => none))))) ∧ ¬ gA G (G.2.2.2.2 0) ∧ va_Mi "[Ljava/lang/Object;" (G.2.2.2.2 1) U ∧ va_Dc U
theorem zN.warm {G : zG} {s U : State} (hW : s.WarmedH U.vm) (hq : ∀ a : Nat, a < s.heap.size → ¬ gA G a → U.heap[a]? = s.heap[a]?) (h : zN G s) : zN G U := by
  obtain ⟨h1, h2, h3, h4, h5, h6, h7, h8, h9, h10, h11, h12, h13⟩ := h
  refine ⟨va_K.moved hW.alike h1, h2, (vx_Zq.moved hW.alike h3).kept hq, (vx_Zq.moved hW.alike h4).kept hq, fun C hC => va_Nw.warmC hW (h5 C hC), va_AO.moved hW.alike h6, fun x hx => va_Nw.warmM hW (h7 x hx), fun x hx => ?_, (va_Z.moved hW.alike h9).kept hq, ?_, h11, va_Mi.moved hW.alike h12, va_Dc.moved hW.alike h13⟩
  · obtain ⟨a, ha⟩ := h8 x hx
    exact ⟨a, vk_R.warm hW ha⟩
  · rw [hq _ (Array.getElem?_eq_some_iff.mp h10).1 h11]
    exact h10
theorem zN.same {G : zG} {u U : State} (hv : u.vm = U.vm) (hh : U.heap = u.heap) (h : zN G u) : zN G U := by
  obtain ⟨h1, h2, h3, h4, h5, h6, h7, h8, h9, h10, h11, h12, h13⟩ := h
  have hA : u.vm.Alike U.vm := by rw [hv]; exact Vm.Alike.refl _
  refine ⟨va_K.moved hA h1, h2, by rw [hh]; exact vx_Zq.moved hA h3, by rw [hh]; exact vx_Zq.moved hA h4, fun C hC => va_Nw.same rfl hv (h5 C hC), va_AO.moved hA h6, fun x hx => va_Nw.same rfl hv (h7 x hx), fun x hx => ?_, by rw [hh]; exact va_Z.moved hA h9, by rw [hh]; exact h10, h11, va_Mi.moved hA h12, va_Dc.moved hA h13⟩
  obtain ⟨a, ha⟩ := h8 x hx
  exact ⟨a, vk_R.same hv.symm ha⟩
def zK (G : zG) (X : zX) (cc : ByteArray) (own : String) (nL : Nat) (ret : Option FieldType) (rm : Room) : Prop :=
  (xp X).tables.exec = Jvm.exec ∧ (xc X).code = cc ∧ (xc X).maxLocals = nL ∧ (xs X).vm.findClass own = some (xm X).cls ∧ (∀ w ∈ zB, w.before (xa X) (xs X) = true) ∧ zN G (xs X) ∧ (xh X).locks = false ∧ (xh X).sig.returnType = ret ∧ (∀ q, (xs X).heap.size ≤ q → gA G q) ∧ xR X = rm ∧ xl X = G.1
def zV (G : zG) (X : zX) (nL : Nat) (P : Heap → Prop) (k n : Nat) (pc : Nat) (lo : List (Nat × Value)) (st : List Value) : Prop :=
  ∀ (H : Heap) (locs : List Loc) (ls : Array Slot), P H → va_S (gA G) (xs X).heap H locs → lv_has ls nL lo → W (xp X) (xl X) (xe X) (xR X) (xs X) (xm X) (xa X) (xb X) (xh X) (xc X) H locs k n (xQ X) (F0 (xm X) pc ls st)
def zE (G : zG) (X : zX) (mc ms : Nat) (rv : Option Value) (Qp : Heap → Prop) : Prop :=
  ∀ (H : Heap) (locs : List Loc) (g : JFrame), W (xp X) (xl X) (xe X) (xR X) (xs X) (xm X) (xa X) (xb X) (xh X) (xc X) H locs mc ms (MQ (xb X) (fun _ st o t => (o = .returned rv ∧ Qp t.heap) ∧ va_F (gA G) st t) (xa X) (xs X) mc ms (gA G)) g → W (xp X) (xl X) (xe X) (xR X) (xs X) (xm X) (xa X) (xb X) (xh X) (xc X) H locs mc ms (xQ X) g
/-- a method's contract: from the picture P it answers rv and leaves Qp -/
def zC (G : zG) (y : MethodName) (cc : ByteArray) (maxL : Nat) (ret : Option FieldType) (fr lc mc ms : Nat) (av : List Value) (P : Heap → Prop) (rv : Option Value) (Qp : Heap → Prop) : Prop :=
  Met G.1 y (.code y cc maxL ret :: zB) { frames := fr, cells := mc, slots := ms, locals := lc } (va_Pc av (fun U => P U.heap ∧ zN G U ∧ ∀ q, U.heap.size ≤ q → gA G q)) (fun _ st o t => (o = .returned rv ∧ Qp t.heap) ∧ va_F (gA G) st t) mc ms (gA G)
section ZJ
variable {G : zG} {X : zX} {cc : ByteArray} {own : String} {nL : Nat} {ret : Option FieldType} {rm : Room} {P : Heap → Prop} {k n pc : Nat} {lo : List (Nat × Value)} {st : List Value}
theorem zC_of {y : MethodName} {maxL fr lc mc ms : Nat} {av : List Value} {rv : Option Value} {Qp : Heap → Prop} (hy : plainName y.cls = true) (hlen : (lg_sl av).length ≤ maxL)
    (body : ∀ X : zX, zK G X cc y.cls maxL ret { frames := fr, cells := mc, slots := ms, locals := lc } → zE G X mc ms rv Qp → (xh X).name = y.name → zV G X maxL P 0 0 0 (lv_args 0 av) []) : zC G y cc maxL ret fr lc mc ms av P rv Qp := by
  refine Met.ofW (cc := cc) (maxL := maxL) (ret := ret) hy rfl ?_
  intro p e s m args below meth c s₁ B hml hv
  obtain ⟨rfl, hP, hN, hA⟩ := hv
  have hts := atoms_spec (ws := .code y cc maxL ret :: zB) B.pre
  have hl := lv_entry av (n := maxL) hlen
  rw [lg_entry_eq]
  exact body (p, G.1, e, { frames := fr, cells := mc, slots := ms, locals := lc }, s, m, av.toArray, below, meth, c, MQ below (fun _ st o t => (o = .returned rv ∧ Qp t.heap) ∧ va_F (gA G) st t) av.toArray s mc ms (gA G))
    ⟨B.exec, B.bytes, hml, findClass_of_methodNamed B.named, fun w hw => hts w (List.mem_cons_of_mem _ hw), hN, B.notSynchronized, B.returns, hA, rfl, rfl⟩ (fun _ _ _ h => h) (name_of_methodNamed B.named B.method).1 s.heap [] _ hP va_S.rf hl
theorem zV.imp {P' : Heap → Prop} (h : ∀ H, P H → P' H) (kk : zV G X nL P' k n pc lo st) : zV G X nL P k n pc lo st := fun H locs ls hP hS hL => kk H locs ls (h H hP) hS hL
theorem zV.ex {α : Sort _} {F : α → Heap → Prop} (kk : ∀ a, zV G X nL (F a) k n pc lo st) : zV G X nL (fun H => ∃ a, F a H) k n pc lo st := fun H locs ls hP hS hL => by
  obtain ⟨a, ha⟩ := hP
  exact kk a H locs ls ha hS hL
theorem zV.and {R' : Prop} (kk : R' → zV G X nL P k n pc lo st) : zV G X nL (fun H => R' ∧ P H) k n pc lo st := fun H locs ls hP hS hL => kk hP.1 H locs ls hP.2 hS hL
theorem zV.pick (ks : List Nat) {lo' : List (Nat × Value)} (h : lv_pick lo ks = lo') (kk : zV G X nL P k n pc lo' st) : zV G X nL P k n pc lo st := fun H locs ls hP hS hL => kk H locs ls hP hS (lv_sub hL ks h)
theorem zV.wd {k' n' : Nat} (h1 : k ≤ k') (h2 : n ≤ n') (kk : zV G X nL P k' n' pc lo st) : zV G X nL P k n pc lo st := fun H locs ls hP hS hL => W.widen h1 h2 (kk H locs ls hP hS hL)
theorem zi_topi {x : Int32} (kk : ∀ y : Int32, y = x → zV G X nL P k n pc lo (.int y :: st)) : zV G X nL P k n pc lo (.int x :: st) := kk x rfl
theorem zi_topl {x : Int64} (kk : ∀ y : Int64, y = x → zV G X nL P k n pc lo (.long y :: st)) : zV G X nL P k n pc lo (.long x :: st) := kk x rfl
theorem zi_iconst (K : zK G X cc own nL ret rm) {v : Int} {x : Int32} (hd : decode cc pc = .ok (.iconst v, 1)) (hv : Int32.ofInt v = x) (kk : zV G X nL P k n (pc + 1) lo (.int x :: st)) : zV G X nL P k n pc lo st := fun H locs ls hP hS hL => lv_iconst K.1 K.2.1 hd hv (kk H locs ls hP hS hL)
theorem zi_bipush (K : zK G X cc own nL ret rm) {v : Int} {x : Int32} (hd : decode cc pc = .ok (.bipush v, 2)) (hv : (Int8.ofInt v).toInt32 = x) (kk : zV G X nL P k n (pc + 2) lo (.int x :: st)) : zV G X nL P k n pc lo st := fun H locs ls hP hS hL => lv_bipush K.1 K.2.1 hd hv (kk H locs ls hP hS hL)
theorem zi_sipush (K : zK G X cc own nL ret rm) {v : Int} {x : Int32} (hd : decode cc pc = .ok (.sipush v, 3)) (hv : (Int16.ofInt v).toInt32 = x) (kk : zV G X nL P k n (pc + 3) lo (.int x :: st)) : zV G X nL P k n pc lo st := fun H locs ls hP hS hL => lv_sipush K.1 K.2.1 hd hv (kk H locs ls hP hS hL)
theorem zi_lconst (K : zK G X cc own nL ret rm) {v : Fin 2} {x : Int64} (hd : decode cc pc = .ok (.lconst v, 1)) (hv : Int64.ofNat (v : Nat) = x) (kk : zV G X nL P k n (pc + 1) lo (.long x :: st)) : zV G X nL P k n pc lo st := fun H locs ls hP hS hL => lv_lconst K.1 K.2.1 hd hv (kk H locs ls hP hS hL)
theorem zi_iload_n (K : zK G X cc own nL ret rm) {j : Fin 4} {x : Int32} (hd : decode cc pc = .ok (.iload_n j, 1)) (p : Nat) (hl : lo[p]? = some ((j : Nat), .int x)) (kk : zV G X nL P k n (pc + 1) lo (.int x :: st)) : zV G X nL P k n pc lo st := fun H locs ls hP hS hL => lv_iload_n K.1 K.2.1 hd rfl (lv_at hL p hl) (kk H locs ls hP hS hL)
theorem zi_iload (K : zK G X cc own nL ret rm) {j : Nat} {x : Int32} (hd : decode cc pc = .ok (.iload j, 2)) (p : Nat) (hl : lo[p]? = some (j, .int x)) (kk : zV G X nL P k n (pc + 2) lo (.int x :: st)) : zV G X nL P k n pc lo st := fun H locs ls hP hS hL => lv_iload K.1 K.2.1 hd (lv_at hL p hl) (kk H locs ls hP hS hL)
theorem zi_lload_n (K : zK G X cc own nL ret rm) {j : Fin 4} {x : Int64} (hd : decode cc pc = .ok (.lload_n j, 1)) (p : Nat) (hl : lo[p]? = some ((j : Nat), .long x)) (kk : zV G X nL P k n (pc + 1) lo (.long x :: st)) : zV G X nL P k n pc lo st := fun H locs ls hP hS hL => lv_lload_n K.1 K.2.1 hd rfl (lv_at hL p hl) (kk H locs ls hP hS hL)
theorem zi_lload (K : zK G X cc own nL ret rm) {j : Nat} {x : Int64} (hd : decode cc pc = .ok (.lload j, 2)) (p : Nat) (hl : lo[p]? = some (j, .long x)) (kk : zV G X nL P k n (pc + 2) lo (.long x :: st)) : zV G X nL P k n pc lo st := fun H locs ls hP hS hL => lv_lload K.1 K.2.1 hd (lv_at hL p hl) (kk H locs ls hP hS hL)
theorem zi_aload_n (K : zK G X cc own nL ret rm) {j : Fin 4} {x : Nat} (hd : decode cc pc = .ok (.aload_n j, 1)) (p : Nat) (hl : lo[p]? = some ((j : Nat), .ref x)) (kk : zV G X nL P k n (pc + 1) lo (.ref x :: st)) : zV G X nL P k n pc lo st := fun H locs ls hP hS hL => lv_aload_n K.1 K.2.1 hd rfl (lv_at hL p hl) (kk H locs ls hP hS hL)
theorem zi_aload (K : zK G X cc own nL ret rm) {j : Nat} {x : Nat} (hd : decode cc pc = .ok (.aload j, 2)) (p : Nat) (hl : lo[p]? = some (j, .ref x)) (kk : zV G X nL P k n (pc + 2) lo (.ref x :: st)) : zV G X nL P k n pc lo st := fun H locs ls hP hS hL => lv_aload K.1 K.2.1 hd (lv_at hL p hl) (kk H locs ls hP hS hL)
theorem zi_istore_n (K : zK G X cc own nL ret rm) {j : Fin 4} {x : Int32} (lo' : List (Nat × Value)) (hd : decode cc pc = .ok (.istore_n j, 1)) (hn : (j : Nat) < nL) (hl : ((j : Nat), Value.int x) :: lo.filter (fun q => !(q.1 == (j : Nat)) && !(q.1 + 1 == (j : Nat) && q.2.category == 2)) = lo') (kk : zV G X nL P k n (pc + 1) lo' st) : zV G X nL P k n pc lo (.int x :: st) := fun H locs ls hP hS hL => lv_istore_n K.1 K.2.1 hd rfl hL hn hl (fun ls hL => kk H locs ls hP hS hL)
theorem zi_istore (K : zK G X cc own nL ret rm) {j : Nat} {x : Int32} (lo' : List (Nat × Value)) (hd : decode cc pc = .ok (.istore j, 2)) (hn : j < nL) (hl : (j, Value.int x) :: lo.filter (fun q => !(q.1 == j) && !(q.1 + 1 == j && q.2.category == 2)) = lo') (kk : zV G X nL P k n (pc + 2) lo' st) : zV G X nL P k n pc lo (.int x :: st) := fun H locs ls hP hS hL => lv_istore K.1 K.2.1 hd hL hn hl (fun ls hL => kk H locs ls hP hS hL)
theorem zi_lstore_n (K : zK G X cc own nL ret rm) {j : Fin 4} {x : Int64} (lo' : List (Nat × Value)) (hd : decode cc pc = .ok (.lstore_n j, 1)) (hn : (j : Nat) + 1 < nL) (hl : ((j : Nat), Value.long x) :: lo.filter (fun q => !(q.1 == (j : Nat)) && (!(q.1 == (j : Nat) + 1) && !(q.1 + 1 == (j : Nat) && q.2.category == 2))) = lo') (kk : zV G X nL P k n (pc + 1) lo' st) : zV G X nL P k n pc lo (.long x :: st) := fun H locs ls hP hS hL => lv_lstore_n K.1 K.2.1 hd rfl hL hn hl (fun ls hL => kk H locs ls hP hS hL)
theorem zi_lstore (K : zK G X cc own nL ret rm) {j : Nat} {x : Int64} (lo' : List (Nat × Value)) (hd : decode cc pc = .ok (.lstore j, 2)) (hn : j + 1 < nL) (hl : (j, Value.long x) :: lo.filter (fun q => !(q.1 == j) && (!(q.1 == j + 1) && !(q.1 + 1 == j && q.2.category == 2))) = lo') (kk : zV G X nL P k n (pc + 2) lo' st) : zV G X nL P k n pc lo (.long x :: st) := fun H locs ls hP hS hL => lv_lstore K.1 K.2.1 hd hL hn hl (fun ls hL => kk H locs ls hP hS hL)
theorem zi_astore_n (K : zK G X cc own nL ret rm) {j : Fin 4} {x : Nat} (lo' : List (Nat × Value)) (hd : decode cc pc = .ok (.astore_n j, 1)) (hn : (j : Nat) < nL) (hl : ((j : Nat), Value.ref x) :: lo.filter (fun q => !(q.1 == (j : Nat)) && !(q.1 + 1 == (j : Nat) && q.2.category == 2)) = lo') (kk : zV G X nL P k n (pc + 1) lo' st) : zV G X nL P k n pc lo (.ref x :: st) := fun H locs ls hP hS hL => lv_astore_n K.1 K.2.1 hd rfl hL hn hl (fun ls hL => kk H locs ls hP hS hL)
theorem zi_astore (K : zK G X cc own nL ret rm) {j : Nat} {x : Nat} (lo' : List (Nat × Value)) (hd : decode cc pc = .ok (.astore j, 2)) (hn : j < nL) (hl : (j, Value.ref x) :: lo.filter (fun q => !(q.1 == j) && !(q.1 + 1 == j && q.2.category == 2)) = lo') (kk : zV G X nL P k n (pc + 2) lo' st) : zV G X nL P k n pc lo (.ref x :: st) := fun H locs ls hP hS hL => lv_astore K.1 K.2.1 hd hL hn hl (fun ls hL => kk H locs ls hP hS hL)
theorem zi_iinc (K : zK G X cc own nL ret rm) {j : Nat} {i : Int} {x v : Int32} (lo' : List (Nat × Value)) (hd : decode cc pc = .ok (.iinc j i, 3)) (p : Nat) (hp : lo[p]? = some (j, .int x)) (hv : x + Int32.ofInt i = v) (hn : j < nL) (hl : (j, Value.int v) :: lo.filter (fun q => !(q.1 == j) && !(q.1 + 1 == j && q.2.category == 2)) = lo') (kk : zV G X nL P k n (pc + 3) lo' st) : zV G X nL P k n pc lo st := fun H locs ls hP hS hL => lv_iinc K.1 K.2.1 hd hL hp hv hn hl (fun ls hL => kk H locs ls hP hS hL)
theorem zi_iadd (K : zK G X cc own nL ret rm) {x y : Int32} (hd : decode cc pc = .ok (.iadd, 1)) (kk : zV G X nL P k n (pc + 1) lo (.int (x + y) :: st)) : zV G X nL P k n pc lo (.int y :: .int x :: st) := fun H locs ls hP hS hL => lv_iadd K.1 K.2.1 hd  (kk H locs ls hP hS hL)
theorem zi_isub (K : zK G X cc own nL ret rm) {x y : Int32} (hd : decode cc pc = .ok (.isub, 1)) (kk : zV G X nL P k n (pc + 1) lo (.int (x - y) :: st)) : zV G X nL P k n pc lo (.int y :: .int x :: st) := fun H locs ls hP hS hL => lv_isub K.1 K.2.1 hd  (kk H locs ls hP hS hL)
theorem zi_imul (K : zK G X cc own nL ret rm) {x y : Int32} (hd : decode cc pc = .ok (.imul, 1)) (kk : zV G X nL P k n (pc + 1) lo (.int (x * y) :: st)) : zV G X nL P k n pc lo (.int y :: .int x :: st) := fun H locs ls hP hS hL => lv_imul K.1 K.2.1 hd  (kk H locs ls hP hS hL)
theorem zi_iand (K : zK G X cc own nL ret rm) {x y : Int32} (hd : decode cc pc = .ok (.iand, 1)) (kk : zV G X nL P k n (pc + 1) lo (.int (x &&& y) :: st)) : zV G X nL P k n pc lo (.int y :: .int x :: st) := fun H locs ls hP hS hL => lv_iand K.1 K.2.1 hd  (kk H locs ls hP hS hL)
theorem zi_ior (K : zK G X cc own nL ret rm) {x y : Int32} (hd : decode cc pc = .ok (.ior, 1)) (kk : zV G X nL P k n (pc + 1) lo (.int (x ||| y) :: st)) : zV G X nL P k n pc lo (.int y :: .int x :: st) := fun H locs ls hP hS hL => lv_ior K.1 K.2.1 hd  (kk H locs ls hP hS hL)
theorem zi_ishl (K : zK G X cc own nL ret rm) {x y : Int32} (hd : decode cc pc = .ok (.ishl, 1)) (kk : zV G X nL P k n (pc + 1) lo (.int (x <<< (y &&& 31)) :: st)) : zV G X nL P k n pc lo (.int y :: .int x :: st) := fun H locs ls hP hS hL => lv_ishl K.1 K.2.1 hd  (kk H locs ls hP hS hL)
theorem zi_ishr (K : zK G X cc own nL ret rm) {x y : Int32} (hd : decode cc pc = .ok (.ishr, 1)) (kk : zV G X nL P k n (pc + 1) lo (.int (x >>> (y &&& 31)) :: st)) : zV G X nL P k n pc lo (.int y :: .int x :: st) := fun H locs ls hP hS hL => lv_ishr K.1 K.2.1 hd  (kk H locs ls hP hS hL)
theorem zi_irem (K : zK G X cc own nL ret rm) {x y : Int32} (hd : decode cc pc = .ok (.irem, 1)) (hne : ¬ y = 0) (kk : zV G X nL P k n (pc + 1) lo (.int (x - x / y * y) :: st)) : zV G X nL P k n pc lo (.int y :: .int x :: st) := fun H locs ls hP hS hL => lv_irem K.1 K.2.1 hd hne (kk H locs ls hP hS hL)
theorem zi_iushr (K : zK G X cc own nL ret rm) {x y v : Int32} (hd : decode cc pc = .ok (.iushr, 1)) (hv : (x.toUInt32 >>> (y.toUInt32 &&& Int32.toUInt32 31)).toInt32 = v) (kk : zV G X nL P k n (pc + 1) lo (.int v :: st)) : zV G X nL P k n pc lo (.int y :: .int x :: st) := fun H locs ls hP hS hL => lv_iushr K.1 K.2.1 hd hv (kk H locs ls hP hS hL)
theorem zi_ladd (K : zK G X cc own nL ret rm) {x y : Int64} (hd : decode cc pc = .ok (.ladd, 1)) (kk : zV G X nL P k n (pc + 1) lo (.long (x + y) :: st)) : zV G X nL P k n pc lo (.long y :: .long x :: st) := fun H locs ls hP hS hL => lv_ladd K.1 K.2.1 hd  (kk H locs ls hP hS hL)
theorem zi_lsub (K : zK G X cc own nL ret rm) {x y : Int64} (hd : decode cc pc = .ok (.lsub, 1)) (kk : zV G X nL P k n (pc + 1) lo (.long (x - y) :: st)) : zV G X nL P k n pc lo (.long y :: .long x :: st) := fun H locs ls hP hS hL => lv_lsub K.1 K.2.1 hd  (kk H locs ls hP hS hL)
theorem zi_lmul (K : zK G X cc own nL ret rm) {x y : Int64} (hd : decode cc pc = .ok (.lmul, 1)) (kk : zV G X nL P k n (pc + 1) lo (.long (x * y) :: st)) : zV G X nL P k n pc lo (.long y :: .long x :: st) := fun H locs ls hP hS hL => lv_lmul K.1 K.2.1 hd  (kk H locs ls hP hS hL)
theorem zi_ldiv (K : zK G X cc own nL ret rm) {x y : Int64} (hd : decode cc pc = .ok (.ldiv, 1)) (hne : ¬ y = 0) (kk : zV G X nL P k n (pc + 1) lo (.long (x / y) :: st)) : zV G X nL P k n pc lo (.long y :: .long x :: st) := fun H locs ls hP hS hL => lv_ldiv K.1 K.2.1 hd hne (kk H locs ls hP hS hL)
theorem zi_lcmp (K : zK G X cc own nL ret rm) {x y : Int64} (hd : decode cc pc = .ok (.lcmp, 1)) (kk : zV G X nL P k n (pc + 1) lo (.int (lg_cmp x y) :: st)) : zV G X nL P k n pc lo (.long y :: .long x :: st) := fun H locs ls hP hS hL => W.lcmp K.1 K.2.1 hd  (kk H locs ls hP hS hL)
theorem zi_i2l (K : zK G X cc own nL ret rm) {x : Int32} (hd : decode cc pc = .ok (.i2l, 1)) (kk : zV G X nL P k n (pc + 1) lo (.long x.toInt64 :: st)) : zV G X nL P k n pc lo (.int x :: st) := fun H locs ls hP hS hL => lv_i2l K.1 K.2.1 hd rfl (kk H locs ls hP hS hL)
theorem zi_l2i (K : zK G X cc own nL ret rm) {x : Int64} (hd : decode cc pc = .ok (.l2i, 1)) (kk : zV G X nL P k n (pc + 1) lo (.int x.toInt32 :: st)) : zV G X nL P k n pc lo (.long x :: st) := fun H locs ls hP hS hL => lv_l2i K.1 K.2.1 hd rfl (kk H locs ls hP hS hL)
theorem zi_l2d (K : zK G X cc own nL ret rm) {x : Int64} (hd : decode cc pc = .ok (.l2d, 1)) (kk : zV G X nL P k n (pc + 1) lo (.double (FP.l2d x) :: st)) : zV G X nL P k n pc lo (.long x :: st) := fun H locs ls hP hS hL => lv_l2d K.1 K.2.1 hd  (kk H locs ls hP hS hL)
theorem zi_ddiv (K : zK G X cc own nL ret rm) {x y : UInt64} (hd : decode cc pc = .ok (.ddiv, 1)) (hne : vf_n64 (FP.ddiv x y)) (kk : zV G X nL P k n (pc + 1) lo (.double (FP.ddiv x y) :: st)) : zV G X nL P k n pc lo (.double y :: .double x :: st) := fun H locs ls hP hS hL => lv_ddiv K.1 K.2.1 hd hne (kk H locs ls hP hS hL)
theorem zi_dcmp (K : zK G X cc own nL ret rm) {x y : UInt64} {op : CmpOp} (hd : decode cc pc = .ok (.dcmp op, 1)) (kk : zV G X nL P k n (pc + 1) lo (.int (Op.cmpValue (FP.dcmp x y) op) :: st)) : zV G X nL P k n pc lo (.double y :: .double x :: st) := fun H locs ls hP hS hL => lv_dcmp K.1 K.2.1 hd  (kk H locs ls hP hS hL)
theorem zi_dup (K : zK G X cc own nL ret rm) {v : Value} (hd : decode cc pc = .ok (.dup, 1)) (hv : v.category = 1) (kk : zV G X nL P k n (pc + 1) lo (v :: v :: st)) : zV G X nL P k n pc lo (v :: st) := fun H locs ls hP hS hL => lv_dup K.1 K.2.1 hd hv (kk H locs ls hP hS hL)
theorem zi_pop (K : zK G X cc own nL ret rm) {v : Value} (hd : decode cc pc = .ok (.pop, 1)) (hv : v.category = 1) (kk : zV G X nL P k n (pc + 1) lo st) : zV G X nL P k n pc lo (v :: st) := fun H locs ls hP hS hL => lv_pop K.1 K.2.1 hd hv (kk H locs ls hP hS hL)
theorem zi_dup2_11 (K : zK G X cc own nL ret rm) {v w : Value} (hd : decode cc pc = .ok (.dup2, 1)) (hv : v.category = 1) (hw : w.category = 1) (kk : zV G X nL P k n (pc + 1) lo (v :: w :: v :: w :: st)) : zV G X nL P k n pc lo (v :: w :: st) := fun H locs ls hP hS hL => lv_dup2_11 K.1 K.2.1 hd hv hw (kk H locs ls hP hS hL)
theorem zi_dup2_2 (K : zK G X cc own nL ret rm) {v : Value} (hd : decode cc pc = .ok (.dup2, 1)) (hv : v.category = 2) (kk : zV G X nL P k n (pc + 1) lo (v :: v :: st)) : zV G X nL P k n pc lo (v :: st) := fun H locs ls hP hS hL => lv_dup2_2 K.1 K.2.1 hd hv (kk H locs ls hP hS hL)
theorem zi_pop2_2 (K : zK G X cc own nL ret rm) {v : Value} (hd : decode cc pc = .ok (.pop2, 1)) (hv : v.category = 2) (kk : zV G X nL P k n (pc + 1) lo st) : zV G X nL P k n pc lo (v :: st) := fun H locs ls hP hS hL => lv_pop2_2 K.1 K.2.1 hd hv (kk H locs ls hP hS hL)
theorem zi_if_eq (K : zK G X cc own nL ret rm) {x : Int32} {off : Int} (tgt : Nat) (hd : decode cc pc = .ok (.ifCond .eq off, 3)) (ht : (pc : Int) + off = (tgt : Int)) (kt : x = 0 → zV G X nL P k n tgt lo st) (kf : ¬ x = 0 → zV G X nL P k n (pc + 3) lo st) : zV G X nL P k n pc lo (.int x :: st) := fun H locs ls hP hS hL => lv_if_eq K.1 K.2.1 hd ht (fun c => kt c H locs ls hP hS hL) (fun c => kf c H locs ls hP hS hL)
theorem zi_if_ne (K : zK G X cc own nL ret rm) {x : Int32} {off : Int} (tgt : Nat) (hd : decode cc pc = .ok (.ifCond .ne off, 3)) (ht : (pc : Int) + off = (tgt : Int)) (kt : ¬ x = 0 → zV G X nL P k n tgt lo st) (kf : x = 0 → zV G X nL P k n (pc + 3) lo st) : zV G X nL P k n pc lo (.int x :: st) := fun H locs ls hP hS hL => lv_if_ne K.1 K.2.1 hd ht (fun c => kt c H locs ls hP hS hL) (fun c => kf c H locs ls hP hS hL)
theorem zi_if_lt (K : zK G X cc own nL ret rm) {x : Int32} {off : Int} (tgt : Nat) (hd : decode cc pc = .ok (.ifCond .lt off, 3)) (ht : (pc : Int) + off = (tgt : Int)) (kt : x < 0 → zV G X nL P k n tgt lo st) (kf : ¬ x < 0 → zV G X nL P k n (pc + 3) lo st) : zV G X nL P k n pc lo (.int x :: st) := fun H locs ls hP hS hL => lv_if_lt K.1 K.2.1 hd ht (fun c => kt c H locs ls hP hS hL) (fun c => kf c H locs ls hP hS hL)
theorem zi_if_ge (K : zK G X cc own nL ret rm) {x : Int32} {off : Int} (tgt : Nat) (hd : decode cc pc = .ok (.ifCond .ge off, 3)) (ht : (pc : Int) + off = (tgt : Int)) (kt : 0 ≤ x → zV G X nL P k n tgt lo st) (kf : ¬ 0 ≤ x → zV G X nL P k n (pc + 3) lo st) : zV G X nL P k n pc lo (.int x :: st) := fun H locs ls hP hS hL => lv_if_ge K.1 K.2.1 hd ht (fun c => kt c H locs ls hP hS hL) (fun c => kf c H locs ls hP hS hL)
theorem zi_if_gt (K : zK G X cc own nL ret rm) {x : Int32} {off : Int} (tgt : Nat) (hd : decode cc pc = .ok (.ifCond .gt off, 3)) (ht : (pc : Int) + off = (tgt : Int)) (kt : 0 < x → zV G X nL P k n tgt lo st) (kf : ¬ 0 < x → zV G X nL P k n (pc + 3) lo st) : zV G X nL P k n pc lo (.int x :: st) := fun H locs ls hP hS hL => lv_if_gt K.1 K.2.1 hd ht (fun c => kt c H locs ls hP hS hL) (fun c => kf c H locs ls hP hS hL)
theorem zi_if_le (K : zK G X cc own nL ret rm) {x : Int32} {off : Int} (tgt : Nat) (hd : decode cc pc = .ok (.ifCond .le off, 3)) (ht : (pc : Int) + off = (tgt : Int)) (kt : x ≤ 0 → zV G X nL P k n tgt lo st) (kf : ¬ x ≤ 0 → zV G X nL P k n (pc + 3) lo st) : zV G X nL P k n pc lo (.int x :: st) := fun H locs ls hP hS hL => lv_if_le K.1 K.2.1 hd ht (fun c => kt c H locs ls hP hS hL) (fun c => kf c H locs ls hP hS hL)
theorem zi_icmp_eq (K : zK G X cc own nL ret rm) {x y : Int32} {off : Int} (tgt : Nat) (hd : decode cc pc = .ok (.if_icmp .eq off, 3)) (ht : (pc : Int) + off = (tgt : Int)) (kt : x = y → zV G X nL P k n tgt lo st) (kf : ¬ x = y → zV G X nL P k n (pc + 3) lo st) : zV G X nL P k n pc lo (.int y :: .int x :: st) := fun H locs ls hP hS hL => lv_icmp_eq K.1 K.2.1 hd ht (fun c => kt c H locs ls hP hS hL) (fun c => kf c H locs ls hP hS hL)
theorem zi_icmp_ne (K : zK G X cc own nL ret rm) {x y : Int32} {off : Int} (tgt : Nat) (hd : decode cc pc = .ok (.if_icmp .ne off, 3)) (ht : (pc : Int) + off = (tgt : Int)) (kt : ¬ x = y → zV G X nL P k n tgt lo st) (kf : x = y → zV G X nL P k n (pc + 3) lo st) : zV G X nL P k n pc lo (.int y :: .int x :: st) := fun H locs ls hP hS hL => lv_icmp_ne K.1 K.2.1 hd ht (fun c => kt c H locs ls hP hS hL) (fun c => kf c H locs ls hP hS hL)
theorem zi_icmp_lt (K : zK G X cc own nL ret rm) {x y : Int32} {off : Int} (tgt : Nat) (hd : decode cc pc = .ok (.if_icmp .lt off, 3)) (ht : (pc : Int) + off = (tgt : Int)) (kt : x < y → zV G X nL P k n tgt lo st) (kf : ¬ x < y → zV G X nL P k n (pc + 3) lo st) : zV G X nL P k n pc lo (.int y :: .int x :: st) := fun H locs ls hP hS hL => lv_icmp_lt K.1 K.2.1 hd ht (fun c => kt c H locs ls hP hS hL) (fun c => kf c H locs ls hP hS hL)
theorem zi_icmp_ge (K : zK G X cc own nL ret rm) {x y : Int32} {off : Int} (tgt : Nat) (hd : decode cc pc = .ok (.if_icmp .ge off, 3)) (ht : (pc : Int) + off = (tgt : Int)) (kt : y ≤ x → zV G X nL P k n tgt lo st) (kf : ¬ y ≤ x → zV G X nL P k n (pc + 3) lo st) : zV G X nL P k n pc lo (.int y :: .int x :: st) := fun H locs ls hP hS hL => lv_icmp_ge K.1 K.2.1 hd ht (fun c => kt c H locs ls hP hS hL) (fun c => kf c H locs ls hP hS hL)
theorem zi_icmp_gt (K : zK G X cc own nL ret rm) {x y : Int32} {off : Int} (tgt : Nat) (hd : decode cc pc = .ok (.if_icmp .gt off, 3)) (ht : (pc : Int) + off = (tgt : Int)) (kt : y < x → zV G X nL P k n tgt lo st) (kf : ¬ y < x → zV G X nL P k n (pc + 3) lo st) : zV G X nL P k n pc lo (.int y :: .int x :: st) := fun H locs ls hP hS hL => lv_icmp_gt K.1 K.2.1 hd ht (fun c => kt c H locs ls hP hS hL) (fun c => kf c H locs ls hP hS hL)
theorem zi_icmp_le (K : zK G X cc own nL ret rm) {x y : Int32} {off : Int} (tgt : Nat) (hd : decode cc pc = .ok (.if_icmp .le off, 3)) (ht : (pc : Int) + off = (tgt : Int)) (kt : x ≤ y → zV G X nL P k n tgt lo st) (kf : ¬ x ≤ y → zV G X nL P k n (pc + 3) lo st) : zV G X nL P k n pc lo (.int y :: .int x :: st) := fun H locs ls hP hS hL => lv_icmp_le K.1 K.2.1 hd ht (fun c => kt c H locs ls hP hS hL) (fun c => kf c H locs ls hP hS hL)
theorem zi_goto (K : zK G X cc own nL ret rm) {off : Int} (tgt : Nat) (hd : decode cc pc = .ok (.goto off, 3)) (ht : (pc : Int) + off = (tgt : Int)) (kk : zV G X nL P k n tgt lo st) : zV G X nL P k n pc lo st := fun H locs ls hP hS hL => lv_goto K.1 K.2.1 hd ht (kk H locs ls hP hS hL)
theorem zl_eq {x y : Int64} : (lg_cmp x y = 0) ↔ (x = y) := by
  unfold lg_cmp
  by_cases h1 : y < x
  · have h2 : ¬ x < y := fun h => absurd (Int64.lt_iff_toInt_lt.mp h) (by have := Int64.lt_iff_toInt_lt.mp h1; omega)
    have h3 : ¬ x = y := fun h => by subst h; exact h2 h1
    first | (simp only [h1, h2, h3, if_true]; done) | (simp only [h1, h2, h3, if_true]; decide)
  · by_cases h2 : x = y
    · subst h2
      have h3 : ¬ x < x := fun h => absurd (Int64.lt_iff_toInt_lt.mp h) (by omega)
      first | (simp only [h3, if_true, if_false]; done) | (simp only [h3, if_true, if_false]; decide)
    · have h3 : x < y := by
        rcases Int.lt_trichotomy x.toInt y.toInt with h | h | h
        · exact Int64.lt_iff_toInt_lt.mpr h
        · exact absurd (Int64.toInt_inj.mp h) h2
        · exact absurd (Int64.lt_iff_toInt_lt.mpr h) h1
      first | (simp only [h1, h2, h3, if_false]; done) | (simp only [h1, h2, h3, if_false]; decide)
theorem zi_lif_eq (K : zK G X cc own nL ret rm) {x y : Int64} {off : Int} (tgt : Nat) (hd0 : decode cc pc = .ok (.lcmp, 1)) (hd : decode cc (pc + 1) = .ok (.ifCond .eq off, 3)) (ht : ((pc + 1 : Nat) : Int) + off = (tgt : Int)) (kt : x = y → zV G X nL P k n tgt lo st) (kf : ¬ x = y → zV G X nL P k n (pc + 1 + 3) lo st) : zV G X nL P k n pc lo (.long y :: .long x :: st) := zi_lcmp K hd0 (zi_if_eq K tgt hd ht (fun c => kt (zl_eq.mp c)) (fun c => kf (fun q => c (zl_eq.mpr q))))
theorem zl_ne {x y : Int64} : (¬ lg_cmp x y = 0) ↔ (¬ x = y) := by
  unfold lg_cmp
  by_cases h1 : y < x
  · have h2 : ¬ x < y := fun h => absurd (Int64.lt_iff_toInt_lt.mp h) (by have := Int64.lt_iff_toInt_lt.mp h1; omega)
    have h3 : ¬ x = y := fun h => by subst h; exact h2 h1
    first | (simp only [h1, h2, h3, if_true]; done) | (simp only [h1, h2, h3, if_true]; decide)
  · by_cases h2 : x = y
    · subst h2
      have h3 : ¬ x < x := fun h => absurd (Int64.lt_iff_toInt_lt.mp h) (by omega)
      first | (simp only [h3, if_true, if_false]; done) | (simp only [h3, if_true, if_false]; decide)
    · have h3 : x < y := by
        rcases Int.lt_trichotomy x.toInt y.toInt with h | h | h
        · exact Int64.lt_iff_toInt_lt.mpr h
        · exact absurd (Int64.toInt_inj.mp h) h2
        · exact absurd (Int64.lt_iff_toInt_lt.mpr h) h1
      first | (simp only [h1, h2, h3, if_false]; done) | (simp only [h1, h2, h3, if_false]; decide)
theorem zi_lif_ne (K : zK G X cc own nL ret rm) {x y : Int64} {off : Int} (tgt : Nat) (hd0 : decode cc pc = .ok (.lcmp, 1)) (hd : decode cc (pc + 1) = .ok (.ifCond .ne off, 3)) (ht : ((pc + 1 : Nat) : Int) + off = (tgt : Int)) (kt : ¬ x = y → zV G X nL P k n tgt lo st) (kf : x = y → zV G X nL P k n (pc + 1 + 3) lo st) : zV G X nL P k n pc lo (.long y :: .long x :: st) := zi_lcmp K hd0 (zi_if_ne K tgt hd ht (fun c => kt (zl_ne.mp c)) (fun c => kf (zl_eq.mp c)))
theorem zl_lt {x y : Int64} : (lg_cmp x y < 0) ↔ (x < y) := by
  unfold lg_cmp
  by_cases h1 : y < x
  · have h2 : ¬ x < y := fun h => absurd (Int64.lt_iff_toInt_lt.mp h) (by have := Int64.lt_iff_toInt_lt.mp h1; omega)
    have h3 : ¬ x = y := fun h => by subst h; exact h2 h1
    first | (simp only [h1, h2, h3, if_true]; done) | (simp only [h1, h2, h3, if_true]; decide)
  · by_cases h2 : x = y
    · subst h2
      have h3 : ¬ x < x := fun h => absurd (Int64.lt_iff_toInt_lt.mp h) (by omega)
      first | (simp only [h3, if_true, if_false]; done) | (simp only [h3, if_true, if_false]; decide)
    · have h3 : x < y := by
        rcases Int.lt_trichotomy x.toInt y.toInt with h | h | h
        · exact Int64.lt_iff_toInt_lt.mpr h
        · exact absurd (Int64.toInt_inj.mp h) h2
        · exact absurd (Int64.lt_iff_toInt_lt.mpr h) h1
      first | (simp only [h1, h2, h3, if_false]; done) | (simp only [h1, h2, h3, if_false]; decide)
theorem zi_lif_lt (K : zK G X cc own nL ret rm) {x y : Int64} {off : Int} (tgt : Nat) (hd0 : decode cc pc = .ok (.lcmp, 1)) (hd : decode cc (pc + 1) = .ok (.ifCond .lt off, 3)) (ht : ((pc + 1 : Nat) : Int) + off = (tgt : Int)) (kt : x < y → zV G X nL P k n tgt lo st) (kf : ¬ x < y → zV G X nL P k n (pc + 1 + 3) lo st) : zV G X nL P k n pc lo (.long y :: .long x :: st) := zi_lcmp K hd0 (zi_if_lt K tgt hd ht (fun c => kt (zl_lt.mp c)) (fun c => kf (fun q => c (zl_lt.mpr q))))
theorem zl_ge {x y : Int64} : (0 ≤ lg_cmp x y) ↔ (¬ x < y) := by
  unfold lg_cmp
  by_cases h1 : y < x
  · have h2 : ¬ x < y := fun h => absurd (Int64.lt_iff_toInt_lt.mp h) (by have := Int64.lt_iff_toInt_lt.mp h1; omega)
    have h3 : ¬ x = y := fun h => by subst h; exact h2 h1
    first | (simp only [h1, h2, h3, if_true]; done) | (simp only [h1, h2, h3, if_true]; decide)
  · by_cases h2 : x = y
    · subst h2
      have h3 : ¬ x < x := fun h => absurd (Int64.lt_iff_toInt_lt.mp h) (by omega)
      first | (simp only [h3, if_true, if_false]; done) | (simp only [h3, if_true, if_false]; decide)
    · have h3 : x < y := by
        rcases Int.lt_trichotomy x.toInt y.toInt with h | h | h
        · exact Int64.lt_iff_toInt_lt.mpr h
        · exact absurd (Int64.toInt_inj.mp h) h2
        · exact absurd (Int64.lt_iff_toInt_lt.mpr h) h1
      first | (simp only [h1, h2, h3, if_false]; done) | (simp only [h1, h2, h3, if_false]; decide)
theorem zi_lif_ge (K : zK G X cc own nL ret rm) {x y : Int64} {off : Int} (tgt : Nat) (hd0 : decode cc pc = .ok (.lcmp, 1)) (hd : decode cc (pc + 1) = .ok (.ifCond .ge off, 3)) (ht : ((pc + 1 : Nat) : Int) + off = (tgt : Int)) (kt : ¬ x < y → zV G X nL P k n tgt lo st) (kf : x < y → zV G X nL P k n (pc + 1 + 3) lo st) : zV G X nL P k n pc lo (.long y :: .long x :: st) := zi_lcmp K hd0 (zi_if_ge K tgt hd ht (fun c => kt (zl_ge.mp c)) (fun c => kf (Classical.not_not.mp (fun q => c (zl_ge.mpr q)))))
theorem zl_gt {x y : Int64} : (0 < lg_cmp x y) ↔ (y < x) := by
  unfold lg_cmp
  by_cases h1 : y < x
  · have h2 : ¬ x < y := fun h => absurd (Int64.lt_iff_toInt_lt.mp h) (by have := Int64.lt_iff_toInt_lt.mp h1; omega)
    have h3 : ¬ x = y := fun h => by subst h; exact h2 h1
    first | (simp only [h1, h2, h3, if_true]; done) | (simp only [h1, h2, h3, if_true]; decide)
  · by_cases h2 : x = y
    · subst h2
      have h3 : ¬ x < x := fun h => absurd (Int64.lt_iff_toInt_lt.mp h) (by omega)
      first | (simp only [h3, if_true, if_false]; done) | (simp only [h3, if_true, if_false]; decide)
    · have h3 : x < y := by
        rcases Int.lt_trichotomy x.toInt y.toInt with h | h | h
        · exact Int64.lt_iff_toInt_lt.mpr h
        · exact absurd (Int64.toInt_inj.mp h) h2
        · exact absurd (Int64.lt_iff_toInt_lt.mpr h) h1
      first | (simp only [h1, h2, h3, if_false]; done) | (simp only [h1, h2, h3, if_false]; decide)
theorem zi_lif_gt (K : zK G X cc own nL ret rm) {x y : Int64} {off : Int} (tgt : Nat) (hd0 : decode cc pc = .ok (.lcmp, 1)) (hd : decode cc (pc + 1) = .ok (.ifCond .gt off, 3)) (ht : ((pc + 1 : Nat) : Int) + off = (tgt : Int)) (kt : y < x → zV G X nL P k n tgt lo st) (kf : ¬ y < x → zV G X nL P k n (pc + 1 + 3) lo st) : zV G X nL P k n pc lo (.long y :: .long x :: st) := zi_lcmp K hd0 (zi_if_gt K tgt hd ht (fun c => kt (zl_gt.mp c)) (fun c => kf (fun q => c (zl_gt.mpr q))))
theorem zl_le {x y : Int64} : (lg_cmp x y ≤ 0) ↔ (¬ y < x) := by
  unfold lg_cmp
  by_cases h1 : y < x
  · have h2 : ¬ x < y := fun h => absurd (Int64.lt_iff_toInt_lt.mp h) (by have := Int64.lt_iff_toInt_lt.mp h1; omega)
    have h3 : ¬ x = y := fun h => by subst h; exact h2 h1
    first | (simp only [h1, h2, h3, if_true]; done) | (simp only [h1, h2, h3, if_true]; decide)
  · by_cases h2 : x = y
    · subst h2
      have h3 : ¬ x < x := fun h => absurd (Int64.lt_iff_toInt_lt.mp h) (by omega)
      first | (simp only [h3, if_true, if_false]; done) | (simp only [h3, if_true, if_false]; decide)
    · have h3 : x < y := by
        rcases Int.lt_trichotomy x.toInt y.toInt with h | h | h
        · exact Int64.lt_iff_toInt_lt.mpr h
        · exact absurd (Int64.toInt_inj.mp h) h2
        · exact absurd (Int64.lt_iff_toInt_lt.mpr h) h1
      first | (simp only [h1, h2, h3, if_false]; done) | (simp only [h1, h2, h3, if_false]; decide)
theorem zi_lif_le (K : zK G X cc own nL ret rm) {x y : Int64} {off : Int} (tgt : Nat) (hd0 : decode cc pc = .ok (.lcmp, 1)) (hd : decode cc (pc + 1) = .ok (.ifCond .le off, 3)) (ht : ((pc + 1 : Nat) : Int) + off = (tgt : Int)) (kt : ¬ y < x → zV G X nL P k n tgt lo st) (kf : y < x → zV G X nL P k n (pc + 1 + 3) lo st) : zV G X nL P k n pc lo (.long y :: .long x :: st) := zi_lcmp K hd0 (zi_if_le K tgt hd ht (fun c => kt (zl_le.mp c)) (fun c => kf (Classical.not_not.mp (fun q => c (zl_le.mpr q)))))
theorem zi_ldc (K : zK G X cc own nL ret rm) {i : Nat} {v : Int32} (hd : decode cc pc = .ok (.ldc i, 2)) (hw : Cond.constant own i v ∈ zB) (kk : zV G X nL P k n (pc + 2) lo (.int v :: st)) : zV G X nL P k n pc lo st := fun H locs ls hP hS hL => lv_ldc K.1 K.2.1 K.2.2.2.1 (K.2.2.2.2.1 _ hw) hd (kk H locs ls hP hS hL)
theorem zi_ldcw (K : zK G X cc own nL ret rm) {i : Nat} {v : Int32} (hd : decode cc pc = .ok (.ldc_w i, 3)) (hw : Cond.constant own i v ∈ zB) (kk : zV G X nL P k n (pc + 3) lo (.int v :: st)) : zV G X nL P k n pc lo st := fun H locs ls hP hS hL => lv_ldcw K.1 K.2.1 K.2.2.2.1 (K.2.2.2.2.1 _ hw) hd (kk H locs ls hP hS hL)
theorem zi_ldc2 (K : zK G X cc own nL ret rm) {i : Nat} {v : Int64} (hd : decode cc pc = .ok (.ldc2_w i, 3)) (hw : Cond.constantLong own i v ∈ zB) (kk : zV G X nL P k n (pc + 3) lo (.long v :: st)) : zV G X nL P k n pc lo st := fun H locs ls hP hS hL => lv_ldc2 K.1 K.2.1 K.2.2.2.1 (K.2.2.2.2.1 _ hw) hd (kk H locs ls hP hS hL)
theorem zi_iret (K : zK G X cc own nL (some .int) rm) {mc ms : Nat} {rv : Option Value} {Qp : Heap → Prop} (E : zE G X mc ms rv Qp) {v : Int32} (hd : decode cc pc = .ok (.ireturn, 1)) (hk : k ≤ mc) (hn : n ≤ ms) (hv : some (.int v) = rv) (hq : ∀ H, P H → Qp H) : zV G X nL P k n pc lo [.int v] := fun H locs ls hP hS hL => by
  subst hv
  exact W.widen hk hn (E _ _ _ (W.iret K.1 K.2.1 K.2.2.2.2.2.2.2.1 (fun t ht hW => ⟨⟨rfl, by rw [ht]; exact hq H hP⟩, hS.F ht⟩) hS.2.2 hd K.2.2.2.2.2.2.1))
theorem zi_lret (K : zK G X cc own nL (some .long) rm) {mc ms : Nat} {rv : Option Value} {Qp : Heap → Prop} (E : zE G X mc ms rv Qp) {v : Int64} (hd : decode cc pc = .ok (.lreturn, 1)) (hk : k ≤ mc) (hn : n ≤ ms) (hv : some (.long v) = rv) (hq : ∀ H, P H → Qp H) : zV G X nL P k n pc lo [.long v] := fun H locs ls hP hS hL => by
  subst hv
  exact W.widen hk hn (E _ _ _ (W.lret K.1 K.2.1 K.2.2.2.2.2.2.2.1 (fun t ht hW => ⟨⟨rfl, by rw [ht]; exact hq H hP⟩, hS.F ht⟩) hS.2.2 hd K.2.2.2.2.2.2.1))
theorem zi_dret (K : zK G X cc own nL (some .double) rm) {mc ms : Nat} {rv : Option Value} {Qp : Heap → Prop} (E : zE G X mc ms rv Qp) {v : UInt64} (hd : decode cc pc = .ok (.dreturn, 1)) (hk : k ≤ mc) (hn : n ≤ ms) (hv : some (.double v) = rv) (hq : ∀ H, P H → Qp H) : zV G X nL P k n pc lo [.double v] := fun H locs ls hP hS hL => by
  subst hv
  exact W.widen hk hn (E _ _ _ (W.dret K.1 K.2.1 K.2.2.2.2.2.2.2.1 (fun t ht hW => ⟨⟨rfl, by rw [ht]; exact hq H hP⟩, hS.F ht⟩) hS.2.2 hd K.2.2.2.2.2.2.1))
theorem zi_vret (K : zK G X cc own nL none rm) {mc ms : Nat} {rv : Option Value} {Qp : Heap → Prop} (E : zE G X mc ms rv Qp)  (hd : decode cc pc = .ok (.return_, 1)) (hk : k ≤ mc) (hn : n ≤ ms) (hv : none = rv) (hq : ∀ H, P H → Qp H) : zV G X nL P k n pc lo [] := fun H locs ls hP hS hL => by
  subst hv
  exact W.widen hk hn (E _ _ _ (W.vret K.1 K.2.1 K.2.2.2.2.2.2.2.1 (fun t ht hW => ⟨⟨rfl, by rw [ht]; exact hq H hP⟩, hS.F ht⟩) hS.2.2 hd K.2.2.2.2.2.2.1))
theorem zi_zret {ty : FieldType} (K : zK G X cc own nL (some ty) rm) {mc ms : Nat} {rv : Option Value} {Qp : Heap → Prop} (E : zE G X mc ms rv Qp) {v : Int32} (hd : decode cc pc = .ok (.ireturn, 1)) (hk : k ≤ mc) (hn : n ≤ ms) (hv : some (.int v) = rv) (hz : narrow ty (.int v) = .int v) (hq : ∀ H, P H → Qp H) : zV G X nL P k n pc lo [.int v] := fun H locs ls hP hS hL => by
  subst hv
  exact W.widen hk hn (E _ _ _ (W.zret K.1 K.2.1 K.2.2.2.2.2.2.2.1 hz (fun t ht hW => ⟨⟨rfl, by rw [ht]; exact hq H hP⟩, hS.F ht⟩) hS.2.2 hd K.2.2.2.2.2.2.1))
theorem zi_aret {ty : FieldType} (K : zK G X cc own nL (some ty) rm) {mc ms : Nat} {rv : Option Value} {Qp : Heap → Prop} (E : zE G X mc ms rv Qp) {v : Nat} (hd : decode cc pc = .ok (.areturn, 1)) (hk : k ≤ mc) (hn : n ≤ ms) (hv : some (.ref v) = rv) (hz : (∃ n, ty = .object n) ∨ ∃ t, ty = .array t) (hq : ∀ H, P H → Qp H) : zV G X nL P k n pc lo [.ref v] := fun H locs ls hP hS hL => by
  subst hv
  exact W.widen hk hn (E _ _ _ (W.aret K.1 K.2.1 K.2.2.2.2.2.2.2.1 hz (Or.inr ⟨_, rfl⟩) (fun t ht hW => ⟨⟨rfl, by rw [ht]; exact hq H hP⟩, hS.F ht⟩) hS.2.2 hd K.2.2.2.2.2.2.1))
theorem zi_callV (K : zK G X cc own nL ret rm) {y : MethodName} {bytes : ByteArray} {maxL fr lc mc ms idx : Nat} {r' : Option FieldType} {As : List Value} {b : Nat} {P' : Heap → Prop} {rv : Option Value} {Qp : Heap → Prop} {stk : List Value} {na : Nat} (st nst : List Value)
    (hM : zC G y bytes maxL r' fr lc mc ms (.ref b :: As) P' rv Qp) (hd : decode cc pc = .ok (.invokevirtual idx, 3)) (w1 : Cond.methodLink own idx y ∈ zB) (w2 : Cond.instanceMethod y ∈ zB) (w3 : Cond.selects y.cls y y ∈ zB) (w4 : Cond.initialized y.cls ∈ zB) (w5 : Cond.code y bytes maxL r' ∈ zB)
    (hy : y.cls ≠ "java/lang/invoke/MethodHandle" ∧ y.cls ≠ "java/lang/invoke/VarHandle" ∧ (parseMethodDescriptor y.desc).map (fun d => d.parameters.length) = some na) (hna : As.length = na) (hrv : ∀ H, P H → ∃ cell : Cell, H[b]? = some cell ∧ cell.vm.isStatics = false ∧ (xs X).vm.findClass y.cls = some cell.cls) (hP' : ∀ H, P H → P' H)
    (hR : fr + 1 ≤ rm.frames ∧ 8 + (maxL + 11) + lc ≤ rm.locals) (hc : k + mc ≤ rm.cells ∧ n + ms ≤ rm.slots) (hst : (st.map fun v => v.category).sum ≤ 8) (hs : stk = As.reverse ++ .ref b :: st) (hns : rv.toList ++ st = nst)
    (kk : zV G X nL Qp (k + mc) (n + ms) (pc + 3) lo nst) : zV G X nL P k n pc lo stk := fun H locs ls hP hS hL => by
  obtain ⟨h1, h2, h3, h4, h5, h6, h7, h8, h9, h10, h11⟩ := K
  subst hs
  subst hns
  subst hna
  rw [← h10] at hR hc
  unfold zC at hM
  rw [← h11] at hM
  have hcb : CallB (xR X) (xs X) (xa X) own idx y bytes maxL r' (.code y bytes maxL r' :: zB) { frames := fr, cells := mc, slots := ms, locals := lc } mc ms As.length := callB_of As.length h5 (zb_goodIn w5) rfl rfl rfl (h5 _ w4) (h5 _ w1) hy hR
  have hbl : FrameBlind (va_Pc (.ref b :: As) (fun U => P' U.heap ∧ zN G U ∧ ∀ q, U.heap.size ≤ q → gA G q)) := fun a U g mk q => ⟨q.1, q.2.1, zN.same (U := U.calling g mk a) rfl rfl q.2.2.1, q.2.2.2⟩
  have hpre : ∀ U : State, U.heap = H → (xs X).WarmedH U.vm → va_Pc (.ref b :: As) (fun U => P' U.heap ∧ zN G U ∧ ∀ q, U.heap.size ≤ q → gA G q) (.ref b :: As).toArray U := fun U hU hW => ⟨rfl, by rw [hU]; exact hP' H hP, zN.warm hW (fun a g1 g2 => by rw [hU]; exact hS.2.1 a g1 g2) h6, fun q hq => h9 q (Nat.le_trans hS.1 (by rw [hU] at hq; exact hq))⟩
  have hr := va_runV (C := y.cls) (b := b) (As := As) (rest := st) (g := F0 (xm X) pc ls (As.reverse ++ .ref b :: st)) (H := H) (locs := locs) (cells := k) (slots := n) (p := xp X) (l := xl X) (e := xe X) (below := xb X) (meth := xh X) ⟨h1, h2, h3, h4, h5⟩ hM ⟨hcb, h5 _ w2, h5 _ w3⟩ ⟨hbl, hrv H hP, hpre⟩ rfl rfl (hL.1.trans rfl) rfl (lv_room hst) hd hc
  intro T hT Y
  obtain ⟨v, st₀, t, T', L, h0, X', hL', e1, e2, ⟨⟨hv, hq⟩, hz, hk⟩, stp⟩ := hr T hT Y
  cases hv
  rw [h0] at hz hk
  obtain ⟨t2, a1, b1⟩ := kk T'.heap (locs ++ L) ls (by rw [e1]; exact hq)
    ⟨Nat.le_trans hS.1 (by rw [e1]; exact hz), fun q g1 g2 => by rw [e1, hk q (Nat.lt_of_lt_of_le g1 hS.1) g2]; exact hS.2.1 q g1 g2, fun q hq => by
      rcases List.mem_append.mp hq with h | h
      · exact hS.2.2 q h
      · exact hL' q h⟩ hL T' rfl X'
  exact ⟨t2, stp t2 a1, b1⟩
theorem zi_callS (K : zK G X cc own nL ret rm) {y : MethodName} {bytes : ByteArray} {maxL fr lc mc ms idx : Nat} {r' : Option FieldType} {As : List Value} {P' : Heap → Prop} {rv : Option Value} {Qp : Heap → Prop} {stk : List Value} {na : Nat} (st nst : List Value)
    (hM : zC G y bytes maxL r' fr lc mc ms As P' rv Qp) (hd : decode cc pc = .ok (.invokestatic idx, 3)) (w1 : Cond.methodLink own idx y ∈ zB) (w2 : Cond.static y ∈ zB) (w4 : Cond.initialized y.cls ∈ zB) (w5 : Cond.code y bytes maxL r' ∈ zB)
    (hy : y.cls ≠ "java/lang/invoke/MethodHandle" ∧ y.cls ≠ "java/lang/invoke/VarHandle" ∧ (parseMethodDescriptor y.desc).map (fun d => d.parameters.length) = some na) (hna : As.length = na) (hP' : ∀ H, P H → P' H)
    (hR : fr + 1 ≤ rm.frames ∧ 8 + (maxL + 11) + lc ≤ rm.locals) (hc : k + mc ≤ rm.cells ∧ n + ms ≤ rm.slots) (hst : (st.map fun v => v.category).sum ≤ 8) (hs : stk = As.reverse ++ st) (hns : rv.toList ++ st = nst)
    (kk : zV G X nL Qp (k + mc) (n + ms) (pc + 3) lo nst) : zV G X nL P k n pc lo stk := fun H locs ls hP hS hL => by
  obtain ⟨h1, h2, h3, h4, h5, h6, h7, h8, h9, h10, h11⟩ := K
  subst hs
  subst hns
  subst hna
  rw [← h10] at hR hc
  unfold zC at hM
  rw [← h11] at hM
  have hcb : CallB (xR X) (xs X) (xa X) own idx y bytes maxL r' (.code y bytes maxL r' :: zB) { frames := fr, cells := mc, slots := ms, locals := lc } mc ms As.length := callB_of As.length h5 (zb_goodIn w5) rfl rfl rfl (h5 _ w4) (h5 _ w1) hy hR
  have hbl : FrameBlind (va_Pc As (fun U => P' U.heap ∧ zN G U ∧ ∀ q, U.heap.size ≤ q → gA G q)) := fun a U g mk q => ⟨q.1, q.2.1, zN.same (U := U.calling g mk a) rfl rfl q.2.2.1, q.2.2.2⟩
  have hpre : ∀ U : State, U.heap = H → (xs X).WarmedH U.vm → va_Pc As (fun U => P' U.heap ∧ zN G U ∧ ∀ q, U.heap.size ≤ q → gA G q) As.toArray U := fun U hU hW => ⟨rfl, by rw [hU]; exact hP' H hP, zN.warm hW (fun a g1 g2 => by rw [hU]; exact hS.2.1 a g1 g2) h6, fun q hq => h9 q (Nat.le_trans hS.1 (by rw [hU] at hq; exact hq))⟩
  have hr := va_runS (As := As) (rest := st) (g := F0 (xm X) pc ls (As.reverse ++ st)) (H := H) (locs := locs) (cells := k) (slots := n) (p := xp X) (l := xl X) (e := xe X) (below := xb X) (meth := xh X) ⟨h1, h2, h3, h4, h5⟩ hM ⟨hcb, h5 _ w2⟩ ⟨hbl, hpre⟩ rfl rfl (hL.1.trans rfl) rfl (lv_room hst) hd hc
  intro T hT Y
  obtain ⟨v, st₀, t, T', L, h0, X', hL', e1, e2, ⟨⟨hv, hq⟩, hz, hk⟩, stp⟩ := hr T hT Y
  cases hv
  rw [h0] at hz hk
  obtain ⟨t2, a1, b1⟩ := kk T'.heap (locs ++ L) ls (by rw [e1]; exact hq)
    ⟨Nat.le_trans hS.1 (by rw [e1]; exact hz), fun q g1 g2 => by rw [e1, hk q (Nat.lt_of_lt_of_le g1 hS.1) g2]; exact hS.2.1 q g1 g2, fun q hq => by
      rcases List.mem_append.mp hq with h | h
      · exact hS.2.2 q h
      · exact hL' q h⟩ hL T' rfl X'
  exact ⟨t2, stp t2 a1, b1⟩
theorem zi_callI (K : zK G X cc own nL ret rm) {y : MethodName} {bytes : ByteArray} {maxL fr lc mc ms idx : Nat} {As : List Value} {b : Nat} {P' : Heap → Prop} {rv : Option Value} {Qp : Heap → Prop} {stk : List Value} {na : Nat} (st nst : List Value)
    (hM : zC G y bytes maxL none fr lc mc ms (.ref b :: As) P' rv Qp) (hd : decode cc pc = .ok (.invokespecial idx, 3)) (w1 : Cond.methodLink own idx y ∈ zB) (w2 : Cond.instanceMethod y ∈ zB) (w4 : Cond.initialized y.cls ∈ zB) (w5 : Cond.code y bytes maxL none ∈ zB)
    (hy : y.cls ≠ "java/lang/invoke/MethodHandle" ∧ y.cls ≠ "java/lang/invoke/VarHandle" ∧ (parseMethodDescriptor y.desc).map (fun d => d.parameters.length) = some na) (hna : As.length = na) (hyi : y.name = "<init>") (hP' : ∀ H, P H → P' H)
    (hR : fr + 1 ≤ rm.frames ∧ 8 + (maxL + 11) + lc ≤ rm.locals) (hc : k + mc ≤ rm.cells ∧ n + ms ≤ rm.slots) (hst : (st.map fun v => v.category).sum ≤ 8) (hs : stk = As.reverse ++ .ref b :: st) (hns : rv.toList ++ st = nst)
    (kk : zV G X nL Qp (k + mc) (n + ms) (pc + 3) lo nst) : zV G X nL P k n pc lo stk := fun H locs ls hP hS hL => by
  obtain ⟨h1, h2, h3, h4, h5, h6, h7, h8, h9, h10, h11⟩ := K
  subst hs
  subst hns
  subst hna
  rw [← h10] at hR hc
  unfold zC at hM
  rw [← h11] at hM
  have hcb : CallB (xR X) (xs X) (xa X) own idx y bytes maxL none (.code y bytes maxL none :: zB) { frames := fr, cells := mc, slots := ms, locals := lc } mc ms As.length := callB_of As.length h5 (zb_goodIn w5) rfl rfl rfl (h5 _ w4) (h5 _ w1) hy hR
  have hbl : FrameBlind (va_Pc (.ref b :: As) (fun U => P' U.heap ∧ zN G U ∧ ∀ q, U.heap.size ≤ q → gA G q)) := fun a U g mk q => ⟨q.1, q.2.1, zN.same (U := U.calling g mk a) rfl rfl q.2.2.1, q.2.2.2⟩
  have hpre : ∀ U : State, U.heap = H → (xs X).WarmedH U.vm → va_Pc (.ref b :: As) (fun U => P' U.heap ∧ zN G U ∧ ∀ q, U.heap.size ≤ q → gA G q) (.ref b :: As).toArray U := fun U hU hW => ⟨rfl, by rw [hU]; exact hP' H hP, zN.warm hW (fun a g1 g2 => by rw [hU]; exact hS.2.1 a g1 g2) h6, fun q hq => h9 q (Nat.le_trans hS.1 (by rw [hU] at hq; exact hq))⟩
  have hr := va_runI (b := b) (As := As) (rest := st) (g := F0 (xm X) pc ls (As.reverse ++ .ref b :: st)) (H := H) (locs := locs) (cells := k) (slots := n) (p := xp X) (l := xl X) (e := xe X) (below := xb X) (meth := xh X) ⟨h1, h2, h3, h4, h5⟩ hM ⟨hcb, hyi, h5 _ w2⟩ ⟨hbl, hpre⟩ rfl rfl (hL.1.trans rfl) rfl (lv_room hst) hd hc
  intro T hT Y
  obtain ⟨v, st₀, t, T', L, h0, X', hL', e1, e2, ⟨⟨hv, hq⟩, hz, hk⟩, stp⟩ := hr T hT Y
  cases hv
  rw [h0] at hz hk
  obtain ⟨t2, a1, b1⟩ := kk T'.heap (locs ++ L) ls (by rw [e1]; exact hq)
    ⟨Nat.le_trans hS.1 (by rw [e1]; exact hz), fun q g1 g2 => by rw [e1, hk q (Nat.lt_of_lt_of_le g1 hS.1) g2]; exact hS.2.1 q g1 g2, fun q hq => by
      rcases List.mem_append.mp hq with h | h
      · exact hS.2.2 q h
      · exact hL' q h⟩ hL T' rfl X'
  exact ⟨t2, stp t2 a1, b1⟩
/-- a method's contract that answers a cell: which one comes with the picture -/
def zCa (G : zG) (y : MethodName) (cc : ByteArray) (maxL : Nat) (ret : Option FieldType) (fr lc mc ms : Nat) (av : List Value) (P : Heap → Prop) (F : Nat → Heap → Prop) : Prop :=
  Met G.1 y (.code y cc maxL ret :: zB) { frames := fr, cells := mc, slots := ms, locals := lc } (va_Pc av (fun U => P U.heap ∧ zN G U ∧ ∀ q, U.heap.size ≤ q → gA G q)) (fun _ st o t => (∃ a, o = .returned (some (.ref a)) ∧ F a t.heap) ∧ va_F (gA G) st t) mc ms (gA G)
def zEa (G : zG) (X : zX) (mc ms : Nat) (F : Nat → Heap → Prop) : Prop :=
  ∀ (H : Heap) (locs : List Loc) (g : JFrame), W (xp X) (xl X) (xe X) (xR X) (xs X) (xm X) (xa X) (xb X) (xh X) (xc X) H locs mc ms (MQ (xb X) (fun _ st o t => (∃ a, o = .returned (some (.ref a)) ∧ F a t.heap) ∧ va_F (gA G) st t) (xa X) (xs X) mc ms (gA G)) g → W (xp X) (xl X) (xe X) (xR X) (xs X) (xm X) (xa X) (xb X) (xh X) (xc X) H locs mc ms (xQ X) g
theorem zCa_of {y : MethodName} {maxL fr lc mc ms : Nat} {av : List Value} {F : Nat → Heap → Prop} (hy : plainName y.cls = true) (hlen : (lg_sl av).length ≤ maxL)
    (body : ∀ X : zX, zK G X cc y.cls maxL ret { frames := fr, cells := mc, slots := ms, locals := lc } → zEa G X mc ms F → zV G X maxL P 0 0 0 (lv_args 0 av) []) : zCa G y cc maxL ret fr lc mc ms av P F := by
  refine Met.ofW (cc := cc) (maxL := maxL) (ret := ret) hy rfl ?_
  intro p e s m args below meth c s₁ B hml hv
  obtain ⟨rfl, hP, hN, hA⟩ := hv
  have hts := atoms_spec (ws := .code y cc maxL ret :: zB) B.pre
  have hl := lv_entry av (n := maxL) hlen
  rw [lg_entry_eq]
  exact body (p, G.1, e, { frames := fr, cells := mc, slots := ms, locals := lc }, s, m, av.toArray, below, meth, c, MQ below (fun _ st o t => (∃ a, o = .returned (some (.ref a)) ∧ F a t.heap) ∧ va_F (gA G) st t) av.toArray s mc ms (gA G))
    ⟨B.exec, B.bytes, hml, findClass_of_methodNamed B.named, fun w hw => hts w (List.mem_cons_of_mem _ hw), hN, B.notSynchronized, B.returns, hA, rfl, rfl⟩ (fun _ _ _ h => h) s.heap [] _ hP va_S.rf hl
theorem zi_areta {ty : FieldType} (K : zK G X cc own nL (some ty) rm) {mc ms v : Nat} {F : Nat → Heap → Prop} (E : zEa G X mc ms F) (hd : decode cc pc = .ok (.areturn, 1)) (hk : k ≤ mc) (hn : n ≤ ms) (hz : (∃ n, ty = .object n) ∨ ∃ t, ty = .array t) (hq : ∀ H, P H → F v H) : zV G X nL P k n pc lo [.ref v] := fun H locs ls hP hS hL =>
  W.widen hk hn (E _ _ _ (W.aret K.1 K.2.1 K.2.2.2.2.2.2.2.1 hz (Or.inr ⟨_, rfl⟩) (fun t ht hW => ⟨⟨v, rfl, by rw [ht]; exact hq H hP⟩, hS.F ht⟩) hS.2.2 hd K.2.2.2.2.2.2.1))
theorem zi_callaV (K : zK G X cc own nL ret rm) {y : MethodName} {bytes : ByteArray} {maxL fr lc mc ms idx : Nat} {r' : Option FieldType} {As : List Value} {b : Nat} {P' : Heap → Prop} {F : Nat → Heap → Prop} {stk : List Value} {na : Nat} (st : List Value)
    (hM : zCa G y bytes maxL r' fr lc mc ms (.ref b :: As) P' F) (hd : decode cc pc = .ok (.invokevirtual idx, 3)) (w1 : Cond.methodLink own idx y ∈ zB) (w2 : Cond.instanceMethod y ∈ zB) (w3 : Cond.selects y.cls y y ∈ zB) (w4 : Cond.initialized y.cls ∈ zB) (w5 : Cond.code y bytes maxL r' ∈ zB)
    (hy : y.cls ≠ "java/lang/invoke/MethodHandle" ∧ y.cls ≠ "java/lang/invoke/VarHandle" ∧ (parseMethodDescriptor y.desc).map (fun d => d.parameters.length) = some na) (hna : As.length = na) (hrv : ∀ H, P H → ∃ cell : Cell, H[b]? = some cell ∧ cell.vm.isStatics = false ∧ (xs X).vm.findClass y.cls = some cell.cls) (hP' : ∀ H, P H → P' H)
    (hR : fr + 1 ≤ rm.frames ∧ 8 + (maxL + 11) + lc ≤ rm.locals) (hc : k + mc ≤ rm.cells ∧ n + ms ≤ rm.slots) (hst : (st.map fun v => v.category).sum ≤ 8) (hs : stk = As.reverse ++ .ref b :: st) 
    (kk : ∀ z, zV G X nL (F z) (k + mc) (n + ms) (pc + 3) lo (.ref z :: st)) : zV G X nL P k n pc lo stk := fun H locs ls hP hS hL => by
  obtain ⟨h1, h2, h3, h4, h5, h6, h7, h8, h9, h10, h11⟩ := K
  subst hs
  subst hna
  rw [← h10] at hR hc
  unfold zCa at hM
  rw [← h11] at hM
  have hcb : CallB (xR X) (xs X) (xa X) own idx y bytes maxL r' (.code y bytes maxL r' :: zB) { frames := fr, cells := mc, slots := ms, locals := lc } mc ms As.length := callB_of As.length h5 (zb_goodIn w5) rfl rfl rfl (h5 _ w4) (h5 _ w1) hy hR
  have hbl : FrameBlind (va_Pc (.ref b :: As) (fun U => P' U.heap ∧ zN G U ∧ ∀ q, U.heap.size ≤ q → gA G q)) := fun a U g mk q => ⟨q.1, q.2.1, zN.same (U := U.calling g mk a) rfl rfl q.2.2.1, q.2.2.2⟩
  have hpre : ∀ U : State, U.heap = H → (xs X).WarmedH U.vm → va_Pc (.ref b :: As) (fun U => P' U.heap ∧ zN G U ∧ ∀ q, U.heap.size ≤ q → gA G q) (.ref b :: As).toArray U := fun U hU hW => ⟨rfl, by rw [hU]; exact hP' H hP, zN.warm hW (fun a g1 g2 => by rw [hU]; exact hS.2.1 a g1 g2) h6, fun q hq => h9 q (Nat.le_trans hS.1 (by rw [hU] at hq; exact hq))⟩
  have hr := va_runV (C := y.cls) (b := b) (As := As) (rest := st) (g := F0 (xm X) pc ls (As.reverse ++ .ref b :: st)) (H := H) (locs := locs) (cells := k) (slots := n) (p := xp X) (l := xl X) (e := xe X) (below := xb X) (meth := xh X) ⟨h1, h2, h3, h4, h5⟩ hM ⟨hcb, h5 _ w2, h5 _ w3⟩ ⟨hbl, hrv H hP, hpre⟩ rfl rfl (hL.1.trans rfl) rfl (lv_room hst) hd hc
  intro T hT Y
  obtain ⟨v, st₀, t, T', L, h0, X', hL', e1, e2, ⟨⟨w0, hv, hq⟩, hz, hk⟩, stp⟩ := hr T hT Y
  cases hv
  rw [h0] at hz hk
  obtain ⟨t2, a1, b1⟩ := kk w0 T'.heap (locs ++ L) ls (by rw [e1]; exact hq)
    ⟨Nat.le_trans hS.1 (by rw [e1]; exact hz), fun q g1 g2 => by rw [e1, hk q (Nat.lt_of_lt_of_le g1 hS.1) g2]; exact hS.2.1 q g1 g2, fun q hq => by
      rcases List.mem_append.mp hq with h | h
      · exact hS.2.2 q h
      · exact hL' q h⟩ hL T' rfl X'
  exact ⟨t2, stp t2 a1, b1⟩
theorem zi_callaS (K : zK G X cc own nL ret rm) {y : MethodName} {bytes : ByteArray} {maxL fr lc mc ms idx : Nat} {r' : Option FieldType} {As : List Value} {P' : Heap → Prop} {F : Nat → Heap → Prop} {stk : List Value} {na : Nat} (st : List Value)
    (hM : zCa G y bytes maxL r' fr lc mc ms As P' F) (hd : decode cc pc = .ok (.invokestatic idx, 3)) (w1 : Cond.methodLink own idx y ∈ zB) (w2 : Cond.static y ∈ zB) (w4 : Cond.initialized y.cls ∈ zB) (w5 : Cond.code y bytes maxL r' ∈ zB)
    (hy : y.cls ≠ "java/lang/invoke/MethodHandle" ∧ y.cls ≠ "java/lang/invoke/VarHandle" ∧ (parseMethodDescriptor y.desc).map (fun d => d.parameters.length) = some na) (hna : As.length = na) (hP' : ∀ H, P H → P' H)
    (hR : fr + 1 ≤ rm.frames ∧ 8 + (maxL + 11) + lc ≤ rm.locals) (hc : k + mc ≤ rm.cells ∧ n + ms ≤ rm.slots) (hst : (st.map fun v => v.category).sum ≤ 8) (hs : stk = As.reverse ++ st) 
    (kk : ∀ z, zV G X nL (F z) (k + mc) (n + ms) (pc + 3) lo (.ref z :: st)) : zV G X nL P k n pc lo stk := fun H locs ls hP hS hL => by
  obtain ⟨h1, h2, h3, h4, h5, h6, h7, h8, h9, h10, h11⟩ := K
  subst hs
  subst hna
  rw [← h10] at hR hc
  unfold zCa at hM
  rw [← h11] at hM
  have hcb : CallB (xR X) (xs X) (xa X) own idx y bytes maxL r' (.code y bytes maxL r' :: zB) { frames := fr, cells := mc, slots := ms, locals := lc } mc ms As.length := callB_of As.length h5 (zb_goodIn w5) rfl rfl rfl (h5 _ w4) (h5 _ w1) hy hR
  have hbl : FrameBlind (va_Pc As (fun U => P' U.heap ∧ zN G U ∧ ∀ q, U.heap.size ≤ q → gA G q)) := fun a U g mk q => ⟨q.1, q.2.1, zN.same (U := U.calling g mk a) rfl rfl q.2.2.1, q.2.2.2⟩
  have hpre : ∀ U : State, U.heap = H → (xs X).WarmedH U.vm → va_Pc As (fun U => P' U.heap ∧ zN G U ∧ ∀ q, U.heap.size ≤ q → gA G q) As.toArray U := fun U hU hW => ⟨rfl, by rw [hU]; exact hP' H hP, zN.warm hW (fun a g1 g2 => by rw [hU]; exact hS.2.1 a g1 g2) h6, fun q hq => h9 q (Nat.le_trans hS.1 (by rw [hU] at hq; exact hq))⟩
  have hr := va_runS (As := As) (rest := st) (g := F0 (xm X) pc ls (As.reverse ++ st)) (H := H) (locs := locs) (cells := k) (slots := n) (p := xp X) (l := xl X) (e := xe X) (below := xb X) (meth := xh X) ⟨h1, h2, h3, h4, h5⟩ hM ⟨hcb, h5 _ w2⟩ ⟨hbl, hpre⟩ rfl rfl (hL.1.trans rfl) rfl (lv_room hst) hd hc
  intro T hT Y
  obtain ⟨v, st₀, t, T', L, h0, X', hL', e1, e2, ⟨⟨w0, hv, hq⟩, hz, hk⟩, stp⟩ := hr T hT Y
  cases hv
  rw [h0] at hz hk
  obtain ⟨t2, a1, b1⟩ := kk w0 T'.heap (locs ++ L) ls (by rw [e1]; exact hq)
    ⟨Nat.le_trans hS.1 (by rw [e1]; exact hz), fun q g1 g2 => by rw [e1, hk q (Nat.lt_of_lt_of_le g1 hS.1) g2]; exact hS.2.1 q g1 g2, fun q hq => by
      rcases List.mem_append.mp hq with h | h
      · exact hS.2.2 q h
      · exact hL' q h⟩ hL T' rfl X'
  exact ⟨t2, stp t2 a1, b1⟩
end ZJ
end
section
/-! the state of the system as one value, and the picture of it in the heap -/
/-- ints, longs, elements of lists, sizes of lists, their rooms, their counts of changes, how many objects of a kind, the policy of a loss, cells made, slots made -/
abbrev zSt : Type := (Nat → Nat → Nat → Int32) × (Nat → Nat → Nat → Int64) × (Nat → Nat → Option Nat) × (Nat → Nat) × (Nat → Nat) × (Nat → Int32) × (Nat → Nat) × (Nat → Nat) × Nat × Nat
abbrev sI (σ : zSt) := σ.1
abbrev sL (σ : zSt) := σ.2.1
abbrev sE (σ : zSt) := σ.2.2.1
abbrev sZ (σ : zSt) := σ.2.2.2.1
abbrev sC (σ : zSt) := σ.2.2.2.2.1
abbrev sM (σ : zSt) := σ.2.2.2.2.2.1
abbrev sN (σ : zSt) := σ.2.2.2.2.2.2.1
abbrev sP (σ : zSt) := σ.2.2.2.2.2.2.2.1
abbrev sgc (σ : zSt) := σ.2.2.2.2.2.2.2.2.1
abbrev sgs (σ : zSt) := σ.2.2.2.2.2.2.2.2.2
def u3 {α : Type} (f : Nat → Nat → Nat → α) (t o e : Nat) (v : α) : Nat → Nat → Nat → α := fun t' o' e' => if t' = t ∧ o' = o ∧ e' = e then v else f t' o' e'
theorem u3_s {α : Type} (f : Nat → Nat → Nat → α) (t o e : Nat) (v : α) : u3 f t o e v t o e = v := if_pos ⟨rfl, rfl, rfl⟩
theorem u3_n {α : Type} (f : Nat → Nat → Nat → α) {t o e t' o' e' : Nat} (v : α) (h : ¬ (t' = t ∧ o' = o ∧ e' = e)) : u3 f t o e v t' o' e' = f t' o' e' := if_neg h
def uI (σ : zSt) (t o e : Nat) (v : Int32) : zSt := (u3 σ.1 t o e v, σ.2)
def uL (σ : zSt) (t o e : Nat) (v : Int64) : zSt := (σ.1, u3 σ.2.1 t o e v, σ.2.2)
def zlC (σ : zSt) (k : Nat) : Prop := k < sN σ 1 ∨ (30 ≤ k ∧ k < 30 + sN σ 4)
def zlV (σ : zSt) (j : Nat) : Prop := j < sN σ 5 ∨ (8 ≤ j ∧ j < 8 + sN σ 6)
/-- the kind of a list's elements -/
def zeK (i : Nat) : Nat := if i = 0 then 1 else if i = 2 then 5 else if i = 3 then 9 else if i = 6 ∨ i = 10 then 7 else 2
section ZS
variable (G : zG) (ad : Nat → Nat → Nat) (aa : Nat → Nat) (σ : zSt)
def zqO (ix : Nat) : va_E := .inr (8, [.ref (ad 28 0), .ref (ad 28 1), .ref (ad 28 2), .ref (ad 28 3), .ref (ad 28 4), .ref (ad 11 0), .ref (ad 11 1), .ref (ad 18 0), .int (sI σ 35 ix 0)])
def zqPOL (ix : Nat) : va_E := .inr (4, [.int (sI σ 0 ix 0), .int (sI σ 1 ix 0), .int (sI σ 2 ix 0), .int (sI σ 3 ix 0)])
def zqCL (ix : Nat) : va_E := .inr (0, [.ref (ad 1 (sP σ ix)), .ref (ad 3 ix), .ref (ad 4 ix), .int (sI σ 4 ix 0), .int (sI σ 5 ix 0), .int (sI σ 6 ix 0), .long (sL σ 0 ix 0)])
def zqTOOK (ix : Nat) : va_E := .inl (G.2.2.2.1 1, 8, .inr (.inl (fun j => sL σ 1 ix j)))
def zqEVS (ix : Nat) : va_E := .inl (G.2.2.2.1 0, 8, .inl (fun j => sI σ 7 ix j))
def zqTR (ix : Nat) : va_E := .inr (7, [.int (nI ix), .int (sI σ 8 ix 0), .int (sI σ 9 ix 0), .int (sI σ 10 ix 0), .int (sI σ 11 ix 0), .int (sI σ 12 ix 0), .int (sI σ 13 ix 0), .ref (ad 6 ix), .int (sI σ 14 ix 0), .int (sI σ 15 ix 0), .int (sI σ 16 ix 0), .int (sI σ 17 ix 0), .int (sI σ 18 ix 0), .int (sI σ 19 ix 0), .int (sI σ 20 ix 0)])
def zqSHR (ix : Nat) : va_E := .inl (G.2.2.2.1 0, 5, .inl (fun j => sI σ 21 ix j))
def zqCOV (ix : Nat) : va_E := .inr (1, [.ref (ad 5 (ix % 8)), .ref (ad 8 ix), .long (sL σ 2 ix 0), .long (sL σ 3 ix 0), .long (sL σ 4 ix 0), .long (sL σ 5 ix 0)])
def zqCEV (ix : Nat) : va_E := .inl (G.2.2.2.1 0, 4, .inl (fun j => sI σ 22 ix j))
def zqSC (ix : Nat) : va_E := .inr (6, [.int (sI σ 23 ix 0), .int (sI σ 24 ix 0), .ref (ad 10 ix), .long (sL σ 6 ix 0)])
def zqDMG (ix : Nat) : va_E := .inl (G.2.2.2.1 0, 4, .inl (fun j => sI σ 25 ix j))
def zqFL (ix : Nat) : va_E := .inr (2, [.ref (ad 28 (5 + 4 * ix)), .ref (ad 28 (6 + 4 * ix)), .ref (ad 28 (7 + 4 * ix)), .ref (ad 28 (8 + 4 * ix)), .ref (ad 12 ix), .int (sI σ 26 ix 0)])
def zqLAY (ix : Nat) : va_E := .inr (3, [.ref (ad 13 ix), .ref (ad 14 ix), .ref (ad 15 ix), .ref (ad 16 ix), .ref (ad 17 ix), .int (sI σ 27 ix 0)])
def zqLDAYS (ix : Nat) : va_E := .inl (G.2.2.2.1 0, 30, .inl (fun j => sI σ 28 ix j))
def zqLSUMS (ix : Nat) : va_E := .inl (G.2.2.2.1 1, 30, .inr (.inl (fun j => sL σ 7 ix j)))
def zqLENDS (ix : Nat) : va_E := .inl (G.2.2.2.1 0, 30, .inl (fun j => sI σ 29 ix j))
def zqLBR (ix : Nat) : va_E := .inl (G.2.2.2.1 1, 31, .inr (.inl (fun j => sL σ 8 ix j)))
def zqLCN (ix : Nat) : va_E := .inl (G.2.2.2.1 0, 31, .inl (fun j => sI σ 30 ix j))
def zqPOOL (ix : Nat) : va_E := .inr (5, [.ref (ad 19 ix), .ref (ad 20 ix), .ref (ad 21 ix), .ref (ad 22 ix), .ref (ad 23 ix), .ref (ad 24 ix), .ref (ad 25 ix), .ref (ad 26 ix), .ref (ad 27 ix)])
def zqPFAIL (ix : Nat) : va_E := .inl (G.2.2.2.1 2, 5, .inl (fun j => sI σ 31 ix j))
def zqPREC (ix : Nat) : va_E := .inl (G.2.2.2.1 0, 5, .inl (fun j => sI σ 32 ix j))
def zqPBND (ix : Nat) : va_E := .inl (G.2.2.2.1 0, 5, .inl (fun j => sI σ 33 ix j))
def zqPLIM (ix : Nat) : va_E := .inl (G.2.2.2.1 0, 5, .inl (fun j => sI σ 34 ix j))
def zqPOWN (ix : Nat) : va_E := .inl (G.2.2.2.1 1, 5, .inr (.inl (fun j => sL σ 9 ix j)))
def zqPCOM (ix : Nat) : va_E := .inl (G.2.2.2.1 1, 5, .inr (.inl (fun j => sL σ 10 ix j)))
def zqPEAR (ix : Nat) : va_E := .inl (G.2.2.2.1 1, 5, .inr (.inl (fun j => sL σ 11 ix j)))
def zqPABV (ix : Nat) : va_E := .inl (G.2.2.2.1 1, 5, .inr (.inl (fun j => sL σ 12 ix j)))
def zqPBEF (ix : Nat) : va_E := .inl (G.2.2.2.1 1, 5, .inr (.inl (fun j => sL σ 13 ix j)))
def zqLST (ix : Nat) : va_E := .inr (9, [.int (sM σ ix), .ref (if sC σ ix = 0 then G.2.2.2.2 0 else aa ix), .int (nI (sZ σ ix))])
def zqLARR (ix : Nat) : va_E := .inl (G.2.2.2.1 3, sC σ ix, .inr (.inr (.inr (.inr (fun j => (sE σ ix j).map (ad (zeK ix)))))))
def zlv (kd ix : Nat) : Prop := match kd with
  | 0 => ix = 0
  | 1 => ix < sN σ 0
  | 2 => zlC σ ix
  | 3 => zlC σ ix
  | 4 => zlC σ ix
  | 5 => ix < sN σ 2
  | 6 => ix < sN σ 2
  | 7 => zlV σ ix
  | 8 => zlV σ ix
  | 9 => ix < sN σ 3
  | 10 => ix < sN σ 3
  | 11 => ix < 2
  | 12 => ix < 2
  | 13 => ix < 2
  | 14 => ix < 2
  | 15 => ix < 2
  | 16 => ix < 2
  | 17 => ix < 2
  | 18 => ix = 0
  | 19 => ix = 0
  | 20 => ix = 0
  | 21 => ix = 0
  | 22 => ix = 0
  | 23 => ix = 0
  | 24 => ix = 0
  | 25 => ix = 0
  | 26 => ix = 0
  | 27 => ix = 0
  | 28 => ix < 13
  | 29 => ix < 13 ∧ 0 < sC σ ix
  | _ => False
def zct (kd ix : Nat) : va_E := match kd with
  | 0 => zqO ad σ ix
  | 1 => zqPOL σ ix
  | 2 => zqCL ad σ ix
  | 3 => zqTOOK G σ ix
  | 4 => zqEVS G σ ix
  | 5 => zqTR ad σ ix
  | 6 => zqSHR G σ ix
  | 7 => zqCOV ad σ ix
  | 8 => zqCEV G σ ix
  | 9 => zqSC ad σ ix
  | 10 => zqDMG G σ ix
  | 11 => zqFL ad σ ix
  | 12 => zqLAY ad σ ix
  | 13 => zqLDAYS G σ ix
  | 14 => zqLSUMS G σ ix
  | 15 => zqLENDS G σ ix
  | 16 => zqLBR G σ ix
  | 17 => zqLCN G σ ix
  | 18 => zqPOOL ad ix
  | 19 => zqPFAIL G σ ix
  | 20 => zqPREC G σ ix
  | 21 => zqPBND G σ ix
  | 22 => zqPLIM G σ ix
  | 23 => zqPOWN G σ ix
  | 24 => zqPCOM G σ ix
  | 25 => zqPEAR G σ ix
  | 26 => zqPABV G σ ix
  | 27 => zqPBEF G σ ix
  | 28 => zqLST G aa σ ix
  | 29 => zqLARR G ad σ ix
  | _ => .inr (0, [])
def zadr (kd ix : Nat) : Nat := if kd = 29 then aa ix else ad kd ix
/-- every live object lies at its address with its content; the addresses are apart and ours -/
def zP0 (H : Heap) : Prop := (∀ kd ix, zlv σ kd ix → va_at G.2.2.1 zCl (zadr ad aa kd ix, zct G ad aa σ kd ix) H ∧ gA G (zadr ad aa kd ix)) ∧ ∀ kd ix kd' ix', zlv σ kd ix → zlv σ kd' ix' → zadr ad aa kd ix = zadr ad aa kd' ix' → kd = kd' ∧ ix = ix'
def zP (H : Heap) : Prop := ∃ aa : Nat → Nat, zP0 G ad aa σ H
end ZS
/-- the kind of object that holds the int field t, the long field t -/
def zoI : Nat → Nat := fun t => if t = 0 then 1 else if t = 1 then 1 else if t = 2 then 1 else if t = 3 then 1 else if t = 4 then 2 else if t = 5 then 2 else if t = 6 then 2 else if t = 7 then 4 else if t = 8 then 5 else if t = 9 then 5 else if t = 10 then 5 else if t = 11 then 5 else if t = 12 then 5 else if t = 13 then 5 else if t = 14 then 5 else if t = 15 then 5 else if t = 16 then 5 else if t = 17 then 5 else if t = 18 then 5 else if t = 19 then 5 else if t = 20 then 5 else if t = 21 then 6 else if t = 22 then 8 else if t = 23 then 9 else if t = 24 then 9 else if t = 25 then 10 else if t = 26 then 11 else if t = 27 then 12 else if t = 28 then 13 else if t = 29 then 15 else if t = 30 then 17 else if t = 31 then 19 else if t = 32 then 20 else if t = 33 then 21 else if t = 34 then 22 else if t = 35 then 0 else 99
def zoL : Nat → Nat := fun t => if t = 0 then 2 else if t = 1 then 3 else if t = 2 then 7 else if t = 3 then 7 else if t = 4 then 7 else if t = 5 then 7 else if t = 6 then 9 else if t = 7 then 14 else if t = 8 then 16 else if t = 9 then 23 else if t = 10 then 24 else if t = 11 then 25 else if t = 12 then 26 else if t = 13 then 27 else 99
section ZS2
variable {G : zG} {ad : Nat → Nat → Nat} {aa : Nat → Nat} {σ σ' : zSt} {H H1 : Heap}
theorem zct_congr {kd ix : Nat} (h0 : σ'.2.2 = σ.2.2) (hI : ∀ t e, zoI t = kd → sI σ' t ix e = sI σ t ix e) (hL : ∀ t e, zoL t = kd → sL σ' t ix e = sL σ t ix e) : zct G ad aa σ' kd ix = zct G ad aa σ kd ix := by
  obtain ⟨a, b, c⟩ := σ
  obtain ⟨a', b', c'⟩ := σ'
  cases h0
  match kd, hI, hL with
  | 0, hI, hL =>
    show zqO ad (a', b', c) ix = zqO ad (a, b, c) ix
    unfold zqO
    rw [hI 35 _ rfl]
  | 1, hI, hL =>
    show zqPOL  (a', b', c) ix = zqPOL  (a, b, c) ix
    unfold zqPOL
    rw [hI 0 _ rfl, hI 1 _ rfl, hI 2 _ rfl, hI 3 _ rfl]
  | 2, hI, hL =>
    show zqCL ad (a', b', c) ix = zqCL ad (a, b, c) ix
    unfold zqCL
    rw [hI 4 _ rfl, hI 5 _ rfl, hI 6 _ rfl, hL 0 _ rfl]
  | 3, hI, hL =>
    have e : (fun j => sL (a', b', c) 1 ix j) = (fun j => sL (a, b, c) 1 ix j) := funext fun j => hL 1 j rfl
    show zqTOOK G (a', b', c) ix = zqTOOK G (a, b, c) ix
    unfold zqTOOK
    rw [e]
  | 4, hI, hL =>
    have e : (fun j => sI (a', b', c) 7 ix j) = (fun j => sI (a, b, c) 7 ix j) := funext fun j => hI 7 j rfl
    show zqEVS G (a', b', c) ix = zqEVS G (a, b, c) ix
    unfold zqEVS
    rw [e]
  | 5, hI, hL =>
    show zqTR ad (a', b', c) ix = zqTR ad (a, b, c) ix
    unfold zqTR
    rw [hI 8 _ rfl, hI 9 _ rfl, hI 10 _ rfl, hI 11 _ rfl, hI 12 _ rfl, hI 13 _ rfl, hI 14 _ rfl, hI 15 _ rfl, hI 16 _ rfl, hI 17 _ rfl, hI 18 _ rfl, hI 19 _ rfl, hI 20 _ rfl]
  | 6, hI, hL =>
    have e : (fun j => sI (a', b', c) 21 ix j) = (fun j => sI (a, b, c) 21 ix j) := funext fun j => hI 21 j rfl
    show zqSHR G (a', b', c) ix = zqSHR G (a, b, c) ix
    unfold zqSHR
    rw [e]
  | 7, hI, hL =>
    show zqCOV ad (a', b', c) ix = zqCOV ad (a, b, c) ix
    unfold zqCOV
    rw [hL 2 _ rfl, hL 3 _ rfl, hL 4 _ rfl, hL 5 _ rfl]
  | 8, hI, hL =>
    have e : (fun j => sI (a', b', c) 22 ix j) = (fun j => sI (a, b, c) 22 ix j) := funext fun j => hI 22 j rfl
    show zqCEV G (a', b', c) ix = zqCEV G (a, b, c) ix
    unfold zqCEV
    rw [e]
  | 9, hI, hL =>
    show zqSC ad (a', b', c) ix = zqSC ad (a, b, c) ix
    unfold zqSC
    rw [hI 23 _ rfl, hI 24 _ rfl, hL 6 _ rfl]
  | 10, hI, hL =>
    have e : (fun j => sI (a', b', c) 25 ix j) = (fun j => sI (a, b, c) 25 ix j) := funext fun j => hI 25 j rfl
    show zqDMG G (a', b', c) ix = zqDMG G (a, b, c) ix
    unfold zqDMG
    rw [e]
  | 11, hI, hL =>
    show zqFL ad (a', b', c) ix = zqFL ad (a, b, c) ix
    unfold zqFL
    rw [hI 26 _ rfl]
  | 12, hI, hL =>
    show zqLAY ad (a', b', c) ix = zqLAY ad (a, b, c) ix
    unfold zqLAY
    rw [hI 27 _ rfl]
  | 13, hI, hL =>
    have e : (fun j => sI (a', b', c) 28 ix j) = (fun j => sI (a, b, c) 28 ix j) := funext fun j => hI 28 j rfl
    show zqLDAYS G (a', b', c) ix = zqLDAYS G (a, b, c) ix
    unfold zqLDAYS
    rw [e]
  | 14, hI, hL =>
    have e : (fun j => sL (a', b', c) 7 ix j) = (fun j => sL (a, b, c) 7 ix j) := funext fun j => hL 7 j rfl
    show zqLSUMS G (a', b', c) ix = zqLSUMS G (a, b, c) ix
    unfold zqLSUMS
    rw [e]
  | 15, hI, hL =>
    have e : (fun j => sI (a', b', c) 29 ix j) = (fun j => sI (a, b, c) 29 ix j) := funext fun j => hI 29 j rfl
    show zqLENDS G (a', b', c) ix = zqLENDS G (a, b, c) ix
    unfold zqLENDS
    rw [e]
  | 16, hI, hL =>
    have e : (fun j => sL (a', b', c) 8 ix j) = (fun j => sL (a, b, c) 8 ix j) := funext fun j => hL 8 j rfl
    show zqLBR G (a', b', c) ix = zqLBR G (a, b, c) ix
    unfold zqLBR
    rw [e]
  | 17, hI, hL =>
    have e : (fun j => sI (a', b', c) 30 ix j) = (fun j => sI (a, b, c) 30 ix j) := funext fun j => hI 30 j rfl
    show zqLCN G (a', b', c) ix = zqLCN G (a, b, c) ix
    unfold zqLCN
    rw [e]
  | 18, hI, hL => rfl
  | 19, hI, hL =>
    have e : (fun j => sI (a', b', c) 31 ix j) = (fun j => sI (a, b, c) 31 ix j) := funext fun j => hI 31 j rfl
    show zqPFAIL G (a', b', c) ix = zqPFAIL G (a, b, c) ix
    unfold zqPFAIL
    rw [e]
  | 20, hI, hL =>
    have e : (fun j => sI (a', b', c) 32 ix j) = (fun j => sI (a, b, c) 32 ix j) := funext fun j => hI 32 j rfl
    show zqPREC G (a', b', c) ix = zqPREC G (a, b, c) ix
    unfold zqPREC
    rw [e]
  | 21, hI, hL =>
    have e : (fun j => sI (a', b', c) 33 ix j) = (fun j => sI (a, b, c) 33 ix j) := funext fun j => hI 33 j rfl
    show zqPBND G (a', b', c) ix = zqPBND G (a, b, c) ix
    unfold zqPBND
    rw [e]
  | 22, hI, hL =>
    have e : (fun j => sI (a', b', c) 34 ix j) = (fun j => sI (a, b, c) 34 ix j) := funext fun j => hI 34 j rfl
    show zqPLIM G (a', b', c) ix = zqPLIM G (a, b, c) ix
    unfold zqPLIM
    rw [e]
  | 23, hI, hL =>
    have e : (fun j => sL (a', b', c) 9 ix j) = (fun j => sL (a, b, c) 9 ix j) := funext fun j => hL 9 j rfl
    show zqPOWN G (a', b', c) ix = zqPOWN G (a, b, c) ix
    unfold zqPOWN
    rw [e]
  | 24, hI, hL =>
    have e : (fun j => sL (a', b', c) 10 ix j) = (fun j => sL (a, b, c) 10 ix j) := funext fun j => hL 10 j rfl
    show zqPCOM G (a', b', c) ix = zqPCOM G (a, b, c) ix
    unfold zqPCOM
    rw [e]
  | 25, hI, hL =>
    have e : (fun j => sL (a', b', c) 11 ix j) = (fun j => sL (a, b, c) 11 ix j) := funext fun j => hL 11 j rfl
    show zqPEAR G (a', b', c) ix = zqPEAR G (a, b, c) ix
    unfold zqPEAR
    rw [e]
  | 26, hI, hL =>
    have e : (fun j => sL (a', b', c) 12 ix j) = (fun j => sL (a, b, c) 12 ix j) := funext fun j => hL 12 j rfl
    show zqPABV G (a', b', c) ix = zqPABV G (a, b, c) ix
    unfold zqPABV
    rw [e]
  | 27, hI, hL =>
    have e : (fun j => sL (a', b', c) 13 ix j) = (fun j => sL (a, b, c) 13 ix j) := funext fun j => hL 13 j rfl
    show zqPBEF G (a', b', c) ix = zqPBEF G (a, b, c) ix
    unfold zqPBEF
    rw [e]
  | 28, hI, hL => rfl
  | 29, hI, hL => rfl
  | n + 30, hI, hL => rfl
theorem zlv_congr {kd ix : Nat} (h0 : σ'.2.2 = σ.2.2) : zlv σ' kd ix = zlv σ kd ix := by
  obtain ⟨a, b, c⟩ := σ
  obtain ⟨a', b', c'⟩ := σ'
  cases h0
  rfl
theorem zP0.at (h : zP0 G ad aa σ H) (kd ix : Nat) (hl : zlv σ kd ix) : va_at G.2.2.1 zCl (zadr ad aa kd ix, zct G ad aa σ kd ix) H := (h.1 kd ix hl).1
/-- one object's content is changed, the rest stays -/
theorem zP0.upd (h : zP0 G ad aa σ H) {kd ix : Nat} (hl : zlv σ kd ix) (hlv : ∀ k x, zlv σ' k x ↔ zlv σ k x) (hc : ∀ k x, ¬ (k = kd ∧ x = ix) → zlv σ k x → zct G ad aa σ' k x = zct G ad aa σ k x)
    (hn : va_at G.2.2.1 zCl (zadr ad aa kd ix, zct G ad aa σ' kd ix) H1) (oq : ∀ q, q ≠ zadr ad aa kd ix → H1[q]? = H[q]?) : zP0 G ad aa σ' H1 := by
  refine ⟨fun k x hx => ?_, fun k x k' x' h1 h2 => h.2 k x k' x' ((hlv _ _).mp h1) ((hlv _ _).mp h2)⟩
  have hx := (hlv _ _).mp hx
  obtain ⟨g1, g2⟩ := h.1 k x hx
  refine ⟨?_, g2⟩
  by_cases e : k = kd ∧ x = ix
  · obtain ⟨rfl, rfl⟩ := e
    exact hn
  · rw [hc k x e hx]
    exact g1.kept (oq _ (fun z => e (h.2 k x kd ix hx hl z)))
theorem zP0.setI (h : zP0 G ad aa σ H) {kd ix t e : Nat} {v : Int32} (ht : zoI t = kd) (hl : zlv σ kd ix) (hn : va_at G.2.2.1 zCl (zadr ad aa kd ix, zct G ad aa (uI σ t ix e v) kd ix) H1) (oq : ∀ q, q ≠ zadr ad aa kd ix → H1[q]? = H[q]?) : zP0 G ad aa (uI σ t ix e v) H1 := by
  subst ht
  refine h.upd hl (fun k x => by rw [zlv_congr (σ' := uI σ t ix e v) (σ := σ) rfl]) (fun k x hne _ => zct_congr rfl (fun t' e' h' => ?_) (fun _ _ _ => rfl)) hn oq
  exact u3_n _ _ (fun q => hne ⟨by rw [← h', q.1], q.2.1⟩)
theorem zP0.setL (h : zP0 G ad aa σ H) {kd ix t e : Nat} {v : Int64} (ht : zoL t = kd) (hl : zlv σ kd ix) (hn : va_at G.2.2.1 zCl (zadr ad aa kd ix, zct G ad aa (uL σ t ix e v) kd ix) H1) (oq : ∀ q, q ≠ zadr ad aa kd ix → H1[q]? = H[q]?) : zP0 G ad aa (uL σ t ix e v) H1 := by
  subst ht
  refine h.upd hl (fun k x => by rw [zlv_congr (σ' := uL σ t ix e v) (σ := σ) rfl]) (fun k x hne _ => zct_congr rfl (fun _ _ _ => rfl) (fun t' e' h' => ?_)) hn oq
  exact u3_n _ _ (fun q => hne ⟨by rw [← h', q.1], q.2.1⟩)
end ZS2
end
section
/-! rows that read and write the heap, over a picture; then over the state -/
section ZH
variable {G : zG} {X : zX} {cc : ByteArray} {own : String} {nL : Nat} {ret : Option FieldType} {rm : Room} {P : Heap → Prop} {k n pc : Nat} {lo : List (Nat × Value)} {st : List Value}
theorem zi_get (K : zK G X cc own nL ret rm) {C ref : String} {T : u_T} {N ci idx a f : Nat} {fs : List Value} {v : Value} (hc : zCl[ci]? = some (C, T, N)) (hin : ∀ w ∈ u_ws C T N, w ∈ zB) (hP : ∀ H, P H → va_at G.2.2.1 zCl (a, .inr (ci, fs)) H) (hf : f < N) (hw : Cond.fieldLink own idx ref (T f).2.1 (T f).2.2.1 ∈ zB)
    (hsame : ∀ x, (xs X).fieldFound? (T f).1 (T f).2.1 (T f).2.2.1 = some x → (xs X).fieldFound? ref (T f).2.1 (T f).2.2.1 = some x) (hd : decode cc pc = .ok (.getfield idx, 3)) (hv : fs[f]? = some v) (kk : zV G X nL P k n (pc + 3) lo (v :: st)) : zV G X nL P k n pc lo (.ref a :: st) := fun H locs ls hP0 hS hL =>
  va_get (D := G.2.2.1) (cl := zCl) (tys := zty G.2.2.2.1) (ws := [(a, .inr (ci, fs))]) K.1 K.2.1 K.2.2.2.2.1 hin K.2.2.2.1 K.2.2.2.2.2.1.1 (fun q x hq => by
    have hz : q < 1 := (List.getElem?_eq_some_iff.mp hq).1
    rw [show q = 0 by omega] at hq
    cases hq
    exact hP H hP0) 0 rfl hc f hf (K.2.2.2.2.1 _ hw) hsame hv hd (kk H locs ls hP0 hS hL)
theorem zi_put (K : zK G X cc own nL ret rm) {C ref : String} {T : u_T} {N ci idx a f : Nat} {fs : List Value} {v : Value} {P' : Heap → Prop} (hc : zCl[ci]? = some (C, T, N)) (hin : ∀ w ∈ u_ws C T N, w ∈ zB) (ty0 : Nat → FieldType) (hty : ∀ k, k < N → parseFieldDescriptor (T k).2.2.1 = some (ty0 k)) (hnm : ∀ a, a < N → ∀ b, b < N → a ≠ b → (T a).2.1 ≠ (T b).2.1)
    (hP : ∀ H, P H → va_at G.2.2.1 zCl (a, .inr (ci, fs)) H ∧ gA G a) (hf : f < N) (hw : Cond.fieldLink own idx ref (T f).2.1 (T f).2.2.1 ∈ zB) (hsame : ∀ x, (xs X).fieldFound? (T f).1 (T f).2.1 (T f).2.2.1 = some x → (xs X).fieldFound? ref (T f).2.1 (T f).2.2.1 = some x) (hfin : (T f).2.2.2 = false) {ty : FieldType} (hd0 : parseFieldDescriptor (T f).2.2.1 = some ty) (hn : narrow ty v = v) (hfit : fits ty v = true) (hl : f < fs.length)
    (hd : decode cc pc = .ok (.putfield idx, 3)) (hP' : ∀ H H1 : Heap, P H → va_at G.2.2.1 zCl (a, .inr (ci, fs.set f v)) H1 → H1.size = H.size → (∀ q, q ≠ a → H1[q]? = H[q]?) → P' H1) (kk : zV G X nL P' k n (pc + 3) lo st) : zV G X nL P k n pc lo (v :: .ref a :: st) := fun H locs ls hP0 hS hL => by
  obtain ⟨hat, hA⟩ := hP H hP0
  have hK := K.2.2.2.2.2.1.1
  have hap := va_apart (own := own) K.2.2.2.2.1 hin ty0 hty hnm hK hc
  obtain ⟨r, h1, cell, q1, q2, q3, q4⟩ := hat
  have hr : r = (C, T, N) := Option.some.inj (h1.symm.trans hc)
  subst hr
  obtain ⟨hSl, hfc, kC, hkC, hkind⟩ := hK.1 ci _ hc
  obtain ⟨cf, kf, fi, fd, hi, hsl⟩ := hSl f hf
  have hlay := K.2.2.2.2.1 _ (hin _ (u_in_lay hf))
  unfold u_lay at hlay
  rw [if_neg (by rw [hfin]; decide)] at hlay
  have hst := (u_facts hfc hkC (u_lays K.2.2.2.2.1 hin hf) hi).1
  have h6 := u_store hfc hkC hkind hlay hi hd0 hn hfit
  refine W.putK K.1 K.2.1 (f := fd) ⟨K.2.2.2.1, K.2.2.2.2.1 _ hw, ⟨_, _, _, hsame _ hi⟩, hst⟩ (by rw [q2]; exact h6) q1 q3 (by rw [hsl]; exact k2_hasslot (q4 f hf)) rfl rfl hd fun H' e1 e2 e3 => ?_
  rw [hsl] at e1 ⊢
  exact kk H' _ ls (hP' H H' hP0 ⟨_, hc, t_OB.to (V := updV (vp_V fs) f v) ⟨_, e1, q2, q3, t_set q4 hap hf v⟩ (fun j _ => vp_updV_set hl v j)⟩ e2 e3) (hS.put e2 e3 hA) hL
theorem zi_iald (K : zK G X cc own nL ret rm) {a N : Nat} {f : Nat → Int32} {j : Int32} (hP : ∀ H, P H → va_at G.2.2.1 zCl (a, .inl (G.2.2.2.1 0, N, .inl f)) H) (i : Nat) (hj : j = nI i) (hi : i < N) (hN : N < 2 ^ 31) (hd : decode cc pc = .ok (.iaload, 1)) (kk : zV G X nL P k n (pc + 1) lo (.int (f i) :: st)) : zV G X nL P k n pc lo (.int j :: .ref a :: st) := fun H locs ls hP0 hS hL => by
  subst hj
  refine va_iald (D := G.2.2.1) (cl := zCl) (tys := zty G.2.2.2.1) (ws := [(a, .inl (G.2.2.2.1 0, N, .inl f))]) K.1 K.2.1 K.2.2.2.2.2.1.1 (fun q x hq => by
    have hz : q < 1 := (List.getElem?_eq_some_iff.mp hq).1
    rw [show q = 0 by omega] at hq
    cases hq
    exact hP H hP0) 0 0 rfl rfl (vp_in_nI hi hN) hd ?_
  rw [nI_clamp (Nat.lt_trans hi hN)]
  exact kk H locs ls hP0 hS hL
theorem zi_lald (K : zK G X cc own nL ret rm) {a N : Nat} {f : Nat → Int64} {j : Int32} (hP : ∀ H, P H → va_at G.2.2.1 zCl (a, .inl (G.2.2.2.1 1, N, .inr (.inl f))) H) (i : Nat) (hj : j = nI i) (hi : i < N) (hN : N < 2 ^ 31) (hd : decode cc pc = .ok (.laload, 1)) (kk : zV G X nL P k n (pc + 1) lo (.long (f i) :: st)) : zV G X nL P k n pc lo (.int j :: .ref a :: st) := fun H locs ls hP0 hS hL => by
  subst hj
  refine va_lald (D := G.2.2.1) (cl := zCl) (tys := zty G.2.2.2.1) (ws := [(a, .inl (G.2.2.2.1 1, N, .inr (.inl f)))]) K.1 K.2.1 K.2.2.2.2.2.1.1 (fun q x hq => by
    have hz : q < 1 := (List.getElem?_eq_some_iff.mp hq).1
    rw [show q = 0 by omega] at hq
    cases hq
    exact hP H hP0) 0 1 rfl rfl (vp_in_nI hi hN) hd ?_
  rw [nI_clamp (Nat.lt_trans hi hN)]
  exact kk H locs ls hP0 hS hL
theorem zi_zald (K : zK G X cc own nL ret rm) {a N : Nat} {f : Nat → Int32} {j : Int32} (hP : ∀ H, P H → va_at G.2.2.1 zCl (a, .inl (G.2.2.2.1 2, N, .inl f)) H) (i : Nat) (hj : j = nI i) (hi : i < N) (hN : N < 2 ^ 31) (hd : decode cc pc = .ok (.baload, 1)) (kk : zV G X nL P k n (pc + 1) lo (.int (f i) :: st)) : zV G X nL P k n pc lo (.int j :: .ref a :: st) := fun H locs ls hP0 hS hL => by
  subst hj
  refine va_zald (D := G.2.2.1) (cl := zCl) (tys := zty G.2.2.2.1) (ws := [(a, .inl (G.2.2.2.1 2, N, .inl f))]) K.1 K.2.1 K.2.2.2.2.2.1.1 (fun q x hq => by
    have hz : q < 1 := (List.getElem?_eq_some_iff.mp hq).1
    rw [show q = 0 by omega] at hq
    cases hq
    exact hP H hP0) 0 2 rfl rfl (vp_in_nI hi hN) hd ?_
  rw [nI_clamp (Nat.lt_trans hi hN)]
  exact kk H locs ls hP0 hS hL
theorem zi_iast (K : zK G X cc own nL ret rm) {a N : Nat} {f : Nat → Int32} {j : Int32} {v : Int32} {P' : Heap → Prop} (hP : ∀ H, P H → va_at G.2.2.1 zCl (a, .inl (G.2.2.2.1 0, N, .inl f)) H ∧ gA G a) (i : Nat) (hj : j = nI i) (hi : i < N) (hN : N < 2 ^ 31) (hd : decode cc pc = .ok (.iastore, 1))
    (hP' : ∀ H H1 : Heap, P H → va_at G.2.2.1 zCl (a, .inl (G.2.2.2.1 0, N, .inl (upd f i v))) H1 → H1.size = H.size → (∀ q, q ≠ a → H1[q]? = H[q]?) → P' H1) (kk : zV G X nL P' k n (pc + 1) lo st) : zV G X nL P k n pc lo (.int v :: .int j :: .ref a :: st) := fun H locs ls hP0 hS hL => by
  subst hj
  obtain ⟨hat, hA⟩ := hP H hP0
  refine W.iast K.1 K.2.1 hat ((K.2.2.2.2.2.1.1.2 0 _ rfl).1 N (fun j => .int (f j))) (fun q => by cases q) (by show ¬ (_ ∨ (arrV _ _ _).slots.size ≤ _); rw [arrV_size]; exact vp_in_nI hi hN) rfl rfl hd fun H1 e z oq => ?_
  rw [nI_clamp (Nat.lt_trans hi hN)] at e ⊢
  refine kk H1 _ ls (hP' H H1 hP0 ?_ z oq) (hS.put z oq hA) hL
  show H1[a]? = some (vp_cell _ _)
  rw [e]
  rw [vp_cell_i, vp_cell_i, arrV_store]
  congr 2
  funext q
  by_cases hq : q = i
  · subst hq
    simp [updV, upd, vp_updL]
  · simp [updV, upd, vp_updL, hq]
theorem zi_last (K : zK G X cc own nL ret rm) {a N : Nat} {f : Nat → Int64} {j : Int32} {v : Int64} {P' : Heap → Prop} (hP : ∀ H, P H → va_at G.2.2.1 zCl (a, .inl (G.2.2.2.1 1, N, .inr (.inl f))) H ∧ gA G a) (i : Nat) (hj : j = nI i) (hi : i < N) (hN : N < 2 ^ 31) (hd : decode cc pc = .ok (.lastore, 1))
    (hP' : ∀ H H1 : Heap, P H → va_at G.2.2.1 zCl (a, .inl (G.2.2.2.1 1, N, .inr (.inl (vp_updL f i v)))) H1 → H1.size = H.size → (∀ q, q ≠ a → H1[q]? = H[q]?) → P' H1) (kk : zV G X nL P' k n (pc + 1) lo st) : zV G X nL P k n pc lo (.long v :: .int j :: .ref a :: st) := fun H locs ls hP0 hS hL => by
  subst hj
  obtain ⟨hat, hA⟩ := hP H hP0
  refine W.last K.1 K.2.1 hat ((K.2.2.2.2.2.1.1.2 1 _ rfl).1 N (fun j => .long (f j))) (fun q => by cases q) (by show ¬ (_ ∨ (arrV _ _ _).slots.size ≤ _); rw [arrV_size]; exact vp_in_nI hi hN) rfl rfl hd fun H1 e z oq => ?_
  rw [nI_clamp (Nat.lt_trans hi hN)] at e ⊢
  refine kk H1 _ ls (hP' H H1 hP0 ?_ z oq) (hS.put z oq hA) hL
  show H1[a]? = some (vp_cell _ _)
  rw [e]
  rw [vp_cell_l, vp_cell_l, arrV_store]
  congr 2
  funext q
  by_cases hq : q = i
  · subst hq
    simp [updV, upd, vp_updL]
  · simp [updV, upd, vp_updL, hq]
theorem zi_zast (K : zK G X cc own nL ret rm) {a N : Nat} {f : Nat → Int32} {j : Int32} {v : Int32} {P' : Heap → Prop} (hP : ∀ H, P H → va_at G.2.2.1 zCl (a, .inl (G.2.2.2.1 2, N, .inl f)) H ∧ gA G a) (i : Nat) (hj : j = nI i) (hi : i < N) (hN : N < 2 ^ 31) (hz : narrow .boolean (.int v) = .int v) (hd : decode cc pc = .ok (.bastore, 1))
    (hP' : ∀ H H1 : Heap, P H → va_at G.2.2.1 zCl (a, .inl (G.2.2.2.1 2, N, .inl (upd f i v))) H1 → H1.size = H.size → (∀ q, q ≠ a → H1[q]? = H[q]?) → P' H1) (kk : zV G X nL P' k n (pc + 1) lo st) : zV G X nL P k n pc lo (.int v :: .int j :: .ref a :: st) := fun H locs ls hP0 hS hL => by
  subst hj
  obtain ⟨hat, hA⟩ := hP H hP0
  refine W.zast K.1 K.2.1 hat ((K.2.2.2.2.2.1.1.2 2 _ rfl).1 N (fun j => .int (f j))) (fun q => by cases q) (by show ¬ (_ ∨ (arrV _ _ _).slots.size ≤ _); rw [arrV_size]; exact vp_in_nI hi hN) rfl rfl hd fun H1 e z oq => ?_
  rw [nI_clamp (Nat.lt_trans hi hN)] at e ⊢
  refine kk H1 _ ls (hP' H H1 hP0 ?_ z oq) (hS.put z oq hA) hL
  show H1[a]? = some (vp_cell _ _)
  rw [e]
  rw [vp_cell_i, vp_cell_i, arrV_store]
  congr 2
  funext q
  by_cases hq : q = i
  · subst hq
    simp [updV, upd, vp_updL, hz]
  · simp [updV, upd, vp_updL, hq]
theorem zi_alen (K : zK G X cc own nL ret rm) {a N t0 : Nat} {cA : ClassId} {s : (Nat → Int32) ⊕ (Nat → Int64) ⊕ (Nat → UInt32) ⊕ (Nat → UInt64) ⊕ (Nat → Option Nat)} {ty : FieldType} (ht : (zty G.2.2.2.1)[t0]? = some (cA, ty)) (hP : ∀ H, P H → va_at G.2.2.1 zCl (a, .inl (cA, N, s)) H) (hd : decode cc pc = .ok (.arraylength, 1)) (kk : zV G X nL P k n (pc + 1) lo (.int (nI N) :: st)) : zV G X nL P k n pc lo (.ref a :: st) := fun H locs ls hP0 hS hL => by
  have hA := (K.2.2.2.2.2.1.1.2 t0 _ ht).1
  have hat := hP H hP0
  have hk := kk H locs ls hP0 hS hL
  rcases s with f | f | f | f | f
  all_goals exact W.alen (ty := ty) K.1 K.2.1 hat (hA N _) (by show (arrV _ _ _).slots.size.toInt32 = _; rw [arrV_size]; rfl) rfl rfl hd hk
end ZH
section ZT
variable {G : zG} {X : zX} {cc : ByteArray} {own : String} {nL : Nat} {ret : Option FieldType} {rm : Room} {k n pc : Nat} {lo : List (Nat × Value)} {st : List Value} {ad : Nat → Nat → Nat} {σ : zSt}
theorem zP.at (kd ix : Nat) (hk : kd ≠ 29) {e : va_E} (he : ∀ aa, zct G ad aa σ kd ix = e) (hl : zlv σ kd ix) : ∀ H, zP G ad σ H → va_at G.2.2.1 zCl (ad kd ix, e) H ∧ gA G (ad kd ix) := fun H hP => by
  obtain ⟨aa, h⟩ := hP
  have h1 := h.1 kd ix hl
  rw [he aa, show zadr ad aa kd ix = ad kd ix from if_neg hk] at h1
  exact h1
theorem zP.setI (kd ix : Nat) (hk : kd ≠ 29) {t e : Nat} {v : Int32} (ht : zoI t = kd) (hl : zlv σ kd ix) {q : va_E} (he : ∀ aa, q = zct G ad aa (uI σ t ix e v) kd ix) : ∀ H H1 : Heap, zP G ad σ H → va_at G.2.2.1 zCl (ad kd ix, q) H1 → H1.size = H.size → (∀ q, q ≠ ad kd ix → H1[q]? = H[q]?) → zP G ad (uI σ t ix e v) H1 := fun H H1 hP ha _ oq => by
  obtain ⟨aa, h⟩ := hP
  have hz : zadr ad aa kd ix = ad kd ix := if_neg hk
  refine ⟨aa, h.setI ht hl ?_ ?_⟩
  · rw [hz, ← he aa]; exact ha
  · rw [hz]; exact oq
theorem zP.setL (kd ix : Nat) (hk : kd ≠ 29) {t e : Nat} {v : Int64} (ht : zoL t = kd) (hl : zlv σ kd ix) {q : va_E} (he : ∀ aa, q = zct G ad aa (uL σ t ix e v) kd ix) : ∀ H H1 : Heap, zP G ad σ H → va_at G.2.2.1 zCl (ad kd ix, q) H1 → H1.size = H.size → (∀ q, q ≠ ad kd ix → H1[q]? = H[q]?) → zP G ad (uL σ t ix e v) H1 := fun H H1 hP ha _ oq => by
  obtain ⟨aa, h⟩ := hP
  have hz : zadr ad aa kd ix = ad kd ix := if_neg hk
  refine ⟨aa, h.setL ht hl ?_ ?_⟩
  · rw [hz, ← he aa]; exact ha
  · rw [hz]; exact oq
theorem zr_O {ix : Nat} (hl : ix = 0) : ∀ H, zP G ad σ H → va_at G.2.2.1 zCl (ad 0 ix, zqO ad σ ix) H ∧ gA G (ad 0 ix) := zP.at 0 ix (by decide) (fun _ => rfl) hl
theorem zg_O_policies (K : zK G X cc own nL ret rm) {ix idx : Nat} (hl : ix = 0) (hw : Cond.fieldLink own idx RX8 "policies" "Ljava/util/ArrayList;" ∈ zB) (hd : decode cc pc = .ok (.getfield idx, 3)) (kk : zV G X nL (zP G ad σ) k n (pc + 3) lo (.ref (ad 28 0) :: st)) : zV G X nL (zP G ad σ) k n pc lo (.ref (ad 0 ix) :: st) := zi_get (ci := 8) (C := RX8) (T := TX8) (N := 9) (f := 0) K rfl inX8 (fun H h => (zr_O hl H h).1) (Nat.le_of_ble_eq_true rfl) hw (fun _ h => h) hd rfl kk
theorem zg_O_claims (K : zK G X cc own nL ret rm) {ix idx : Nat} (hl : ix = 0) (hw : Cond.fieldLink own idx RX8 "claims" "Ljava/util/ArrayList;" ∈ zB) (hd : decode cc pc = .ok (.getfield idx, 3)) (kk : zV G X nL (zP G ad σ) k n (pc + 3) lo (.ref (ad 28 1) :: st)) : zV G X nL (zP G ad σ) k n pc lo (.ref (ad 0 ix) :: st) := zi_get (ci := 8) (C := RX8) (T := TX8) (N := 9) (f := 1) K rfl inX8 (fun H h => (zr_O hl H h).1) (Nat.le_of_ble_eq_true rfl) hw (fun _ h => h) hd rfl kk
theorem zg_O_terms (K : zK G X cc own nL ret rm) {ix idx : Nat} (hl : ix = 0) (hw : Cond.fieldLink own idx RX8 "terms" "Ljava/util/ArrayList;" ∈ zB) (hd : decode cc pc = .ok (.getfield idx, 3)) (kk : zV G X nL (zP G ad σ) k n (pc + 3) lo (.ref (ad 28 2) :: st)) : zV G X nL (zP G ad σ) k n pc lo (.ref (ad 0 ix) :: st) := zi_get (ci := 8) (C := RX8) (T := TX8) (N := 9) (f := 2) K rfl inX8 (fun H h => (zr_O hl H h).1) (Nat.le_of_ble_eq_true rfl) hw (fun _ h => h) hd rfl kk
theorem zg_O_scenarios (K : zK G X cc own nL ret rm) {ix idx : Nat} (hl : ix = 0) (hw : Cond.fieldLink own idx RX8 "scenarios" "Ljava/util/ArrayList;" ∈ zB) (hd : decode cc pc = .ok (.getfield idx, 3)) (kk : zV G X nL (zP G ad σ) k n (pc + 3) lo (.ref (ad 28 3) :: st)) : zV G X nL (zP G ad σ) k n pc lo (.ref (ad 0 ix) :: st) := zi_get (ci := 8) (C := RX8) (T := TX8) (N := 9) (f := 3) K rfl inX8 (fun H h => (zr_O hl H h).1) (Nat.le_of_ble_eq_true rfl) hw (fun _ h => h) hd rfl kk
theorem zg_O_damages (K : zK G X cc own nL ret rm) {ix idx : Nat} (hl : ix = 0) (hw : Cond.fieldLink own idx RX8 "damages" "Ljava/util/ArrayList;" ∈ zB) (hd : decode cc pc = .ok (.getfield idx, 3)) (kk : zV G X nL (zP G ad σ) k n (pc + 3) lo (.ref (ad 28 4) :: st)) : zV G X nL (zP G ad σ) k n pc lo (.ref (ad 0 ix) :: st) := zi_get (ci := 8) (C := RX8) (T := TX8) (N := 9) (f := 4) K rfl inX8 (fun H h => (zr_O hl H h).1) (Nat.le_of_ble_eq_true rfl) hw (fun _ h => h) hd rfl kk
theorem zg_O_real (K : zK G X cc own nL ret rm) {ix idx : Nat} (hl : ix = 0) (hw : Cond.fieldLink own idx RX8 "real" "LLayertreaty$Flow;" ∈ zB) (hd : decode cc pc = .ok (.getfield idx, 3)) (kk : zV G X nL (zP G ad σ) k n (pc + 3) lo (.ref (ad 11 0) :: st)) : zV G X nL (zP G ad σ) k n pc lo (.ref (ad 0 ix) :: st) := zi_get (ci := 8) (C := RX8) (T := TX8) (N := 9) (f := 5) K rfl inX8 (fun H h => (zr_O hl H h).1) (Nat.le_of_ble_eq_true rfl) hw (fun _ h => h) hd rfl kk
theorem zg_O_trial (K : zK G X cc own nL ret rm) {ix idx : Nat} (hl : ix = 0) (hw : Cond.fieldLink own idx RX8 "trial" "LLayertreaty$Flow;" ∈ zB) (hd : decode cc pc = .ok (.getfield idx, 3)) (kk : zV G X nL (zP G ad σ) k n (pc + 3) lo (.ref (ad 11 1) :: st)) : zV G X nL (zP G ad σ) k n pc lo (.ref (ad 0 ix) :: st) := zi_get (ci := 8) (C := RX8) (T := TX8) (N := 9) (f := 6) K rfl inX8 (fun H h => (zr_O hl H h).1) (Nat.le_of_ble_eq_true rfl) hw (fun _ h => h) hd rfl kk
theorem zg_O_pool (K : zK G X cc own nL ret rm) {ix idx : Nat} (hl : ix = 0) (hw : Cond.fieldLink own idx RX8 "pool" "LLayertreaty$Pool;" ∈ zB) (hd : decode cc pc = .ok (.getfield idx, 3)) (kk : zV G X nL (zP G ad σ) k n (pc + 3) lo (.ref (ad 18 0) :: st)) : zV G X nL (zP G ad σ) k n pc lo (.ref (ad 0 ix) :: st) := zi_get (ci := 8) (C := RX8) (T := TX8) (N := 9) (f := 7) K rfl inX8 (fun H h => (zr_O hl H h).1) (Nat.le_of_ble_eq_true rfl) hw (fun _ h => h) hd rfl kk
theorem zg_O_isSettled (K : zK G X cc own nL ret rm) {ix idx : Nat} (hl : ix = 0) (hw : Cond.fieldLink own idx RX8 "isSettled" "Z" ∈ zB) (hd : decode cc pc = .ok (.getfield idx, 3)) (kk : zV G X nL (zP G ad σ) k n (pc + 3) lo (.int (sI σ 35 ix 0) :: st)) : zV G X nL (zP G ad σ) k n pc lo (.ref (ad 0 ix) :: st) := zi_get (ci := 8) (C := RX8) (T := TX8) (N := 9) (f := 8) K rfl inX8 (fun H h => (zr_O hl H h).1) (Nat.le_of_ble_eq_true rfl) hw (fun _ h => h) hd rfl kk
theorem zp_O_isSettled (K : zK G X cc own nL ret rm) {ix idx : Nat} {v : Int32} (hl : ix = 0) (hw : Cond.fieldLink own idx RX8 "isSettled" "Z" ∈ zB) (hz : narrow .boolean (.int v) = .int v ∧ fits .boolean (.int v) = true) (hd : decode cc pc = .ok (.putfield idx, 3)) (kk : zV G X nL (zP G ad (uI σ 35 ix 0 v)) k n (pc + 3) lo st) : zV G X nL (zP G ad σ) k n pc lo (.int v :: .ref (ad 0 ix) :: st) :=
  zi_put (ci := 8) (C := RX8) (T := TX8) (N := 9) (f := 8) (ty := .boolean) K rfl inX8 tyX8 tyX8_ok nmX8 (zr_O hl) (Nat.le_of_ble_eq_true rfl) hw (fun _ h => h) rfl (by decide +kernel) hz.1 hz.2 (Nat.le_of_ble_eq_true rfl) hd (zP.setI 0 ix (by decide) rfl hl (fun _ => by
    show _ = zqO ad (uI σ 35 ix 0 v) ix
    show (.inr (8, [.ref (ad 28 0), .ref (ad 28 1), .ref (ad 28 2), .ref (ad 28 3), .ref (ad 28 4), .ref (ad 11 0), .ref (ad 11 1), .ref (ad 18 0), .int v]) : va_E) = _
    unfold zqO
    rw [show sI (uI σ 35 ix 0 v) 35 ix 0 = v from u3_s _ _ _ _ _]
    all_goals rfl)) kk
theorem zr_POL {ix : Nat} (hl : ix < sN σ 0) : ∀ H, zP G ad σ H → va_at G.2.2.1 zCl (ad 1 ix, zqPOL σ ix) H ∧ gA G (ad 1 ix) := zP.at 1 ix (by decide) (fun _ => rfl) hl
theorem zg_POL_sum (K : zK G X cc own nL ret rm) {ix idx : Nat} (hl : ix < sN σ 0) (hw : Cond.fieldLink own idx RX4 "sum" "I" ∈ zB) (hd : decode cc pc = .ok (.getfield idx, 3)) (kk : zV G X nL (zP G ad σ) k n (pc + 3) lo (.int (sI σ 0 ix 0) :: st)) : zV G X nL (zP G ad σ) k n pc lo (.ref (ad 1 ix) :: st) := zi_get (ci := 4) (C := RX4) (T := TX4) (N := 4) (f := 0) K rfl inX4 (fun H h => (zr_POL hl H h).1) (Nat.le_of_ble_eq_true rfl) hw (fun _ h => h) hd rfl kk
theorem zg_POL_zone (K : zK G X cc own nL ret rm) {ix idx : Nat} (hl : ix < sN σ 0) (hw : Cond.fieldLink own idx RX4 "zone" "I" ∈ zB) (hd : decode cc pc = .ok (.getfield idx, 3)) (kk : zV G X nL (zP G ad σ) k n (pc + 3) lo (.int (sI σ 1 ix 0) :: st)) : zV G X nL (zP G ad σ) k n pc lo (.ref (ad 1 ix) :: st) := zi_get (ci := 4) (C := RX4) (T := TX4) (N := 4) (f := 1) K rfl inX4 (fun H h => (zr_POL hl H h).1) (Nat.le_of_ble_eq_true rfl) hw (fun _ h => h) hd rfl kk
theorem zg_POL_first (K : zK G X cc own nL ret rm) {ix idx : Nat} (hl : ix < sN σ 0) (hw : Cond.fieldLink own idx RX4 "first" "I" ∈ zB) (hd : decode cc pc = .ok (.getfield idx, 3)) (kk : zV G X nL (zP G ad σ) k n (pc + 3) lo (.int (sI σ 2 ix 0) :: st)) : zV G X nL (zP G ad σ) k n pc lo (.ref (ad 1 ix) :: st) := zi_get (ci := 4) (C := RX4) (T := TX4) (N := 4) (f := 2) K rfl inX4 (fun H h => (zr_POL hl H h).1) (Nat.le_of_ble_eq_true rfl) hw (fun _ h => h) hd rfl kk
theorem zg_POL_last (K : zK G X cc own nL ret rm) {ix idx : Nat} (hl : ix < sN σ 0) (hw : Cond.fieldLink own idx RX4 "last" "I" ∈ zB) (hd : decode cc pc = .ok (.getfield idx, 3)) (kk : zV G X nL (zP G ad σ) k n (pc + 3) lo (.int (sI σ 3 ix 0) :: st)) : zV G X nL (zP G ad σ) k n pc lo (.ref (ad 1 ix) :: st) := zi_get (ci := 4) (C := RX4) (T := TX4) (N := 4) (f := 3) K rfl inX4 (fun H h => (zr_POL hl H h).1) (Nat.le_of_ble_eq_true rfl) hw (fun _ h => h) hd rfl kk
theorem zr_CL {ix : Nat} (hl : zlC σ ix) : ∀ H, zP G ad σ H → va_at G.2.2.1 zCl (ad 2 ix, zqCL ad σ ix) H ∧ gA G (ad 2 ix) := zP.at 2 ix (by decide) (fun _ => rfl) hl
theorem zg_CL_policy (K : zK G X cc own nL ret rm) {ix idx : Nat} (hl : zlC σ ix) (hw : Cond.fieldLink own idx RX0 "policy" "LLayertreaty$Policy;" ∈ zB) (hd : decode cc pc = .ok (.getfield idx, 3)) (kk : zV G X nL (zP G ad σ) k n (pc + 3) lo (.ref (ad 1 (sP σ ix)) :: st)) : zV G X nL (zP G ad σ) k n pc lo (.ref (ad 2 ix) :: st) := zi_get (ci := 0) (C := RX0) (T := TX0) (N := 7) (f := 0) K rfl inX0 (fun H h => (zr_CL hl H h).1) (Nat.le_of_ble_eq_true rfl) hw (fun _ h => h) hd rfl kk
theorem zg_CL_took (K : zK G X cc own nL ret rm) {ix idx : Nat} (hl : zlC σ ix) (hw : Cond.fieldLink own idx RX0 "took" "[J" ∈ zB) (hd : decode cc pc = .ok (.getfield idx, 3)) (kk : zV G X nL (zP G ad σ) k n (pc + 3) lo (.ref (ad 3 ix) :: st)) : zV G X nL (zP G ad σ) k n pc lo (.ref (ad 2 ix) :: st) := zi_get (ci := 0) (C := RX0) (T := TX0) (N := 7) (f := 1) K rfl inX0 (fun H h => (zr_CL hl H h).1) (Nat.le_of_ble_eq_true rfl) hw (fun _ h => h) hd rfl kk
theorem zg_CL_events (K : zK G X cc own nL ret rm) {ix idx : Nat} (hl : zlC σ ix) (hw : Cond.fieldLink own idx RX0 "events" "[I" ∈ zB) (hd : decode cc pc = .ok (.getfield idx, 3)) (kk : zV G X nL (zP G ad σ) k n (pc + 3) lo (.ref (ad 4 ix) :: st)) : zV G X nL (zP G ad σ) k n pc lo (.ref (ad 2 ix) :: st) := zi_get (ci := 0) (C := RX0) (T := TX0) (N := 7) (f := 2) K rfl inX0 (fun H h => (zr_CL hl H h).1) (Nat.le_of_ble_eq_true rfl) hw (fun _ h => h) hd rfl kk
theorem zg_CL_day (K : zK G X cc own nL ret rm) {ix idx : Nat} (hl : zlC σ ix) (hw : Cond.fieldLink own idx RX0 "day" "I" ∈ zB) (hd : decode cc pc = .ok (.getfield idx, 3)) (kk : zV G X nL (zP G ad σ) k n (pc + 3) lo (.int (sI σ 4 ix 0) :: st)) : zV G X nL (zP G ad σ) k n pc lo (.ref (ad 2 ix) :: st) := zi_get (ci := 0) (C := RX0) (T := TX0) (N := 7) (f := 3) K rfl inX0 (fun H h => (zr_CL hl H h).1) (Nat.le_of_ble_eq_true rfl) hw (fun _ h => h) hd rfl kk
theorem zp_CL_day (K : zK G X cc own nL ret rm) {ix idx : Nat} {v : Int32} (hl : zlC σ ix) (hw : Cond.fieldLink own idx RX0 "day" "I" ∈ zB) (hd : decode cc pc = .ok (.putfield idx, 3)) (kk : zV G X nL (zP G ad (uI σ 4 ix 0 v)) k n (pc + 3) lo st) : zV G X nL (zP G ad σ) k n pc lo (.int v :: .ref (ad 2 ix) :: st) :=
  zi_put (ci := 0) (C := RX0) (T := TX0) (N := 7) (f := 3) (ty := .int) K rfl inX0 tyX0 tyX0_ok nmX0 (zr_CL hl) (Nat.le_of_ble_eq_true rfl) hw (fun _ h => h) rfl (by decide +kernel) rfl rfl (Nat.le_of_ble_eq_true rfl) hd (zP.setI 2 ix (by decide) rfl hl (fun _ => by
    show _ = zqCL ad (uI σ 4 ix 0 v) ix
    show (.inr (0, [.ref (ad 1 (sP σ ix)), .ref (ad 3 ix), .ref (ad 4 ix), .int v, .int (sI σ 5 ix 0), .int (sI σ 6 ix 0), .long (sL σ 0 ix 0)]) : va_E) = _
    unfold zqCL
    rw [show sI (uI σ 4 ix 0 v) 4 ix 0 = v from u3_s _ _ _ _ _]
    all_goals rfl)) kk
theorem zg_CL_told (K : zK G X cc own nL ret rm) {ix idx : Nat} (hl : zlC σ ix) (hw : Cond.fieldLink own idx RX0 "told" "I" ∈ zB) (hd : decode cc pc = .ok (.getfield idx, 3)) (kk : zV G X nL (zP G ad σ) k n (pc + 3) lo (.int (sI σ 5 ix 0) :: st)) : zV G X nL (zP G ad σ) k n pc lo (.ref (ad 2 ix) :: st) := zi_get (ci := 0) (C := RX0) (T := TX0) (N := 7) (f := 4) K rfl inX0 (fun H h => (zr_CL hl H h).1) (Nat.le_of_ble_eq_true rfl) hw (fun _ h => h) hd rfl kk
theorem zp_CL_told (K : zK G X cc own nL ret rm) {ix idx : Nat} {v : Int32} (hl : zlC σ ix) (hw : Cond.fieldLink own idx RX0 "told" "I" ∈ zB) (hd : decode cc pc = .ok (.putfield idx, 3)) (kk : zV G X nL (zP G ad (uI σ 5 ix 0 v)) k n (pc + 3) lo st) : zV G X nL (zP G ad σ) k n pc lo (.int v :: .ref (ad 2 ix) :: st) :=
  zi_put (ci := 0) (C := RX0) (T := TX0) (N := 7) (f := 4) (ty := .int) K rfl inX0 tyX0 tyX0_ok nmX0 (zr_CL hl) (Nat.le_of_ble_eq_true rfl) hw (fun _ h => h) rfl (by decide +kernel) rfl rfl (Nat.le_of_ble_eq_true rfl) hd (zP.setI 2 ix (by decide) rfl hl (fun _ => by
    show _ = zqCL ad (uI σ 5 ix 0 v) ix
    show (.inr (0, [.ref (ad 1 (sP σ ix)), .ref (ad 3 ix), .ref (ad 4 ix), .int (sI σ 4 ix 0), .int v, .int (sI σ 6 ix 0), .long (sL σ 0 ix 0)]) : va_E) = _
    unfold zqCL
    rw [show sI (uI σ 5 ix 0 v) 5 ix 0 = v from u3_s _ _ _ _ _]
    all_goals rfl)) kk
theorem zg_CL_amount (K : zK G X cc own nL ret rm) {ix idx : Nat} (hl : zlC σ ix) (hw : Cond.fieldLink own idx RX0 "amount" "I" ∈ zB) (hd : decode cc pc = .ok (.getfield idx, 3)) (kk : zV G X nL (zP G ad σ) k n (pc + 3) lo (.int (sI σ 6 ix 0) :: st)) : zV G X nL (zP G ad σ) k n pc lo (.ref (ad 2 ix) :: st) := zi_get (ci := 0) (C := RX0) (T := TX0) (N := 7) (f := 5) K rfl inX0 (fun H h => (zr_CL hl H h).1) (Nat.le_of_ble_eq_true rfl) hw (fun _ h => h) hd rfl kk
theorem zp_CL_amount (K : zK G X cc own nL ret rm) {ix idx : Nat} {v : Int32} (hl : zlC σ ix) (hw : Cond.fieldLink own idx RX0 "amount" "I" ∈ zB) (hd : decode cc pc = .ok (.putfield idx, 3)) (kk : zV G X nL (zP G ad (uI σ 6 ix 0 v)) k n (pc + 3) lo st) : zV G X nL (zP G ad σ) k n pc lo (.int v :: .ref (ad 2 ix) :: st) :=
  zi_put (ci := 0) (C := RX0) (T := TX0) (N := 7) (f := 5) (ty := .int) K rfl inX0 tyX0 tyX0_ok nmX0 (zr_CL hl) (Nat.le_of_ble_eq_true rfl) hw (fun _ h => h) rfl (by decide +kernel) rfl rfl (Nat.le_of_ble_eq_true rfl) hd (zP.setI 2 ix (by decide) rfl hl (fun _ => by
    show _ = zqCL ad (uI σ 6 ix 0 v) ix
    show (.inr (0, [.ref (ad 1 (sP σ ix)), .ref (ad 3 ix), .ref (ad 4 ix), .int (sI σ 4 ix 0), .int (sI σ 5 ix 0), .int v, .long (sL σ 0 ix 0)]) : va_E) = _
    unfold zqCL
    rw [show sI (uI σ 6 ix 0 v) 6 ix 0 = v from u3_s _ _ _ _ _]
    all_goals rfl)) kk
theorem zg_CL_left (K : zK G X cc own nL ret rm) {ix idx : Nat} (hl : zlC σ ix) (hw : Cond.fieldLink own idx RX0 "left" "J" ∈ zB) (hd : decode cc pc = .ok (.getfield idx, 3)) (kk : zV G X nL (zP G ad σ) k n (pc + 3) lo (.long (sL σ 0 ix 0) :: st)) : zV G X nL (zP G ad σ) k n pc lo (.ref (ad 2 ix) :: st) := zi_get (ci := 0) (C := RX0) (T := TX0) (N := 7) (f := 6) K rfl inX0 (fun H h => (zr_CL hl H h).1) (Nat.le_of_ble_eq_true rfl) hw (fun _ h => h) hd rfl kk
theorem zp_CL_left (K : zK G X cc own nL ret rm) {ix idx : Nat} {v : Int64} (hl : zlC σ ix) (hw : Cond.fieldLink own idx RX0 "left" "J" ∈ zB) (hd : decode cc pc = .ok (.putfield idx, 3)) (kk : zV G X nL (zP G ad (uL σ 0 ix 0 v)) k n (pc + 3) lo st) : zV G X nL (zP G ad σ) k n pc lo (.long v :: .ref (ad 2 ix) :: st) :=
  zi_put (ci := 0) (C := RX0) (T := TX0) (N := 7) (f := 6) (ty := .long) K rfl inX0 tyX0 tyX0_ok nmX0 (zr_CL hl) (Nat.le_of_ble_eq_true rfl) hw (fun _ h => h) rfl (by decide +kernel) rfl rfl (Nat.le_of_ble_eq_true rfl) hd (zP.setL 2 ix (by decide) rfl hl (fun _ => by
    show _ = zqCL ad (uL σ 0 ix 0 v) ix
    show (.inr (0, [.ref (ad 1 (sP σ ix)), .ref (ad 3 ix), .ref (ad 4 ix), .int (sI σ 4 ix 0), .int (sI σ 5 ix 0), .int (sI σ 6 ix 0), .long v]) : va_E) = _
    unfold zqCL
    rw [show sL (uL σ 0 ix 0 v) 0 ix 0 = v from u3_s _ _ _ _ _]
    all_goals rfl)) kk
theorem zr_TOOK {ix : Nat} (hl : zlC σ ix) : ∀ H, zP G ad σ H → va_at G.2.2.1 zCl (ad 3 ix, zqTOOK G σ ix) H ∧ gA G (ad 3 ix) := zP.at 3 ix (by decide) (fun _ => rfl) hl
theorem zl_TOOK (K : zK G X cc own nL ret rm) {ix : Nat} {j : Int32} (hl : zlC σ ix) (i : Nat) (hj : j = nI i) (hi : i < 8) (hd : decode cc pc = .ok (.laload, 1)) (kk : zV G X nL (zP G ad σ) k n (pc + 1) lo (.long (sL σ 1 ix i) :: st)) : zV G X nL (zP G ad σ) k n pc lo (.int j :: .ref (ad 3 ix) :: st) := zi_lald (f := fun j => sL σ 1 ix j) K (fun H h => (zr_TOOK hl H h).1) i hj hi (Nat.le_of_ble_eq_true rfl) hd kk
theorem zn_TOOK (K : zK G X cc own nL ret rm) {ix : Nat} (hl : zlC σ ix) (hd : decode cc pc = .ok (.arraylength, 1)) (kk : zV G X nL (zP G ad σ) k n (pc + 1) lo (.int 8 :: st)) : zV G X nL (zP G ad σ) k n pc lo (.ref (ad 3 ix) :: st) := zi_alen (t0 := 1) (N := 8) K rfl (fun H h => (zr_TOOK hl H h).1) hd kk
theorem zs_TOOK (K : zK G X cc own nL ret rm) {ix : Nat} {j : Int32} {v : Int64} (hl : zlC σ ix) (i : Nat) (hj : j = nI i) (hi : i < 8) (hd : decode cc pc = .ok (.lastore, 1)) (kk : zV G X nL (zP G ad (uL σ 1 ix i v)) k n (pc + 1) lo st) : zV G X nL (zP G ad σ) k n pc lo (.long v :: .int j :: .ref (ad 3 ix) :: st) :=
  zi_last (f := fun j => sL σ 1 ix j) K (zr_TOOK hl) i hj hi (Nat.le_of_ble_eq_true rfl) hd (zP.setL 3 ix (by decide) rfl hl (fun _ => by
    show _ = zqTOOK G (uL σ 1 ix i v) ix
    unfold zqTOOK
    rw [show vp_updL (fun j => sL σ 1 ix j) i v = (fun j => sL (uL σ 1 ix i v) 1 ix j) from funext fun q => by
      by_cases hq : q = i
      · subst hq; exact (if_pos rfl).trans (u3_s _ _ _ _ _).symm
      · exact (if_neg hq).trans (u3_n _ _ (fun z => hq z.2.2)).symm])) kk
theorem zr_EVS {ix : Nat} (hl : zlC σ ix) : ∀ H, zP G ad σ H → va_at G.2.2.1 zCl (ad 4 ix, zqEVS G σ ix) H ∧ gA G (ad 4 ix) := zP.at 4 ix (by decide) (fun _ => rfl) hl
theorem zl_EVS (K : zK G X cc own nL ret rm) {ix : Nat} {j : Int32} (hl : zlC σ ix) (i : Nat) (hj : j = nI i) (hi : i < 8) (hd : decode cc pc = .ok (.iaload, 1)) (kk : zV G X nL (zP G ad σ) k n (pc + 1) lo (.int (sI σ 7 ix i) :: st)) : zV G X nL (zP G ad σ) k n pc lo (.int j :: .ref (ad 4 ix) :: st) := zi_iald (f := fun j => sI σ 7 ix j) K (fun H h => (zr_EVS hl H h).1) i hj hi (Nat.le_of_ble_eq_true rfl) hd kk
theorem zn_EVS (K : zK G X cc own nL ret rm) {ix : Nat} (hl : zlC σ ix) (hd : decode cc pc = .ok (.arraylength, 1)) (kk : zV G X nL (zP G ad σ) k n (pc + 1) lo (.int 8 :: st)) : zV G X nL (zP G ad σ) k n pc lo (.ref (ad 4 ix) :: st) := zi_alen (t0 := 0) (N := 8) K rfl (fun H h => (zr_EVS hl H h).1) hd kk
theorem zs_EVS (K : zK G X cc own nL ret rm) {ix : Nat} {j : Int32} {v : Int32} (hl : zlC σ ix) (i : Nat) (hj : j = nI i) (hi : i < 8) (hd : decode cc pc = .ok (.iastore, 1)) (kk : zV G X nL (zP G ad (uI σ 7 ix i v)) k n (pc + 1) lo st) : zV G X nL (zP G ad σ) k n pc lo (.int v :: .int j :: .ref (ad 4 ix) :: st) :=
  zi_iast (f := fun j => sI σ 7 ix j) K (zr_EVS hl) i hj hi (Nat.le_of_ble_eq_true rfl) hd (zP.setI 4 ix (by decide) rfl hl (fun _ => by
    show _ = zqEVS G (uI σ 7 ix i v) ix
    unfold zqEVS
    rw [show upd (fun j => sI σ 7 ix j) i v = (fun j => sI (uI σ 7 ix i v) 7 ix j) from funext fun q => by
      by_cases hq : q = i
      · subst hq; exact (if_pos rfl).trans (u3_s _ _ _ _ _).symm
      · exact (if_neg hq).trans (u3_n _ _ (fun z => hq z.2.2)).symm])) kk
theorem zr_TR {ix : Nat} (hl : ix < sN σ 2) : ∀ H, zP G ad σ H → va_at G.2.2.1 zCl (ad 5 ix, zqTR ad σ ix) H ∧ gA G (ad 5 ix) := zP.at 5 ix (by decide) (fun _ => rfl) hl
theorem zg_TR_number (K : zK G X cc own nL ret rm) {ix idx : Nat} (hl : ix < sN σ 2) (hw : Cond.fieldLink own idx RX7 "number" "I" ∈ zB) (hd : decode cc pc = .ok (.getfield idx, 3)) (kk : zV G X nL (zP G ad σ) k n (pc + 3) lo (.int (nI ix) :: st)) : zV G X nL (zP G ad σ) k n pc lo (.ref (ad 5 ix) :: st) := zi_get (ci := 7) (C := RX7) (T := TX7) (N := 15) (f := 0) K rfl inX7 (fun H h => (zr_TR hl H h).1) (Nat.le_of_ble_eq_true rfl) hw (fun _ h => h) hd rfl kk
theorem zg_TR_kind (K : zK G X cc own nL ret rm) {ix idx : Nat} (hl : ix < sN σ 2) (hw : Cond.fieldLink own idx RX7 "kind" "C" ∈ zB) (hd : decode cc pc = .ok (.getfield idx, 3)) (kk : zV G X nL (zP G ad σ) k n (pc + 3) lo (.int (sI σ 8 ix 0) :: st)) : zV G X nL (zP G ad σ) k n pc lo (.ref (ad 5 ix) :: st) := zi_get (ci := 7) (C := RX7) (T := TX7) (N := 15) (f := 1) K rfl inX7 (fun H h => (zr_TR hl H h).1) (Nat.le_of_ble_eq_true rfl) hw (fun _ h => h) hd rfl kk
theorem zg_TR_basis (K : zK G X cc own nL ret rm) {ix idx : Nat} (hl : ix < sN σ 2) (hw : Cond.fieldLink own idx RX7 "basis" "C" ∈ zB) (hd : decode cc pc = .ok (.getfield idx, 3)) (kk : zV G X nL (zP G ad σ) k n (pc + 3) lo (.int (sI σ 9 ix 0) :: st)) : zV G X nL (zP G ad σ) k n pc lo (.ref (ad 5 ix) :: st) := zi_get (ci := 7) (C := RX7) (T := TX7) (N := 15) (f := 2) K rfl inX7 (fun H h => (zr_TR hl H h).1) (Nat.le_of_ble_eq_true rfl) hw (fun _ h => h) hd rfl kk
theorem zg_TR_first (K : zK G X cc own nL ret rm) {ix idx : Nat} (hl : ix < sN σ 2) (hw : Cond.fieldLink own idx RX7 "first" "I" ∈ zB) (hd : decode cc pc = .ok (.getfield idx, 3)) (kk : zV G X nL (zP G ad σ) k n (pc + 3) lo (.int (sI σ 10 ix 0) :: st)) : zV G X nL (zP G ad σ) k n pc lo (.ref (ad 5 ix) :: st) := zi_get (ci := 7) (C := RX7) (T := TX7) (N := 15) (f := 3) K rfl inX7 (fun H h => (zr_TR hl H h).1) (Nat.le_of_ble_eq_true rfl) hw (fun _ h => h) hd rfl kk
theorem zg_TR_last (K : zK G X cc own nL ret rm) {ix idx : Nat} (hl : ix < sN σ 2) (hw : Cond.fieldLink own idx RX7 "last" "I" ∈ zB) (hd : decode cc pc = .ok (.getfield idx, 3)) (kk : zV G X nL (zP G ad σ) k n (pc + 3) lo (.int (sI σ 11 ix 0) :: st)) : zV G X nL (zP G ad σ) k n pc lo (.ref (ad 5 ix) :: st) := zi_get (ci := 7) (C := RX7) (T := TX7) (N := 15) (f := 4) K rfl inX7 (fun H h => (zr_TR hl H h).1) (Nat.le_of_ble_eq_true rfl) hw (fun _ h => h) hd rfl kk
theorem zg_TR_a (K : zK G X cc own nL ret rm) {ix idx : Nat} (hl : ix < sN σ 2) (hw : Cond.fieldLink own idx RX7 "a" "I" ∈ zB) (hd : decode cc pc = .ok (.getfield idx, 3)) (kk : zV G X nL (zP G ad σ) k n (pc + 3) lo (.int (sI σ 12 ix 0) :: st)) : zV G X nL (zP G ad σ) k n pc lo (.ref (ad 5 ix) :: st) := zi_get (ci := 7) (C := RX7) (T := TX7) (N := 15) (f := 5) K rfl inX7 (fun H h => (zr_TR hl H h).1) (Nat.le_of_ble_eq_true rfl) hw (fun _ h => h) hd rfl kk
theorem zg_TR_b (K : zK G X cc own nL ret rm) {ix idx : Nat} (hl : ix < sN σ 2) (hw : Cond.fieldLink own idx RX7 "b" "I" ∈ zB) (hd : decode cc pc = .ok (.getfield idx, 3)) (kk : zV G X nL (zP G ad σ) k n (pc + 3) lo (.int (sI σ 13 ix 0) :: st)) : zV G X nL (zP G ad σ) k n pc lo (.ref (ad 5 ix) :: st) := zi_get (ci := 7) (C := RX7) (T := TX7) (N := 15) (f := 6) K rfl inX7 (fun H h => (zr_TR hl H h).1) (Nat.le_of_ble_eq_true rfl) hw (fun _ h => h) hd rfl kk
theorem zg_TR_shares (K : zK G X cc own nL ret rm) {ix idx : Nat} (hl : ix < sN σ 2) (hw : Cond.fieldLink own idx RX7 "shares" "[I" ∈ zB) (hd : decode cc pc = .ok (.getfield idx, 3)) (kk : zV G X nL (zP G ad σ) k n (pc + 3) lo (.ref (ad 6 ix) :: st)) : zV G X nL (zP G ad σ) k n pc lo (.ref (ad 5 ix) :: st) := zi_get (ci := 7) (C := RX7) (T := TX7) (N := 15) (f := 7) K rfl inX7 (fun H h => (zr_TR hl H h).1) (Nat.le_of_ble_eq_true rfl) hw (fun _ h => h) hd rfl kk
theorem zg_TR_days (K : zK G X cc own nL ret rm) {ix idx : Nat} (hl : ix < sN σ 2) (hw : Cond.fieldLink own idx RX7 "days" "I" ∈ zB) (hd : decode cc pc = .ok (.getfield idx, 3)) (kk : zV G X nL (zP G ad σ) k n (pc + 3) lo (.int (sI σ 14 ix 0) :: st)) : zV G X nL (zP G ad σ) k n pc lo (.ref (ad 5 ix) :: st) := zi_get (ci := 7) (C := RX7) (T := TX7) (N := 15) (f := 8) K rfl inX7 (fun H h => (zr_TR hl H h).1) (Nat.le_of_ble_eq_true rfl) hw (fun _ h => h) hd rfl kk
theorem zp_TR_days (K : zK G X cc own nL ret rm) {ix idx : Nat} {v : Int32} (hl : ix < sN σ 2) (hw : Cond.fieldLink own idx RX7 "days" "I" ∈ zB) (hd : decode cc pc = .ok (.putfield idx, 3)) (kk : zV G X nL (zP G ad (uI σ 14 ix 0 v)) k n (pc + 3) lo st) : zV G X nL (zP G ad σ) k n pc lo (.int v :: .ref (ad 5 ix) :: st) :=
  zi_put (ci := 7) (C := RX7) (T := TX7) (N := 15) (f := 8) (ty := .int) K rfl inX7 tyX7 tyX7_ok nmX7 (zr_TR hl) (Nat.le_of_ble_eq_true rfl) hw (fun _ h => h) rfl (by decide +kernel) rfl rfl (Nat.le_of_ble_eq_true rfl) hd (zP.setI 5 ix (by decide) rfl hl (fun _ => by
    show _ = zqTR ad (uI σ 14 ix 0 v) ix
    show (.inr (7, [.int (nI ix), .int (sI σ 8 ix 0), .int (sI σ 9 ix 0), .int (sI σ 10 ix 0), .int (sI σ 11 ix 0), .int (sI σ 12 ix 0), .int (sI σ 13 ix 0), .ref (ad 6 ix), .int v, .int (sI σ 15 ix 0), .int (sI σ 16 ix 0), .int (sI σ 17 ix 0), .int (sI σ 18 ix 0), .int (sI σ 19 ix 0), .int (sI σ 20 ix 0)]) : va_E) = _
    unfold zqTR
    rw [show sI (uI σ 14 ix 0 v) 14 ix 0 = v from u3_s _ _ _ _ _]
    all_goals rfl)) kk
theorem zg_TR_many (K : zK G X cc own nL ret rm) {ix idx : Nat} (hl : ix < sN σ 2) (hw : Cond.fieldLink own idx RX7 "many" "I" ∈ zB) (hd : decode cc pc = .ok (.getfield idx, 3)) (kk : zV G X nL (zP G ad σ) k n (pc + 3) lo (.int (sI σ 15 ix 0) :: st)) : zV G X nL (zP G ad σ) k n pc lo (.ref (ad 5 ix) :: st) := zi_get (ci := 7) (C := RX7) (T := TX7) (N := 15) (f := 9) K rfl inX7 (fun H h => (zr_TR hl H h).1) (Nat.le_of_ble_eq_true rfl) hw (fun _ h => h) hd rfl kk
theorem zp_TR_many (K : zK G X cc own nL ret rm) {ix idx : Nat} {v : Int32} (hl : ix < sN σ 2) (hw : Cond.fieldLink own idx RX7 "many" "I" ∈ zB) (hd : decode cc pc = .ok (.putfield idx, 3)) (kk : zV G X nL (zP G ad (uI σ 15 ix 0 v)) k n (pc + 3) lo st) : zV G X nL (zP G ad σ) k n pc lo (.int v :: .ref (ad 5 ix) :: st) :=
  zi_put (ci := 7) (C := RX7) (T := TX7) (N := 15) (f := 9) (ty := .int) K rfl inX7 tyX7 tyX7_ok nmX7 (zr_TR hl) (Nat.le_of_ble_eq_true rfl) hw (fun _ h => h) rfl (by decide +kernel) rfl rfl (Nat.le_of_ble_eq_true rfl) hd (zP.setI 5 ix (by decide) rfl hl (fun _ => by
    show _ = zqTR ad (uI σ 15 ix 0 v) ix
    show (.inr (7, [.int (nI ix), .int (sI σ 8 ix 0), .int (sI σ 9 ix 0), .int (sI σ 10 ix 0), .int (sI σ 11 ix 0), .int (sI σ 12 ix 0), .int (sI σ 13 ix 0), .ref (ad 6 ix), .int (sI σ 14 ix 0), .int v, .int (sI σ 16 ix 0), .int (sI σ 17 ix 0), .int (sI σ 18 ix 0), .int (sI σ 19 ix 0), .int (sI σ 20 ix 0)]) : va_E) = _
    unfold zqTR
    rw [show sI (uI σ 15 ix 0 v) 15 ix 0 = v from u3_s _ _ _ _ _]
    all_goals rfl)) kk
theorem zg_TR_price (K : zK G X cc own nL ret rm) {ix idx : Nat} (hl : ix < sN σ 2) (hw : Cond.fieldLink own idx RX7 "price" "I" ∈ zB) (hd : decode cc pc = .ok (.getfield idx, 3)) (kk : zV G X nL (zP G ad σ) k n (pc + 3) lo (.int (sI σ 16 ix 0) :: st)) : zV G X nL (zP G ad σ) k n pc lo (.ref (ad 5 ix) :: st) := zi_get (ci := 7) (C := RX7) (T := TX7) (N := 15) (f := 10) K rfl inX7 (fun H h => (zr_TR hl H h).1) (Nat.le_of_ble_eq_true rfl) hw (fun _ h => h) hd rfl kk
theorem zp_TR_price (K : zK G X cc own nL ret rm) {ix idx : Nat} {v : Int32} (hl : ix < sN σ 2) (hw : Cond.fieldLink own idx RX7 "price" "I" ∈ zB) (hd : decode cc pc = .ok (.putfield idx, 3)) (kk : zV G X nL (zP G ad (uI σ 16 ix 0 v)) k n (pc + 3) lo st) : zV G X nL (zP G ad σ) k n pc lo (.int v :: .ref (ad 5 ix) :: st) :=
  zi_put (ci := 7) (C := RX7) (T := TX7) (N := 15) (f := 10) (ty := .int) K rfl inX7 tyX7 tyX7_ok nmX7 (zr_TR hl) (Nat.le_of_ble_eq_true rfl) hw (fun _ h => h) rfl (by decide +kernel) rfl rfl (Nat.le_of_ble_eq_true rfl) hd (zP.setI 5 ix (by decide) rfl hl (fun _ => by
    show _ = zqTR ad (uI σ 16 ix 0 v) ix
    show (.inr (7, [.int (nI ix), .int (sI σ 8 ix 0), .int (sI σ 9 ix 0), .int (sI σ 10 ix 0), .int (sI σ 11 ix 0), .int (sI σ 12 ix 0), .int (sI σ 13 ix 0), .ref (ad 6 ix), .int (sI σ 14 ix 0), .int (sI σ 15 ix 0), .int v, .int (sI σ 17 ix 0), .int (sI σ 18 ix 0), .int (sI σ 19 ix 0), .int (sI σ 20 ix 0)]) : va_E) = _
    unfold zqTR
    rw [show sI (uI σ 16 ix 0 v) 16 ix 0 = v from u3_s _ _ _ _ _]
    all_goals rfl)) kk
theorem zg_TR_isByTime (K : zK G X cc own nL ret rm) {ix idx : Nat} (hl : ix < sN σ 2) (hw : Cond.fieldLink own idx RX7 "isByTime" "Z" ∈ zB) (hd : decode cc pc = .ok (.getfield idx, 3)) (kk : zV G X nL (zP G ad σ) k n (pc + 3) lo (.int (sI σ 17 ix 0) :: st)) : zV G X nL (zP G ad σ) k n pc lo (.ref (ad 5 ix) :: st) := zi_get (ci := 7) (C := RX7) (T := TX7) (N := 15) (f := 11) K rfl inX7 (fun H h => (zr_TR hl H h).1) (Nat.le_of_ble_eq_true rfl) hw (fun _ h => h) hd rfl kk
theorem zp_TR_isByTime (K : zK G X cc own nL ret rm) {ix idx : Nat} {v : Int32} (hl : ix < sN σ 2) (hw : Cond.fieldLink own idx RX7 "isByTime" "Z" ∈ zB) (hz : narrow .boolean (.int v) = .int v ∧ fits .boolean (.int v) = true) (hd : decode cc pc = .ok (.putfield idx, 3)) (kk : zV G X nL (zP G ad (uI σ 17 ix 0 v)) k n (pc + 3) lo st) : zV G X nL (zP G ad σ) k n pc lo (.int v :: .ref (ad 5 ix) :: st) :=
  zi_put (ci := 7) (C := RX7) (T := TX7) (N := 15) (f := 11) (ty := .boolean) K rfl inX7 tyX7 tyX7_ok nmX7 (zr_TR hl) (Nat.le_of_ble_eq_true rfl) hw (fun _ h => h) rfl (by decide +kernel) hz.1 hz.2 (Nat.le_of_ble_eq_true rfl) hd (zP.setI 5 ix (by decide) rfl hl (fun _ => by
    show _ = zqTR ad (uI σ 17 ix 0 v) ix
    show (.inr (7, [.int (nI ix), .int (sI σ 8 ix 0), .int (sI σ 9 ix 0), .int (sI σ 10 ix 0), .int (sI σ 11 ix 0), .int (sI σ 12 ix 0), .int (sI σ 13 ix 0), .ref (ad 6 ix), .int (sI σ 14 ix 0), .int (sI σ 15 ix 0), .int (sI σ 16 ix 0), .int v, .int (sI σ 18 ix 0), .int (sI σ 19 ix 0), .int (sI σ 20 ix 0)]) : va_E) = _
    unfold zqTR
    rw [show sI (uI σ 17 ix 0 v) 17 ix 0 = v from u3_s _ _ _ _ _]
    all_goals rfl)) kk
theorem zg_TR_premium (K : zK G X cc own nL ret rm) {ix idx : Nat} (hl : ix < sN σ 2) (hw : Cond.fieldLink own idx RX7 "premium" "I" ∈ zB) (hd : decode cc pc = .ok (.getfield idx, 3)) (kk : zV G X nL (zP G ad σ) k n (pc + 3) lo (.int (sI σ 18 ix 0) :: st)) : zV G X nL (zP G ad σ) k n pc lo (.ref (ad 5 ix) :: st) := zi_get (ci := 7) (C := RX7) (T := TX7) (N := 15) (f := 12) K rfl inX7 (fun H h => (zr_TR hl H h).1) (Nat.le_of_ble_eq_true rfl) hw (fun _ h => h) hd rfl kk
theorem zp_TR_premium (K : zK G X cc own nL ret rm) {ix idx : Nat} {v : Int32} (hl : ix < sN σ 2) (hw : Cond.fieldLink own idx RX7 "premium" "I" ∈ zB) (hd : decode cc pc = .ok (.putfield idx, 3)) (kk : zV G X nL (zP G ad (uI σ 18 ix 0 v)) k n (pc + 3) lo st) : zV G X nL (zP G ad σ) k n pc lo (.int v :: .ref (ad 5 ix) :: st) :=
  zi_put (ci := 7) (C := RX7) (T := TX7) (N := 15) (f := 12) (ty := .int) K rfl inX7 tyX7 tyX7_ok nmX7 (zr_TR hl) (Nat.le_of_ble_eq_true rfl) hw (fun _ h => h) rfl (by decide +kernel) rfl rfl (Nat.le_of_ble_eq_true rfl) hd (zP.setI 5 ix (by decide) rfl hl (fun _ => by
    show _ = zqTR ad (uI σ 18 ix 0 v) ix
    show (.inr (7, [.int (nI ix), .int (sI σ 8 ix 0), .int (sI σ 9 ix 0), .int (sI σ 10 ix 0), .int (sI σ 11 ix 0), .int (sI σ 12 ix 0), .int (sI σ 13 ix 0), .ref (ad 6 ix), .int (sI σ 14 ix 0), .int (sI σ 15 ix 0), .int (sI σ 16 ix 0), .int (sI σ 17 ix 0), .int v, .int (sI σ 19 ix 0), .int (sI σ 20 ix 0)]) : va_E) = _
    unfold zqTR
    rw [show sI (uI σ 18 ix 0 v) 18 ix 0 = v from u3_s _ _ _ _ _]
    all_goals rfl)) kk
theorem zg_TR_isCommuted (K : zK G X cc own nL ret rm) {ix idx : Nat} (hl : ix < sN σ 2) (hw : Cond.fieldLink own idx RX7 "isCommuted" "Z" ∈ zB) (hd : decode cc pc = .ok (.getfield idx, 3)) (kk : zV G X nL (zP G ad σ) k n (pc + 3) lo (.int (sI σ 19 ix 0) :: st)) : zV G X nL (zP G ad σ) k n pc lo (.ref (ad 5 ix) :: st) := zi_get (ci := 7) (C := RX7) (T := TX7) (N := 15) (f := 13) K rfl inX7 (fun H h => (zr_TR hl H h).1) (Nat.le_of_ble_eq_true rfl) hw (fun _ h => h) hd rfl kk
theorem zp_TR_isCommuted (K : zK G X cc own nL ret rm) {ix idx : Nat} {v : Int32} (hl : ix < sN σ 2) (hw : Cond.fieldLink own idx RX7 "isCommuted" "Z" ∈ zB) (hz : narrow .boolean (.int v) = .int v ∧ fits .boolean (.int v) = true) (hd : decode cc pc = .ok (.putfield idx, 3)) (kk : zV G X nL (zP G ad (uI σ 19 ix 0 v)) k n (pc + 3) lo st) : zV G X nL (zP G ad σ) k n pc lo (.int v :: .ref (ad 5 ix) :: st) :=
  zi_put (ci := 7) (C := RX7) (T := TX7) (N := 15) (f := 13) (ty := .boolean) K rfl inX7 tyX7 tyX7_ok nmX7 (zr_TR hl) (Nat.le_of_ble_eq_true rfl) hw (fun _ h => h) rfl (by decide +kernel) hz.1 hz.2 (Nat.le_of_ble_eq_true rfl) hd (zP.setI 5 ix (by decide) rfl hl (fun _ => by
    show _ = zqTR ad (uI σ 19 ix 0 v) ix
    show (.inr (7, [.int (nI ix), .int (sI σ 8 ix 0), .int (sI σ 9 ix 0), .int (sI σ 10 ix 0), .int (sI σ 11 ix 0), .int (sI σ 12 ix 0), .int (sI σ 13 ix 0), .ref (ad 6 ix), .int (sI σ 14 ix 0), .int (sI σ 15 ix 0), .int (sI σ 16 ix 0), .int (sI σ 17 ix 0), .int (sI σ 18 ix 0), .int v, .int (sI σ 20 ix 0)]) : va_E) = _
    unfold zqTR
    rw [show sI (uI σ 19 ix 0 v) 19 ix 0 = v from u3_s _ _ _ _ _]
    all_goals rfl)) kk
theorem zg_TR_commutedFor (K : zK G X cc own nL ret rm) {ix idx : Nat} (hl : ix < sN σ 2) (hw : Cond.fieldLink own idx RX7 "commutedFor" "I" ∈ zB) (hd : decode cc pc = .ok (.getfield idx, 3)) (kk : zV G X nL (zP G ad σ) k n (pc + 3) lo (.int (sI σ 20 ix 0) :: st)) : zV G X nL (zP G ad σ) k n pc lo (.ref (ad 5 ix) :: st) := zi_get (ci := 7) (C := RX7) (T := TX7) (N := 15) (f := 14) K rfl inX7 (fun H h => (zr_TR hl H h).1) (Nat.le_of_ble_eq_true rfl) hw (fun _ h => h) hd rfl kk
theorem zp_TR_commutedFor (K : zK G X cc own nL ret rm) {ix idx : Nat} {v : Int32} (hl : ix < sN σ 2) (hw : Cond.fieldLink own idx RX7 "commutedFor" "I" ∈ zB) (hd : decode cc pc = .ok (.putfield idx, 3)) (kk : zV G X nL (zP G ad (uI σ 20 ix 0 v)) k n (pc + 3) lo st) : zV G X nL (zP G ad σ) k n pc lo (.int v :: .ref (ad 5 ix) :: st) :=
  zi_put (ci := 7) (C := RX7) (T := TX7) (N := 15) (f := 14) (ty := .int) K rfl inX7 tyX7 tyX7_ok nmX7 (zr_TR hl) (Nat.le_of_ble_eq_true rfl) hw (fun _ h => h) rfl (by decide +kernel) rfl rfl (Nat.le_of_ble_eq_true rfl) hd (zP.setI 5 ix (by decide) rfl hl (fun _ => by
    show _ = zqTR ad (uI σ 20 ix 0 v) ix
    show (.inr (7, [.int (nI ix), .int (sI σ 8 ix 0), .int (sI σ 9 ix 0), .int (sI σ 10 ix 0), .int (sI σ 11 ix 0), .int (sI σ 12 ix 0), .int (sI σ 13 ix 0), .ref (ad 6 ix), .int (sI σ 14 ix 0), .int (sI σ 15 ix 0), .int (sI σ 16 ix 0), .int (sI σ 17 ix 0), .int (sI σ 18 ix 0), .int (sI σ 19 ix 0), .int v]) : va_E) = _
    unfold zqTR
    rw [show sI (uI σ 20 ix 0 v) 20 ix 0 = v from u3_s _ _ _ _ _]
    all_goals rfl)) kk
theorem zr_SHR {ix : Nat} (hl : ix < sN σ 2) : ∀ H, zP G ad σ H → va_at G.2.2.1 zCl (ad 6 ix, zqSHR G σ ix) H ∧ gA G (ad 6 ix) := zP.at 6 ix (by decide) (fun _ => rfl) hl
theorem zl_SHR (K : zK G X cc own nL ret rm) {ix : Nat} {j : Int32} (hl : ix < sN σ 2) (i : Nat) (hj : j = nI i) (hi : i < 5) (hd : decode cc pc = .ok (.iaload, 1)) (kk : zV G X nL (zP G ad σ) k n (pc + 1) lo (.int (sI σ 21 ix i) :: st)) : zV G X nL (zP G ad σ) k n pc lo (.int j :: .ref (ad 6 ix) :: st) := zi_iald (f := fun j => sI σ 21 ix j) K (fun H h => (zr_SHR hl H h).1) i hj hi (Nat.le_of_ble_eq_true rfl) hd kk
theorem zn_SHR (K : zK G X cc own nL ret rm) {ix : Nat} (hl : ix < sN σ 2) (hd : decode cc pc = .ok (.arraylength, 1)) (kk : zV G X nL (zP G ad σ) k n (pc + 1) lo (.int 5 :: st)) : zV G X nL (zP G ad σ) k n pc lo (.ref (ad 6 ix) :: st) := zi_alen (t0 := 0) (N := 5) K rfl (fun H h => (zr_SHR hl H h).1) hd kk
theorem zs_SHR (K : zK G X cc own nL ret rm) {ix : Nat} {j : Int32} {v : Int32} (hl : ix < sN σ 2) (i : Nat) (hj : j = nI i) (hi : i < 5) (hd : decode cc pc = .ok (.iastore, 1)) (kk : zV G X nL (zP G ad (uI σ 21 ix i v)) k n (pc + 1) lo st) : zV G X nL (zP G ad σ) k n pc lo (.int v :: .int j :: .ref (ad 6 ix) :: st) :=
  zi_iast (f := fun j => sI σ 21 ix j) K (zr_SHR hl) i hj hi (Nat.le_of_ble_eq_true rfl) hd (zP.setI 6 ix (by decide) rfl hl (fun _ => by
    show _ = zqSHR G (uI σ 21 ix i v) ix
    unfold zqSHR
    rw [show upd (fun j => sI σ 21 ix j) i v = (fun j => sI (uI σ 21 ix i v) 21 ix j) from funext fun q => by
      by_cases hq : q = i
      · subst hq; exact (if_pos rfl).trans (u3_s _ _ _ _ _).symm
      · exact (if_neg hq).trans (u3_n _ _ (fun z => hq z.2.2)).symm])) kk
theorem zr_COV {ix : Nat} (hl : zlV σ ix) : ∀ H, zP G ad σ H → va_at G.2.2.1 zCl (ad 7 ix, zqCOV ad σ ix) H ∧ gA G (ad 7 ix) := zP.at 7 ix (by decide) (fun _ => rfl) hl
theorem zg_COV_treaty (K : zK G X cc own nL ret rm) {ix idx : Nat} (hl : zlV σ ix) (hw : Cond.fieldLink own idx RX1 "treaty" "LLayertreaty$Treaty;" ∈ zB) (hd : decode cc pc = .ok (.getfield idx, 3)) (kk : zV G X nL (zP G ad σ) k n (pc + 3) lo (.ref (ad 5 (ix % 8)) :: st)) : zV G X nL (zP G ad σ) k n pc lo (.ref (ad 7 ix) :: st) := zi_get (ci := 1) (C := RX1) (T := TX1) (N := 6) (f := 0) K rfl inX1 (fun H h => (zr_COV hl H h).1) (Nat.le_of_ble_eq_true rfl) hw (fun _ h => h) hd rfl kk
theorem zg_COV_events (K : zK G X cc own nL ret rm) {ix idx : Nat} (hl : zlV σ ix) (hw : Cond.fieldLink own idx RX1 "events" "[I" ∈ zB) (hd : decode cc pc = .ok (.getfield idx, 3)) (kk : zV G X nL (zP G ad σ) k n (pc + 3) lo (.ref (ad 8 ix) :: st)) : zV G X nL (zP G ad σ) k n pc lo (.ref (ad 7 ix) :: st) := zi_get (ci := 1) (C := RX1) (T := TX1) (N := 6) (f := 1) K rfl inX1 (fun H h => (zr_COV hl H h).1) (Nat.le_of_ble_eq_true rfl) hw (fun _ h => h) hd rfl kk
theorem zg_COV_limitLeft (K : zK G X cc own nL ret rm) {ix idx : Nat} (hl : zlV σ ix) (hw : Cond.fieldLink own idx RX1 "limitLeft" "J" ∈ zB) (hd : decode cc pc = .ok (.getfield idx, 3)) (kk : zV G X nL (zP G ad σ) k n (pc + 3) lo (.long (sL σ 2 ix 0) :: st)) : zV G X nL (zP G ad σ) k n pc lo (.ref (ad 7 ix) :: st) := zi_get (ci := 1) (C := RX1) (T := TX1) (N := 6) (f := 2) K rfl inX1 (fun H h => (zr_COV hl H h).1) (Nat.le_of_ble_eq_true rfl) hw (fun _ h => h) hd rfl kk
theorem zp_COV_limitLeft (K : zK G X cc own nL ret rm) {ix idx : Nat} {v : Int64} (hl : zlV σ ix) (hw : Cond.fieldLink own idx RX1 "limitLeft" "J" ∈ zB) (hd : decode cc pc = .ok (.putfield idx, 3)) (kk : zV G X nL (zP G ad (uL σ 2 ix 0 v)) k n (pc + 3) lo st) : zV G X nL (zP G ad σ) k n pc lo (.long v :: .ref (ad 7 ix) :: st) :=
  zi_put (ci := 1) (C := RX1) (T := TX1) (N := 6) (f := 2) (ty := .long) K rfl inX1 tyX1 tyX1_ok nmX1 (zr_COV hl) (Nat.le_of_ble_eq_true rfl) hw (fun _ h => h) rfl (by decide +kernel) rfl rfl (Nat.le_of_ble_eq_true rfl) hd (zP.setL 7 ix (by decide) rfl hl (fun _ => by
    show _ = zqCOV ad (uL σ 2 ix 0 v) ix
    show (.inr (1, [.ref (ad 5 (ix % 8)), .ref (ad 8 ix), .long v, .long (sL σ 3 ix 0), .long (sL σ 4 ix 0), .long (sL σ 5 ix 0)]) : va_E) = _
    unfold zqCOV
    rw [show sL (uL σ 2 ix 0 v) 2 ix 0 = v from u3_s _ _ _ _ _]
    all_goals rfl)) kk
theorem zg_COV_taken (K : zK G X cc own nL ret rm) {ix idx : Nat} (hl : zlV σ ix) (hw : Cond.fieldLink own idx RX1 "taken" "J" ∈ zB) (hd : decode cc pc = .ok (.getfield idx, 3)) (kk : zV G X nL (zP G ad σ) k n (pc + 3) lo (.long (sL σ 3 ix 0) :: st)) : zV G X nL (zP G ad σ) k n pc lo (.ref (ad 7 ix) :: st) := zi_get (ci := 1) (C := RX1) (T := TX1) (N := 6) (f := 3) K rfl inX1 (fun H h => (zr_COV hl H h).1) (Nat.le_of_ble_eq_true rfl) hw (fun _ h => h) hd rfl kk
theorem zp_COV_taken (K : zK G X cc own nL ret rm) {ix idx : Nat} {v : Int64} (hl : zlV σ ix) (hw : Cond.fieldLink own idx RX1 "taken" "J" ∈ zB) (hd : decode cc pc = .ok (.putfield idx, 3)) (kk : zV G X nL (zP G ad (uL σ 3 ix 0 v)) k n (pc + 3) lo st) : zV G X nL (zP G ad σ) k n pc lo (.long v :: .ref (ad 7 ix) :: st) :=
  zi_put (ci := 1) (C := RX1) (T := TX1) (N := 6) (f := 3) (ty := .long) K rfl inX1 tyX1 tyX1_ok nmX1 (zr_COV hl) (Nat.le_of_ble_eq_true rfl) hw (fun _ h => h) rfl (by decide +kernel) rfl rfl (Nat.le_of_ble_eq_true rfl) hd (zP.setL 7 ix (by decide) rfl hl (fun _ => by
    show _ = zqCOV ad (uL σ 3 ix 0 v) ix
    show (.inr (1, [.ref (ad 5 (ix % 8)), .ref (ad 8 ix), .long (sL σ 2 ix 0), .long v, .long (sL σ 4 ix 0), .long (sL σ 5 ix 0)]) : va_E) = _
    unfold zqCOV
    rw [show sL (uL σ 3 ix 0 v) 3 ix 0 = v from u3_s _ _ _ _ _]
    all_goals rfl)) kk
theorem zg_COV_reinstated (K : zK G X cc own nL ret rm) {ix idx : Nat} (hl : zlV σ ix) (hw : Cond.fieldLink own idx RX1 "reinstated" "J" ∈ zB) (hd : decode cc pc = .ok (.getfield idx, 3)) (kk : zV G X nL (zP G ad σ) k n (pc + 3) lo (.long (sL σ 4 ix 0) :: st)) : zV G X nL (zP G ad σ) k n pc lo (.ref (ad 7 ix) :: st) := zi_get (ci := 1) (C := RX1) (T := TX1) (N := 6) (f := 4) K rfl inX1 (fun H h => (zr_COV hl H h).1) (Nat.le_of_ble_eq_true rfl) hw (fun _ h => h) hd rfl kk
theorem zp_COV_reinstated (K : zK G X cc own nL ret rm) {ix idx : Nat} {v : Int64} (hl : zlV σ ix) (hw : Cond.fieldLink own idx RX1 "reinstated" "J" ∈ zB) (hd : decode cc pc = .ok (.putfield idx, 3)) (kk : zV G X nL (zP G ad (uL σ 4 ix 0 v)) k n (pc + 3) lo st) : zV G X nL (zP G ad σ) k n pc lo (.long v :: .ref (ad 7 ix) :: st) :=
  zi_put (ci := 1) (C := RX1) (T := TX1) (N := 6) (f := 4) (ty := .long) K rfl inX1 tyX1 tyX1_ok nmX1 (zr_COV hl) (Nat.le_of_ble_eq_true rfl) hw (fun _ h => h) rfl (by decide +kernel) rfl rfl (Nat.le_of_ble_eq_true rfl) hd (zP.setL 7 ix (by decide) rfl hl (fun _ => by
    show _ = zqCOV ad (uL σ 4 ix 0 v) ix
    show (.inr (1, [.ref (ad 5 (ix % 8)), .ref (ad 8 ix), .long (sL σ 2 ix 0), .long (sL σ 3 ix 0), .long v, .long (sL σ 5 ix 0)]) : va_E) = _
    unfold zqCOV
    rw [show sL (uL σ 4 ix 0 v) 4 ix 0 = v from u3_s _ _ _ _ _]
    all_goals rfl)) kk
theorem zg_COV_owed (K : zK G X cc own nL ret rm) {ix idx : Nat} (hl : zlV σ ix) (hw : Cond.fieldLink own idx RX1 "owed" "J" ∈ zB) (hd : decode cc pc = .ok (.getfield idx, 3)) (kk : zV G X nL (zP G ad σ) k n (pc + 3) lo (.long (sL σ 5 ix 0) :: st)) : zV G X nL (zP G ad σ) k n pc lo (.ref (ad 7 ix) :: st) := zi_get (ci := 1) (C := RX1) (T := TX1) (N := 6) (f := 5) K rfl inX1 (fun H h => (zr_COV hl H h).1) (Nat.le_of_ble_eq_true rfl) hw (fun _ h => h) hd rfl kk
theorem zp_COV_owed (K : zK G X cc own nL ret rm) {ix idx : Nat} {v : Int64} (hl : zlV σ ix) (hw : Cond.fieldLink own idx RX1 "owed" "J" ∈ zB) (hd : decode cc pc = .ok (.putfield idx, 3)) (kk : zV G X nL (zP G ad (uL σ 5 ix 0 v)) k n (pc + 3) lo st) : zV G X nL (zP G ad σ) k n pc lo (.long v :: .ref (ad 7 ix) :: st) :=
  zi_put (ci := 1) (C := RX1) (T := TX1) (N := 6) (f := 5) (ty := .long) K rfl inX1 tyX1 tyX1_ok nmX1 (zr_COV hl) (Nat.le_of_ble_eq_true rfl) hw (fun _ h => h) rfl (by decide +kernel) rfl rfl (Nat.le_of_ble_eq_true rfl) hd (zP.setL 7 ix (by decide) rfl hl (fun _ => by
    show _ = zqCOV ad (uL σ 5 ix 0 v) ix
    show (.inr (1, [.ref (ad 5 (ix % 8)), .ref (ad 8 ix), .long (sL σ 2 ix 0), .long (sL σ 3 ix 0), .long (sL σ 4 ix 0), .long v]) : va_E) = _
    unfold zqCOV
    rw [show sL (uL σ 5 ix 0 v) 5 ix 0 = v from u3_s _ _ _ _ _]
    all_goals rfl)) kk
theorem zr_CEV {ix : Nat} (hl : zlV σ ix) : ∀ H, zP G ad σ H → va_at G.2.2.1 zCl (ad 8 ix, zqCEV G σ ix) H ∧ gA G (ad 8 ix) := zP.at 8 ix (by decide) (fun _ => rfl) hl
theorem zl_CEV (K : zK G X cc own nL ret rm) {ix : Nat} {j : Int32} (hl : zlV σ ix) (i : Nat) (hj : j = nI i) (hi : i < 4) (hd : decode cc pc = .ok (.iaload, 1)) (kk : zV G X nL (zP G ad σ) k n (pc + 1) lo (.int (sI σ 22 ix i) :: st)) : zV G X nL (zP G ad σ) k n pc lo (.int j :: .ref (ad 8 ix) :: st) := zi_iald (f := fun j => sI σ 22 ix j) K (fun H h => (zr_CEV hl H h).1) i hj hi (Nat.le_of_ble_eq_true rfl) hd kk
theorem zn_CEV (K : zK G X cc own nL ret rm) {ix : Nat} (hl : zlV σ ix) (hd : decode cc pc = .ok (.arraylength, 1)) (kk : zV G X nL (zP G ad σ) k n (pc + 1) lo (.int 4 :: st)) : zV G X nL (zP G ad σ) k n pc lo (.ref (ad 8 ix) :: st) := zi_alen (t0 := 0) (N := 4) K rfl (fun H h => (zr_CEV hl H h).1) hd kk
theorem zs_CEV (K : zK G X cc own nL ret rm) {ix : Nat} {j : Int32} {v : Int32} (hl : zlV σ ix) (i : Nat) (hj : j = nI i) (hi : i < 4) (hd : decode cc pc = .ok (.iastore, 1)) (kk : zV G X nL (zP G ad (uI σ 22 ix i v)) k n (pc + 1) lo st) : zV G X nL (zP G ad σ) k n pc lo (.int v :: .int j :: .ref (ad 8 ix) :: st) :=
  zi_iast (f := fun j => sI σ 22 ix j) K (zr_CEV hl) i hj hi (Nat.le_of_ble_eq_true rfl) hd (zP.setI 8 ix (by decide) rfl hl (fun _ => by
    show _ = zqCEV G (uI σ 22 ix i v) ix
    unfold zqCEV
    rw [show upd (fun j => sI σ 22 ix j) i v = (fun j => sI (uI σ 22 ix i v) 22 ix j) from funext fun q => by
      by_cases hq : q = i
      · subst hq; exact (if_pos rfl).trans (u3_s _ _ _ _ _).symm
      · exact (if_neg hq).trans (u3_n _ _ (fun z => hq z.2.2)).symm])) kk
theorem zr_SC {ix : Nat} (hl : ix < sN σ 3) : ∀ H, zP G ad σ H → va_at G.2.2.1 zCl (ad 9 ix, zqSC ad σ ix) H ∧ gA G (ad 9 ix) := zP.at 9 ix (by decide) (fun _ => rfl) hl
theorem zg_SC_day (K : zK G X cc own nL ret rm) {ix idx : Nat} (hl : ix < sN σ 3) (hw : Cond.fieldLink own idx RX6 "day" "I" ∈ zB) (hd : decode cc pc = .ok (.getfield idx, 3)) (kk : zV G X nL (zP G ad σ) k n (pc + 3) lo (.int (sI σ 23 ix 0) :: st)) : zV G X nL (zP G ad σ) k n pc lo (.ref (ad 9 ix) :: st) := zi_get (ci := 6) (C := RX6) (T := TX6) (N := 4) (f := 0) K rfl inX6 (fun H h => (zr_SC hl H h).1) (Nat.le_of_ble_eq_true rfl) hw (fun _ h => h) hd rfl kk
theorem zg_SC_weight (K : zK G X cc own nL ret rm) {ix idx : Nat} (hl : ix < sN σ 3) (hw : Cond.fieldLink own idx RX6 "weight" "I" ∈ zB) (hd : decode cc pc = .ok (.getfield idx, 3)) (kk : zV G X nL (zP G ad σ) k n (pc + 3) lo (.int (sI σ 24 ix 0) :: st)) : zV G X nL (zP G ad σ) k n pc lo (.ref (ad 9 ix) :: st) := zi_get (ci := 6) (C := RX6) (T := TX6) (N := 4) (f := 1) K rfl inX6 (fun H h => (zr_SC hl H h).1) (Nat.le_of_ble_eq_true rfl) hw (fun _ h => h) hd rfl kk
theorem zg_SC_damages (K : zK G X cc own nL ret rm) {ix idx : Nat} (hl : ix < sN σ 3) (hw : Cond.fieldLink own idx RX6 "damages" "[I" ∈ zB) (hd : decode cc pc = .ok (.getfield idx, 3)) (kk : zV G X nL (zP G ad σ) k n (pc + 3) lo (.ref (ad 10 ix) :: st)) : zV G X nL (zP G ad σ) k n pc lo (.ref (ad 9 ix) :: st) := zi_get (ci := 6) (C := RX6) (T := TX6) (N := 4) (f := 2) K rfl inX6 (fun H h => (zr_SC hl H h).1) (Nat.le_of_ble_eq_true rfl) hw (fun _ h => h) hd rfl kk
theorem zg_SC_net (K : zK G X cc own nL ret rm) {ix idx : Nat} (hl : ix < sN σ 3) (hw : Cond.fieldLink own idx RX6 "net" "J" ∈ zB) (hd : decode cc pc = .ok (.getfield idx, 3)) (kk : zV G X nL (zP G ad σ) k n (pc + 3) lo (.long (sL σ 6 ix 0) :: st)) : zV G X nL (zP G ad σ) k n pc lo (.ref (ad 9 ix) :: st) := zi_get (ci := 6) (C := RX6) (T := TX6) (N := 4) (f := 3) K rfl inX6 (fun H h => (zr_SC hl H h).1) (Nat.le_of_ble_eq_true rfl) hw (fun _ h => h) hd rfl kk
theorem zp_SC_net (K : zK G X cc own nL ret rm) {ix idx : Nat} {v : Int64} (hl : ix < sN σ 3) (hw : Cond.fieldLink own idx RX6 "net" "J" ∈ zB) (hd : decode cc pc = .ok (.putfield idx, 3)) (kk : zV G X nL (zP G ad (uL σ 6 ix 0 v)) k n (pc + 3) lo st) : zV G X nL (zP G ad σ) k n pc lo (.long v :: .ref (ad 9 ix) :: st) :=
  zi_put (ci := 6) (C := RX6) (T := TX6) (N := 4) (f := 3) (ty := .long) K rfl inX6 tyX6 tyX6_ok nmX6 (zr_SC hl) (Nat.le_of_ble_eq_true rfl) hw (fun _ h => h) rfl (by decide +kernel) rfl rfl (Nat.le_of_ble_eq_true rfl) hd (zP.setL 9 ix (by decide) rfl hl (fun _ => by
    show _ = zqSC ad (uL σ 6 ix 0 v) ix
    show (.inr (6, [.int (sI σ 23 ix 0), .int (sI σ 24 ix 0), .ref (ad 10 ix), .long v]) : va_E) = _
    unfold zqSC
    rw [show sL (uL σ 6 ix 0 v) 6 ix 0 = v from u3_s _ _ _ _ _]
    all_goals rfl)) kk
theorem zr_DMG {ix : Nat} (hl : ix < sN σ 3) : ∀ H, zP G ad σ H → va_at G.2.2.1 zCl (ad 10 ix, zqDMG G σ ix) H ∧ gA G (ad 10 ix) := zP.at 10 ix (by decide) (fun _ => rfl) hl
theorem zl_DMG (K : zK G X cc own nL ret rm) {ix : Nat} {j : Int32} (hl : ix < sN σ 3) (i : Nat) (hj : j = nI i) (hi : i < 4) (hd : decode cc pc = .ok (.iaload, 1)) (kk : zV G X nL (zP G ad σ) k n (pc + 1) lo (.int (sI σ 25 ix i) :: st)) : zV G X nL (zP G ad σ) k n pc lo (.int j :: .ref (ad 10 ix) :: st) := zi_iald (f := fun j => sI σ 25 ix j) K (fun H h => (zr_DMG hl H h).1) i hj hi (Nat.le_of_ble_eq_true rfl) hd kk
theorem zn_DMG (K : zK G X cc own nL ret rm) {ix : Nat} (hl : ix < sN σ 3) (hd : decode cc pc = .ok (.arraylength, 1)) (kk : zV G X nL (zP G ad σ) k n (pc + 1) lo (.int 4 :: st)) : zV G X nL (zP G ad σ) k n pc lo (.ref (ad 10 ix) :: st) := zi_alen (t0 := 0) (N := 4) K rfl (fun H h => (zr_DMG hl H h).1) hd kk
theorem zs_DMG (K : zK G X cc own nL ret rm) {ix : Nat} {j : Int32} {v : Int32} (hl : ix < sN σ 3) (i : Nat) (hj : j = nI i) (hi : i < 4) (hd : decode cc pc = .ok (.iastore, 1)) (kk : zV G X nL (zP G ad (uI σ 25 ix i v)) k n (pc + 1) lo st) : zV G X nL (zP G ad σ) k n pc lo (.int v :: .int j :: .ref (ad 10 ix) :: st) :=
  zi_iast (f := fun j => sI σ 25 ix j) K (zr_DMG hl) i hj hi (Nat.le_of_ble_eq_true rfl) hd (zP.setI 10 ix (by decide) rfl hl (fun _ => by
    show _ = zqDMG G (uI σ 25 ix i v) ix
    unfold zqDMG
    rw [show upd (fun j => sI σ 25 ix j) i v = (fun j => sI (uI σ 25 ix i v) 25 ix j) from funext fun q => by
      by_cases hq : q = i
      · subst hq; exact (if_pos rfl).trans (u3_s _ _ _ _ _).symm
      · exact (if_neg hq).trans (u3_n _ _ (fun z => hq z.2.2)).symm])) kk
theorem zr_FL {ix : Nat} (hl : ix < 2) : ∀ H, zP G ad σ H → va_at G.2.2.1 zCl (ad 11 ix, zqFL ad σ ix) H ∧ gA G (ad 11 ix) := zP.at 11 ix (by decide) (fun _ => rfl) hl
theorem zg_FL_claims (K : zK G X cc own nL ret rm) {ix idx : Nat} (hl : ix < 2) (hw : Cond.fieldLink own idx RX2 "claims" "Ljava/util/ArrayList;" ∈ zB) (hd : decode cc pc = .ok (.getfield idx, 3)) (kk : zV G X nL (zP G ad σ) k n (pc + 3) lo (.ref (ad 28 (5 + 4 * ix)) :: st)) : zV G X nL (zP G ad σ) k n pc lo (.ref (ad 11 ix) :: st) := zi_get (ci := 2) (C := RX2) (T := TX2) (N := 6) (f := 0) K rfl inX2 (fun H h => (zr_FL hl H h).1) (Nat.le_of_ble_eq_true rfl) hw (fun _ h => h) hd rfl kk
theorem zg_FL_covers (K : zK G X cc own nL ret rm) {ix idx : Nat} (hl : ix < 2) (hw : Cond.fieldLink own idx RX2 "covers" "Ljava/util/ArrayList;" ∈ zB) (hd : decode cc pc = .ok (.getfield idx, 3)) (kk : zV G X nL (zP G ad σ) k n (pc + 3) lo (.ref (ad 28 (6 + 4 * ix)) :: st)) : zV G X nL (zP G ad σ) k n pc lo (.ref (ad 11 ix) :: st) := zi_get (ci := 2) (C := RX2) (T := TX2) (N := 6) (f := 1) K rfl inX2 (fun H h => (zr_FL hl H h).1) (Nat.le_of_ble_eq_true rfl) hw (fun _ h => h) hd rfl kk
theorem zg_FL_open (K : zK G X cc own nL ret rm) {ix idx : Nat} (hl : ix < 2) (hw : Cond.fieldLink own idx RX2 "open" "Ljava/util/ArrayList;" ∈ zB) (hd : decode cc pc = .ok (.getfield idx, 3)) (kk : zV G X nL (zP G ad σ) k n (pc + 3) lo (.ref (ad 28 (7 + 4 * ix)) :: st)) : zV G X nL (zP G ad σ) k n pc lo (.ref (ad 11 ix) :: st) := zi_get (ci := 2) (C := RX2) (T := TX2) (N := 6) (f := 2) K rfl inX2 (fun H h => (zr_FL hl H h).1) (Nat.le_of_ble_eq_true rfl) hw (fun _ h => h) hd rfl kk
theorem zg_FL_group (K : zK G X cc own nL ret rm) {ix idx : Nat} (hl : ix < 2) (hw : Cond.fieldLink own idx RX2 "group" "Ljava/util/ArrayList;" ∈ zB) (hd : decode cc pc = .ok (.getfield idx, 3)) (kk : zV G X nL (zP G ad σ) k n (pc + 3) lo (.ref (ad 28 (8 + 4 * ix)) :: st)) : zV G X nL (zP G ad σ) k n pc lo (.ref (ad 11 ix) :: st) := zi_get (ci := 2) (C := RX2) (T := TX2) (N := 6) (f := 3) K rfl inX2 (fun H h => (zr_FL hl H h).1) (Nat.le_of_ble_eq_true rfl) hw (fun _ h => h) hd rfl kk
theorem zg_FL_laying (K : zK G X cc own nL ret rm) {ix idx : Nat} (hl : ix < 2) (hw : Cond.fieldLink own idx RX2 "laying" "LLayertreaty$Laying;" ∈ zB) (hd : decode cc pc = .ok (.getfield idx, 3)) (kk : zV G X nL (zP G ad σ) k n (pc + 3) lo (.ref (ad 12 ix) :: st)) : zV G X nL (zP G ad σ) k n pc lo (.ref (ad 11 ix) :: st) := zi_get (ci := 2) (C := RX2) (T := TX2) (N := 6) (f := 4) K rfl inX2 (fun H h => (zr_FL hl H h).1) (Nat.le_of_ble_eq_true rfl) hw (fun _ h => h) hd rfl kk
theorem zg_FL_isBest (K : zK G X cc own nL ret rm) {ix idx : Nat} (hl : ix < 2) (hw : Cond.fieldLink own idx RX2 "isBest" "Z" ∈ zB) (hd : decode cc pc = .ok (.getfield idx, 3)) (kk : zV G X nL (zP G ad σ) k n (pc + 3) lo (.int (sI σ 26 ix 0) :: st)) : zV G X nL (zP G ad σ) k n pc lo (.ref (ad 11 ix) :: st) := zi_get (ci := 2) (C := RX2) (T := TX2) (N := 6) (f := 5) K rfl inX2 (fun H h => (zr_FL hl H h).1) (Nat.le_of_ble_eq_true rfl) hw (fun _ h => h) hd rfl kk
theorem zp_FL_isBest (K : zK G X cc own nL ret rm) {ix idx : Nat} {v : Int32} (hl : ix < 2) (hw : Cond.fieldLink own idx RX2 "isBest" "Z" ∈ zB) (hz : narrow .boolean (.int v) = .int v ∧ fits .boolean (.int v) = true) (hd : decode cc pc = .ok (.putfield idx, 3)) (kk : zV G X nL (zP G ad (uI σ 26 ix 0 v)) k n (pc + 3) lo st) : zV G X nL (zP G ad σ) k n pc lo (.int v :: .ref (ad 11 ix) :: st) :=
  zi_put (ci := 2) (C := RX2) (T := TX2) (N := 6) (f := 5) (ty := .boolean) K rfl inX2 tyX2 tyX2_ok nmX2 (zr_FL hl) (Nat.le_of_ble_eq_true rfl) hw (fun _ h => h) rfl (by decide +kernel) hz.1 hz.2 (Nat.le_of_ble_eq_true rfl) hd (zP.setI 11 ix (by decide) rfl hl (fun _ => by
    show _ = zqFL ad (uI σ 26 ix 0 v) ix
    show (.inr (2, [.ref (ad 28 (5 + 4 * ix)), .ref (ad 28 (6 + 4 * ix)), .ref (ad 28 (7 + 4 * ix)), .ref (ad 28 (8 + 4 * ix)), .ref (ad 12 ix), .int v]) : va_E) = _
    unfold zqFL
    rw [show sI (uI σ 26 ix 0 v) 26 ix 0 = v from u3_s _ _ _ _ _]
    all_goals rfl)) kk
theorem zr_LAY {ix : Nat} (hl : ix < 2) : ∀ H, zP G ad σ H → va_at G.2.2.1 zCl (ad 12 ix, zqLAY ad σ ix) H ∧ gA G (ad 12 ix) := zP.at 12 ix (by decide) (fun _ => rfl) hl
theorem zg_LAY_days (K : zK G X cc own nL ret rm) {ix idx : Nat} (hl : ix < 2) (hw : Cond.fieldLink own idx RX3 "days" "[I" ∈ zB) (hd : decode cc pc = .ok (.getfield idx, 3)) (kk : zV G X nL (zP G ad σ) k n (pc + 3) lo (.ref (ad 13 ix) :: st)) : zV G X nL (zP G ad σ) k n pc lo (.ref (ad 12 ix) :: st) := zi_get (ci := 3) (C := RX3) (T := TX3) (N := 6) (f := 0) K rfl inX3 (fun H h => (zr_LAY hl H h).1) (Nat.le_of_ble_eq_true rfl) hw (fun _ h => h) hd rfl kk
theorem zg_LAY_sums (K : zK G X cc own nL ret rm) {ix idx : Nat} (hl : ix < 2) (hw : Cond.fieldLink own idx RX3 "sums" "[J" ∈ zB) (hd : decode cc pc = .ok (.getfield idx, 3)) (kk : zV G X nL (zP G ad σ) k n (pc + 3) lo (.ref (ad 14 ix) :: st)) : zV G X nL (zP G ad σ) k n pc lo (.ref (ad 12 ix) :: st) := zi_get (ci := 3) (C := RX3) (T := TX3) (N := 6) (f := 1) K rfl inX3 (fun H h => (zr_LAY hl H h).1) (Nat.le_of_ble_eq_true rfl) hw (fun _ h => h) hd rfl kk
theorem zg_LAY_ends (K : zK G X cc own nL ret rm) {ix idx : Nat} (hl : ix < 2) (hw : Cond.fieldLink own idx RX3 "ends" "[I" ∈ zB) (hd : decode cc pc = .ok (.getfield idx, 3)) (kk : zV G X nL (zP G ad σ) k n (pc + 3) lo (.ref (ad 15 ix) :: st)) : zV G X nL (zP G ad σ) k n pc lo (.ref (ad 12 ix) :: st) := zi_get (ci := 3) (C := RX3) (T := TX3) (N := 6) (f := 2) K rfl inX3 (fun H h => (zr_LAY hl H h).1) (Nat.le_of_ble_eq_true rfl) hw (fun _ h => h) hd rfl kk
theorem zg_LAY_brings (K : zK G X cc own nL ret rm) {ix idx : Nat} (hl : ix < 2) (hw : Cond.fieldLink own idx RX3 "brings" "[J" ∈ zB) (hd : decode cc pc = .ok (.getfield idx, 3)) (kk : zV G X nL (zP G ad σ) k n (pc + 3) lo (.ref (ad 16 ix) :: st)) : zV G X nL (zP G ad σ) k n pc lo (.ref (ad 12 ix) :: st) := zi_get (ci := 3) (C := RX3) (T := TX3) (N := 6) (f := 3) K rfl inX3 (fun H h => (zr_LAY hl H h).1) (Nat.le_of_ble_eq_true rfl) hw (fun _ h => h) hd rfl kk
theorem zg_LAY_counts (K : zK G X cc own nL ret rm) {ix idx : Nat} (hl : ix < 2) (hw : Cond.fieldLink own idx RX3 "counts" "[I" ∈ zB) (hd : decode cc pc = .ok (.getfield idx, 3)) (kk : zV G X nL (zP G ad σ) k n (pc + 3) lo (.ref (ad 17 ix) :: st)) : zV G X nL (zP G ad σ) k n pc lo (.ref (ad 12 ix) :: st) := zi_get (ci := 3) (C := RX3) (T := TX3) (N := 6) (f := 4) K rfl inX3 (fun H h => (zr_LAY hl H h).1) (Nat.le_of_ble_eq_true rfl) hw (fun _ h => h) hd rfl kk
theorem zg_LAY_size (K : zK G X cc own nL ret rm) {ix idx : Nat} (hl : ix < 2) (hw : Cond.fieldLink own idx RX3 "size" "I" ∈ zB) (hd : decode cc pc = .ok (.getfield idx, 3)) (kk : zV G X nL (zP G ad σ) k n (pc + 3) lo (.int (sI σ 27 ix 0) :: st)) : zV G X nL (zP G ad σ) k n pc lo (.ref (ad 12 ix) :: st) := zi_get (ci := 3) (C := RX3) (T := TX3) (N := 6) (f := 5) K rfl inX3 (fun H h => (zr_LAY hl H h).1) (Nat.le_of_ble_eq_true rfl) hw (fun _ h => h) hd rfl kk
theorem zp_LAY_size (K : zK G X cc own nL ret rm) {ix idx : Nat} {v : Int32} (hl : ix < 2) (hw : Cond.fieldLink own idx RX3 "size" "I" ∈ zB) (hd : decode cc pc = .ok (.putfield idx, 3)) (kk : zV G X nL (zP G ad (uI σ 27 ix 0 v)) k n (pc + 3) lo st) : zV G X nL (zP G ad σ) k n pc lo (.int v :: .ref (ad 12 ix) :: st) :=
  zi_put (ci := 3) (C := RX3) (T := TX3) (N := 6) (f := 5) (ty := .int) K rfl inX3 tyX3 tyX3_ok nmX3 (zr_LAY hl) (Nat.le_of_ble_eq_true rfl) hw (fun _ h => h) rfl (by decide +kernel) rfl rfl (Nat.le_of_ble_eq_true rfl) hd (zP.setI 12 ix (by decide) rfl hl (fun _ => by
    show _ = zqLAY ad (uI σ 27 ix 0 v) ix
    show (.inr (3, [.ref (ad 13 ix), .ref (ad 14 ix), .ref (ad 15 ix), .ref (ad 16 ix), .ref (ad 17 ix), .int v]) : va_E) = _
    unfold zqLAY
    rw [show sI (uI σ 27 ix 0 v) 27 ix 0 = v from u3_s _ _ _ _ _]
    all_goals rfl)) kk
theorem zr_LDAYS {ix : Nat} (hl : ix < 2) : ∀ H, zP G ad σ H → va_at G.2.2.1 zCl (ad 13 ix, zqLDAYS G σ ix) H ∧ gA G (ad 13 ix) := zP.at 13 ix (by decide) (fun _ => rfl) hl
theorem zl_LDAYS (K : zK G X cc own nL ret rm) {ix : Nat} {j : Int32} (hl : ix < 2) (i : Nat) (hj : j = nI i) (hi : i < 30) (hd : decode cc pc = .ok (.iaload, 1)) (kk : zV G X nL (zP G ad σ) k n (pc + 1) lo (.int (sI σ 28 ix i) :: st)) : zV G X nL (zP G ad σ) k n pc lo (.int j :: .ref (ad 13 ix) :: st) := zi_iald (f := fun j => sI σ 28 ix j) K (fun H h => (zr_LDAYS hl H h).1) i hj hi (Nat.le_of_ble_eq_true rfl) hd kk
theorem zn_LDAYS (K : zK G X cc own nL ret rm) {ix : Nat} (hl : ix < 2) (hd : decode cc pc = .ok (.arraylength, 1)) (kk : zV G X nL (zP G ad σ) k n (pc + 1) lo (.int 30 :: st)) : zV G X nL (zP G ad σ) k n pc lo (.ref (ad 13 ix) :: st) := zi_alen (t0 := 0) (N := 30) K rfl (fun H h => (zr_LDAYS hl H h).1) hd kk
theorem zs_LDAYS (K : zK G X cc own nL ret rm) {ix : Nat} {j : Int32} {v : Int32} (hl : ix < 2) (i : Nat) (hj : j = nI i) (hi : i < 30) (hd : decode cc pc = .ok (.iastore, 1)) (kk : zV G X nL (zP G ad (uI σ 28 ix i v)) k n (pc + 1) lo st) : zV G X nL (zP G ad σ) k n pc lo (.int v :: .int j :: .ref (ad 13 ix) :: st) :=
  zi_iast (f := fun j => sI σ 28 ix j) K (zr_LDAYS hl) i hj hi (Nat.le_of_ble_eq_true rfl) hd (zP.setI 13 ix (by decide) rfl hl (fun _ => by
    show _ = zqLDAYS G (uI σ 28 ix i v) ix
    unfold zqLDAYS
    rw [show upd (fun j => sI σ 28 ix j) i v = (fun j => sI (uI σ 28 ix i v) 28 ix j) from funext fun q => by
      by_cases hq : q = i
      · subst hq; exact (if_pos rfl).trans (u3_s _ _ _ _ _).symm
      · exact (if_neg hq).trans (u3_n _ _ (fun z => hq z.2.2)).symm])) kk
theorem zr_LSUMS {ix : Nat} (hl : ix < 2) : ∀ H, zP G ad σ H → va_at G.2.2.1 zCl (ad 14 ix, zqLSUMS G σ ix) H ∧ gA G (ad 14 ix) := zP.at 14 ix (by decide) (fun _ => rfl) hl
theorem zl_LSUMS (K : zK G X cc own nL ret rm) {ix : Nat} {j : Int32} (hl : ix < 2) (i : Nat) (hj : j = nI i) (hi : i < 30) (hd : decode cc pc = .ok (.laload, 1)) (kk : zV G X nL (zP G ad σ) k n (pc + 1) lo (.long (sL σ 7 ix i) :: st)) : zV G X nL (zP G ad σ) k n pc lo (.int j :: .ref (ad 14 ix) :: st) := zi_lald (f := fun j => sL σ 7 ix j) K (fun H h => (zr_LSUMS hl H h).1) i hj hi (Nat.le_of_ble_eq_true rfl) hd kk
theorem zn_LSUMS (K : zK G X cc own nL ret rm) {ix : Nat} (hl : ix < 2) (hd : decode cc pc = .ok (.arraylength, 1)) (kk : zV G X nL (zP G ad σ) k n (pc + 1) lo (.int 30 :: st)) : zV G X nL (zP G ad σ) k n pc lo (.ref (ad 14 ix) :: st) := zi_alen (t0 := 1) (N := 30) K rfl (fun H h => (zr_LSUMS hl H h).1) hd kk
theorem zs_LSUMS (K : zK G X cc own nL ret rm) {ix : Nat} {j : Int32} {v : Int64} (hl : ix < 2) (i : Nat) (hj : j = nI i) (hi : i < 30) (hd : decode cc pc = .ok (.lastore, 1)) (kk : zV G X nL (zP G ad (uL σ 7 ix i v)) k n (pc + 1) lo st) : zV G X nL (zP G ad σ) k n pc lo (.long v :: .int j :: .ref (ad 14 ix) :: st) :=
  zi_last (f := fun j => sL σ 7 ix j) K (zr_LSUMS hl) i hj hi (Nat.le_of_ble_eq_true rfl) hd (zP.setL 14 ix (by decide) rfl hl (fun _ => by
    show _ = zqLSUMS G (uL σ 7 ix i v) ix
    unfold zqLSUMS
    rw [show vp_updL (fun j => sL σ 7 ix j) i v = (fun j => sL (uL σ 7 ix i v) 7 ix j) from funext fun q => by
      by_cases hq : q = i
      · subst hq; exact (if_pos rfl).trans (u3_s _ _ _ _ _).symm
      · exact (if_neg hq).trans (u3_n _ _ (fun z => hq z.2.2)).symm])) kk
theorem zr_LENDS {ix : Nat} (hl : ix < 2) : ∀ H, zP G ad σ H → va_at G.2.2.1 zCl (ad 15 ix, zqLENDS G σ ix) H ∧ gA G (ad 15 ix) := zP.at 15 ix (by decide) (fun _ => rfl) hl
theorem zl_LENDS (K : zK G X cc own nL ret rm) {ix : Nat} {j : Int32} (hl : ix < 2) (i : Nat) (hj : j = nI i) (hi : i < 30) (hd : decode cc pc = .ok (.iaload, 1)) (kk : zV G X nL (zP G ad σ) k n (pc + 1) lo (.int (sI σ 29 ix i) :: st)) : zV G X nL (zP G ad σ) k n pc lo (.int j :: .ref (ad 15 ix) :: st) := zi_iald (f := fun j => sI σ 29 ix j) K (fun H h => (zr_LENDS hl H h).1) i hj hi (Nat.le_of_ble_eq_true rfl) hd kk
theorem zn_LENDS (K : zK G X cc own nL ret rm) {ix : Nat} (hl : ix < 2) (hd : decode cc pc = .ok (.arraylength, 1)) (kk : zV G X nL (zP G ad σ) k n (pc + 1) lo (.int 30 :: st)) : zV G X nL (zP G ad σ) k n pc lo (.ref (ad 15 ix) :: st) := zi_alen (t0 := 0) (N := 30) K rfl (fun H h => (zr_LENDS hl H h).1) hd kk
theorem zs_LENDS (K : zK G X cc own nL ret rm) {ix : Nat} {j : Int32} {v : Int32} (hl : ix < 2) (i : Nat) (hj : j = nI i) (hi : i < 30) (hd : decode cc pc = .ok (.iastore, 1)) (kk : zV G X nL (zP G ad (uI σ 29 ix i v)) k n (pc + 1) lo st) : zV G X nL (zP G ad σ) k n pc lo (.int v :: .int j :: .ref (ad 15 ix) :: st) :=
  zi_iast (f := fun j => sI σ 29 ix j) K (zr_LENDS hl) i hj hi (Nat.le_of_ble_eq_true rfl) hd (zP.setI 15 ix (by decide) rfl hl (fun _ => by
    show _ = zqLENDS G (uI σ 29 ix i v) ix
    unfold zqLENDS
    rw [show upd (fun j => sI σ 29 ix j) i v = (fun j => sI (uI σ 29 ix i v) 29 ix j) from funext fun q => by
      by_cases hq : q = i
      · subst hq; exact (if_pos rfl).trans (u3_s _ _ _ _ _).symm
      · exact (if_neg hq).trans (u3_n _ _ (fun z => hq z.2.2)).symm])) kk
theorem zr_LBR {ix : Nat} (hl : ix < 2) : ∀ H, zP G ad σ H → va_at G.2.2.1 zCl (ad 16 ix, zqLBR G σ ix) H ∧ gA G (ad 16 ix) := zP.at 16 ix (by decide) (fun _ => rfl) hl
theorem zl_LBR (K : zK G X cc own nL ret rm) {ix : Nat} {j : Int32} (hl : ix < 2) (i : Nat) (hj : j = nI i) (hi : i < 31) (hd : decode cc pc = .ok (.laload, 1)) (kk : zV G X nL (zP G ad σ) k n (pc + 1) lo (.long (sL σ 8 ix i) :: st)) : zV G X nL (zP G ad σ) k n pc lo (.int j :: .ref (ad 16 ix) :: st) := zi_lald (f := fun j => sL σ 8 ix j) K (fun H h => (zr_LBR hl H h).1) i hj hi (Nat.le_of_ble_eq_true rfl) hd kk
theorem zn_LBR (K : zK G X cc own nL ret rm) {ix : Nat} (hl : ix < 2) (hd : decode cc pc = .ok (.arraylength, 1)) (kk : zV G X nL (zP G ad σ) k n (pc + 1) lo (.int 31 :: st)) : zV G X nL (zP G ad σ) k n pc lo (.ref (ad 16 ix) :: st) := zi_alen (t0 := 1) (N := 31) K rfl (fun H h => (zr_LBR hl H h).1) hd kk
theorem zs_LBR (K : zK G X cc own nL ret rm) {ix : Nat} {j : Int32} {v : Int64} (hl : ix < 2) (i : Nat) (hj : j = nI i) (hi : i < 31) (hd : decode cc pc = .ok (.lastore, 1)) (kk : zV G X nL (zP G ad (uL σ 8 ix i v)) k n (pc + 1) lo st) : zV G X nL (zP G ad σ) k n pc lo (.long v :: .int j :: .ref (ad 16 ix) :: st) :=
  zi_last (f := fun j => sL σ 8 ix j) K (zr_LBR hl) i hj hi (Nat.le_of_ble_eq_true rfl) hd (zP.setL 16 ix (by decide) rfl hl (fun _ => by
    show _ = zqLBR G (uL σ 8 ix i v) ix
    unfold zqLBR
    rw [show vp_updL (fun j => sL σ 8 ix j) i v = (fun j => sL (uL σ 8 ix i v) 8 ix j) from funext fun q => by
      by_cases hq : q = i
      · subst hq; exact (if_pos rfl).trans (u3_s _ _ _ _ _).symm
      · exact (if_neg hq).trans (u3_n _ _ (fun z => hq z.2.2)).symm])) kk
theorem zr_LCN {ix : Nat} (hl : ix < 2) : ∀ H, zP G ad σ H → va_at G.2.2.1 zCl (ad 17 ix, zqLCN G σ ix) H ∧ gA G (ad 17 ix) := zP.at 17 ix (by decide) (fun _ => rfl) hl
theorem zl_LCN (K : zK G X cc own nL ret rm) {ix : Nat} {j : Int32} (hl : ix < 2) (i : Nat) (hj : j = nI i) (hi : i < 31) (hd : decode cc pc = .ok (.iaload, 1)) (kk : zV G X nL (zP G ad σ) k n (pc + 1) lo (.int (sI σ 30 ix i) :: st)) : zV G X nL (zP G ad σ) k n pc lo (.int j :: .ref (ad 17 ix) :: st) := zi_iald (f := fun j => sI σ 30 ix j) K (fun H h => (zr_LCN hl H h).1) i hj hi (Nat.le_of_ble_eq_true rfl) hd kk
theorem zn_LCN (K : zK G X cc own nL ret rm) {ix : Nat} (hl : ix < 2) (hd : decode cc pc = .ok (.arraylength, 1)) (kk : zV G X nL (zP G ad σ) k n (pc + 1) lo (.int 31 :: st)) : zV G X nL (zP G ad σ) k n pc lo (.ref (ad 17 ix) :: st) := zi_alen (t0 := 0) (N := 31) K rfl (fun H h => (zr_LCN hl H h).1) hd kk
theorem zs_LCN (K : zK G X cc own nL ret rm) {ix : Nat} {j : Int32} {v : Int32} (hl : ix < 2) (i : Nat) (hj : j = nI i) (hi : i < 31) (hd : decode cc pc = .ok (.iastore, 1)) (kk : zV G X nL (zP G ad (uI σ 30 ix i v)) k n (pc + 1) lo st) : zV G X nL (zP G ad σ) k n pc lo (.int v :: .int j :: .ref (ad 17 ix) :: st) :=
  zi_iast (f := fun j => sI σ 30 ix j) K (zr_LCN hl) i hj hi (Nat.le_of_ble_eq_true rfl) hd (zP.setI 17 ix (by decide) rfl hl (fun _ => by
    show _ = zqLCN G (uI σ 30 ix i v) ix
    unfold zqLCN
    rw [show upd (fun j => sI σ 30 ix j) i v = (fun j => sI (uI σ 30 ix i v) 30 ix j) from funext fun q => by
      by_cases hq : q = i
      · subst hq; exact (if_pos rfl).trans (u3_s _ _ _ _ _).symm
      · exact (if_neg hq).trans (u3_n _ _ (fun z => hq z.2.2)).symm])) kk
theorem zr_POOL {ix : Nat} (hl : ix = 0) : ∀ H, zP G ad σ H → va_at G.2.2.1 zCl (ad 18 ix, zqPOOL ad ix) H ∧ gA G (ad 18 ix) := zP.at 18 ix (by decide) (fun _ => rfl) hl
theorem zg_POOL_isFailed (K : zK G X cc own nL ret rm) {ix idx : Nat} (hl : ix = 0) (hw : Cond.fieldLink own idx RX5 "isFailed" "[Z" ∈ zB) (hd : decode cc pc = .ok (.getfield idx, 3)) (kk : zV G X nL (zP G ad σ) k n (pc + 3) lo (.ref (ad 19 ix) :: st)) : zV G X nL (zP G ad σ) k n pc lo (.ref (ad 18 ix) :: st) := zi_get (ci := 5) (C := RX5) (T := TX5) (N := 9) (f := 0) K rfl inX5 (fun H h => (zr_POOL hl H h).1) (Nat.le_of_ble_eq_true rfl) hw (fun _ h => h) hd rfl kk
theorem zg_POOL_receivers (K : zK G X cc own nL ret rm) {ix idx : Nat} (hl : ix = 0) (hw : Cond.fieldLink own idx RX5 "receivers" "[I" ∈ zB) (hd : decode cc pc = .ok (.getfield idx, 3)) (kk : zV G X nL (zP G ad σ) k n (pc + 3) lo (.ref (ad 20 ix) :: st)) : zV G X nL (zP G ad σ) k n pc lo (.ref (ad 18 ix) :: st) := zi_get (ci := 5) (C := RX5) (T := TX5) (N := 9) (f := 1) K rfl inX5 (fun H h => (zr_POOL hl H h).1) (Nat.le_of_ble_eq_true rfl) hw (fun _ h => h) hd rfl kk
theorem zg_POOL_bounds (K : zK G X cc own nL ret rm) {ix idx : Nat} (hl : ix = 0) (hw : Cond.fieldLink own idx RX5 "bounds" "[I" ∈ zB) (hd : decode cc pc = .ok (.getfield idx, 3)) (kk : zV G X nL (zP G ad σ) k n (pc + 3) lo (.ref (ad 21 ix) :: st)) : zV G X nL (zP G ad σ) k n pc lo (.ref (ad 18 ix) :: st) := zi_get (ci := 5) (C := RX5) (T := TX5) (N := 9) (f := 2) K rfl inX5 (fun H h => (zr_POOL hl H h).1) (Nat.le_of_ble_eq_true rfl) hw (fun _ h => h) hd rfl kk
theorem zg_POOL_limits (K : zK G X cc own nL ret rm) {ix idx : Nat} (hl : ix = 0) (hw : Cond.fieldLink own idx RX5 "limits" "[I" ∈ zB) (hd : decode cc pc = .ok (.getfield idx, 3)) (kk : zV G X nL (zP G ad σ) k n (pc + 3) lo (.ref (ad 22 ix) :: st)) : zV G X nL (zP G ad σ) k n pc lo (.ref (ad 18 ix) :: st) := zi_get (ci := 5) (C := RX5) (T := TX5) (N := 9) (f := 3) K rfl inX5 (fun H h => (zr_POOL hl H h).1) (Nat.le_of_ble_eq_true rfl) hw (fun _ h => h) hd rfl kk
theorem zg_POOL_own (K : zK G X cc own nL ret rm) {ix idx : Nat} (hl : ix = 0) (hw : Cond.fieldLink own idx RX5 "own" "[J" ∈ zB) (hd : decode cc pc = .ok (.getfield idx, 3)) (kk : zV G X nL (zP G ad σ) k n (pc + 3) lo (.ref (ad 23 ix) :: st)) : zV G X nL (zP G ad σ) k n pc lo (.ref (ad 18 ix) :: st) := zi_get (ci := 5) (C := RX5) (T := TX5) (N := 9) (f := 4) K rfl inX5 (fun H h => (zr_POOL hl H h).1) (Nat.le_of_ble_eq_true rfl) hw (fun _ h => h) hd rfl kk
theorem zg_POOL_comes (K : zK G X cc own nL ret rm) {ix idx : Nat} (hl : ix = 0) (hw : Cond.fieldLink own idx RX5 "comes" "[J" ∈ zB) (hd : decode cc pc = .ok (.getfield idx, 3)) (kk : zV G X nL (zP G ad σ) k n (pc + 3) lo (.ref (ad 24 ix) :: st)) : zV G X nL (zP G ad σ) k n pc lo (.ref (ad 18 ix) :: st) := zi_get (ci := 5) (C := RX5) (T := TX5) (N := 9) (f := 5) K rfl inX5 (fun H h => (zr_POOL hl H h).1) (Nat.le_of_ble_eq_true rfl) hw (fun _ h => h) hd rfl kk
theorem zg_POOL_early (K : zK G X cc own nL ret rm) {ix idx : Nat} (hl : ix = 0) (hw : Cond.fieldLink own idx RX5 "early" "[J" ∈ zB) (hd : decode cc pc = .ok (.getfield idx, 3)) (kk : zV G X nL (zP G ad σ) k n (pc + 3) lo (.ref (ad 25 ix) :: st)) : zV G X nL (zP G ad σ) k n pc lo (.ref (ad 18 ix) :: st) := zi_get (ci := 5) (C := RX5) (T := TX5) (N := 9) (f := 6) K rfl inX5 (fun H h => (zr_POOL hl H h).1) (Nat.le_of_ble_eq_true rfl) hw (fun _ h => h) hd rfl kk
theorem zg_POOL_above (K : zK G X cc own nL ret rm) {ix idx : Nat} (hl : ix = 0) (hw : Cond.fieldLink own idx RX5 "above" "[J" ∈ zB) (hd : decode cc pc = .ok (.getfield idx, 3)) (kk : zV G X nL (zP G ad σ) k n (pc + 3) lo (.ref (ad 26 ix) :: st)) : zV G X nL (zP G ad σ) k n pc lo (.ref (ad 18 ix) :: st) := zi_get (ci := 5) (C := RX5) (T := TX5) (N := 9) (f := 7) K rfl inX5 (fun H h => (zr_POOL hl H h).1) (Nat.le_of_ble_eq_true rfl) hw (fun _ h => h) hd rfl kk
theorem zg_POOL_before (K : zK G X cc own nL ret rm) {ix idx : Nat} (hl : ix = 0) (hw : Cond.fieldLink own idx RX5 "before" "[J" ∈ zB) (hd : decode cc pc = .ok (.getfield idx, 3)) (kk : zV G X nL (zP G ad σ) k n (pc + 3) lo (.ref (ad 27 ix) :: st)) : zV G X nL (zP G ad σ) k n pc lo (.ref (ad 18 ix) :: st) := zi_get (ci := 5) (C := RX5) (T := TX5) (N := 9) (f := 8) K rfl inX5 (fun H h => (zr_POOL hl H h).1) (Nat.le_of_ble_eq_true rfl) hw (fun _ h => h) hd rfl kk
theorem zr_PFAIL {ix : Nat} (hl : ix = 0) : ∀ H, zP G ad σ H → va_at G.2.2.1 zCl (ad 19 ix, zqPFAIL G σ ix) H ∧ gA G (ad 19 ix) := zP.at 19 ix (by decide) (fun _ => rfl) hl
theorem zl_PFAIL (K : zK G X cc own nL ret rm) {ix : Nat} {j : Int32} (hl : ix = 0) (i : Nat) (hj : j = nI i) (hi : i < 5) (hd : decode cc pc = .ok (.baload, 1)) (kk : zV G X nL (zP G ad σ) k n (pc + 1) lo (.int (sI σ 31 ix i) :: st)) : zV G X nL (zP G ad σ) k n pc lo (.int j :: .ref (ad 19 ix) :: st) := zi_zald (f := fun j => sI σ 31 ix j) K (fun H h => (zr_PFAIL hl H h).1) i hj hi (Nat.le_of_ble_eq_true rfl) hd kk
theorem zn_PFAIL (K : zK G X cc own nL ret rm) {ix : Nat} (hl : ix = 0) (hd : decode cc pc = .ok (.arraylength, 1)) (kk : zV G X nL (zP G ad σ) k n (pc + 1) lo (.int 5 :: st)) : zV G X nL (zP G ad σ) k n pc lo (.ref (ad 19 ix) :: st) := zi_alen (t0 := 2) (N := 5) K rfl (fun H h => (zr_PFAIL hl H h).1) hd kk
theorem zs_PFAIL (K : zK G X cc own nL ret rm) {ix : Nat} {j : Int32} {v : Int32} (hl : ix = 0) (i : Nat) (hj : j = nI i) (hi : i < 5) (hz : narrow .boolean (.int v) = .int v) (hd : decode cc pc = .ok (.bastore, 1)) (kk : zV G X nL (zP G ad (uI σ 31 ix i v)) k n (pc + 1) lo st) : zV G X nL (zP G ad σ) k n pc lo (.int v :: .int j :: .ref (ad 19 ix) :: st) :=
  zi_zast (f := fun j => sI σ 31 ix j) K (zr_PFAIL hl) i hj hi (Nat.le_of_ble_eq_true rfl) hz hd (zP.setI 19 ix (by decide) rfl hl (fun _ => by
    show _ = zqPFAIL G (uI σ 31 ix i v) ix
    unfold zqPFAIL
    rw [show upd (fun j => sI σ 31 ix j) i v = (fun j => sI (uI σ 31 ix i v) 31 ix j) from funext fun q => by
      by_cases hq : q = i
      · subst hq; exact (if_pos rfl).trans (u3_s _ _ _ _ _).symm
      · exact (if_neg hq).trans (u3_n _ _ (fun z => hq z.2.2)).symm])) kk
theorem zr_PREC {ix : Nat} (hl : ix = 0) : ∀ H, zP G ad σ H → va_at G.2.2.1 zCl (ad 20 ix, zqPREC G σ ix) H ∧ gA G (ad 20 ix) := zP.at 20 ix (by decide) (fun _ => rfl) hl
theorem zl_PREC (K : zK G X cc own nL ret rm) {ix : Nat} {j : Int32} (hl : ix = 0) (i : Nat) (hj : j = nI i) (hi : i < 5) (hd : decode cc pc = .ok (.iaload, 1)) (kk : zV G X nL (zP G ad σ) k n (pc + 1) lo (.int (sI σ 32 ix i) :: st)) : zV G X nL (zP G ad σ) k n pc lo (.int j :: .ref (ad 20 ix) :: st) := zi_iald (f := fun j => sI σ 32 ix j) K (fun H h => (zr_PREC hl H h).1) i hj hi (Nat.le_of_ble_eq_true rfl) hd kk
theorem zn_PREC (K : zK G X cc own nL ret rm) {ix : Nat} (hl : ix = 0) (hd : decode cc pc = .ok (.arraylength, 1)) (kk : zV G X nL (zP G ad σ) k n (pc + 1) lo (.int 5 :: st)) : zV G X nL (zP G ad σ) k n pc lo (.ref (ad 20 ix) :: st) := zi_alen (t0 := 0) (N := 5) K rfl (fun H h => (zr_PREC hl H h).1) hd kk
theorem zs_PREC (K : zK G X cc own nL ret rm) {ix : Nat} {j : Int32} {v : Int32} (hl : ix = 0) (i : Nat) (hj : j = nI i) (hi : i < 5) (hd : decode cc pc = .ok (.iastore, 1)) (kk : zV G X nL (zP G ad (uI σ 32 ix i v)) k n (pc + 1) lo st) : zV G X nL (zP G ad σ) k n pc lo (.int v :: .int j :: .ref (ad 20 ix) :: st) :=
  zi_iast (f := fun j => sI σ 32 ix j) K (zr_PREC hl) i hj hi (Nat.le_of_ble_eq_true rfl) hd (zP.setI 20 ix (by decide) rfl hl (fun _ => by
    show _ = zqPREC G (uI σ 32 ix i v) ix
    unfold zqPREC
    rw [show upd (fun j => sI σ 32 ix j) i v = (fun j => sI (uI σ 32 ix i v) 32 ix j) from funext fun q => by
      by_cases hq : q = i
      · subst hq; exact (if_pos rfl).trans (u3_s _ _ _ _ _).symm
      · exact (if_neg hq).trans (u3_n _ _ (fun z => hq z.2.2)).symm])) kk
theorem zr_PBND {ix : Nat} (hl : ix = 0) : ∀ H, zP G ad σ H → va_at G.2.2.1 zCl (ad 21 ix, zqPBND G σ ix) H ∧ gA G (ad 21 ix) := zP.at 21 ix (by decide) (fun _ => rfl) hl
theorem zl_PBND (K : zK G X cc own nL ret rm) {ix : Nat} {j : Int32} (hl : ix = 0) (i : Nat) (hj : j = nI i) (hi : i < 5) (hd : decode cc pc = .ok (.iaload, 1)) (kk : zV G X nL (zP G ad σ) k n (pc + 1) lo (.int (sI σ 33 ix i) :: st)) : zV G X nL (zP G ad σ) k n pc lo (.int j :: .ref (ad 21 ix) :: st) := zi_iald (f := fun j => sI σ 33 ix j) K (fun H h => (zr_PBND hl H h).1) i hj hi (Nat.le_of_ble_eq_true rfl) hd kk
theorem zn_PBND (K : zK G X cc own nL ret rm) {ix : Nat} (hl : ix = 0) (hd : decode cc pc = .ok (.arraylength, 1)) (kk : zV G X nL (zP G ad σ) k n (pc + 1) lo (.int 5 :: st)) : zV G X nL (zP G ad σ) k n pc lo (.ref (ad 21 ix) :: st) := zi_alen (t0 := 0) (N := 5) K rfl (fun H h => (zr_PBND hl H h).1) hd kk
theorem zs_PBND (K : zK G X cc own nL ret rm) {ix : Nat} {j : Int32} {v : Int32} (hl : ix = 0) (i : Nat) (hj : j = nI i) (hi : i < 5) (hd : decode cc pc = .ok (.iastore, 1)) (kk : zV G X nL (zP G ad (uI σ 33 ix i v)) k n (pc + 1) lo st) : zV G X nL (zP G ad σ) k n pc lo (.int v :: .int j :: .ref (ad 21 ix) :: st) :=
  zi_iast (f := fun j => sI σ 33 ix j) K (zr_PBND hl) i hj hi (Nat.le_of_ble_eq_true rfl) hd (zP.setI 21 ix (by decide) rfl hl (fun _ => by
    show _ = zqPBND G (uI σ 33 ix i v) ix
    unfold zqPBND
    rw [show upd (fun j => sI σ 33 ix j) i v = (fun j => sI (uI σ 33 ix i v) 33 ix j) from funext fun q => by
      by_cases hq : q = i
      · subst hq; exact (if_pos rfl).trans (u3_s _ _ _ _ _).symm
      · exact (if_neg hq).trans (u3_n _ _ (fun z => hq z.2.2)).symm])) kk
theorem zr_PLIM {ix : Nat} (hl : ix = 0) : ∀ H, zP G ad σ H → va_at G.2.2.1 zCl (ad 22 ix, zqPLIM G σ ix) H ∧ gA G (ad 22 ix) := zP.at 22 ix (by decide) (fun _ => rfl) hl
theorem zl_PLIM (K : zK G X cc own nL ret rm) {ix : Nat} {j : Int32} (hl : ix = 0) (i : Nat) (hj : j = nI i) (hi : i < 5) (hd : decode cc pc = .ok (.iaload, 1)) (kk : zV G X nL (zP G ad σ) k n (pc + 1) lo (.int (sI σ 34 ix i) :: st)) : zV G X nL (zP G ad σ) k n pc lo (.int j :: .ref (ad 22 ix) :: st) := zi_iald (f := fun j => sI σ 34 ix j) K (fun H h => (zr_PLIM hl H h).1) i hj hi (Nat.le_of_ble_eq_true rfl) hd kk
theorem zn_PLIM (K : zK G X cc own nL ret rm) {ix : Nat} (hl : ix = 0) (hd : decode cc pc = .ok (.arraylength, 1)) (kk : zV G X nL (zP G ad σ) k n (pc + 1) lo (.int 5 :: st)) : zV G X nL (zP G ad σ) k n pc lo (.ref (ad 22 ix) :: st) := zi_alen (t0 := 0) (N := 5) K rfl (fun H h => (zr_PLIM hl H h).1) hd kk
theorem zs_PLIM (K : zK G X cc own nL ret rm) {ix : Nat} {j : Int32} {v : Int32} (hl : ix = 0) (i : Nat) (hj : j = nI i) (hi : i < 5) (hd : decode cc pc = .ok (.iastore, 1)) (kk : zV G X nL (zP G ad (uI σ 34 ix i v)) k n (pc + 1) lo st) : zV G X nL (zP G ad σ) k n pc lo (.int v :: .int j :: .ref (ad 22 ix) :: st) :=
  zi_iast (f := fun j => sI σ 34 ix j) K (zr_PLIM hl) i hj hi (Nat.le_of_ble_eq_true rfl) hd (zP.setI 22 ix (by decide) rfl hl (fun _ => by
    show _ = zqPLIM G (uI σ 34 ix i v) ix
    unfold zqPLIM
    rw [show upd (fun j => sI σ 34 ix j) i v = (fun j => sI (uI σ 34 ix i v) 34 ix j) from funext fun q => by
      by_cases hq : q = i
      · subst hq; exact (if_pos rfl).trans (u3_s _ _ _ _ _).symm
      · exact (if_neg hq).trans (u3_n _ _ (fun z => hq z.2.2)).symm])) kk
theorem zr_POWN {ix : Nat} (hl : ix = 0) : ∀ H, zP G ad σ H → va_at G.2.2.1 zCl (ad 23 ix, zqPOWN G σ ix) H ∧ gA G (ad 23 ix) := zP.at 23 ix (by decide) (fun _ => rfl) hl
theorem zl_POWN (K : zK G X cc own nL ret rm) {ix : Nat} {j : Int32} (hl : ix = 0) (i : Nat) (hj : j = nI i) (hi : i < 5) (hd : decode cc pc = .ok (.laload, 1)) (kk : zV G X nL (zP G ad σ) k n (pc + 1) lo (.long (sL σ 9 ix i) :: st)) : zV G X nL (zP G ad σ) k n pc lo (.int j :: .ref (ad 23 ix) :: st) := zi_lald (f := fun j => sL σ 9 ix j) K (fun H h => (zr_POWN hl H h).1) i hj hi (Nat.le_of_ble_eq_true rfl) hd kk
theorem zn_POWN (K : zK G X cc own nL ret rm) {ix : Nat} (hl : ix = 0) (hd : decode cc pc = .ok (.arraylength, 1)) (kk : zV G X nL (zP G ad σ) k n (pc + 1) lo (.int 5 :: st)) : zV G X nL (zP G ad σ) k n pc lo (.ref (ad 23 ix) :: st) := zi_alen (t0 := 1) (N := 5) K rfl (fun H h => (zr_POWN hl H h).1) hd kk
theorem zs_POWN (K : zK G X cc own nL ret rm) {ix : Nat} {j : Int32} {v : Int64} (hl : ix = 0) (i : Nat) (hj : j = nI i) (hi : i < 5) (hd : decode cc pc = .ok (.lastore, 1)) (kk : zV G X nL (zP G ad (uL σ 9 ix i v)) k n (pc + 1) lo st) : zV G X nL (zP G ad σ) k n pc lo (.long v :: .int j :: .ref (ad 23 ix) :: st) :=
  zi_last (f := fun j => sL σ 9 ix j) K (zr_POWN hl) i hj hi (Nat.le_of_ble_eq_true rfl) hd (zP.setL 23 ix (by decide) rfl hl (fun _ => by
    show _ = zqPOWN G (uL σ 9 ix i v) ix
    unfold zqPOWN
    rw [show vp_updL (fun j => sL σ 9 ix j) i v = (fun j => sL (uL σ 9 ix i v) 9 ix j) from funext fun q => by
      by_cases hq : q = i
      · subst hq; exact (if_pos rfl).trans (u3_s _ _ _ _ _).symm
      · exact (if_neg hq).trans (u3_n _ _ (fun z => hq z.2.2)).symm])) kk
theorem zr_PCOM {ix : Nat} (hl : ix = 0) : ∀ H, zP G ad σ H → va_at G.2.2.1 zCl (ad 24 ix, zqPCOM G σ ix) H ∧ gA G (ad 24 ix) := zP.at 24 ix (by decide) (fun _ => rfl) hl
theorem zl_PCOM (K : zK G X cc own nL ret rm) {ix : Nat} {j : Int32} (hl : ix = 0) (i : Nat) (hj : j = nI i) (hi : i < 5) (hd : decode cc pc = .ok (.laload, 1)) (kk : zV G X nL (zP G ad σ) k n (pc + 1) lo (.long (sL σ 10 ix i) :: st)) : zV G X nL (zP G ad σ) k n pc lo (.int j :: .ref (ad 24 ix) :: st) := zi_lald (f := fun j => sL σ 10 ix j) K (fun H h => (zr_PCOM hl H h).1) i hj hi (Nat.le_of_ble_eq_true rfl) hd kk
theorem zn_PCOM (K : zK G X cc own nL ret rm) {ix : Nat} (hl : ix = 0) (hd : decode cc pc = .ok (.arraylength, 1)) (kk : zV G X nL (zP G ad σ) k n (pc + 1) lo (.int 5 :: st)) : zV G X nL (zP G ad σ) k n pc lo (.ref (ad 24 ix) :: st) := zi_alen (t0 := 1) (N := 5) K rfl (fun H h => (zr_PCOM hl H h).1) hd kk
theorem zs_PCOM (K : zK G X cc own nL ret rm) {ix : Nat} {j : Int32} {v : Int64} (hl : ix = 0) (i : Nat) (hj : j = nI i) (hi : i < 5) (hd : decode cc pc = .ok (.lastore, 1)) (kk : zV G X nL (zP G ad (uL σ 10 ix i v)) k n (pc + 1) lo st) : zV G X nL (zP G ad σ) k n pc lo (.long v :: .int j :: .ref (ad 24 ix) :: st) :=
  zi_last (f := fun j => sL σ 10 ix j) K (zr_PCOM hl) i hj hi (Nat.le_of_ble_eq_true rfl) hd (zP.setL 24 ix (by decide) rfl hl (fun _ => by
    show _ = zqPCOM G (uL σ 10 ix i v) ix
    unfold zqPCOM
    rw [show vp_updL (fun j => sL σ 10 ix j) i v = (fun j => sL (uL σ 10 ix i v) 10 ix j) from funext fun q => by
      by_cases hq : q = i
      · subst hq; exact (if_pos rfl).trans (u3_s _ _ _ _ _).symm
      · exact (if_neg hq).trans (u3_n _ _ (fun z => hq z.2.2)).symm])) kk
theorem zr_PEAR {ix : Nat} (hl : ix = 0) : ∀ H, zP G ad σ H → va_at G.2.2.1 zCl (ad 25 ix, zqPEAR G σ ix) H ∧ gA G (ad 25 ix) := zP.at 25 ix (by decide) (fun _ => rfl) hl
theorem zl_PEAR (K : zK G X cc own nL ret rm) {ix : Nat} {j : Int32} (hl : ix = 0) (i : Nat) (hj : j = nI i) (hi : i < 5) (hd : decode cc pc = .ok (.laload, 1)) (kk : zV G X nL (zP G ad σ) k n (pc + 1) lo (.long (sL σ 11 ix i) :: st)) : zV G X nL (zP G ad σ) k n pc lo (.int j :: .ref (ad 25 ix) :: st) := zi_lald (f := fun j => sL σ 11 ix j) K (fun H h => (zr_PEAR hl H h).1) i hj hi (Nat.le_of_ble_eq_true rfl) hd kk
theorem zn_PEAR (K : zK G X cc own nL ret rm) {ix : Nat} (hl : ix = 0) (hd : decode cc pc = .ok (.arraylength, 1)) (kk : zV G X nL (zP G ad σ) k n (pc + 1) lo (.int 5 :: st)) : zV G X nL (zP G ad σ) k n pc lo (.ref (ad 25 ix) :: st) := zi_alen (t0 := 1) (N := 5) K rfl (fun H h => (zr_PEAR hl H h).1) hd kk
theorem zs_PEAR (K : zK G X cc own nL ret rm) {ix : Nat} {j : Int32} {v : Int64} (hl : ix = 0) (i : Nat) (hj : j = nI i) (hi : i < 5) (hd : decode cc pc = .ok (.lastore, 1)) (kk : zV G X nL (zP G ad (uL σ 11 ix i v)) k n (pc + 1) lo st) : zV G X nL (zP G ad σ) k n pc lo (.long v :: .int j :: .ref (ad 25 ix) :: st) :=
  zi_last (f := fun j => sL σ 11 ix j) K (zr_PEAR hl) i hj hi (Nat.le_of_ble_eq_true rfl) hd (zP.setL 25 ix (by decide) rfl hl (fun _ => by
    show _ = zqPEAR G (uL σ 11 ix i v) ix
    unfold zqPEAR
    rw [show vp_updL (fun j => sL σ 11 ix j) i v = (fun j => sL (uL σ 11 ix i v) 11 ix j) from funext fun q => by
      by_cases hq : q = i
      · subst hq; exact (if_pos rfl).trans (u3_s _ _ _ _ _).symm
      · exact (if_neg hq).trans (u3_n _ _ (fun z => hq z.2.2)).symm])) kk
theorem zr_PABV {ix : Nat} (hl : ix = 0) : ∀ H, zP G ad σ H → va_at G.2.2.1 zCl (ad 26 ix, zqPABV G σ ix) H ∧ gA G (ad 26 ix) := zP.at 26 ix (by decide) (fun _ => rfl) hl
theorem zl_PABV (K : zK G X cc own nL ret rm) {ix : Nat} {j : Int32} (hl : ix = 0) (i : Nat) (hj : j = nI i) (hi : i < 5) (hd : decode cc pc = .ok (.laload, 1)) (kk : zV G X nL (zP G ad σ) k n (pc + 1) lo (.long (sL σ 12 ix i) :: st)) : zV G X nL (zP G ad σ) k n pc lo (.int j :: .ref (ad 26 ix) :: st) := zi_lald (f := fun j => sL σ 12 ix j) K (fun H h => (zr_PABV hl H h).1) i hj hi (Nat.le_of_ble_eq_true rfl) hd kk
theorem zn_PABV (K : zK G X cc own nL ret rm) {ix : Nat} (hl : ix = 0) (hd : decode cc pc = .ok (.arraylength, 1)) (kk : zV G X nL (zP G ad σ) k n (pc + 1) lo (.int 5 :: st)) : zV G X nL (zP G ad σ) k n pc lo (.ref (ad 26 ix) :: st) := zi_alen (t0 := 1) (N := 5) K rfl (fun H h => (zr_PABV hl H h).1) hd kk
theorem zs_PABV (K : zK G X cc own nL ret rm) {ix : Nat} {j : Int32} {v : Int64} (hl : ix = 0) (i : Nat) (hj : j = nI i) (hi : i < 5) (hd : decode cc pc = .ok (.lastore, 1)) (kk : zV G X nL (zP G ad (uL σ 12 ix i v)) k n (pc + 1) lo st) : zV G X nL (zP G ad σ) k n pc lo (.long v :: .int j :: .ref (ad 26 ix) :: st) :=
  zi_last (f := fun j => sL σ 12 ix j) K (zr_PABV hl) i hj hi (Nat.le_of_ble_eq_true rfl) hd (zP.setL 26 ix (by decide) rfl hl (fun _ => by
    show _ = zqPABV G (uL σ 12 ix i v) ix
    unfold zqPABV
    rw [show vp_updL (fun j => sL σ 12 ix j) i v = (fun j => sL (uL σ 12 ix i v) 12 ix j) from funext fun q => by
      by_cases hq : q = i
      · subst hq; exact (if_pos rfl).trans (u3_s _ _ _ _ _).symm
      · exact (if_neg hq).trans (u3_n _ _ (fun z => hq z.2.2)).symm])) kk
theorem zr_PBEF {ix : Nat} (hl : ix = 0) : ∀ H, zP G ad σ H → va_at G.2.2.1 zCl (ad 27 ix, zqPBEF G σ ix) H ∧ gA G (ad 27 ix) := zP.at 27 ix (by decide) (fun _ => rfl) hl
theorem zl_PBEF (K : zK G X cc own nL ret rm) {ix : Nat} {j : Int32} (hl : ix = 0) (i : Nat) (hj : j = nI i) (hi : i < 5) (hd : decode cc pc = .ok (.laload, 1)) (kk : zV G X nL (zP G ad σ) k n (pc + 1) lo (.long (sL σ 13 ix i) :: st)) : zV G X nL (zP G ad σ) k n pc lo (.int j :: .ref (ad 27 ix) :: st) := zi_lald (f := fun j => sL σ 13 ix j) K (fun H h => (zr_PBEF hl H h).1) i hj hi (Nat.le_of_ble_eq_true rfl) hd kk
theorem zn_PBEF (K : zK G X cc own nL ret rm) {ix : Nat} (hl : ix = 0) (hd : decode cc pc = .ok (.arraylength, 1)) (kk : zV G X nL (zP G ad σ) k n (pc + 1) lo (.int 5 :: st)) : zV G X nL (zP G ad σ) k n pc lo (.ref (ad 27 ix) :: st) := zi_alen (t0 := 1) (N := 5) K rfl (fun H h => (zr_PBEF hl H h).1) hd kk
theorem zs_PBEF (K : zK G X cc own nL ret rm) {ix : Nat} {j : Int32} {v : Int64} (hl : ix = 0) (i : Nat) (hj : j = nI i) (hi : i < 5) (hd : decode cc pc = .ok (.lastore, 1)) (kk : zV G X nL (zP G ad (uL σ 13 ix i v)) k n (pc + 1) lo st) : zV G X nL (zP G ad σ) k n pc lo (.long v :: .int j :: .ref (ad 27 ix) :: st) :=
  zi_last (f := fun j => sL σ 13 ix j) K (zr_PBEF hl) i hj hi (Nat.le_of_ble_eq_true rfl) hd (zP.setL 27 ix (by decide) rfl hl (fun _ => by
    show _ = zqPBEF G (uL σ 13 ix i v) ix
    unfold zqPBEF
    rw [show vp_updL (fun j => sL σ 13 ix j) i v = (fun j => sL (uL σ 13 ix i v) 13 ix j) from funext fun q => by
      by_cases hq : q = i
      · subst hq; exact (if_pos rfl).trans (u3_s _ _ _ _ _).symm
      · exact (if_neg hq).trans (u3_n _ _ (fun z => hq z.2.2)).symm])) kk
end ZT
end
section
/-! small rows: constants, Math, receivers, casts -/
theorem zk_inc (n : Nat) : nI n + Int32.ofInt 1 = nI (n + 1) := (nI_1 n).symm ▸ rfl
theorem zk_dec (n : Nat) : nI (n + 1) + Int32.ofInt (-1) = nI n := by
  rw [show Int32.ofInt (-1) = -1 by decide]
  exact pk_m1 n
theorem zk_a (x : Int32) {a b : Int32} (h : a = b) : x + a = x + b := by rw [h]
def zmx (x y : Int32) : Int32 := if x < y then y else x
def zmn (x y : Int32) : Int32 := if y < x then y else x
def zmxl (x y : Int64) : Int64 := if y < x then x else y
def zmnl (x y : Int64) : Int64 := if y < x then y else x
theorem zloop_exit {i N : Nat} {x : Int32} (hx : x = nI N) (hN : N < 2 ^ 31) (hi : i ≤ N) (h : x ≤ nI i) : i = N := by
  subst hx
  have h2 := (nI_leI hN (by omega)).mp h
  omega
theorem zloop_in {i N : Nat} {x : Int32} (hx : x = nI N) (hN : N < 2 ^ 31) (hi : i ≤ N) (h : ¬ x ≤ nI i) : i < N := by
  subst hx
  rcases Nat.lt_or_ge i N with q | q
  · exact q
  · exact absurd ((nI_leI hN (by omega)).mpr q) h
theorem zV.st {G : zG} {X : zX} {nL k n pc : Nat} {lo : List (Nat × Value)} {st : List Value} {ad : Nat → Nat → Nat} {σ σ' : zSt} (e : σ' = σ) (kk : zV G X nL (zP G ad σ') k n pc lo st) : zV G X nL (zP G ad σ) k n pc lo st := e ▸ kk
theorem zV.lov {G : zG} {X : zX} {nL k n pc : Nat} {P : Heap → Prop} {lo lo' : List (Nat × Value)} {st : List Value} (e : lo' = lo) (kk : zV G X nL P k n pc lo' st) : zV G X nL P k n pc lo st := e ▸ kk
section ZM
variable {G : zG} {X : zX} {cc : ByteArray} {own : String} {nL : Nat} {ret : Option FieldType} {rm : Room} {P : Heap → Prop} {k n pc : Nat} {lo : List (Nat × Value)}
theorem w_405 : (.code ⟨"java/lang/Math", "min", "(JJ)J"⟩ prog_30_method_70_code 4 (some .long) : Cond) ∈ zB := zb_m2 (List.mem_of_getElem? (i := 141) rfl) rfl
theorem w_408 : (.code ⟨"java/lang/Math", "max", "(JJ)J"⟩ prog_30_method_66_code 4 (some .long) : Cond) ∈ zB := zb_m2 (List.mem_of_getElem? (i := 144) rfl) rfl
theorem w_398 : (.code ⟨"java/lang/Math", "min", "(II)I"⟩ prog_30_method_69_code 2 (some .int) : Cond) ∈ zB := zb_m2 (List.mem_of_getElem? (i := 134) rfl) rfl
theorem w_426 : (.code ⟨"java/lang/Math", "max", "(II)I"⟩ prog_30_method_65_code 2 (some .int) : Cond) ∈ zB := zb_m2 (List.mem_of_getElem? (i := 162) rfl) rfl
theorem zi_maxi (K : zK G X cc own nL ret rm) {idx : Nat} {x y : Int32} (st : List Value) (hd : decode cc pc = .ok (.invokestatic idx, 3)) (hw : Cond.methodLink own idx ⟨"java/lang/Math", "max", "(II)I"⟩ ∈ zB) (hR : 1 ≤ rm.frames ∧ (st.map fun v => v.category).sum + 15 ≤ rm.locals) (hc : k ≤ rm.cells ∧ n ≤ rm.slots) (kk : zV G X nL P k n (pc + 3) lo (.int (zmx x y) :: st)) : zV G X nL P k n pc lo (.int y :: .int x :: st) := fun H locs ls hP hS hL => by
  obtain ⟨h1, h2, h3, h4, h5, h6, h7, h8, h9, h10, h11⟩ := K
  rw [← h10] at hR hc
  exact va_mmax h1 h2 (h3.trans hL.1.symm) h4 (h5 _ hw) (h5 _ w_425) (h5 _ w_39) (h5 _ w_426) hR.1 (by omega) hc.1 hc.2 hd (kk H locs ls hP hS hL)
theorem zi_mini (K : zK G X cc own nL ret rm) {idx : Nat} {x y : Int32} (st : List Value) (hd : decode cc pc = .ok (.invokestatic idx, 3)) (hw : Cond.methodLink own idx ⟨"java/lang/Math", "min", "(II)I"⟩ ∈ zB) (hR : 1 ≤ rm.frames ∧ (st.map fun v => v.category).sum + 15 ≤ rm.locals) (hc : k ≤ rm.cells ∧ n ≤ rm.slots) (kk : zV G X nL P k n (pc + 3) lo (.int (zmn x y) :: st)) : zV G X nL P k n pc lo (.int y :: .int x :: st) := fun H locs ls hP hS hL => by
  obtain ⟨h1, h2, h3, h4, h5, h6, h7, h8, h9, h10, h11⟩ := K
  rw [← h10] at hR hc
  exact va_mmin h1 h2 (h3.trans hL.1.symm) h4 (h5 _ hw) (h5 _ w_397) (h5 _ w_39) (h5 _ w_398) hR.1 (by omega) hc.1 hc.2 hd (kk H locs ls hP hS hL)
theorem zi_maxl (K : zK G X cc own nL ret rm) {idx : Nat} {x y : Int64} (st : List Value) (hd : decode cc pc = .ok (.invokestatic idx, 3)) (hw : Cond.methodLink own idx ⟨"java/lang/Math", "max", "(JJ)J"⟩ ∈ zB) (hR : 1 ≤ rm.frames ∧ (st.map fun v => v.category).sum + 15 ≤ rm.locals) (hc : k ≤ rm.cells ∧ n ≤ rm.slots) (kk : zV G X nL P k n (pc + 3) lo (.long (zmxl x y) :: st)) : zV G X nL P k n pc lo (.long y :: .long x :: st) := fun H locs ls hP hS hL => by
  obtain ⟨h1, h2, h3, h4, h5, h6, h7, h8, h9, h10, h11⟩ := K
  rw [← h10] at hR hc
  exact va_mmax_long h1 h2 (h3.trans hL.1.symm) h4 (h5 _ hw) (h5 _ w_407) (h5 _ w_39) (h5 _ w_408) hR.1 (by omega) hc.1 hc.2 hd (kk H locs ls hP hS hL)
theorem zi_minl (K : zK G X cc own nL ret rm) {idx : Nat} {x y : Int64} (st : List Value) (hd : decode cc pc = .ok (.invokestatic idx, 3)) (hw : Cond.methodLink own idx ⟨"java/lang/Math", "min", "(JJ)J"⟩ ∈ zB) (hR : 1 ≤ rm.frames ∧ (st.map fun v => v.category).sum + 15 ≤ rm.locals) (hc : k ≤ rm.cells ∧ n ≤ rm.slots) (kk : zV G X nL P k n (pc + 3) lo (.long (zmnl x y) :: st)) : zV G X nL P k n pc lo (.long y :: .long x :: st) := fun H locs ls hP hS hL => by
  obtain ⟨h1, h2, h3, h4, h5, h6, h7, h8, h9, h10, h11⟩ := K
  rw [← h10] at hR hc
  exact va_mmin_long h1 h2 (h3.trans hL.1.symm) h4 (h5 _ hw) (h5 _ w_404) (h5 _ w_39) (h5 _ w_405) hR.1 (by omega) hc.1 hc.2 hd (kk H locs ls hP hS hL)
theorem zi_recv (K : zK G X cc own nL ret rm) {H : Heap} {a ci N : Nat} {fs : List Value} {C : String} {T : u_T} (h : va_at G.2.2.1 zCl (a, .inr (ci, fs)) H) (hc : zCl[ci]? = some (C, T, N)) : ∃ cell : Cell, H[a]? = some cell ∧ cell.vm.isStatics = false ∧ (xs X).vm.findClass C = some cell.cls := by
  obtain ⟨q', h1, cell, g1, g2, g3, -⟩ := h
  exact ⟨cell, g1, by rw [g3]; rfl, by rw [g2]; exact (K.2.2.2.2.2.1.1.1 ci _ hc).2.1⟩
theorem zi_cast (K : zK G X cc own nL ret rm) {a ci N idx : Nat} {fs : List Value} {C : String} {T : u_T} {st : List Value} (h : ∀ H, P H → va_at G.2.2.1 zCl (a, .inr (ci, fs)) H) (hc : zCl[ci]? = some (C, T, N)) (hw : Cond.classLink own idx C ∈ zB) (hd : decode cc pc = .ok (.checkcast idx, 3)) (kk : zV G X nL P k n (pc + 3) lo (.ref a :: st)) : zV G X nL P k n pc lo (.ref a :: st) := fun H locs ls hP hS hL =>
  va_castS K.1 K.2.1 K.2.2.2.1 (K.2.2.2.2.1 _ hw) (K.2.2.2.2.2.1.1.1 ci _ hc).2 (zi_recv K (h H hP) hc) hd (kk H locs ls hP hS hL)
end ZM
theorem zk_b6 : (Int8.ofInt 6).toInt32 = 6 := by decide
theorem zk_b7 : (Int8.ofInt 7).toInt32 = 7 := by decide
theorem zk_b8 : (Int8.ofInt 8).toInt32 = 8 := by decide
theorem zk_b9 : (Int8.ofInt 9).toInt32 = 9 := by decide
theorem zk_b10 : (Int8.ofInt 10).toInt32 = 10 := by decide
theorem zk_b11 : (Int8.ofInt 11).toInt32 = 11 := by decide
theorem zk_b12 : (Int8.ofInt 12).toInt32 = 12 := by decide
theorem zk_b16 : (Int8.ofInt 16).toInt32 = 16 := by decide
theorem zk_b20 : (Int8.ofInt 20).toInt32 = 20 := by decide
theorem zk_b30 : (Int8.ofInt 30).toInt32 = 30 := by decide
theorem zk_b31 : (Int8.ofInt 31).toInt32 = 31 := by decide
theorem zk_b40 : (Int8.ofInt 40).toInt32 = 40 := by decide
theorem zk_b50 : (Int8.ofInt 50).toInt32 = 50 := by decide
theorem zk_b63 : (Int8.ofInt 63).toInt32 = 63 := by decide
theorem zk_b70 : (Int8.ofInt 70).toInt32 = 70 := by decide
theorem zk_b97 : (Int8.ofInt 97).toInt32 = 97 := by decide
theorem zk_b99 : (Int8.ofInt 99).toInt32 = 99 := by decide
theorem zk_b100 : (Int8.ofInt 100).toInt32 = 100 := by decide
theorem zk_b101 : (Int8.ofInt 101).toInt32 = 101 := by decide
theorem zk_b111 : (Int8.ofInt 111).toInt32 = 111 := by decide
theorem zk_b113 : (Int8.ofInt 113).toInt32 = 113 := by decide
theorem zk_b114 : (Int8.ofInt 114).toInt32 = 114 := by decide
theorem zk_b115 : (Int8.ofInt 115).toInt32 = 115 := by decide
theorem zk_im1 : Int32.ofInt (-1) = (-1) := by decide
theorem zk_i0 : Int32.ofInt 0 = 0 := by decide
theorem zk_i1 : Int32.ofInt 1 = 1 := by decide
theorem zk_i2 : Int32.ofInt 2 = 2 := by decide
theorem zk_i3 : Int32.ofInt 3 = 3 := by decide
theorem zk_i4 : Int32.ofInt 4 = 4 := by decide
theorem zk_i5 : Int32.ofInt 5 = 5 := by decide
theorem zk_i10 : Int32.ofInt 10 = 10 := by decide
theorem zk_l0 : Int64.ofNat ((0 : Fin 2) : Nat) = 0 := by decide
theorem zk_s200 : (Int16.ofInt 200).toInt32 = 200 := by decide
theorem zk_s201 : (Int16.ofInt 201).toInt32 = 201 := by decide
theorem zk_s255 : (Int16.ofInt 255).toInt32 = 255 := by decide
theorem zk_s300 : (Int16.ofInt 300).toInt32 = 300 := by decide
theorem zk_s500 : (Int16.ofInt 500).toInt32 = 500 := by decide
theorem zk_s600 : (Int16.ofInt 600).toInt32 = 600 := by decide
theorem zk_s700 : (Int16.ofInt 700).toInt32 = 700 := by decide
theorem zk_s900 : (Int16.ofInt 900).toInt32 = 900 := by decide
theorem zk_s999 : (Int16.ofInt 999).toInt32 = 999 := by decide
theorem zk_s3000 : (Int16.ofInt 3000).toInt32 = 3000 := by decide
theorem zk_s5000 : (Int16.ofInt 5000).toInt32 = 5000 := by decide
theorem zk_s7919 : (Int16.ofInt 7919).toInt32 = 7919 := by decide
end
section
theorem uI_22 (σ : zSt) (t o e : Nat) (v : Int32) : (uI σ t o e v).2.2 = σ.2.2 := rfl
theorem uL_22 (σ : zSt) (t o e : Nat) (v : Int64) : (uL σ t o e v).2.2 = σ.2.2 := rfl
theorem uL_1 (σ : zSt) (t o e : Nat) (v : Int64) : (uL σ t o e v).1 = σ.1 := rfl
def zfI (σ : zSt) (t o : Nat) (v : Int32) : Nat → zSt
  | 0 => σ
  | i + 1 => uI (zfI σ t o v i) t o i v
def zfL (σ : zSt) (t o : Nat) (v : Int64) : Nat → zSt
  | 0 => σ
  | i + 1 => uL (zfL σ t o v i) t o i v
theorem zfI_2 (σ : zSt) (t o : Nat) (v : Int32) (i : Nat) : (zfI σ t o v i).2 = σ.2 := by
  induction i with
  | zero => rfl
  | succ i ih => exact ih
theorem zfI_22 (σ : zSt) (t o : Nat) (v : Int32) (i : Nat) : (zfI σ t o v i).2.2 = σ.2.2 := congrArg Prod.snd (zfI_2 σ t o v i)
theorem zfL_22 (σ : zSt) (t o : Nat) (v : Int64) (i : Nat) : (zfL σ t o v i).2.2 = σ.2.2 := by
  induction i with
  | zero => rfl
  | succ i ih => exact ih
def v_inForce (σ : zSt) (p : Nat) (day : Int32) : Int32 := if day < sI σ 2 p 0 then 0 else if sI σ 3 p 0 < day then 0 else 1
set_option maxRecDepth 100000 in
set_option maxHeartbeats 4000000 in
theorem c_inForce {G : zG} {ad : Nat → Nat → Nat} {σ : zSt} (p : Nat) (day : Int32) (hp : p < sN σ 0) : zC G yX4_isInForce cX4_isInForce 2 (some FieldType.boolean) 0 0 0 0 [.ref (ad 1 p), .int day] (zP G ad σ) (some (.int (v_inForce σ p day))) (zP G ad σ) := by
  refine zC_of (by decide) (Nat.le_of_ble_eq_true rfl) (fun X K E hnm => ?_)
  show zV G X 2 (zP G ad σ) 0 0 0 [(0, .ref (ad 1 p)), (1, .int day)] []
  refine zi_aload_n K (dX4_isInForce 0 rfl) 0 rfl ?_
  refine zg_POL_first K hp w_719 (dX4_isInForce 1 rfl) ?_
  refine zi_iload_n K (dX4_isInForce 2 rfl) 1 rfl ?_
  refine zi_icmp_gt K 20 (dX4_isInForce 3 rfl) rfl (fun h5_0 => ?_) (fun h5_0 => ?_)
  · skip
    refine zi_iconst K (dX4_isInForce 10 rfl) zk_i0 ?_
    exact zi_zret K E (dX4_isInForce 11 rfl) (Nat.le_refl _) (Nat.le_refl _) (by unfold v_inForce; rw [if_pos h5_0]) rfl (fun _ h => h)
  · skip
    refine zi_iload_n K (dX4_isInForce 4 rfl) 1 rfl ?_
    refine zi_aload_n K (dX4_isInForce 5 rfl) 0 rfl ?_
    refine zg_POL_last K hp w_721 (dX4_isInForce 6 rfl) ?_
    refine zi_icmp_gt K 20 (dX4_isInForce 7 rfl) rfl (fun h13_1 => ?_) (fun h13_1 => ?_)
    · skip
      refine zi_iconst K (dX4_isInForce 10 rfl) zk_i0 ?_
      exact zi_zret K E (dX4_isInForce 11 rfl) (Nat.le_refl _) (Nat.le_refl _) (by unfold v_inForce; rw [if_neg h5_0, if_pos h13_1]) rfl (fun _ h => h)
    · skip
      refine zi_iconst K (dX4_isInForce 8 rfl) zk_i1 ?_
      refine zi_goto K 21 (dX4_isInForce 9 rfl) rfl ?_
      exact zi_zret K E (dX4_isInForce 11 rfl) (Nat.le_refl _) (Nat.le_refl _) (by unfold v_inForce; rw [if_neg h5_0, if_neg h13_1]) rfl (fun _ h => h)
def s_happen (σ : zSt) (k : Nat) (a b c : Int32) : zSt := (uI (uI (uI σ 4 k 0 a) 5 k 0 b) 6 k 0 c)
theorem s_happen_22 (σ : zSt) (k : Nat) (a b c : Int32) : (s_happen σ k a b c).2.2 = σ.2.2 := by
  unfold s_happen
  (repeat' split) <;> first | exact ((uI_22 (uI (uI σ 4 k 0 a) 5 k 0 b) 6 k 0 c).trans ((uI_22 (uI σ 4 k 0 a) 5 k 0 b).trans ((uI_22 σ 4 k 0 a).trans rfl)))
set_option maxRecDepth 100000 in
set_option maxHeartbeats 4000000 in
theorem c_happen {G : zG} {ad : Nat → Nat → Nat} {σ : zSt} (k : Nat) (a b c : Int32) (hk : zlC σ k) : zC G yX0_happen cX0_happen 4 none 0 0 0 0 [.ref (ad 2 k), .int a, .int b, .int c] (zP G ad σ) none (zP G ad (s_happen σ k a b c)) := by
  refine zC_of (by decide) (Nat.le_of_ble_eq_true rfl) (fun X K E hnm => ?_)
  show zV G X 4 (zP G ad σ) 0 0 0 [(0, .ref (ad 2 k)), (1, .int a), (2, .int b), (3, .int c)] []
  refine zi_aload_n K (dX0_happen 0 rfl) 0 rfl ?_
  refine zi_iload_n K (dX0_happen 1 rfl) 1 rfl ?_
  refine zp_CL_day K hk w_746 (dX0_happen 2 rfl) ?_
  refine zi_aload_n K (dX0_happen 3 rfl) 0 rfl ?_
  refine zi_iload_n K (dX0_happen 4 rfl) 2 rfl ?_
  refine zp_CL_told K hk w_750 (dX0_happen 5 rfl) ?_
  refine zi_aload_n K (dX0_happen 6 rfl) 0 rfl ?_
  refine zi_iload_n K (dX0_happen 7 rfl) 3 rfl ?_
  refine zp_CL_amount K hk w_752 (dX0_happen 8 rfl) ?_
  exact zi_vret K E (dX0_happen 9 rfl) (Nat.le_refl _) (Nat.le_refl _) rfl (fun H h => by exact h)
def v_isLimited (σ : zSt) (t : Nat) : Int32 := if sI σ 8 t 0 = 114 then 1 else if sI σ 8 t 0 = 101 then 1 else 0
set_option maxRecDepth 100000 in
set_option maxHeartbeats 4000000 in
theorem c_isLimited {G : zG} {ad : Nat → Nat → Nat} {σ : zSt} (t : Nat) (ht : t < sN σ 2) : zC G yX7_isLimited cX7_isLimited 1 (some FieldType.boolean) 0 0 0 0 [.ref (ad 5 t)] (zP G ad σ) (some (.int (v_isLimited σ t))) (zP G ad σ) := by
  refine zC_of (by decide) (Nat.le_of_ble_eq_true rfl) (fun X K E hnm => ?_)
  show zV G X 1 (zP G ad σ) 0 0 0 [(0, .ref (ad 5 t))] []
  refine zi_aload_n K (dX7_isLimited 0 rfl) 0 rfl ?_
  refine zg_TR_kind K ht w_1095 (dX7_isLimited 1 rfl) ?_
  refine zi_bipush K (dX7_isLimited 2 rfl) zk_b114 ?_
  refine zi_icmp_eq K 18 (dX7_isLimited 3 rfl) rfl (fun h6_0 => ?_) (fun h6_0 => ?_)
  · skip
    refine zi_iconst K (dX7_isLimited 8 rfl) zk_i1 ?_
    refine zi_goto K 23 (dX7_isLimited 9 rfl) rfl ?_
    exact zi_zret K E (dX7_isLimited 11 rfl) (Nat.le_refl _) (Nat.le_refl _) (by unfold v_isLimited; rw [if_pos h6_0]) rfl (fun _ h => h)
  · skip
    refine zi_aload_n K (dX7_isLimited 4 rfl) 0 rfl ?_
    refine zg_TR_kind K ht w_1095 (dX7_isLimited 5 rfl) ?_
    refine zi_bipush K (dX7_isLimited 6 rfl) zk_b101 ?_
    refine zi_icmp_ne K 22 (dX7_isLimited 7 rfl) rfl (fun h15_1 => ?_) (fun h15_1 => ?_)
    · skip
      refine zi_iconst K (dX7_isLimited 10 rfl) zk_i0 ?_
      exact zi_zret K E (dX7_isLimited 11 rfl) (Nat.le_refl _) (Nat.le_refl _) (by unfold v_isLimited; rw [if_neg h6_0, if_neg h15_1]) rfl (fun _ h => h)
    · skip
      refine zi_iconst K (dX7_isLimited 8 rfl) zk_i1 ?_
      refine zi_goto K 23 (dX7_isLimited 9 rfl) rfl ?_
      exact zi_zret K E (dX7_isLimited 11 rfl) (Nat.le_refl _) (Nat.le_refl _) (by unfold v_isLimited; rw [if_neg h6_0, if_pos h15_1]) rfl (fun _ h => h)
def v_wholeLimit (σ : zSt) (t : Nat) : Int64 := if v_isLimited σ t = 0 then 1000000000000 else ((sI σ 13 t 0).toInt64) * ((1 + (sI σ 15 t 0)).toInt64)
set_option maxRecDepth 100000 in
set_option maxHeartbeats 4000000 in
theorem c_wholeLimit {G : zG} {ad : Nat → Nat → Nat} {σ : zSt} (t : Nat) (ht : t < sN σ 2) : zC G yX7_wholeLimit cX7_wholeLimit 1 (some FieldType.long) 1 20 0 0 [.ref (ad 5 t)] (zP G ad σ) (some (.long (v_wholeLimit σ t))) (zP G ad σ) := by
  refine zC_of (by decide) (Nat.le_of_ble_eq_true rfl) (fun X K E hnm => ?_)
  show zV G X 1 (zP G ad σ) 0 0 0 [(0, .ref (ad 5 t))] []
  refine zi_aload_n K (dX7_wholeLimit 0 rfl) 0 rfl ?_
  refine zi_callV K (na := 0) [] [.int (v_isLimited σ t)] (c_isLimited  t ht) (dX7_wholeLimit 1 rfl) w_374 w_375 w_376 w_55 w_377 (by decide +kernel) rfl (fun H h => zi_recv K (zr_TR (σ := σ) ht H h).1 rfl) (fun H h => h) ⟨Nat.le_of_ble_eq_true rfl, Nat.le_of_ble_eq_true rfl⟩ ⟨Nat.le_refl _, Nat.le_refl _⟩ (Nat.le_of_ble_eq_true rfl) rfl rfl ?_
  refine zi_if_eq K 23 (dX7_wholeLimit 2 rfl) rfl (fun h4_0 => ?_) (fun h4_0 => ?_)
  · skip
    refine zi_ldc2 K (dX7_wholeLimit 13 rfl) w_378 ?_
    exact zi_lret K E (dX7_wholeLimit 14 rfl) (Nat.le_refl _) (Nat.le_refl _) (by unfold v_wholeLimit; rw [if_pos h4_0]) (fun _ h => h)
  · skip
    refine zi_aload_n K (dX7_wholeLimit 3 rfl) 0 rfl ?_
    refine zg_TR_b K ht w_1102 (dX7_wholeLimit 4 rfl) ?_
    refine zi_i2l K (dX7_wholeLimit 5 rfl) ?_
    refine zi_iconst K (dX7_wholeLimit 6 rfl) zk_i1 ?_
    refine zi_aload_n K (dX7_wholeLimit 7 rfl) 0 rfl ?_
    refine zg_TR_many K ht w_1110 (dX7_wholeLimit 8 rfl) ?_
    refine zi_iadd K (dX7_wholeLimit 9 rfl) ?_
    refine zi_i2l K (dX7_wholeLimit 10 rfl) ?_
    refine zi_lmul K (dX7_wholeLimit 11 rfl) ?_
    refine zi_goto K 26 (dX7_wholeLimit 12 rfl) rfl ?_
    exact zi_lret K E (dX7_wholeLimit 14 rfl) (Nat.le_refl _) (Nat.le_refl _) (by unfold v_wholeLimit; rw [if_neg h4_0]) (fun _ h => h)
def v_forEach (σ : zSt) (t : Nat) : Int32 := if sI σ 8 t 0 = 113 then 1 else if sI σ 8 t 0 = 115 then 1 else if sI σ 8 t 0 = 114 then 1 else 0
set_option maxRecDepth 100000 in
set_option maxHeartbeats 4000000 in
theorem c_forEach {G : zG} {ad : Nat → Nat → Nat} {σ : zSt} (t : Nat) (ht : t < sN σ 2) : zC G yX7_isForEachLoss cX7_isForEachLoss 1 (some FieldType.boolean) 0 0 0 0 [.ref (ad 5 t)] (zP G ad σ) (some (.int (v_forEach σ t))) (zP G ad σ) := by
  refine zC_of (by decide) (Nat.le_of_ble_eq_true rfl) (fun X K E hnm => ?_)
  show zV G X 1 (zP G ad σ) 0 0 0 [(0, .ref (ad 5 t))] []
  refine zi_aload_n K (dX7_isForEachLoss 0 rfl) 0 rfl ?_
  refine zg_TR_kind K ht w_1095 (dX7_isForEachLoss 1 rfl) ?_
  refine zi_bipush K (dX7_isForEachLoss 2 rfl) zk_b113 ?_
  refine zi_icmp_eq K 27 (dX7_isForEachLoss 3 rfl) rfl (fun h6_0 => ?_) (fun h6_0 => ?_)
  · skip
    refine zi_iconst K (dX7_isForEachLoss 12 rfl) zk_i1 ?_
    refine zi_goto K 32 (dX7_isForEachLoss 13 rfl) rfl ?_
    exact zi_zret K E (dX7_isForEachLoss 15 rfl) (Nat.le_refl _) (Nat.le_refl _) (by unfold v_forEach; rw [if_pos h6_0]) rfl (fun _ h => h)
  · skip
    refine zi_aload_n K (dX7_isForEachLoss 4 rfl) 0 rfl ?_
    refine zg_TR_kind K ht w_1095 (dX7_isForEachLoss 5 rfl) ?_
    refine zi_bipush K (dX7_isForEachLoss 6 rfl) zk_b115 ?_
    refine zi_icmp_eq K 27 (dX7_isForEachLoss 7 rfl) rfl (fun h15_1 => ?_) (fun h15_1 => ?_)
    · skip
      refine zi_iconst K (dX7_isForEachLoss 12 rfl) zk_i1 ?_
      refine zi_goto K 32 (dX7_isForEachLoss 13 rfl) rfl ?_
      exact zi_zret K E (dX7_isForEachLoss 15 rfl) (Nat.le_refl _) (Nat.le_refl _) (by unfold v_forEach; rw [if_neg h6_0, if_pos h15_1]) rfl (fun _ h => h)
    · skip
      refine zi_aload_n K (dX7_isForEachLoss 8 rfl) 0 rfl ?_
      refine zg_TR_kind K ht w_1095 (dX7_isForEachLoss 9 rfl) ?_
      refine zi_bipush K (dX7_isForEachLoss 10 rfl) zk_b114 ?_
      refine zi_icmp_ne K 31 (dX7_isForEachLoss 11 rfl) rfl (fun h24_2 => ?_) (fun h24_2 => ?_)
      · skip
        refine zi_iconst K (dX7_isForEachLoss 14 rfl) zk_i0 ?_
        exact zi_zret K E (dX7_isForEachLoss 15 rfl) (Nat.le_refl _) (Nat.le_refl _) (by unfold v_forEach; rw [if_neg h6_0, if_neg h15_1, if_neg h24_2]) rfl (fun _ h => h)
      · skip
        refine zi_iconst K (dX7_isForEachLoss 12 rfl) zk_i1 ?_
        refine zi_goto K 32 (dX7_isForEachLoss 13 rfl) rfl ?_
        exact zi_zret K E (dX7_isForEachLoss 15 rfl) (Nat.le_refl _) (Nat.le_refl _) (by unfold v_forEach; rw [if_neg h6_0, if_neg h15_1, if_pos h24_2]) rfl (fun _ h => h)
def v_covers (σ : zSt) (t k : Nat) : Int32 := if sI σ 9 t 0 = 111 then (if sI σ 19 t 0 = 0 then (if sI σ 4 k 0 < sI σ 10 t 0 then 0 else if sI σ 11 t 0 < sI σ 4 k 0 then 0 else 1) else 0) else if sI σ 9 t 0 = 97 then (if sI σ 19 t 0 = 0 then (if sI σ 2 (sP σ k) 0 < sI σ 10 t 0 then 0 else if sI σ 11 t 0 < sI σ 2 (sP σ k) 0 then 0 else 1) else 0) else if sI σ 19 t 0 = 0 then (if sI σ 5 k 0 < sI σ 10 t 0 then 0 else if sI σ 11 t 0 < sI σ 5 k 0 then 0 else 1) else 0
set_option maxRecDepth 100000 in
set_option maxHeartbeats 4000000 in
theorem c_covers {G : zG} {ad : Nat → Nat → Nat} {σ : zSt} (t k : Nat) (ht : t < sN σ 2) (hk : zlC σ k) (hp : sP σ k < sN σ 0) : zC G yX7_coversLoss cX7_coversLoss 3 (some FieldType.boolean) 0 0 0 0 [.ref (ad 5 t), .ref (ad 2 k)] (zP G ad σ) (some (.int (v_covers σ t k))) (zP G ad σ) := by
  refine zC_of (by decide) (Nat.le_of_ble_eq_true rfl) (fun X K E hnm => ?_)
  show zV G X 3 (zP G ad σ) 0 0 0 [(0, .ref (ad 5 t)), (1, .ref (ad 2 k))] []
  refine zi_aload_n K (dX7_coversLoss 0 rfl) 0 rfl ?_
  refine zg_TR_basis K ht w_1098 (dX7_coversLoss 1 rfl) ?_
  refine zi_bipush K (dX7_coversLoss 2 rfl) zk_b111 ?_
  refine zi_icmp_ne K 16 (dX7_coversLoss 3 rfl) rfl (fun h6_0 => ?_) (fun h6_0 => ?_)
  · skip
    refine zi_aload_n K (dX7_coversLoss 7 rfl) 0 rfl ?_
    refine zg_TR_basis K ht w_1098 (dX7_coversLoss 8 rfl) ?_
    refine zi_bipush K (dX7_coversLoss 9 rfl) zk_b97 ?_
    refine zi_icmp_ne K 35 (dX7_coversLoss 10 rfl) rfl (fun h22_1 => ?_) (fun h22_1 => ?_)
    · skip
      refine zi_aload_n K (dX7_coversLoss 15 rfl) 1 rfl ?_
      refine zg_CL_told K hk w_751 (dX7_coversLoss 16 rfl) ?_
      refine zi_istore_n K [(2, .int (sI σ 5 k 0)), (0, .ref (ad 5 t)), (1, .ref (ad 2 k))] (dX7_coversLoss 17 rfl) (by decide) rfl ?_
      refine zi_aload_n K (dX7_coversLoss 18 rfl) 1 rfl ?_
      refine zg_TR_isCommuted K ht w_1119 (dX7_coversLoss 19 rfl) ?_
      refine zi_if_ne K 67 (dX7_coversLoss 20 rfl) rfl (fun h44_2 => ?_) (fun h44_2 => ?_)
      · skip
        refine zi_iconst K (dX7_coversLoss 31 rfl) zk_i0 ?_
        exact zi_zret K E (dX7_coversLoss 32 rfl) (Nat.le_refl _) (Nat.le_refl _) (by unfold v_covers; rw [if_neg h6_0, if_neg h22_1, if_neg h44_2]) rfl (fun _ h => h)
      · skip
        refine zi_aload_n K (dX7_coversLoss 21 rfl) 1 rfl ?_
        refine zg_TR_first K ht w_1099 (dX7_coversLoss 22 rfl) ?_
        refine zi_iload_n K (dX7_coversLoss 23 rfl) 0 rfl ?_
        refine zi_icmp_gt K 67 (dX7_coversLoss 24 rfl) rfl (fun h52_3 => ?_) (fun h52_3 => ?_)
        · skip
          refine zi_iconst K (dX7_coversLoss 31 rfl) zk_i0 ?_
          exact zi_zret K E (dX7_coversLoss 32 rfl) (Nat.le_refl _) (Nat.le_refl _) (by unfold v_covers; rw [if_neg h6_0, if_neg h22_1, if_pos h44_2, if_pos h52_3]) rfl (fun _ h => h)
        · skip
          refine zi_iload_n K (dX7_coversLoss 25 rfl) 0 rfl ?_
          refine zi_aload_n K (dX7_coversLoss 26 rfl) 1 rfl ?_
          refine zg_TR_last K ht w_1100 (dX7_coversLoss 27 rfl) ?_
          refine zi_icmp_gt K 67 (dX7_coversLoss 28 rfl) rfl (fun h60_4 => ?_) (fun h60_4 => ?_)
          · skip
            refine zi_iconst K (dX7_coversLoss 31 rfl) zk_i0 ?_
            exact zi_zret K E (dX7_coversLoss 32 rfl) (Nat.le_refl _) (Nat.le_refl _) (by unfold v_covers; rw [if_neg h6_0, if_neg h22_1, if_pos h44_2, if_neg h52_3, if_pos h60_4]) rfl (fun _ h => h)
          · skip
            refine zi_iconst K (dX7_coversLoss 29 rfl) zk_i1 ?_
            refine zi_goto K 68 (dX7_coversLoss 30 rfl) rfl ?_
            exact zi_zret K E (dX7_coversLoss 32 rfl) (Nat.le_refl _) (Nat.le_refl _) (by unfold v_covers; rw [if_neg h6_0, if_neg h22_1, if_pos h44_2, if_neg h52_3, if_neg h60_4]) rfl (fun _ h => h)
    · skip
      refine zi_aload_n K (dX7_coversLoss 11 rfl) 1 rfl ?_
      refine zg_CL_policy K hk w_737 (dX7_coversLoss 12 rfl) ?_
      refine zg_POL_first K hp w_720 (dX7_coversLoss 13 rfl) ?_
      refine zi_goto K 39 (dX7_coversLoss 14 rfl) rfl ?_
      refine zi_istore_n K [(2, .int (sI σ 2 (sP σ k) 0)), (0, .ref (ad 5 t)), (1, .ref (ad 2 k))] (dX7_coversLoss 17 rfl) (by decide) rfl ?_
      refine zi_aload_n K (dX7_coversLoss 18 rfl) 1 rfl ?_
      refine zg_TR_isCommuted K ht w_1119 (dX7_coversLoss 19 rfl) ?_
      refine zi_if_ne K 67 (dX7_coversLoss 20 rfl) rfl (fun h44_2 => ?_) (fun h44_2 => ?_)
      · skip
        refine zi_iconst K (dX7_coversLoss 31 rfl) zk_i0 ?_
        exact zi_zret K E (dX7_coversLoss 32 rfl) (Nat.le_refl _) (Nat.le_refl _) (by unfold v_covers; rw [if_neg h6_0, if_pos h22_1, if_neg h44_2]) rfl (fun _ h => h)
      · skip
        refine zi_aload_n K (dX7_coversLoss 21 rfl) 1 rfl ?_
        refine zg_TR_first K ht w_1099 (dX7_coversLoss 22 rfl) ?_
        refine zi_iload_n K (dX7_coversLoss 23 rfl) 0 rfl ?_
        refine zi_icmp_gt K 67 (dX7_coversLoss 24 rfl) rfl (fun h52_3 => ?_) (fun h52_3 => ?_)
        · skip
          refine zi_iconst K (dX7_coversLoss 31 rfl) zk_i0 ?_
          exact zi_zret K E (dX7_coversLoss 32 rfl) (Nat.le_refl _) (Nat.le_refl _) (by unfold v_covers; rw [if_neg h6_0, if_pos h22_1, if_pos h44_2, if_pos h52_3]) rfl (fun _ h => h)
        · skip
          refine zi_iload_n K (dX7_coversLoss 25 rfl) 0 rfl ?_
          refine zi_aload_n K (dX7_coversLoss 26 rfl) 1 rfl ?_
          refine zg_TR_last K ht w_1100 (dX7_coversLoss 27 rfl) ?_
          refine zi_icmp_gt K 67 (dX7_coversLoss 28 rfl) rfl (fun h60_4 => ?_) (fun h60_4 => ?_)
          · skip
            refine zi_iconst K (dX7_coversLoss 31 rfl) zk_i0 ?_
            exact zi_zret K E (dX7_coversLoss 32 rfl) (Nat.le_refl _) (Nat.le_refl _) (by unfold v_covers; rw [if_neg h6_0, if_pos h22_1, if_pos h44_2, if_neg h52_3, if_pos h60_4]) rfl (fun _ h => h)
          · skip
            refine zi_iconst K (dX7_coversLoss 29 rfl) zk_i1 ?_
            refine zi_goto K 68 (dX7_coversLoss 30 rfl) rfl ?_
            exact zi_zret K E (dX7_coversLoss 32 rfl) (Nat.le_refl _) (Nat.le_refl _) (by unfold v_covers; rw [if_neg h6_0, if_pos h22_1, if_pos h44_2, if_neg h52_3, if_neg h60_4]) rfl (fun _ h => h)
  · skip
    refine zi_aload_n K (dX7_coversLoss 4 rfl) 1 rfl ?_
    refine zg_CL_day K hk w_749 (dX7_coversLoss 5 rfl) ?_
    refine zi_goto K 39 (dX7_coversLoss 6 rfl) rfl ?_
    refine zi_istore_n K [(2, .int (sI σ 4 k 0)), (0, .ref (ad 5 t)), (1, .ref (ad 2 k))] (dX7_coversLoss 17 rfl) (by decide) rfl ?_
    refine zi_aload_n K (dX7_coversLoss 18 rfl) 1 rfl ?_
    refine zg_TR_isCommuted K ht w_1119 (dX7_coversLoss 19 rfl) ?_
    refine zi_if_ne K 67 (dX7_coversLoss 20 rfl) rfl (fun h44_1 => ?_) (fun h44_1 => ?_)
    · skip
      refine zi_iconst K (dX7_coversLoss 31 rfl) zk_i0 ?_
      exact zi_zret K E (dX7_coversLoss 32 rfl) (Nat.le_refl _) (Nat.le_refl _) (by unfold v_covers; rw [if_pos h6_0, if_neg h44_1]) rfl (fun _ h => h)
    · skip
      refine zi_aload_n K (dX7_coversLoss 21 rfl) 1 rfl ?_
      refine zg_TR_first K ht w_1099 (dX7_coversLoss 22 rfl) ?_
      refine zi_iload_n K (dX7_coversLoss 23 rfl) 0 rfl ?_
      refine zi_icmp_gt K 67 (dX7_coversLoss 24 rfl) rfl (fun h52_2 => ?_) (fun h52_2 => ?_)
      · skip
        refine zi_iconst K (dX7_coversLoss 31 rfl) zk_i0 ?_
        exact zi_zret K E (dX7_coversLoss 32 rfl) (Nat.le_refl _) (Nat.le_refl _) (by unfold v_covers; rw [if_pos h6_0, if_pos h44_1, if_pos h52_2]) rfl (fun _ h => h)
      · skip
        refine zi_iload_n K (dX7_coversLoss 25 rfl) 0 rfl ?_
        refine zi_aload_n K (dX7_coversLoss 26 rfl) 1 rfl ?_
        refine zg_TR_last K ht w_1100 (dX7_coversLoss 27 rfl) ?_
        refine zi_icmp_gt K 67 (dX7_coversLoss 28 rfl) rfl (fun h60_3 => ?_) (fun h60_3 => ?_)
        · skip
          refine zi_iconst K (dX7_coversLoss 31 rfl) zk_i0 ?_
          exact zi_zret K E (dX7_coversLoss 32 rfl) (Nat.le_refl _) (Nat.le_refl _) (by unfold v_covers; rw [if_pos h6_0, if_pos h44_1, if_neg h52_2, if_pos h60_3]) rfl (fun _ h => h)
        · skip
          refine zi_iconst K (dX7_coversLoss 29 rfl) zk_i1 ?_
          refine zi_goto K 68 (dX7_coversLoss 30 rfl) rfl ?_
          exact zi_zret K E (dX7_coversLoss 32 rfl) (Nat.le_refl _) (Nat.le_refl _) (by unfold v_covers; rw [if_pos h6_0, if_pos h44_1, if_neg h52_2, if_neg h60_3]) rfl (fun _ h => h)
def v_layerOf (σ : zSt) (t : Nat) (x : Int64) : Int64 := zmxl 0 (zmnl (x - ((sI σ 12 t 0).toInt64)) ((sI σ 13 t 0).toInt64))
set_option maxRecDepth 100000 in
set_option maxHeartbeats 4000000 in
theorem c_layerOf {G : zG} {ad : Nat → Nat → Nat} {σ : zSt} (t : Nat) (x : Int64) (ht : t < sN σ 2) : zC G yX7_layerOf cX7_layerOf 3 (some FieldType.long) 1 17 0 0 [.ref (ad 5 t), .long x] (zP G ad σ) (some (.long (v_layerOf σ t x))) (zP G ad σ) := by
  refine zC_of (by decide) (Nat.le_of_ble_eq_true rfl) (fun X K E hnm => ?_)
  show zV G X 3 (zP G ad σ) 0 0 0 [(0, .ref (ad 5 t)), (1, .long x)] []
  refine zi_lconst K (dX7_layerOf 0 rfl) zk_l0 ?_
  refine zi_lload_n K (dX7_layerOf 1 rfl) 1 rfl ?_
  refine zi_aload_n K (dX7_layerOf 2 rfl) 0 rfl ?_
  refine zg_TR_a K ht w_1101 (dX7_layerOf 3 rfl) ?_
  refine zi_i2l K (dX7_layerOf 4 rfl) ?_
  refine zi_lsub K (dX7_layerOf 5 rfl) ?_
  refine zi_aload_n K (dX7_layerOf 6 rfl) 0 rfl ?_
  refine zg_TR_b K ht w_1102 (dX7_layerOf 7 rfl) ?_
  refine zi_i2l K (dX7_layerOf 8 rfl) ?_
  refine zi_minl K [.long 0] (dX7_layerOf 9 rfl) w_403 ⟨Nat.le_of_ble_eq_true rfl, Nat.le_of_ble_eq_true rfl⟩ ⟨Nat.le_refl _, Nat.le_refl _⟩ ?_
  refine zi_maxl K [] (dX7_layerOf 10 rfl) w_406 ⟨Nat.le_of_ble_eq_true rfl, Nat.le_of_ble_eq_true rfl⟩ ⟨Nat.le_refl _, Nat.le_refl _⟩ ?_
  exact zi_lret K E (dX7_layerOf 11 rfl) (Nat.le_refl _) (Nat.le_refl _) rfl (fun _ h => h)
def v_wantedOf (σ : zSt) (t k : Nat) : Int64 := if sI σ 8 t 0 = 113 then ((sL σ 0 k 0) * ((sI σ 12 t 0).toInt64)) / 100 else if sI σ 8 t 0 = 115 then (if sI σ 0 (sP σ k) 0 ≤ sI σ 12 t 0 then 0 else ((sL σ 0 k 0) * ((zmn ((sI σ 0 (sP σ k) 0) - (sI σ 12 t 0)) ((sI σ 12 t 0) * (sI σ 13 t 0))).toInt64)) / ((sI σ 0 (sP σ k) 0).toInt64)) else v_layerOf σ t (sL σ 0 k 0)
set_option maxRecDepth 100000 in
set_option maxHeartbeats 4000000 in
theorem c_wantedOf {G : zG} {ad : Nat → Nat → Nat} {σ : zSt} (t k : Nat) (ht : t < sN σ 2) (hk : zlC σ k) (hp : sP σ k < sN σ 0) (hz : ¬ (sI σ 0 (sP σ k) 0).toInt64 = 0) : zC G yX7_wantedOf cX7_wantedOf 3 (some FieldType.long) 2 39 0 0 [.ref (ad 5 t), .ref (ad 2 k)] (zP G ad σ) (some (.long (v_wantedOf σ t k))) (zP G ad σ) := by
  refine zC_of (by decide) (Nat.le_of_ble_eq_true rfl) (fun X K E hnm => ?_)
  show zV G X 3 (zP G ad σ) 0 0 0 [(0, .ref (ad 5 t)), (1, .ref (ad 2 k))] []
  refine zi_aload_n K (dX7_wantedOf 0 rfl) 0 rfl ?_
  refine zg_TR_kind K ht w_1095 (dX7_wantedOf 1 rfl) ?_
  refine zi_bipush K (dX7_wantedOf 2 rfl) zk_b113 ?_
  refine zi_icmp_ne K 24 (dX7_wantedOf 3 rfl) rfl (fun h6_0 => ?_) (fun h6_0 => ?_)
  · skip
    refine zi_aload_n K (dX7_wantedOf 13 rfl) 0 rfl ?_
    refine zg_TR_kind K ht w_1095 (dX7_wantedOf 14 rfl) ?_
    refine zi_bipush K (dX7_wantedOf 15 rfl) zk_b115 ?_
    refine zi_icmp_ne K 81 (dX7_wantedOf 16 rfl) rfl (fun h30_1 => ?_) (fun h30_1 => ?_)
    · skip
      refine zi_aload_n K (dX7_wantedOf 45 rfl) 0 rfl ?_
      refine zi_aload_n K (dX7_wantedOf 46 rfl) 1 rfl ?_
      refine zg_CL_left K hk w_758 (dX7_wantedOf 47 rfl) ?_
      refine zi_callV K (na := 1) [] [.long (v_layerOf σ t (sL σ 0 k 0))] (c_layerOf  t (sL σ 0 k 0) ht) (dX7_wantedOf 48 rfl) w_399 w_400 w_401 w_55 w_402 (by decide +kernel) rfl (fun H h => zi_recv K (zr_TR (σ := σ) ht H h).1 rfl) (fun H h => h) ⟨Nat.le_of_ble_eq_true rfl, Nat.le_of_ble_eq_true rfl⟩ ⟨Nat.le_refl _, Nat.le_refl _⟩ (Nat.le_of_ble_eq_true rfl) rfl rfl ?_
      exact zi_lret K E (dX7_wantedOf 49 rfl) (Nat.le_refl _) (Nat.le_refl _) (by unfold v_wantedOf; rw [if_neg h6_0, if_neg h30_1]) (fun _ h => h)
    · skip
      refine zi_aload_n K (dX7_wantedOf 17 rfl) 1 rfl ?_
      refine zg_CL_policy K hk w_737 (dX7_wantedOf 18 rfl) ?_
      refine zg_POL_sum K hp w_715 (dX7_wantedOf 19 rfl) ?_
      refine zi_istore_n K [(2, .int (sI σ 0 (sP σ k) 0)), (0, .ref (ad 5 t)), (1, .ref (ad 2 k))] (dX7_wantedOf 20 rfl) (by decide) rfl ?_
      refine zi_iload_n K (dX7_wantedOf 21 rfl) 0 rfl ?_
      refine zi_aload_n K (dX7_wantedOf 22 rfl) 1 rfl ?_
      refine zg_TR_a K ht w_1101 (dX7_wantedOf 23 rfl) ?_
      refine zi_icmp_le K 79 (dX7_wantedOf 24 rfl) rfl (fun h46_2 => ?_) (fun h46_2 => ?_)
      · skip
        refine zi_lconst K (dX7_wantedOf 43 rfl) zk_l0 ?_
        exact zi_lret K E (dX7_wantedOf 44 rfl) (Nat.le_refl _) (Nat.le_refl _) (by unfold v_wantedOf; rw [if_neg h6_0, if_pos h30_1, if_pos h46_2]) (fun _ h => h)
      · skip
        refine zi_aload_n K (dX7_wantedOf 25 rfl) 2 rfl ?_
        refine zg_CL_left K hk w_758 (dX7_wantedOf 26 rfl) ?_
        refine zi_iload_n K (dX7_wantedOf 27 rfl) 0 rfl ?_
        refine zi_aload_n K (dX7_wantedOf 28 rfl) 1 rfl ?_
        refine zg_TR_a K ht w_1101 (dX7_wantedOf 29 rfl) ?_
        refine zi_isub K (dX7_wantedOf 30 rfl) ?_
        refine zi_aload_n K (dX7_wantedOf 31 rfl) 1 rfl ?_
        refine zg_TR_a K ht w_1101 (dX7_wantedOf 32 rfl) ?_
        refine zi_aload_n K (dX7_wantedOf 33 rfl) 1 rfl ?_
        refine zg_TR_b K ht w_1102 (dX7_wantedOf 34 rfl) ?_
        refine zi_imul K (dX7_wantedOf 35 rfl) ?_
        refine zi_mini K [.long (sL σ 0 k 0)] (dX7_wantedOf 36 rfl) w_396 ⟨Nat.le_of_ble_eq_true rfl, Nat.le_of_ble_eq_true rfl⟩ ⟨Nat.le_refl _, Nat.le_refl _⟩ ?_
        refine zi_i2l K (dX7_wantedOf 37 rfl) ?_
        refine zi_lmul K (dX7_wantedOf 38 rfl) ?_
        refine zi_iload_n K (dX7_wantedOf 39 rfl) 0 rfl ?_
        refine zi_i2l K (dX7_wantedOf 40 rfl) ?_
        refine zi_ldiv K (dX7_wantedOf 41 rfl) hz ?_
        refine zi_goto K 80 (dX7_wantedOf 42 rfl) rfl ?_
        exact zi_lret K E (dX7_wantedOf 44 rfl) (Nat.le_refl _) (Nat.le_refl _) (by unfold v_wantedOf; rw [if_neg h6_0, if_pos h30_1, if_neg h46_2]) (fun _ h => h)
  · skip
    refine zi_aload_n K (dX7_wantedOf 4 rfl) 1 rfl ?_
    refine zg_CL_left K hk w_758 (dX7_wantedOf 5 rfl) ?_
    refine zi_aload_n K (dX7_wantedOf 6 rfl) 0 rfl ?_
    refine zg_TR_a K ht w_1101 (dX7_wantedOf 7 rfl) ?_
    refine zi_i2l K (dX7_wantedOf 8 rfl) ?_
    refine zi_lmul K (dX7_wantedOf 9 rfl) ?_
    refine zi_ldc2 K (dX7_wantedOf 10 rfl) w_395 ?_
    refine zi_ldiv K (dX7_wantedOf 11 rfl) (by decide) ?_
    exact zi_lret K E (dX7_wantedOf 12 rfl) (Nat.le_refl _) (Nat.le_refl _) (by unfold v_wantedOf; rw [if_pos h6_0]) (fun _ h => h)
def v_priceOf (σ : zSt) (t : Nat) (x : Int64) (day : Int32) : Int64 := if sI σ 17 t 0 = 0 then ((((sI σ 18 t 0).toInt64) * x) * ((sI σ 16 t 0).toInt64)) / (((sI σ 13 t 0).toInt64) * 100) else ((((((sI σ 18 t 0).toInt64) * x) * ((sI σ 16 t 0).toInt64)) / (((sI σ 13 t 0).toInt64) * 100)) * ((zmx 0 (((sI σ 11 t 0) - day) + 1)).toInt64)) / ((((sI σ 11 t 0) - (sI σ 10 t 0)) + 1).toInt64)
set_option maxRecDepth 100000 in
set_option maxHeartbeats 4000000 in
theorem c_priceOf {G : zG} {ad : Nat → Nat → Nat} {σ : zSt} (t : Nat) (x : Int64) (day : Int32) (ht : t < sN σ 2) (hz1 : ¬ (sI σ 13 t 0).toInt64 * 100 = 0) (hz2 : ¬ (sI σ 11 t 0 - sI σ 10 t 0 + 1).toInt64 = 0) : zC G yX7_priceOf cX7_priceOf 6 (some FieldType.long) 1 17 0 0 [.ref (ad 5 t), .long x, .int day] (zP G ad σ) (some (.long (v_priceOf σ t x day))) (zP G ad σ) := by
  refine zC_of (by decide) (Nat.le_of_ble_eq_true rfl) (fun X K E hnm => ?_)
  show zV G X 6 (zP G ad σ) 0 0 0 [(0, .ref (ad 5 t)), (1, .long x), (3, .int day)] []
  refine zi_aload_n K (dX7_priceOf 0 rfl) 0 rfl ?_
  refine zg_TR_premium K ht w_1117 (dX7_priceOf 1 rfl) ?_
  refine zi_i2l K (dX7_priceOf 2 rfl) ?_
  refine zi_lload_n K (dX7_priceOf 3 rfl) 1 rfl ?_
  refine zi_lmul K (dX7_priceOf 4 rfl) ?_
  refine zi_aload_n K (dX7_priceOf 5 rfl) 0 rfl ?_
  refine zg_TR_price K ht w_1113 (dX7_priceOf 6 rfl) ?_
  refine zi_i2l K (dX7_priceOf 7 rfl) ?_
  refine zi_lmul K (dX7_priceOf 8 rfl) ?_
  refine zi_aload_n K (dX7_priceOf 9 rfl) 0 rfl ?_
  refine zg_TR_b K ht w_1102 (dX7_priceOf 10 rfl) ?_
  refine zi_i2l K (dX7_priceOf 11 rfl) ?_
  refine zi_ldc2 K (dX7_priceOf 12 rfl) w_395 ?_
  refine zi_lmul K (dX7_priceOf 13 rfl) ?_
  refine zi_ldiv K (dX7_priceOf 14 rfl) hz1 ?_
  refine zi_lstore K [(4, .long (((((sI σ 18 t 0).toInt64) * x) * ((sI σ 16 t 0).toInt64)) / (((sI σ 13 t 0).toInt64) * 100))), (0, .ref (ad 5 t)), (1, .long x), (3, .int day)] (dX7_priceOf 15 rfl) (by decide) rfl ?_
  refine zi_aload_n K (dX7_priceOf 16 rfl) 1 rfl ?_
  refine zg_TR_isByTime K ht w_1115 (dX7_priceOf 17 rfl) ?_
  refine zi_if_eq K 63 (dX7_priceOf 18 rfl) rfl (fun h29_0 => ?_) (fun h29_0 => ?_)
  · skip
    refine zi_lload K (dX7_priceOf 40 rfl) 0 rfl ?_
    exact zi_lret K E (dX7_priceOf 41 rfl) (Nat.le_refl _) (Nat.le_refl _) (by unfold v_priceOf; rw [if_pos h29_0]) (fun _ h => h)
  · skip
    refine zi_lload K (dX7_priceOf 19 rfl) 0 rfl ?_
    refine zi_iconst K (dX7_priceOf 20 rfl) zk_i0 ?_
    refine zi_aload_n K (dX7_priceOf 21 rfl) 1 rfl ?_
    refine zg_TR_last K ht w_1100 (dX7_priceOf 22 rfl) ?_
    refine zi_iload_n K (dX7_priceOf 23 rfl) 3 rfl ?_
    refine zi_isub K (dX7_priceOf 24 rfl) ?_
    refine zi_iconst K (dX7_priceOf 25 rfl) zk_i1 ?_
    refine zi_iadd K (dX7_priceOf 26 rfl) ?_
    refine zi_maxi K [.long (((((sI σ 18 t 0).toInt64) * x) * ((sI σ 16 t 0).toInt64)) / (((sI σ 13 t 0).toInt64) * 100))] (dX7_priceOf 27 rfl) w_424 ⟨Nat.le_of_ble_eq_true rfl, Nat.le_of_ble_eq_true rfl⟩ ⟨Nat.le_refl _, Nat.le_refl _⟩ ?_
    refine zi_i2l K (dX7_priceOf 28 rfl) ?_
    refine zi_lmul K (dX7_priceOf 29 rfl) ?_
    refine zi_aload_n K (dX7_priceOf 30 rfl) 1 rfl ?_
    refine zg_TR_last K ht w_1100 (dX7_priceOf 31 rfl) ?_
    refine zi_aload_n K (dX7_priceOf 32 rfl) 1 rfl ?_
    refine zg_TR_first K ht w_1099 (dX7_priceOf 33 rfl) ?_
    refine zi_isub K (dX7_priceOf 34 rfl) ?_
    refine zi_iconst K (dX7_priceOf 35 rfl) zk_i1 ?_
    refine zi_iadd K (dX7_priceOf 36 rfl) ?_
    refine zi_i2l K (dX7_priceOf 37 rfl) ?_
    refine zi_ldiv K (dX7_priceOf 38 rfl) hz2 ?_
    refine zi_lstore K [(4, .long (((((((sI σ 18 t 0).toInt64) * x) * ((sI σ 16 t 0).toInt64)) / (((sI σ 13 t 0).toInt64) * 100)) * ((zmx 0 (((sI σ 11 t 0) - day) + 1)).toInt64)) / ((((sI σ 11 t 0) - (sI σ 10 t 0)) + 1).toInt64))), (0, .ref (ad 5 t)), (1, .long x), (3, .int day)] (dX7_priceOf 39 rfl) (by decide) rfl ?_
    refine zi_lload K (dX7_priceOf 40 rfl) 0 rfl ?_
    exact zi_lret K E (dX7_priceOf 41 rfl) (Nat.le_refl _) (Nat.le_refl _) (by unfold v_priceOf; rw [if_neg h29_0]) (fun _ h => h)
def zsum (f : Nat → Int32) : Nat → Int32
  | 0 => 0
  | i + 1 => zsum f i + f i
def v_allShares (σ : zSt) (t : Nat) : Int32 := zsum (fun e => sI σ 21 t e) 5
set_option maxRecDepth 100000 in
set_option maxHeartbeats 4000000 in
theorem c_allShares {G : zG} {ad : Nat → Nat → Nat} {σ : zSt} (t : Nat) (ht : t < sN σ 2) : zC G yX7_allShares cX7_allShares 3 (some FieldType.int) 0 0 0 0 [.ref (ad 5 t)] (zP G ad σ) (some (.int (v_allShares σ t))) (zP G ad σ) := by
  refine zC_of (by decide) (Nat.le_of_ble_eq_true rfl) (fun X K E hnm => ?_)
  show zV G X 3 (zP G ad σ) 0 0 0 [(0, .ref (ad 5 t))] []
  refine zi_iconst K (dX7_allShares 0 rfl) zk_i0 ?_
  refine zi_istore_n K [(1, .int 0), (0, .ref (ad 5 t))] (dX7_allShares 1 rfl) (by decide) rfl ?_
  refine zi_iconst K (dX7_allShares 2 rfl) zk_i0 ?_
  refine zi_istore_n K [(2, .int 0), (1, .int 0), (0, .ref (ad 5 t))] (dX7_allShares 3 rfl) (by decide) rfl ?_
  refine zV.pick [2, 1, 0] (lo' := [(0, .ref (ad 5 t)), (1, .int 0), (2, .int 0)]) rfl ?_
  suffices hloop4 : ∀ (r i : Nat), i ≤ 5 → 5 - i < r → zV G X 3 (zP G ad σ) (0) (0) 4 [(0, .ref (ad 5 t)), (1, .int (zsum (fun e => sI σ 21 t e) i)), (2, .int (nI i))] [] from hloop4 (5 + 1) 0 (Nat.zero_le _) (Nat.lt_succ_of_le (Nat.sub_le _ _))
  intro r
  induction r with
  | zero => intro i _ h; exact absurd h (Nat.not_lt_zero _)
  | succ r ih4 =>
    intro i hi4 hr4
    refine zi_iload_n K (dX7_allShares 4 rfl) 2 rfl ?_
    refine zi_aload_n K (dX7_allShares 5 rfl) 0 rfl ?_
    refine zg_TR_shares K ht w_1104 (dX7_allShares 6 rfl) ?_
    refine zn_SHR K ht (dX7_allShares 7 rfl) ?_
    refine zi_icmp_ge K 28 (dX7_allShares 8 rfl) rfl (fun h10_0 => ?_) (fun h10_0 => ?_)
    · skip
      have hN4 := zloop_exit (by decide) (Nat.le_of_ble_eq_true rfl) hi4 h10_0
      subst hN4
      refine zi_iload_n K (dX7_allShares 18 rfl) 1 rfl ?_
      exact zi_iret K E (dX7_allShares 19 rfl) (Nat.le_refl _) (Nat.le_refl _) rfl (fun _ h => h)
    · skip
      have hlt4 := zloop_in (by decide) (Nat.le_of_ble_eq_true rfl) hi4 h10_0
      refine zi_iload_n K (dX7_allShares 9 rfl) 1 rfl ?_
      refine zi_aload_n K (dX7_allShares 10 rfl) 0 rfl ?_
      refine zg_TR_shares K ht w_1104 (dX7_allShares 11 rfl) ?_
      refine zi_iload_n K (dX7_allShares 12 rfl) 2 rfl ?_
      refine zl_SHR K ht i rfl (by omega) (dX7_allShares 13 rfl) ?_
      refine zi_iadd K (dX7_allShares 14 rfl) ?_
      refine zi_istore_n K [(1, .int ((zsum (fun e => sI σ 21 t e) i) + (sI σ 21 t i))), (0, .ref (ad 5 t)), (2, .int (nI i))] (dX7_allShares 15 rfl) (by decide) rfl ?_
      refine zi_iinc K (v := nI (i + 1)) [(2, .int (nI (i + 1))), (1, .int ((zsum (fun e => sI σ 21 t e) i) + (sI σ 21 t i))), (0, .ref (ad 5 t))] (dX7_allShares 16 rfl) 2 rfl (zk_inc _) (by decide) rfl ?_
      refine zi_goto K 4 (dX7_allShares 17 rfl) rfl ?_
      refine zV.pick [2, 1, 0] (lo' := [(0, .ref (ad 5 t)), (1, .int ((zsum (fun e => sI σ 21 t e) i) + (sI σ 21 t i))), (2, .int (nI (i + 1)))]) rfl ?_
      refine zV.lov (lo' := [(0, .ref (ad 5 t)), (1, .int (zsum (fun e => sI σ 21 t e) (i + 1))), (2, .int (nI (i + 1)))]) (by first | rfl | (simp only [zsum])) ?_
      exact ih4 (i + 1) (by omega) (by omega)
theorem zlCV_C {σ σ' : zSt} (e : σ'.2.2 = σ.2.2) {k : Nat} (h : zlC σ k) : zlC σ' k := by
  obtain ⟨a, b, c⟩ := σ
  obtain ⟨a', b', c'⟩ := σ'
  cases e
  exact h
theorem zlCV_N {σ σ' : zSt} (e : σ'.2.2 = σ.2.2) {k q : Nat} (h : k < sN σ q) : k < sN σ' q := by
  obtain ⟨a, b, c⟩ := σ
  obtain ⟨a', b', c'⟩ := σ'
  cases e
  exact h
theorem zlCV_P {σ σ' : zSt} (e : σ'.2.2 = σ.2.2) {k q : Nat} (h : sP σ k < sN σ q) : sP σ' k < sN σ' q := by
  obtain ⟨a, b, c⟩ := σ
  obtain ⟨a', b', c'⟩ := σ'
  cases e
  exact h
theorem zlCV_V {σ σ' : zSt} (e : σ'.2.2 = σ.2.2) {k : Nat} (h : zlV σ k) : zlV σ' k := by
  obtain ⟨a, b, c⟩ := σ
  obtain ⟨a', b', c'⟩ := σ'
  cases e
  exact h
def s_fill_EVS (σ : zSt) (k : Nat) (v : Int32) : zSt := (zfI σ 7 k v 8)
theorem s_fill_EVS_22 (σ : zSt) (k : Nat) (v : Int32) : (s_fill_EVS σ k v).2.2 = σ.2.2 := by
  unfold s_fill_EVS
  (repeat' split) <;> first | exact ((zfI_22 σ 7 k v 8).trans rfl)
set_option maxRecDepth 100000 in
set_option maxHeartbeats 4000000 in
theorem c_fill_EVS {G : zG} {ad : Nat → Nat → Nat} {σ : zSt} (k : Nat) (v : Int32) (hk : zlC σ k) : zC G yJ7_fill_53178 cJ7_fill_53178 4 none 0 0 0 0 [.ref (ad 4 k), .int v] (zP G ad σ) none (zP G ad (s_fill_EVS σ k v)) := by
  refine zC_of (by decide) (Nat.le_of_ble_eq_true rfl) (fun X K E hnm => ?_)
  show zV G X 4 (zP G ad σ) 0 0 0 [(0, .ref (ad 4 k)), (1, .int v)] []
  refine zi_iconst K (dJ7_fill_53178 0 rfl) zk_i0 ?_
  refine zi_istore_n K [(2, .int 0), (0, .ref (ad 4 k)), (1, .int v)] (dJ7_fill_53178 1 rfl) (by decide) rfl ?_
  refine zi_aload_n K (dJ7_fill_53178 2 rfl) 1 rfl ?_
  refine zn_EVS K hk (dJ7_fill_53178 3 rfl) ?_
  refine zi_istore_n K [(3, .int 8), (2, .int 0), (0, .ref (ad 4 k)), (1, .int v)] (dJ7_fill_53178 4 rfl) (by decide) rfl ?_
  refine zV.pick [2, 3, 1, 0] (lo' := [(0, .ref (ad 4 k)), (1, .int v), (2, .int 0), (3, .int 8)]) rfl ?_
  suffices hloop5 : ∀ (r i : Nat), i ≤ 8 → 8 - i < r → zV G X 4 (zP G ad (zfI σ 7 k v i)) (0) (0) 5 [(0, .ref (ad 4 k)), (1, .int v), (2, .int (nI i)), (3, .int 8)] [] from hloop5 (8 + 1) 0 (Nat.zero_le _) (Nat.lt_succ_of_le (Nat.sub_le _ _))
  intro r
  induction r with
  | zero => intro i _ h; exact absurd h (Nat.not_lt_zero _)
  | succ r ih5 =>
    intro i hi5 hr5
    have hk2 := zlCV_C (congrArg Prod.snd (zfI_2 σ 7 k v i)) hk
    refine zi_iload_n K (dJ7_fill_53178 5 rfl) 2 rfl ?_
    refine zi_iload_n K (dJ7_fill_53178 6 rfl) 3 rfl ?_
    refine zi_icmp_ge K 20 (dJ7_fill_53178 7 rfl) rfl (fun h7_0 => ?_) (fun h7_0 => ?_)
    · skip
      have hN5 := zloop_exit (by decide) (Nat.le_of_ble_eq_true rfl) hi5 h7_0
      subst hN5
      exact zi_vret K E (dJ7_fill_53178 14 rfl) (Nat.le_refl _) (Nat.le_refl _) rfl (fun H h => by exact h)
    · skip
      have hlt5 := zloop_in (by decide) (Nat.le_of_ble_eq_true rfl) hi5 h7_0
      refine zi_aload_n K (dJ7_fill_53178 8 rfl) 0 rfl ?_
      refine zi_iload_n K (dJ7_fill_53178 9 rfl) 2 rfl ?_
      refine zi_iload_n K (dJ7_fill_53178 10 rfl) 1 rfl ?_
      refine zs_EVS K hk2 i rfl (by omega) (dJ7_fill_53178 11 rfl) ?_
      have e1 : (uI (zfI σ 7 k v i) 7 k i v).2.2 = σ.2.2 := (uI_22 (zfI σ 7 k v i) 7 k i v).trans (zfI_22 σ 7 k v i)
      refine zi_iinc K (v := nI (i + 1)) [(2, .int (nI (i + 1))), (0, .ref (ad 4 k)), (1, .int v), (3, .int 8)] (dJ7_fill_53178 12 rfl) 2 rfl (zk_inc _) (by decide) rfl ?_
      refine zi_goto K 5 (dJ7_fill_53178 13 rfl) rfl ?_
      refine zV.pick [1, 2, 0, 3] (lo' := [(0, .ref (ad 4 k)), (1, .int v), (2, .int (nI (i + 1))), (3, .int 8)]) rfl ?_
      refine zV.st (σ' := zfI σ 7 k v (i + 1)) rfl ?_
      exact ih5 (i + 1) (by omega) (by omega)
def s_fill_CEV (σ : zSt) (k : Nat) (v : Int32) : zSt := (zfI σ 22 k v 4)
theorem s_fill_CEV_22 (σ : zSt) (k : Nat) (v : Int32) : (s_fill_CEV σ k v).2.2 = σ.2.2 := by
  unfold s_fill_CEV
  (repeat' split) <;> first | exact ((zfI_22 σ 22 k v 4).trans rfl)
set_option maxRecDepth 100000 in
set_option maxHeartbeats 4000000 in
theorem c_fill_CEV {G : zG} {ad : Nat → Nat → Nat} {σ : zSt} (k : Nat) (v : Int32) (hk : zlV σ k) : zC G yJ7_fill_53178 cJ7_fill_53178 4 none 0 0 0 0 [.ref (ad 8 k), .int v] (zP G ad σ) none (zP G ad (s_fill_CEV σ k v)) := by
  refine zC_of (by decide) (Nat.le_of_ble_eq_true rfl) (fun X K E hnm => ?_)
  show zV G X 4 (zP G ad σ) 0 0 0 [(0, .ref (ad 8 k)), (1, .int v)] []
  refine zi_iconst K (dJ7_fill_53178 0 rfl) zk_i0 ?_
  refine zi_istore_n K [(2, .int 0), (0, .ref (ad 8 k)), (1, .int v)] (dJ7_fill_53178 1 rfl) (by decide) rfl ?_
  refine zi_aload_n K (dJ7_fill_53178 2 rfl) 1 rfl ?_
  refine zn_CEV K hk (dJ7_fill_53178 3 rfl) ?_
  refine zi_istore_n K [(3, .int 4), (2, .int 0), (0, .ref (ad 8 k)), (1, .int v)] (dJ7_fill_53178 4 rfl) (by decide) rfl ?_
  refine zV.pick [2, 3, 1, 0] (lo' := [(0, .ref (ad 8 k)), (1, .int v), (2, .int 0), (3, .int 4)]) rfl ?_
  suffices hloop5 : ∀ (r i : Nat), i ≤ 4 → 4 - i < r → zV G X 4 (zP G ad (zfI σ 22 k v i)) (0) (0) 5 [(0, .ref (ad 8 k)), (1, .int v), (2, .int (nI i)), (3, .int 4)] [] from hloop5 (4 + 1) 0 (Nat.zero_le _) (Nat.lt_succ_of_le (Nat.sub_le _ _))
  intro r
  induction r with
  | zero => intro i _ h; exact absurd h (Nat.not_lt_zero _)
  | succ r ih5 =>
    intro i hi5 hr5
    have hk2 := zlCV_V (congrArg Prod.snd (zfI_2 σ 22 k v i)) hk
    refine zi_iload_n K (dJ7_fill_53178 5 rfl) 2 rfl ?_
    refine zi_iload_n K (dJ7_fill_53178 6 rfl) 3 rfl ?_
    refine zi_icmp_ge K 20 (dJ7_fill_53178 7 rfl) rfl (fun h7_0 => ?_) (fun h7_0 => ?_)
    · skip
      have hN5 := zloop_exit (by decide) (Nat.le_of_ble_eq_true rfl) hi5 h7_0
      subst hN5
      exact zi_vret K E (dJ7_fill_53178 14 rfl) (Nat.le_refl _) (Nat.le_refl _) rfl (fun H h => by exact h)
    · skip
      have hlt5 := zloop_in (by decide) (Nat.le_of_ble_eq_true rfl) hi5 h7_0
      refine zi_aload_n K (dJ7_fill_53178 8 rfl) 0 rfl ?_
      refine zi_iload_n K (dJ7_fill_53178 9 rfl) 2 rfl ?_
      refine zi_iload_n K (dJ7_fill_53178 10 rfl) 1 rfl ?_
      refine zs_CEV K hk2 i rfl (by omega) (dJ7_fill_53178 11 rfl) ?_
      have e1 : (uI (zfI σ 22 k v i) 22 k i v).2.2 = σ.2.2 := (uI_22 (zfI σ 22 k v i) 22 k i v).trans (zfI_22 σ 22 k v i)
      refine zi_iinc K (v := nI (i + 1)) [(2, .int (nI (i + 1))), (0, .ref (ad 8 k)), (1, .int v), (3, .int 4)] (dJ7_fill_53178 12 rfl) 2 rfl (zk_inc _) (by decide) rfl ?_
      refine zi_goto K 5 (dJ7_fill_53178 13 rfl) rfl ?_
      refine zV.pick [1, 2, 0, 3] (lo' := [(0, .ref (ad 8 k)), (1, .int v), (2, .int (nI (i + 1))), (3, .int 4)]) rfl ?_
      refine zV.st (σ' := zfI σ 22 k v (i + 1)) rfl ?_
      exact ih5 (i + 1) (by omega) (by omega)
def s_fill_TOOK (σ : zSt) (k : Nat) (v : Int64) : zSt := (zfL σ 1 k v 8)
theorem s_fill_TOOK_22 (σ : zSt) (k : Nat) (v : Int64) : (s_fill_TOOK σ k v).2.2 = σ.2.2 := by
  unfold s_fill_TOOK
  (repeat' split) <;> first | exact ((zfL_22 σ 1 k v 8).trans rfl)
set_option maxRecDepth 100000 in
set_option maxHeartbeats 4000000 in
theorem c_fill_TOOK {G : zG} {ad : Nat → Nat → Nat} {σ : zSt} (k : Nat) (v : Int64) (hk : zlC σ k) : zC G yJ7_fill_d0a16 cJ7_fill_d0a16 5 none 0 0 0 0 [.ref (ad 3 k), .long v] (zP G ad σ) none (zP G ad (s_fill_TOOK σ k v)) := by
  refine zC_of (by decide) (Nat.le_of_ble_eq_true rfl) (fun X K E hnm => ?_)
  show zV G X 5 (zP G ad σ) 0 0 0 [(0, .ref (ad 3 k)), (1, .long v)] []
  refine zi_iconst K (dJ7_fill_d0a16 0 rfl) zk_i0 ?_
  refine zi_istore_n K [(3, .int 0), (0, .ref (ad 3 k)), (1, .long v)] (dJ7_fill_d0a16 1 rfl) (by decide) rfl ?_
  refine zi_aload_n K (dJ7_fill_d0a16 2 rfl) 1 rfl ?_
  refine zn_TOOK K hk (dJ7_fill_d0a16 3 rfl) ?_
  refine zi_istore K [(4, .int 8), (3, .int 0), (0, .ref (ad 3 k)), (1, .long v)] (dJ7_fill_d0a16 4 rfl) (by decide) rfl ?_
  refine zV.pick [2, 3, 1, 0] (lo' := [(0, .ref (ad 3 k)), (1, .long v), (3, .int 0), (4, .int 8)]) rfl ?_
  suffices hloop6 : ∀ (r i : Nat), i ≤ 8 → 8 - i < r → zV G X 5 (zP G ad (zfL σ 1 k v i)) (0) (0) 6 [(0, .ref (ad 3 k)), (1, .long v), (3, .int (nI i)), (4, .int 8)] [] from hloop6 (8 + 1) 0 (Nat.zero_le _) (Nat.lt_succ_of_le (Nat.sub_le _ _))
  intro r
  induction r with
  | zero => intro i _ h; exact absurd h (Nat.not_lt_zero _)
  | succ r ih6 =>
    intro i hi6 hr6
    have hk2 := zlCV_C (zfL_22 σ 1 k v i) hk
    refine zi_iload_n K (dJ7_fill_d0a16 5 rfl) 2 rfl ?_
    refine zi_iload K (dJ7_fill_d0a16 6 rfl) 3 rfl ?_
    refine zi_icmp_ge K 22 (dJ7_fill_d0a16 7 rfl) rfl (fun h9_0 => ?_) (fun h9_0 => ?_)
    · skip
      have hN6 := zloop_exit (by decide) (Nat.le_of_ble_eq_true rfl) hi6 h9_0
      subst hN6
      exact zi_vret K E (dJ7_fill_d0a16 14 rfl) (Nat.le_refl _) (Nat.le_refl _) rfl (fun H h => by exact h)
    · skip
      have hlt6 := zloop_in (by decide) (Nat.le_of_ble_eq_true rfl) hi6 h9_0
      refine zi_aload_n K (dJ7_fill_d0a16 8 rfl) 0 rfl ?_
      refine zi_iload_n K (dJ7_fill_d0a16 9 rfl) 2 rfl ?_
      refine zi_lload_n K (dJ7_fill_d0a16 10 rfl) 1 rfl ?_
      refine zs_TOOK K hk2 i rfl (by omega) (dJ7_fill_d0a16 11 rfl) ?_
      have e1 : (uL (zfL σ 1 k v i) 1 k i v).2.2 = σ.2.2 := (uL_22 (zfL σ 1 k v i) 1 k i v).trans (zfL_22 σ 1 k v i)
      refine zi_iinc K (v := nI (i + 1)) [(3, .int (nI (i + 1))), (0, .ref (ad 3 k)), (1, .long v), (4, .int 8)] (dJ7_fill_d0a16 12 rfl) 2 rfl (zk_inc _) (by decide) rfl ?_
      refine zi_goto K 6 (dJ7_fill_d0a16 13 rfl) rfl ?_
      refine zV.pick [1, 2, 0, 3] (lo' := [(0, .ref (ad 3 k)), (1, .long v), (3, .int (nI (i + 1))), (4, .int 8)]) rfl ?_
      refine zV.st (σ' := zfL σ 1 k v (i + 1)) rfl ?_
      exact ih6 (i + 1) (by omega) (by omega)
def s_fill_PCOM (σ : zSt) (k : Nat) (v : Int64) : zSt := (zfL σ 10 k v 5)
theorem s_fill_PCOM_22 (σ : zSt) (k : Nat) (v : Int64) : (s_fill_PCOM σ k v).2.2 = σ.2.2 := by
  unfold s_fill_PCOM
  (repeat' split) <;> first | exact ((zfL_22 σ 10 k v 5).trans rfl)
set_option maxRecDepth 100000 in
set_option maxHeartbeats 4000000 in
theorem c_fill_PCOM {G : zG} {ad : Nat → Nat → Nat} {σ : zSt} (k : Nat) (v : Int64) (hk : k = 0) : zC G yJ7_fill_d0a16 cJ7_fill_d0a16 5 none 0 0 0 0 [.ref (ad 24 k), .long v] (zP G ad σ) none (zP G ad (s_fill_PCOM σ k v)) := by
  refine zC_of (by decide) (Nat.le_of_ble_eq_true rfl) (fun X K E hnm => ?_)
  show zV G X 5 (zP G ad σ) 0 0 0 [(0, .ref (ad 24 k)), (1, .long v)] []
  refine zi_iconst K (dJ7_fill_d0a16 0 rfl) zk_i0 ?_
  refine zi_istore_n K [(3, .int 0), (0, .ref (ad 24 k)), (1, .long v)] (dJ7_fill_d0a16 1 rfl) (by decide) rfl ?_
  refine zi_aload_n K (dJ7_fill_d0a16 2 rfl) 1 rfl ?_
  refine zn_PCOM K hk (dJ7_fill_d0a16 3 rfl) ?_
  refine zi_istore K [(4, .int 5), (3, .int 0), (0, .ref (ad 24 k)), (1, .long v)] (dJ7_fill_d0a16 4 rfl) (by decide) rfl ?_
  refine zV.pick [2, 3, 1, 0] (lo' := [(0, .ref (ad 24 k)), (1, .long v), (3, .int 0), (4, .int 5)]) rfl ?_
  suffices hloop6 : ∀ (r i : Nat), i ≤ 5 → 5 - i < r → zV G X 5 (zP G ad (zfL σ 10 k v i)) (0) (0) 6 [(0, .ref (ad 24 k)), (1, .long v), (3, .int (nI i)), (4, .int 5)] [] from hloop6 (5 + 1) 0 (Nat.zero_le _) (Nat.lt_succ_of_le (Nat.sub_le _ _))
  intro r
  induction r with
  | zero => intro i _ h; exact absurd h (Nat.not_lt_zero _)
  | succ r ih6 =>
    intro i hi6 hr6
    have hk2 := hk
    refine zi_iload_n K (dJ7_fill_d0a16 5 rfl) 2 rfl ?_
    refine zi_iload K (dJ7_fill_d0a16 6 rfl) 3 rfl ?_
    refine zi_icmp_ge K 22 (dJ7_fill_d0a16 7 rfl) rfl (fun h9_0 => ?_) (fun h9_0 => ?_)
    · skip
      have hN6 := zloop_exit (by decide) (Nat.le_of_ble_eq_true rfl) hi6 h9_0
      subst hN6
      exact zi_vret K E (dJ7_fill_d0a16 14 rfl) (Nat.le_refl _) (Nat.le_refl _) rfl (fun H h => by exact h)
    · skip
      have hlt6 := zloop_in (by decide) (Nat.le_of_ble_eq_true rfl) hi6 h9_0
      refine zi_aload_n K (dJ7_fill_d0a16 8 rfl) 0 rfl ?_
      refine zi_iload_n K (dJ7_fill_d0a16 9 rfl) 2 rfl ?_
      refine zi_lload_n K (dJ7_fill_d0a16 10 rfl) 1 rfl ?_
      refine zs_PCOM K hk2 i rfl (by omega) (dJ7_fill_d0a16 11 rfl) ?_
      have e1 : (uL (zfL σ 10 k v i) 10 k i v).2.2 = σ.2.2 := (uL_22 (zfL σ 10 k v i) 10 k i v).trans (zfL_22 σ 10 k v i)
      refine zi_iinc K (v := nI (i + 1)) [(3, .int (nI (i + 1))), (0, .ref (ad 24 k)), (1, .long v), (4, .int 5)] (dJ7_fill_d0a16 12 rfl) 2 rfl (zk_inc _) (by decide) rfl ?_
      refine zi_goto K 6 (dJ7_fill_d0a16 13 rfl) rfl ?_
      refine zV.pick [1, 2, 0, 3] (lo' := [(0, .ref (ad 24 k)), (1, .long v), (3, .int (nI (i + 1))), (4, .int 5)]) rfl ?_
      refine zV.st (σ' := zfL σ 10 k v (i + 1)) rfl ?_
      exact ih6 (i + 1) (by omega) (by omega)
def s_fill_PABV (σ : zSt) (k : Nat) (v : Int64) : zSt := (zfL σ 12 k v 5)
theorem s_fill_PABV_22 (σ : zSt) (k : Nat) (v : Int64) : (s_fill_PABV σ k v).2.2 = σ.2.2 := by
  unfold s_fill_PABV
  (repeat' split) <;> first | exact ((zfL_22 σ 12 k v 5).trans rfl)
set_option maxRecDepth 100000 in
set_option maxHeartbeats 4000000 in
theorem c_fill_PABV {G : zG} {ad : Nat → Nat → Nat} {σ : zSt} (k : Nat) (v : Int64) (hk : k = 0) : zC G yJ7_fill_d0a16 cJ7_fill_d0a16 5 none 0 0 0 0 [.ref (ad 26 k), .long v] (zP G ad σ) none (zP G ad (s_fill_PABV σ k v)) := by
  refine zC_of (by decide) (Nat.le_of_ble_eq_true rfl) (fun X K E hnm => ?_)
  show zV G X 5 (zP G ad σ) 0 0 0 [(0, .ref (ad 26 k)), (1, .long v)] []
  refine zi_iconst K (dJ7_fill_d0a16 0 rfl) zk_i0 ?_
  refine zi_istore_n K [(3, .int 0), (0, .ref (ad 26 k)), (1, .long v)] (dJ7_fill_d0a16 1 rfl) (by decide) rfl ?_
  refine zi_aload_n K (dJ7_fill_d0a16 2 rfl) 1 rfl ?_
  refine zn_PABV K hk (dJ7_fill_d0a16 3 rfl) ?_
  refine zi_istore K [(4, .int 5), (3, .int 0), (0, .ref (ad 26 k)), (1, .long v)] (dJ7_fill_d0a16 4 rfl) (by decide) rfl ?_
  refine zV.pick [2, 3, 1, 0] (lo' := [(0, .ref (ad 26 k)), (1, .long v), (3, .int 0), (4, .int 5)]) rfl ?_
  suffices hloop6 : ∀ (r i : Nat), i ≤ 5 → 5 - i < r → zV G X 5 (zP G ad (zfL σ 12 k v i)) (0) (0) 6 [(0, .ref (ad 26 k)), (1, .long v), (3, .int (nI i)), (4, .int 5)] [] from hloop6 (5 + 1) 0 (Nat.zero_le _) (Nat.lt_succ_of_le (Nat.sub_le _ _))
  intro r
  induction r with
  | zero => intro i _ h; exact absurd h (Nat.not_lt_zero _)
  | succ r ih6 =>
    intro i hi6 hr6
    have hk2 := hk
    refine zi_iload_n K (dJ7_fill_d0a16 5 rfl) 2 rfl ?_
    refine zi_iload K (dJ7_fill_d0a16 6 rfl) 3 rfl ?_
    refine zi_icmp_ge K 22 (dJ7_fill_d0a16 7 rfl) rfl (fun h9_0 => ?_) (fun h9_0 => ?_)
    · skip
      have hN6 := zloop_exit (by decide) (Nat.le_of_ble_eq_true rfl) hi6 h9_0
      subst hN6
      exact zi_vret K E (dJ7_fill_d0a16 14 rfl) (Nat.le_refl _) (Nat.le_refl _) rfl (fun H h => by exact h)
    · skip
      have hlt6 := zloop_in (by decide) (Nat.le_of_ble_eq_true rfl) hi6 h9_0
      refine zi_aload_n K (dJ7_fill_d0a16 8 rfl) 0 rfl ?_
      refine zi_iload_n K (dJ7_fill_d0a16 9 rfl) 2 rfl ?_
      refine zi_lload_n K (dJ7_fill_d0a16 10 rfl) 1 rfl ?_
      refine zs_PABV K hk2 i rfl (by omega) (dJ7_fill_d0a16 11 rfl) ?_
      have e1 : (uL (zfL σ 12 k v i) 12 k i v).2.2 = σ.2.2 := (uL_22 (zfL σ 12 k v i) 12 k i v).trans (zfL_22 σ 12 k v i)
      refine zi_iinc K (v := nI (i + 1)) [(3, .int (nI (i + 1))), (0, .ref (ad 26 k)), (1, .long v), (4, .int 5)] (dJ7_fill_d0a16 12 rfl) 2 rfl (zk_inc _) (by decide) rfl ?_
      refine zi_goto K 6 (dJ7_fill_d0a16 13 rfl) rfl ?_
      refine zV.pick [1, 2, 0, 3] (lo' := [(0, .ref (ad 26 k)), (1, .long v), (3, .int (nI (i + 1))), (4, .int 5)]) rfl ?_
      refine zV.st (σ' := zfL σ 12 k v (i + 1)) rfl ?_
      exact ih6 (i + 1) (by omega) (by omega)
def s_clBegin (σ : zSt) (k : Nat) : zSt := (s_fill_EVS (s_fill_TOOK (uL σ 0 k 0 ((sI σ 6 k 0).toInt64)) k 0) k (-1))
theorem s_clBegin_22 (σ : zSt) (k : Nat) : (s_clBegin σ k).2.2 = σ.2.2 := by
  unfold s_clBegin
  (repeat' split) <;> first | exact ((s_fill_EVS_22 (s_fill_TOOK (uL σ 0 k 0 ((sI σ 6 k 0).toInt64)) k 0) k (-1)).trans ((s_fill_TOOK_22 (uL σ 0 k 0 ((sI σ 6 k 0).toInt64)) k 0).trans ((uL_22 σ 0 k 0 ((sI σ 6 k 0).toInt64)).trans rfl)))
set_option maxRecDepth 100000 in
set_option maxHeartbeats 4000000 in
theorem c_clBegin {G : zG} {ad : Nat → Nat → Nat} {σ : zSt} (k : Nat) (hk : zlC σ k) : zC G yX0_begin cX0_begin 1 none 1 24 0 0 [.ref (ad 2 k)] (zP G ad σ) none (zP G ad (s_clBegin σ k)) := by
  refine zC_of (by decide) (Nat.le_of_ble_eq_true rfl) (fun X K E hnm => ?_)
  show zV G X 1 (zP G ad σ) 0 0 0 [(0, .ref (ad 2 k))] []
  refine zi_aload_n K (dX0_begin 0 rfl) 0 rfl ?_
  refine zi_aload_n K (dX0_begin 1 rfl) 0 rfl ?_
  refine zg_CL_amount K hk w_752 (dX0_begin 2 rfl) ?_
  refine zi_i2l K (dX0_begin 3 rfl) ?_
  refine zp_CL_left K hk w_755 (dX0_begin 4 rfl) ?_
  refine zi_aload_n K (dX0_begin 5 rfl) 0 rfl ?_
  refine zg_CL_took K hk w_740 (dX0_begin 6 rfl) ?_
  refine zi_lconst K (dX0_begin 7 rfl) zk_l0 ?_
  refine zi_callS K (na := 2) (As := [.ref (ad 3 k), .long 0]) [] [] (c_fill_TOOK (σ := (uL σ 0 k 0 ((sI σ 6 k 0).toInt64))) k 0 hk) (dX0_begin 8 rfl) w_358 w_359 w_40 w_360 (by decide +kernel) rfl (fun H h => h) ⟨Nat.le_of_ble_eq_true rfl, Nat.le_of_ble_eq_true rfl⟩ ⟨Nat.le_refl _, Nat.le_refl _⟩ (Nat.le_of_ble_eq_true rfl) rfl rfl ?_
  have e1 : (s_fill_TOOK (uL σ 0 k 0 ((sI σ 6 k 0).toInt64)) k 0).2.2 = σ.2.2 := (s_fill_TOOK_22 (uL σ 0 k 0 ((sI σ 6 k 0).toInt64)) k 0).trans rfl
  refine zi_aload_n K (dX0_begin 9 rfl) 0 rfl ?_
  refine zg_CL_events K (zlCV_C e1 hk) w_744 (dX0_begin 10 rfl) ?_
  refine zi_iconst K (dX0_begin 11 rfl) zk_im1 ?_
  refine zi_callS K (na := 2) (As := [.ref (ad 4 k), .int (-1)]) [] [] (c_fill_EVS (σ := (s_fill_TOOK (uL σ 0 k 0 ((sI σ 6 k 0).toInt64)) k 0)) k (-1) (zlCV_C e1 hk)) (dX0_begin 12 rfl) w_361 w_362 w_40 w_363 (by decide +kernel) rfl (fun H h => h) ⟨Nat.le_of_ble_eq_true rfl, Nat.le_of_ble_eq_true rfl⟩ ⟨Nat.le_refl _, Nat.le_refl _⟩ (Nat.le_of_ble_eq_true rfl) rfl rfl ?_
  have e2 : (s_fill_EVS (s_fill_TOOK (uL σ 0 k 0 ((sI σ 6 k 0).toInt64)) k 0) k (-1)).2.2 = σ.2.2 := (s_fill_EVS_22 (s_fill_TOOK (uL σ 0 k 0 ((sI σ 6 k 0).toInt64)) k 0) k (-1)).trans e1
  exact zi_vret K E (dX0_begin 13 rfl) (Nat.le_refl _) (Nat.le_refl _) rfl (fun H h => by exact h)
def s_cvBegin (σ : zSt) (j : Nat) : zSt := if sI (s_fill_CEV σ j 0) 19 (j % 8) 0 = 0 then (uL (uL (uL (uL (s_fill_CEV σ j 0) 2 j 0 (v_wholeLimit (s_fill_CEV σ j 0) (j % 8))) 3 j 0 0) 4 j 0 0) 5 j 0 0) else (s_fill_CEV σ j 0)
theorem s_cvBegin_22 (σ : zSt) (j : Nat) : (s_cvBegin σ j).2.2 = σ.2.2 := by
  unfold s_cvBegin
  (repeat' split) <;> first | exact ((s_fill_CEV_22 σ j 0).trans rfl) | exact ((uL_22 (uL (uL (uL (s_fill_CEV σ j 0) 2 j 0 (v_wholeLimit (s_fill_CEV σ j 0) (j % 8))) 3 j 0 0) 4 j 0 0) 5 j 0 0).trans ((uL_22 (uL (uL (s_fill_CEV σ j 0) 2 j 0 (v_wholeLimit (s_fill_CEV σ j 0) (j % 8))) 3 j 0 0) 4 j 0 0).trans ((uL_22 (uL (s_fill_CEV σ j 0) 2 j 0 (v_wholeLimit (s_fill_CEV σ j 0) (j % 8))) 3 j 0 0).trans ((uL_22 (s_fill_CEV σ j 0) 2 j 0 (v_wholeLimit (s_fill_CEV σ j 0) (j % 8))).trans ((s_fill_CEV_22 σ j 0).trans rfl)))))
set_option maxRecDepth 100000 in
set_option maxHeartbeats 4000000 in
theorem c_cvBegin {G : zG} {ad : Nat → Nat → Nat} {σ : zSt} (j : Nat) (hj : zlV σ j) (ht : j % 8 < sN σ 2) : zC G yX1_begin cX1_begin 1 none 2 40 0 0 [.ref (ad 7 j)] (zP G ad σ) none (zP G ad (s_cvBegin σ j)) := by
  refine zC_of (by decide) (Nat.le_of_ble_eq_true rfl) (fun X K E hnm => ?_)
  show zV G X 1 (zP G ad σ) 0 0 0 [(0, .ref (ad 7 j))] []
  refine zi_aload_n K (dX1_begin 0 rfl) 0 rfl ?_
  refine zg_COV_events K hj w_1164 (dX1_begin 1 rfl) ?_
  refine zi_iconst K (dX1_begin 2 rfl) zk_i0 ?_
  refine zi_callS K (na := 2) (As := [.ref (ad 8 j), .int 0]) [] [] (c_fill_CEV  j 0 hj) (dX1_begin 3 rfl) w_369 w_362 w_40 w_363 (by decide +kernel) rfl (fun H h => h) ⟨Nat.le_of_ble_eq_true rfl, Nat.le_of_ble_eq_true rfl⟩ ⟨Nat.le_refl _, Nat.le_refl _⟩ (Nat.le_of_ble_eq_true rfl) rfl rfl ?_
  have e1 : (s_fill_CEV σ j 0).2.2 = σ.2.2 := (s_fill_CEV_22 σ j 0).trans rfl
  refine zi_aload_n K (dX1_begin 4 rfl) 0 rfl ?_
  refine zg_COV_treaty K (zlCV_V e1 hj) w_1161 (dX1_begin 5 rfl) ?_
  refine zg_TR_isCommuted K (zlCV_N e1 ht) w_1120 (dX1_begin 6 rfl) ?_
  refine zi_if_ne K 44 (dX1_begin 7 rfl) rfl (fun h15_0 => ?_) (fun h15_0 => ?_)
  · skip
    exact zi_vret K E (dX1_begin 22 rfl) (Nat.le_refl _) (Nat.le_refl _) rfl (fun H h => by unfold s_cvBegin; rw [if_neg h15_0]; exact h)
  · skip
    refine zi_aload_n K (dX1_begin 8 rfl) 0 rfl ?_
    refine zi_aload_n K (dX1_begin 9 rfl) 0 rfl ?_
    refine zg_COV_treaty K (zlCV_V e1 hj) w_1161 (dX1_begin 10 rfl) ?_
    refine zi_callV K (na := 0) [.ref (ad 7 j)] [.long (v_wholeLimit (s_fill_CEV σ j 0) (j % 8)), .ref (ad 7 j)] (c_wholeLimit (σ := (s_fill_CEV σ j 0)) (j % 8) (zlCV_N e1 ht)) (dX1_begin 11 rfl) w_370 w_371 w_372 w_55 w_373 (by decide +kernel) rfl (fun H h => zi_recv K (zr_TR (σ := (s_fill_CEV σ j 0)) (zlCV_N e1 ht) H h).1 rfl) (fun H h => h) ⟨Nat.le_of_ble_eq_true rfl, Nat.le_of_ble_eq_true rfl⟩ ⟨Nat.le_refl _, Nat.le_refl _⟩ (Nat.le_of_ble_eq_true rfl) rfl rfl ?_
    refine zp_COV_limitLeft K (zlCV_V e1 hj) w_1167 (dX1_begin 12 rfl) ?_
    have e2 : (uL (s_fill_CEV σ j 0) 2 j 0 (v_wholeLimit (s_fill_CEV σ j 0) (j % 8))).2.2 = σ.2.2 := (uL_22 (s_fill_CEV σ j 0) 2 j 0 (v_wholeLimit (s_fill_CEV σ j 0) (j % 8))).trans e1
    refine zi_aload_n K (dX1_begin 13 rfl) 0 rfl ?_
    refine zi_lconst K (dX1_begin 14 rfl) zk_l0 ?_
    refine zp_COV_taken K (zlCV_V e2 hj) w_1170 (dX1_begin 15 rfl) ?_
    have e3 : (uL (uL (s_fill_CEV σ j 0) 2 j 0 (v_wholeLimit (s_fill_CEV σ j 0) (j % 8))) 3 j 0 0).2.2 = σ.2.2 := (uL_22 (uL (s_fill_CEV σ j 0) 2 j 0 (v_wholeLimit (s_fill_CEV σ j 0) (j % 8))) 3 j 0 0).trans e2
    refine zi_aload_n K (dX1_begin 16 rfl) 0 rfl ?_
    refine zi_lconst K (dX1_begin 17 rfl) zk_l0 ?_
    refine zp_COV_reinstated K (zlCV_V e3 hj) w_1173 (dX1_begin 18 rfl) ?_
    have e4 : (uL (uL (uL (s_fill_CEV σ j 0) 2 j 0 (v_wholeLimit (s_fill_CEV σ j 0) (j % 8))) 3 j 0 0) 4 j 0 0).2.2 = σ.2.2 := (uL_22 (uL (uL (s_fill_CEV σ j 0) 2 j 0 (v_wholeLimit (s_fill_CEV σ j 0) (j % 8))) 3 j 0 0) 4 j 0 0).trans e3
    refine zi_aload_n K (dX1_begin 19 rfl) 0 rfl ?_
    refine zi_lconst K (dX1_begin 20 rfl) zk_l0 ?_
    refine zp_COV_owed K (zlCV_V e4 hj) w_1175 (dX1_begin 21 rfl) ?_
    have e5 : (uL (uL (uL (uL (s_fill_CEV σ j 0) 2 j 0 (v_wholeLimit (s_fill_CEV σ j 0) (j % 8))) 3 j 0 0) 4 j 0 0) 5 j 0 0).2.2 = σ.2.2 := (uL_22 (uL (uL (uL (s_fill_CEV σ j 0) 2 j 0 (v_wholeLimit (s_fill_CEV σ j 0) (j % 8))) 3 j 0 0) 4 j 0 0) 5 j 0 0).trans e4
    exact zi_vret K E (dX1_begin 22 rfl) (Nat.le_refl _) (Nat.le_refl _) rfl (fun H h => by unfold s_cvBegin; rw [if_pos h15_0]; exact h)
def s_takeFrom (σ : zSt) (j k : Nat) (x : Int64) : zSt := (uL (uL (uL (uL σ 0 k 0 ((sL σ 0 k 0) - x)) 1 k (j % 8) ((sL (uL σ 0 k 0 ((sL σ 0 k 0) - x)) 1 k (j % 8)) + x)) 2 j 0 ((sL (uL (uL σ 0 k 0 ((sL σ 0 k 0) - x)) 1 k (j % 8) ((sL (uL σ 0 k 0 ((sL σ 0 k 0) - x)) 1 k (j % 8)) + x)) 2 j 0) - x)) 3 j 0 ((sL (uL (uL (uL σ 0 k 0 ((sL σ 0 k 0) - x)) 1 k (j % 8) ((sL (uL σ 0 k 0 ((sL σ 0 k 0) - x)) 1 k (j % 8)) + x)) 2 j 0 ((sL (uL (uL σ 0 k 0 ((sL σ 0 k 0) - x)) 1 k (j % 8) ((sL (uL σ 0 k 0 ((sL σ 0 k 0) - x)) 1 k (j % 8)) + x)) 2 j 0) - x)) 3 j 0) + x))
theorem s_takeFrom_22 (σ : zSt) (j k : Nat) (x : Int64) : (s_takeFrom σ j k x).2.2 = σ.2.2 := by
  unfold s_takeFrom
  (repeat' split) <;> first | exact ((uL_22 (uL (uL (uL σ 0 k 0 ((sL σ 0 k 0) - x)) 1 k (j % 8) ((sL (uL σ 0 k 0 ((sL σ 0 k 0) - x)) 1 k (j % 8)) + x)) 2 j 0 ((sL (uL (uL σ 0 k 0 ((sL σ 0 k 0) - x)) 1 k (j % 8) ((sL (uL σ 0 k 0 ((sL σ 0 k 0) - x)) 1 k (j % 8)) + x)) 2 j 0) - x)) 3 j 0 ((sL (uL (uL (uL σ 0 k 0 ((sL σ 0 k 0) - x)) 1 k (j % 8) ((sL (uL σ 0 k 0 ((sL σ 0 k 0) - x)) 1 k (j % 8)) + x)) 2 j 0 ((sL (uL (uL σ 0 k 0 ((sL σ 0 k 0) - x)) 1 k (j % 8) ((sL (uL σ 0 k 0 ((sL σ 0 k 0) - x)) 1 k (j % 8)) + x)) 2 j 0) - x)) 3 j 0) + x)).trans ((uL_22 (uL (uL σ 0 k 0 ((sL σ 0 k 0) - x)) 1 k (j % 8) ((sL (uL σ 0 k 0 ((sL σ 0 k 0) - x)) 1 k (j % 8)) + x)) 2 j 0 ((sL (uL (uL σ 0 k 0 ((sL σ 0 k 0) - x)) 1 k (j % 8) ((sL (uL σ 0 k 0 ((sL σ 0 k 0) - x)) 1 k (j % 8)) + x)) 2 j 0) - x)).trans ((uL_22 (uL σ 0 k 0 ((sL σ 0 k 0) - x)) 1 k (j % 8) ((sL (uL σ 0 k 0 ((sL σ 0 k 0) - x)) 1 k (j % 8)) + x)).trans ((uL_22 σ 0 k 0 ((sL σ 0 k 0) - x)).trans rfl))))
set_option maxRecDepth 100000 in
set_option maxHeartbeats 4000000 in
theorem c_takeFrom {G : zG} {ad : Nat → Nat → Nat} {σ : zSt} (j k : Nat) (x : Int64) (hj : zlV σ j) (ht : j % 8 < sN σ 2) (hk : zlC σ k) : zC G yX1_takeFrom cX1_takeFrom 4 none 0 0 0 0 [.ref (ad 7 j), .ref (ad 2 k), .long x] (zP G ad σ) none (zP G ad (s_takeFrom σ j k x)) := by
  refine zC_of (by decide) (Nat.le_of_ble_eq_true rfl) (fun X K E hnm => ?_)
  show zV G X 4 (zP G ad σ) 0 0 0 [(0, .ref (ad 7 j)), (1, .ref (ad 2 k)), (2, .long x)] []
  refine zi_aload_n K (dX1_takeFrom 0 rfl) 1 rfl ?_
  refine zi_dup K (dX1_takeFrom 1 rfl) rfl ?_
  refine zg_CL_left K hk w_757 (dX1_takeFrom 2 rfl) ?_
  refine zi_lload_n K (dX1_takeFrom 3 rfl) 2 rfl ?_
  refine zi_lsub K (dX1_takeFrom 4 rfl) ?_
  refine zp_CL_left K hk w_757 (dX1_takeFrom 5 rfl) ?_
  refine zi_aload_n K (dX1_takeFrom 6 rfl) 1 rfl ?_
  refine zg_CL_took K hk w_741 (dX1_takeFrom 7 rfl) ?_
  refine zi_aload_n K (dX1_takeFrom 8 rfl) 0 rfl ?_
  refine zg_COV_treaty K hj w_1161 (dX1_takeFrom 9 rfl) ?_
  refine zg_TR_number K ht w_1093 (dX1_takeFrom 10 rfl) ?_
  refine zi_dup2_11 K (dX1_takeFrom 11 rfl) rfl rfl ?_
  refine zl_TOOK K hk (j % 8) rfl (by omega) (dX1_takeFrom 12 rfl) ?_
  refine zi_lload_n K (dX1_takeFrom 13 rfl) 2 rfl ?_
  refine zi_ladd K (dX1_takeFrom 14 rfl) ?_
  refine zs_TOOK K hk (j % 8) rfl (by omega) (dX1_takeFrom 15 rfl) ?_
  refine zi_aload_n K (dX1_takeFrom 16 rfl) 0 rfl ?_
  refine zi_dup K (dX1_takeFrom 17 rfl) rfl ?_
  refine zg_COV_limitLeft K hj w_1167 (dX1_takeFrom 18 rfl) ?_
  refine zi_lload_n K (dX1_takeFrom 19 rfl) 2 rfl ?_
  refine zi_lsub K (dX1_takeFrom 20 rfl) ?_
  refine zp_COV_limitLeft K hj w_1167 (dX1_takeFrom 21 rfl) ?_
  refine zi_aload_n K (dX1_takeFrom 22 rfl) 0 rfl ?_
  refine zi_dup K (dX1_takeFrom 23 rfl) rfl ?_
  refine zg_COV_taken K hj w_1170 (dX1_takeFrom 24 rfl) ?_
  refine zi_lload_n K (dX1_takeFrom 25 rfl) 2 rfl ?_
  refine zi_ladd K (dX1_takeFrom 26 rfl) ?_
  refine zp_COV_taken K hj w_1170 (dX1_takeFrom 27 rfl) ?_
  exact zi_vret K E (dX1_takeFrom 28 rfl) (Nat.le_refl _) (Nat.le_refl _) rfl (fun H h => by exact h)
def s_refill (σ : zSt) (j : Nat) (x : Int64) (day : Int32) : zSt := if v_isLimited σ (j % 8) = 0 then σ else (uL (uL σ 4 j 0 ((sL σ 4 j 0) + (zmnl x ((((sI σ 13 (j % 8) 0).toInt64) * ((sI σ 15 (j % 8) 0).toInt64)) - (sL σ 4 j 0))))) 5 j 0 ((sL (uL σ 4 j 0 ((sL σ 4 j 0) + (zmnl x ((((sI σ 13 (j % 8) 0).toInt64) * ((sI σ 15 (j % 8) 0).toInt64)) - (sL σ 4 j 0))))) 5 j 0) + (v_priceOf (uL σ 4 j 0 ((sL σ 4 j 0) + (zmnl x ((((sI σ 13 (j % 8) 0).toInt64) * ((sI σ 15 (j % 8) 0).toInt64)) - (sL σ 4 j 0))))) (j % 8) (zmnl x ((((sI σ 13 (j % 8) 0).toInt64) * ((sI σ 15 (j % 8) 0).toInt64)) - (sL σ 4 j 0))) day)))
theorem s_refill_22 (σ : zSt) (j : Nat) (x : Int64) (day : Int32) : (s_refill σ j x day).2.2 = σ.2.2 := by
  unfold s_refill
  (repeat' split) <;> first | exact ((uL_22 (uL σ 4 j 0 ((sL σ 4 j 0) + (zmnl x ((((sI σ 13 (j % 8) 0).toInt64) * ((sI σ 15 (j % 8) 0).toInt64)) - (sL σ 4 j 0))))) 5 j 0 ((sL (uL σ 4 j 0 ((sL σ 4 j 0) + (zmnl x ((((sI σ 13 (j % 8) 0).toInt64) * ((sI σ 15 (j % 8) 0).toInt64)) - (sL σ 4 j 0))))) 5 j 0) + (v_priceOf (uL σ 4 j 0 ((sL σ 4 j 0) + (zmnl x ((((sI σ 13 (j % 8) 0).toInt64) * ((sI σ 15 (j % 8) 0).toInt64)) - (sL σ 4 j 0))))) (j % 8) (zmnl x ((((sI σ 13 (j % 8) 0).toInt64) * ((sI σ 15 (j % 8) 0).toInt64)) - (sL σ 4 j 0))) day))).trans ((uL_22 σ 4 j 0 ((sL σ 4 j 0) + (zmnl x ((((sI σ 13 (j % 8) 0).toInt64) * ((sI σ 15 (j % 8) 0).toInt64)) - (sL σ 4 j 0))))).trans rfl)) | exact rfl
set_option maxRecDepth 100000 in
set_option maxHeartbeats 4000000 in
theorem c_refill {G : zG} {ad : Nat → Nat → Nat} {σ : zSt} (j : Nat) (x : Int64) (day : Int32) (hj : zlV σ j) (ht : j % 8 < sN σ 2) (hz1 : ¬ (sI σ 13 (j % 8) 0).toInt64 * 100 = 0) (hz2 : ¬ (sI σ 11 (j % 8) 0 - sI σ 10 (j % 8) 0 + 1).toInt64 = 0) : zC G yX1_refill cX1_refill 6 none 2 42 0 0 [.ref (ad 7 j), .long x, .int day] (zP G ad σ) none (zP G ad (s_refill σ j x day)) := by
  refine zC_of (by decide) (Nat.le_of_ble_eq_true rfl) (fun X K E hnm => ?_)
  show zV G X 6 (zP G ad σ) 0 0 0 [(0, .ref (ad 7 j)), (1, .long x), (3, .int day)] []
  refine zi_aload_n K (dX1_refill 0 rfl) 0 rfl ?_
  refine zg_COV_treaty K hj w_1161 (dX1_refill 1 rfl) ?_
  refine zi_callV K (na := 0) [] [.int (v_isLimited σ (j % 8))] (c_isLimited  (j % 8) ht) (dX1_refill 2 rfl) w_418 w_375 w_376 w_55 w_377 (by decide +kernel) rfl (fun H h => zi_recv K (zr_TR (σ := σ) ht H h).1 rfl) (fun H h => h) ⟨Nat.le_of_ble_eq_true rfl, Nat.le_of_ble_eq_true rfl⟩ ⟨Nat.le_refl _, Nat.le_refl _⟩ (Nat.le_of_ble_eq_true rfl) rfl rfl ?_
  refine zi_if_eq K 68 (dX1_refill 3 rfl) rfl (fun h7_0 => ?_) (fun h7_0 => ?_)
  · skip
    exact zi_vret K E (dX1_refill 35 rfl) (Nat.le_refl _) (Nat.le_refl _) rfl (fun H h => by unfold s_refill; rw [if_pos h7_0]; exact h)
  · skip
    refine zi_lload_n K (dX1_refill 4 rfl) 1 rfl ?_
    refine zi_aload_n K (dX1_refill 5 rfl) 0 rfl ?_
    refine zg_COV_treaty K hj w_1161 (dX1_refill 6 rfl) ?_
    refine zg_TR_b K ht w_1103 (dX1_refill 7 rfl) ?_
    refine zi_i2l K (dX1_refill 8 rfl) ?_
    refine zi_aload_n K (dX1_refill 9 rfl) 0 rfl ?_
    refine zg_COV_treaty K hj w_1161 (dX1_refill 10 rfl) ?_
    refine zg_TR_many K ht w_1111 (dX1_refill 11 rfl) ?_
    refine zi_i2l K (dX1_refill 12 rfl) ?_
    refine zi_lmul K (dX1_refill 13 rfl) ?_
    refine zi_aload_n K (dX1_refill 14 rfl) 0 rfl ?_
    refine zg_COV_reinstated K hj w_1173 (dX1_refill 15 rfl) ?_
    refine zi_lsub K (dX1_refill 16 rfl) ?_
    refine zi_minl K [] (dX1_refill 17 rfl) w_419 ⟨Nat.le_of_ble_eq_true rfl, Nat.le_of_ble_eq_true rfl⟩ ⟨Nat.le_refl _, Nat.le_refl _⟩ ?_
    refine zi_lstore K [(4, .long (zmnl x ((((sI σ 13 (j % 8) 0).toInt64) * ((sI σ 15 (j % 8) 0).toInt64)) - (sL σ 4 j 0)))), (0, .ref (ad 7 j)), (1, .long x), (3, .int day)] (dX1_refill 18 rfl) (by decide) rfl ?_
    refine zi_aload_n K (dX1_refill 19 rfl) 1 rfl ?_
    refine zi_dup K (dX1_refill 20 rfl) rfl ?_
    refine zg_COV_reinstated K hj w_1173 (dX1_refill 21 rfl) ?_
    refine zi_lload K (dX1_refill 22 rfl) 0 rfl ?_
    refine zi_ladd K (dX1_refill 23 rfl) ?_
    refine zp_COV_reinstated K hj w_1173 (dX1_refill 24 rfl) ?_
    refine zi_aload_n K (dX1_refill 25 rfl) 1 rfl ?_
    refine zi_dup K (dX1_refill 26 rfl) rfl ?_
    refine zg_COV_owed K hj w_1175 (dX1_refill 27 rfl) ?_
    refine zi_aload_n K (dX1_refill 28 rfl) 1 rfl ?_
    refine zg_COV_treaty K hj w_1161 (dX1_refill 29 rfl) ?_
    refine zi_lload K (dX1_refill 30 rfl) 0 rfl ?_
    refine zi_iload_n K (dX1_refill 31 rfl) 3 rfl ?_
    refine zi_callV K (na := 2) [.long (sL (uL σ 4 j 0 ((sL σ 4 j 0) + (zmnl x ((((sI σ 13 (j % 8) 0).toInt64) * ((sI σ 15 (j % 8) 0).toInt64)) - (sL σ 4 j 0))))) 5 j 0), .ref (ad 7 j)] [.long (v_priceOf (uL σ 4 j 0 ((sL σ 4 j 0) + (zmnl x ((((sI σ 13 (j % 8) 0).toInt64) * ((sI σ 15 (j % 8) 0).toInt64)) - (sL σ 4 j 0))))) (j % 8) (zmnl x ((((sI σ 13 (j % 8) 0).toInt64) * ((sI σ 15 (j % 8) 0).toInt64)) - (sL σ 4 j 0))) day), .long (sL (uL σ 4 j 0 ((sL σ 4 j 0) + (zmnl x ((((sI σ 13 (j % 8) 0).toInt64) * ((sI σ 15 (j % 8) 0).toInt64)) - (sL σ 4 j 0))))) 5 j 0), .ref (ad 7 j)] (c_priceOf (σ := (uL σ 4 j 0 ((sL σ 4 j 0) + (zmnl x ((((sI σ 13 (j % 8) 0).toInt64) * ((sI σ 15 (j % 8) 0).toInt64)) - (sL σ 4 j 0)))))) (j % 8) (zmnl x ((((sI σ 13 (j % 8) 0).toInt64) * ((sI σ 15 (j % 8) 0).toInt64)) - (sL σ 4 j 0))) day ht hz1 hz2) (dX1_refill 32 rfl) w_420 w_421 w_422 w_55 w_423 (by decide +kernel) rfl (fun H h => zi_recv K (zr_TR (σ := (uL σ 4 j 0 ((sL σ 4 j 0) + (zmnl x ((((sI σ 13 (j % 8) 0).toInt64) * ((sI σ 15 (j % 8) 0).toInt64)) - (sL σ 4 j 0)))))) ht H h).1 rfl) (fun H h => h) ⟨Nat.le_of_ble_eq_true rfl, Nat.le_of_ble_eq_true rfl⟩ ⟨Nat.le_refl _, Nat.le_refl _⟩ (Nat.le_of_ble_eq_true rfl) rfl rfl ?_
    refine zi_ladd K (dX1_refill 33 rfl) ?_
    refine zp_COV_owed K hj w_1175 (dX1_refill 34 rfl) ?_
    exact zi_vret K E (dX1_refill 35 rfl) (Nat.le_refl _) (Nat.le_refl _) rfl (fun H h => by unfold s_refill; rw [if_neg h7_0]; exact h)
def v_damageOf (σ : zSt) (c p : Nat) : Int32 := if v_inForce σ p (sI σ 23 c 0) = 0 then 0 else ((((sI σ 0 p 0).toInt64) * ((sI σ 25 c ((sI σ 1 p 0).toNatClampNeg)).toInt64)) / 100).toInt32
set_option maxRecDepth 100000 in
set_option maxHeartbeats 4000000 in
theorem c_damageOf {G : zG} {ad : Nat → Nat → Nat} {σ : zSt} (c p : Nat) (hc : c < sN σ 3) (hp : p < sN σ 0) (hz : sI σ 1 p 0 = nI (sI σ 1 p 0).toNatClampNeg) (hz4 : (sI σ 1 p 0).toNatClampNeg < 4) : zC G yX6_damageOf cX6_damageOf 2 (some FieldType.int) 1 21 0 0 [.ref (ad 9 c), .ref (ad 1 p)] (zP G ad σ) (some (.int (v_damageOf σ c p))) (zP G ad σ) := by
  refine zC_of (by decide) (Nat.le_of_ble_eq_true rfl) (fun X K E hnm => ?_)
  show zV G X 2 (zP G ad σ) 0 0 0 [(0, .ref (ad 9 c)), (1, .ref (ad 1 p))] []
  refine zi_aload_n K (dX6_damageOf 0 rfl) 1 rfl ?_
  refine zi_aload_n K (dX6_damageOf 1 rfl) 0 rfl ?_
  refine zg_SC_day K hc w_1314 (dX6_damageOf 2 rfl) ?_
  refine zi_callV K (na := 1) [] [.int (v_inForce σ p (sI σ 23 c 0))] (c_inForce  p (sI σ 23 c 0) hp) (dX6_damageOf 3 rfl) w_608 w_609 w_610 w_37 w_611 (by decide +kernel) rfl (fun H h => zi_recv K (zr_POL (σ := σ) hp H h).1 rfl) (fun H h => h) ⟨Nat.le_of_ble_eq_true rfl, Nat.le_of_ble_eq_true rfl⟩ ⟨Nat.le_refl _, Nat.le_refl _⟩ (Nat.le_of_ble_eq_true rfl) rfl rfl ?_
  refine zi_if_eq K 35 (dX6_damageOf 4 rfl) rfl (fun h8_0 => ?_) (fun h8_0 => ?_)
  · skip
    refine zi_iconst K (dX6_damageOf 19 rfl) zk_i0 ?_
    exact zi_iret K E (dX6_damageOf 20 rfl) (Nat.le_refl _) (Nat.le_refl _) (by unfold v_damageOf; rw [if_pos h8_0]) (fun _ h => h)
  · skip
    refine zi_aload_n K (dX6_damageOf 5 rfl) 1 rfl ?_
    refine zg_POL_sum K hp w_714 (dX6_damageOf 6 rfl) ?_
    refine zi_i2l K (dX6_damageOf 7 rfl) ?_
    refine zi_aload_n K (dX6_damageOf 8 rfl) 0 rfl ?_
    refine zg_SC_damages K hc w_1318 (dX6_damageOf 9 rfl) ?_
    refine zi_aload_n K (dX6_damageOf 10 rfl) 1 rfl ?_
    refine zg_POL_zone K hp w_717 (dX6_damageOf 11 rfl) ?_
    refine zl_DMG K hc ((sI σ 1 p 0).toNatClampNeg) hz hz4 (dX6_damageOf 12 rfl) ?_
    refine zi_i2l K (dX6_damageOf 13 rfl) ?_
    refine zi_lmul K (dX6_damageOf 14 rfl) ?_
    refine zi_ldc2 K (dX6_damageOf 15 rfl) w_612 ?_
    refine zi_ldiv K (dX6_damageOf 16 rfl) (by decide) ?_
    refine zi_l2i K (dX6_damageOf 17 rfl) ?_
    refine zi_goto K 36 (dX6_damageOf 18 rfl) rfl ?_
    exact zi_iret K E (dX6_damageOf 20 rfl) (Nat.le_refl _) (Nat.le_refl _) (by unfold v_damageOf; rw [if_neg h8_0]) (fun _ h => h)
def v_handedOn (σ : zSt) (i : Nat) (x : Int64) : Int64 := if sI σ 31 0 i = 0 then zmxl 0 (zmnl (x - ((sI σ 33 0 i).toInt64)) ((sI σ 34 0 i).toInt64)) else 0
set_option maxRecDepth 100000 in
set_option maxHeartbeats 4000000 in
theorem c_handedOn {G : zG} {ad : Nat → Nat → Nat} {σ : zSt} (i : Nat) (x : Int64) (hi : i < 5) : zC G yX5_handedOn cX5_handedOn 4 (some FieldType.long) 1 17 0 0 [.ref (ad 18 0), .int (nI i), .long x] (zP G ad σ) (some (.long (v_handedOn σ i x))) (zP G ad σ) := by
  refine zC_of (by decide) (Nat.le_of_ble_eq_true rfl) (fun X K E hnm => ?_)
  show zV G X 4 (zP G ad σ) 0 0 0 [(0, .ref (ad 18 0)), (1, .int (nI i)), (2, .long x)] []
  refine zi_aload_n K (dX5_handedOn 0 rfl) 0 rfl ?_
  refine zg_POOL_isFailed K rfl w_159 (dX5_handedOn 1 rfl) ?_
  refine zi_iload_n K (dX5_handedOn 2 rfl) 1 rfl ?_
  refine zl_PFAIL K rfl i rfl (by omega) (dX5_handedOn 3 rfl) ?_
  refine zi_if_eq K 13 (dX5_handedOn 4 rfl) rfl (fun h6_0 => ?_) (fun h6_0 => ?_)
  · skip
    refine zi_lconst K (dX5_handedOn 7 rfl) zk_l0 ?_
    refine zi_lload_n K (dX5_handedOn 8 rfl) 2 rfl ?_
    refine zi_aload_n K (dX5_handedOn 9 rfl) 0 rfl ?_
    refine zg_POOL_bounds K rfl w_163 (dX5_handedOn 10 rfl) ?_
    refine zi_iload_n K (dX5_handedOn 11 rfl) 1 rfl ?_
    refine zl_PBND K rfl i rfl (by omega) (dX5_handedOn 12 rfl) ?_
    refine zi_i2l K (dX5_handedOn 13 rfl) ?_
    refine zi_lsub K (dX5_handedOn 14 rfl) ?_
    refine zi_aload_n K (dX5_handedOn 15 rfl) 0 rfl ?_
    refine zg_POOL_limits K rfl w_165 (dX5_handedOn 16 rfl) ?_
    refine zi_iload_n K (dX5_handedOn 17 rfl) 1 rfl ?_
    refine zl_PLIM K rfl i rfl (by omega) (dX5_handedOn 18 rfl) ?_
    refine zi_i2l K (dX5_handedOn 19 rfl) ?_
    refine zi_minl K [.long 0] (dX5_handedOn 20 rfl) w_640 ⟨Nat.le_of_ble_eq_true rfl, Nat.le_of_ble_eq_true rfl⟩ ⟨Nat.le_refl _, Nat.le_refl _⟩ ?_
    refine zi_maxl K [] (dX5_handedOn 21 rfl) w_641 ⟨Nat.le_of_ble_eq_true rfl, Nat.le_of_ble_eq_true rfl⟩ ⟨Nat.le_refl _, Nat.le_refl _⟩ ?_
    exact zi_lret K E (dX5_handedOn 22 rfl) (Nat.le_refl _) (Nat.le_refl _) (by unfold v_handedOn; rw [if_pos h6_0]) (fun _ h => h)
  · skip
    refine zi_lconst K (dX5_handedOn 5 rfl) zk_l0 ?_
    refine zi_goto K 36 (dX5_handedOn 6 rfl) rfl ?_
    exact zi_lret K E (dX5_handedOn 22 rfl) (Nat.le_refl _) (Nat.le_refl _) (by unfold v_handedOn; rw [if_neg h6_0]) (fun _ h => h)
end
section
/-! lists: rows over arrays of references, the state's lists, ArrayList's methods -/
def uZ (σ : zSt) (q n : Nat) : zSt := (σ.1, σ.2.1, σ.2.2.1, (fun j => if j = q then n else σ.2.2.2.1 j), σ.2.2.2.2)
def uM (σ : zSt) (q : Nat) (m : Int32) : zSt := (σ.1, σ.2.1, σ.2.2.1, σ.2.2.2.1, σ.2.2.2.2.1, (fun j => if j = q then m else σ.2.2.2.2.2.1 j), σ.2.2.2.2.2.2)
def uE (σ : zSt) (q i : Nat) (v : Option Nat) : zSt := (σ.1, σ.2.1, (fun a b => if a = q ∧ b = i then v else σ.2.2.1 a b), σ.2.2.2)
def uC (σ : zSt) (q c : Nat) : zSt := (σ.1, σ.2.1, σ.2.2.1, σ.2.2.2.1, (fun j => if j = q then c else σ.2.2.2.2.1 j), σ.2.2.2.2.2.1, σ.2.2.2.2.2.2.1, σ.2.2.2.2.2.2.2.1, σ.2.2.2.2.2.2.2.2.1 + 1, σ.2.2.2.2.2.2.2.2.2 + c)
section ZA
variable {G : zG} {X : zX} {cc : ByteArray} {own : String} {nL : Nat} {ret : Option FieldType} {rm : Room} {P : Heap → Prop} {k n pc : Nat} {lo : List (Nat × Value)} {st : List Value}
theorem zi_aald (K : zK G X cc own nL ret rm) {a N : Nat} {f : Nat → Option Nat} {j : Int32} (hP : ∀ H, P H → va_at G.2.2.1 zCl (a, .inl (G.2.2.2.1 3, N, .inr (.inr (.inr (.inr f))))) H) (i : Nat) (hj : j = nI i) (hi : i < N) (hN : N < 2 ^ 31) (hd : decode cc pc = .ok (.aaload, 1)) (kk : zV G X nL P k n (pc + 1) lo (va_rf (f i) :: st)) : zV G X nL P k n pc lo (.int j :: .ref a :: st) := fun H locs ls hP0 hS hL => by
  subst hj
  refine va_aldq (D := G.2.2.1) (cl := zCl) (tys := zty G.2.2.2.1) (ws := [(a, .inl (G.2.2.2.1 3, N, .inr (.inr (.inr (.inr f)))))]) (C := "java/lang/Object") K.1 K.2.1 K.2.2.2.2.2.1.1 (fun q x hq => by
    have hz : q < 1 := (List.getElem?_eq_some_iff.mp hq).1
    rw [show q = 0 by omega] at hq
    cases hq
    exact hP H hP0) 0 3 rfl rfl (vp_in_nI hi hN) hd ?_
  rw [nI_clamp (Nat.lt_trans hi hN)]
  exact kk H locs ls hP0 hS hL
theorem zi_aast (K : zK G X cc own nL ret rm) {a N v : Nat} {f : Nat → Option Nat} {j : Int32} {P' : Heap → Prop} (hP : ∀ H, P H → va_at G.2.2.1 zCl (a, .inl (G.2.2.2.1 3, N, .inr (.inr (.inr (.inr f))))) H ∧ gA G a) (hv : ∀ H, P H → ∃ (ci : Nat) (fs : List Value) (r : vw_C), va_at G.2.2.1 zCl (v, .inr (ci, fs)) H ∧ zCl[ci]? = some r ∧ r.1 ∈ zF) (i : Nat) (hj : j = nI i) (hi : i < N) (hN : N < 2 ^ 31) (hd : decode cc pc = .ok (.aastore, 1))
    (hP' : ∀ H H1 : Heap, P H → va_at G.2.2.1 zCl (a, .inl (G.2.2.2.1 3, N, .inr (.inr (.inr (.inr (va_up f i (some v))))))) H1 → H1.size = H.size → (∀ q, q ≠ a → H1[q]? = H[q]?) → P' H1) (kk : zV G X nL P' k n (pc + 1) lo st) : zV G X nL P k n pc lo (.ref v :: .int j :: .ref a :: st) := fun H locs ls hP0 hS hL => by
  subst hj
  obtain ⟨hat, hA⟩ := hP H hP0
  obtain ⟨ci, fs, r, ⟨r', hr', cellV, g1, g2, g3, -⟩, hc, hF⟩ := hv H hP0
  have hK := K.2.2.2.2.2.1.1
  have hcls := (hK.1 ci r hc).2
  obtain ⟨kA, comp, k1, k2, k3, -⟩ := (hK.2 3 _ rfl).2
  obtain ⟨kE, hkE, -⟩ := Vm.findClass_spec k3
  obtain ⟨c0, t1, f1, f2, f3⟩ := Cond.castable_spec (va_Nw.use (A := xa X) rfl (K.2.2.2.2.2.1.2.2.2.2.1 r.1 hF))
  cases hcls.1.symm.trans f1
  cases k3.symm.trans f2
  obtain ⟨kC, hkC, -⟩ := hcls.2
  refine W.aast K.1 K.2.1 hat (fun q h => by cases h) (fun h => by cases h) k1 k2 rfl hkE ⟨nI_pos (Nat.lt_trans hi hN), by show _ < (arrV _ _ _).slots.size; rw [arrV_size, nI_clamp (Nat.lt_trans hi hN)]; exact hi⟩ g1 (fun q h => by rw [g3] at h; cases h) (by rw [g2]; exact hkC) (by rw [g2]; exact f3) rfl rfl hd fun H1 e z oq => ?_
  rw [nI_clamp (Nat.lt_trans hi hN)] at e ⊢
  refine kk H1 _ ls (hP' H H1 hP0 ?_ z oq) (hS.put z oq hA) hL
  show H1[a]? = some (vp_cell _ _)
  rw [e]
  rw [vp_cell_q, vp_cell_q, arrV_store]
  congr 2
  funext q
  by_cases hq : q = i
  · subst hq
    simp [updV, va_up, va_rf]
  · simp [updV, va_up, hq]
theorem zi_aastN (K : zK G X cc own nL ret rm) {a N : Nat} {f : Nat → Option Nat} {j : Int32} {P' : Heap → Prop} (hP : ∀ H, P H → va_at G.2.2.1 zCl (a, .inl (G.2.2.2.1 3, N, .inr (.inr (.inr (.inr f))))) H ∧ gA G a) (i : Nat) (hj : j = nI i) (hi : i < N) (hN : N < 2 ^ 31) (hd : decode cc pc = .ok (.aastore, 1))
    (hP' : ∀ H H1 : Heap, P H → va_at G.2.2.1 zCl (a, .inl (G.2.2.2.1 3, N, .inr (.inr (.inr (.inr (va_up f i none)))))) H1 → H1.size = H.size → (∀ q, q ≠ a → H1[q]? = H[q]?) → P' H1) (kk : zV G X nL P' k n (pc + 1) lo st) : zV G X nL P k n pc lo (.null :: .int j :: .ref a :: st) := fun H locs ls hP0 hS hL => by
  subst hj
  obtain ⟨hat, hA⟩ := hP H hP0
  refine va_WaastN (C := "java/lang/Object") K.1 K.2.1 hat ((K.2.2.2.2.2.1.1.2 3 _ rfl).1 N (fun j => va_rf (f j))) (fun h => by cases h) (by show ¬ (_ ∨ (arrV _ _ _).slots.size ≤ _); rw [arrV_size]; exact vp_in_nI hi hN) rfl rfl hd fun H1 e z oq => ?_
  rw [nI_clamp (Nat.lt_trans hi hN)] at e ⊢
  refine kk H1 _ ls (hP' H H1 hP0 ?_ z oq) (hS.put z oq hA) hL
  show H1[a]? = some (vp_cell _ _)
  rw [e]
  rw [vp_cell_q, vp_cell_q, arrV_store]
  congr 2
  funext q
  by_cases hq : q = i
  · subst hq
    simp [updV, va_up, va_rf]
  · simp [updV, va_up, hq]
end ZA
section ZB
variable {G : zG} {ad : Nat → Nat → Nat} {aa : Nat → Nat} {σ σ' : zSt} {H H1 : Heap}
/-- what of the state the content of a kind other than lists speaks of -/
theorem zct_lists {kd ix : Nat} (h : kd < 28) (h1 : σ'.1 = σ.1) (h2 : σ'.2.1 = σ.2.1) (h8 : sP σ' = sP σ) : zct G ad aa σ' kd ix = zct G ad aa σ kd ix := by
  obtain ⟨a, b, e, z, c, m, n, p, g⟩ := σ
  obtain ⟨a', b', e', z', c', m', n', p', g'⟩ := σ'
  cases h1
  cases h2
  cases h8
  match kd, h with
  | 0, _ => rfl
  | 1, _ => rfl
  | 2, _ => rfl
  | 3, _ => rfl
  | 4, _ => rfl
  | 5, _ => rfl
  | 6, _ => rfl
  | 7, _ => rfl
  | 8, _ => rfl
  | 9, _ => rfl
  | 10, _ => rfl
  | 11, _ => rfl
  | 12, _ => rfl
  | 13, _ => rfl
  | 14, _ => rfl
  | 15, _ => rfl
  | 16, _ => rfl
  | 17, _ => rfl
  | 18, _ => rfl
  | 19, _ => rfl
  | 20, _ => rfl
  | 21, _ => rfl
  | 22, _ => rfl
  | 23, _ => rfl
  | 24, _ => rfl
  | 25, _ => rfl
  | 26, _ => rfl
  | 27, _ => rfl
  | q + 28, h => exact absurd h (by omega)
theorem zlv_lists {kd ix : Nat} (h : kd ≠ 29) (h7 : sN σ' = sN σ) : zlv σ' kd ix ↔ zlv σ kd ix := by
  obtain ⟨a, b, e, z, c, m, n, p, g⟩ := σ
  obtain ⟨a', b', e', z', c', m', n', p', g'⟩ := σ'
  cases h7
  match kd, h with
  | 0, _ => exact Iff.rfl
  | 1, _ => exact Iff.rfl
  | 2, _ => exact Iff.rfl
  | 3, _ => exact Iff.rfl
  | 4, _ => exact Iff.rfl
  | 5, _ => exact Iff.rfl
  | 6, _ => exact Iff.rfl
  | 7, _ => exact Iff.rfl
  | 8, _ => exact Iff.rfl
  | 9, _ => exact Iff.rfl
  | 10, _ => exact Iff.rfl
  | 11, _ => exact Iff.rfl
  | 12, _ => exact Iff.rfl
  | 13, _ => exact Iff.rfl
  | 14, _ => exact Iff.rfl
  | 15, _ => exact Iff.rfl
  | 16, _ => exact Iff.rfl
  | 17, _ => exact Iff.rfl
  | 18, _ => exact Iff.rfl
  | 19, _ => exact Iff.rfl
  | 20, _ => exact Iff.rfl
  | 21, _ => exact Iff.rfl
  | 22, _ => exact Iff.rfl
  | 23, _ => exact Iff.rfl
  | 24, _ => exact Iff.rfl
  | 25, _ => exact Iff.rfl
  | 26, _ => exact Iff.rfl
  | 27, _ => exact Iff.rfl
  | 28, _ => exact Iff.rfl
  | 29, h => exact absurd rfl h
  | q + 30, _ => exact Iff.rfl
theorem zP0.setZ (h : zP0 G ad aa σ H) {q m : Nat} (hq : q < 13) (hn : va_at G.2.2.1 zCl (ad 28 q, zqLST G aa (uZ σ q m) q) H1) (oq : ∀ x, x ≠ ad 28 q → H1[x]? = H[x]?) : zP0 G ad aa (uZ σ q m) H1 := by
  refine h.upd (kd := 28) (ix := q) hq (fun k x => ?_) (fun k x hne _ => ?_) hn oq
  · by_cases e : k = 29
    · subst e; exact Iff.rfl
    · exact zlv_lists e rfl
  · rcases Nat.lt_or_ge k 28 with e | e
    · exact zct_lists e rfl rfl rfl
    · match k, e with
      | 28, _ =>
        have hx : ¬ x = q := fun z => hne ⟨rfl, z⟩
        show zqLST G aa (uZ σ q m) x = zqLST G aa σ x
        unfold zqLST
        rw [show sZ (uZ σ q m) x = sZ σ x from if_neg hx]
        rfl
      | 29, _ => rfl
      | y + 30, _ => rfl
theorem zP0.setM (h : zP0 G ad aa σ H) {q : Nat} {m : Int32} (hq : q < 13) (hn : va_at G.2.2.1 zCl (ad 28 q, zqLST G aa (uM σ q m) q) H1) (oq : ∀ x, x ≠ ad 28 q → H1[x]? = H[x]?) : zP0 G ad aa (uM σ q m) H1 := by
  refine h.upd (kd := 28) (ix := q) hq (fun k x => ?_) (fun k x hne _ => ?_) hn oq
  · by_cases e : k = 29
    · subst e; exact Iff.rfl
    · exact zlv_lists e rfl
  · rcases Nat.lt_or_ge k 28 with e | e
    · exact zct_lists e rfl rfl rfl
    · match k, e with
      | 28, _ =>
        have hx : ¬ x = q := fun z => hne ⟨rfl, z⟩
        show zqLST G aa (uM σ q m) x = zqLST G aa σ x
        unfold zqLST
        rw [show sM (uM σ q m) x = sM σ x from if_neg hx]
        rfl
      | 29, _ => rfl
      | y + 30, _ => rfl
theorem zP0.setE (h : zP0 G ad aa σ H) {q i : Nat} {v : Option Nat} (hq : q < 13 ∧ 0 < sC σ q) (hn : va_at G.2.2.1 zCl (aa q, zqLARR G ad (uE σ q i v) q) H1) (oq : ∀ x, x ≠ aa q → H1[x]? = H[x]?) : zP0 G ad aa (uE σ q i v) H1 := by
  refine h.upd (kd := 29) (ix := q) hq (fun k x => ?_) (fun k x hne _ => ?_) hn oq
  · by_cases e : k = 29
    · subst e; exact Iff.rfl
    · exact zlv_lists e rfl
  · rcases Nat.lt_or_ge k 28 with e | e
    · exact zct_lists e rfl rfl rfl
    · match k, e with
      | 28, _ => rfl
      | 29, _ =>
        have hx : ¬ x = q := fun z => hne ⟨rfl, z⟩
        show zqLARR G ad (uE σ q i v) x = zqLARR G ad σ x
        unfold zqLARR
        rw [show (fun j => (sE (uE σ q i v) x j).map (ad (zeK x))) = (fun j => (sE σ x j).map (ad (zeK x))) from funext fun j => by
          rw [show sE (uE σ q i v) x j = sE σ x j from if_neg (fun z => hx z.1)]]
        rfl
      | y + 30, _ => rfl
theorem zr0_LST (h : zP0 G ad aa σ H) {q : Nat} (hq : q < 13) : va_at G.2.2.1 zCl (ad 28 q, zqLST G aa σ q) H ∧ gA G (ad 28 q) := h.1 28 q hq
theorem zr0_LARR (h : zP0 G ad aa σ H) {q : Nat} (hq : q < 13 ∧ 0 < sC σ q) : va_at G.2.2.1 zCl (aa q, zqLARR G ad σ q) H ∧ gA G (aa q) := h.1 29 q hq
end ZB
section ZD
variable {G : zG} {X : zX} {cc : ByteArray} {nL : Nat} {ret : Option FieldType} {rm : Room} {k n pc : Nat} {lo : List (Nat × Value)} {st : List Value} {ad : Nat → Nat → Nat} {aa : Nat → Nat} {σ : zSt}
theorem zV.opn (kk : ∀ aa, zV G X nL (zP0 G ad aa σ) k n pc lo st) : zV G X nL (zP G ad σ) k n pc lo st := zV.ex (F := fun aa => zP0 G ad aa σ) kk
theorem zg0_size (K : zK G X cc RJx4a65c nL ret rm) {q idx : Nat} (hq : q < 13) (hw : Cond.fieldLink RJx4a65c idx RJx4a65c "size" "I" ∈ zB) (hd : decode cc pc = .ok (.getfield idx, 3)) (kk : zV G X nL (zP0 G ad aa σ) k n (pc + 3) lo (.int (nI (sZ σ q)) :: st)) : zV G X nL (zP0 G ad aa σ) k n pc lo (.ref (ad 28 q) :: st) := zi_get (ci := 9) (C := RJx4a65c) (T := TJx4a65c) (N := 3) (f := 2) K rfl inJx4a65c (fun H h => (zr0_LST h hq).1) (Nat.le_of_ble_eq_true rfl) hw (fun _ h => h) hd rfl kk
theorem zg0_data (K : zK G X cc RJx4a65c nL ret rm) {q idx : Nat} (hq : q < 13) (hw : Cond.fieldLink RJx4a65c idx RJx4a65c "elementData" "[Ljava/lang/Object;" ∈ zB) (hd : decode cc pc = .ok (.getfield idx, 3)) (kk : zV G X nL (zP0 G ad aa σ) k n (pc + 3) lo (.ref (if sC σ q = 0 then G.2.2.2.2 0 else aa q) :: st)) : zV G X nL (zP0 G ad aa σ) k n pc lo (.ref (ad 28 q) :: st) := zi_get (ci := 9) (C := RJx4a65c) (T := TJx4a65c) (N := 3) (f := 1) K rfl inJx4a65c (fun H h => (zr0_LST h hq).1) (Nat.le_of_ble_eq_true rfl) hw (fun _ h => h) hd rfl kk
theorem zg0_mod (K : zK G X cc RJx4a65c nL ret rm) {q idx : Nat} (hq : q < 13) (hw : Cond.fieldLink RJx4a65c idx "java/util/ArrayList" "modCount" "I" ∈ zB) (hd : decode cc pc = .ok (.getfield idx, 3)) (kk : zV G X nL (zP0 G ad aa σ) k n (pc + 3) lo (.int (sM σ q) :: st)) : zV G X nL (zP0 G ad aa σ) k n pc lo (.ref (ad 28 q) :: st) := zi_get (ci := 9) (C := RJx4a65c) (T := TJx4a65c) (N := 3) (f := 0) K rfl inJx4a65c (fun H h => (zr0_LST h hq).1) (Nat.le_of_ble_eq_true rfl) hw (fun x hx => u_same (K.2.2.2.2.1 _ w_86) x hx) hd rfl kk
theorem zp0_mod (K : zK G X cc RJx4a65c nL ret rm) {q idx : Nat} {m : Int32} (hq : q < 13) (hw : Cond.fieldLink RJx4a65c idx "java/util/ArrayList" "modCount" "I" ∈ zB) (hd : decode cc pc = .ok (.putfield idx, 3)) (kk : zV G X nL (zP0 G ad aa (uM σ q m)) k n (pc + 3) lo st) : zV G X nL (zP0 G ad aa σ) k n pc lo (.int m :: .ref (ad 28 q) :: st) :=
  zi_put (ci := 9) (C := RJx4a65c) (T := TJx4a65c) (N := 3) (f := 0) (ty := .int) K rfl inJx4a65c tyJx4a65c tyJx4a65c_ok nmJx4a65c (fun H h => zr0_LST h hq) (Nat.le_of_ble_eq_true rfl) hw (fun x hx => u_same (K.2.2.2.2.1 _ w_86) x hx) rfl (by decide +kernel) rfl rfl (Nat.le_of_ble_eq_true rfl) hd (fun H H1 h ha _ oq => h.setM hq (by
    unfold zqLST
    rw [show sM (uM σ q m) q = m from if_pos rfl]
    exact ha) oq) kk
theorem zp0_size (K : zK G X cc RJx4a65c nL ret rm) {q idx m : Nat} {v : Int32} (hv : v = nI m) (hq : q < 13) (hw : Cond.fieldLink RJx4a65c idx RJx4a65c "size" "I" ∈ zB) (hd : decode cc pc = .ok (.putfield idx, 3)) (kk : zV G X nL (zP0 G ad aa (uZ σ q m)) k n (pc + 3) lo st) : zV G X nL (zP0 G ad aa σ) k n pc lo (.int v :: .ref (ad 28 q) :: st) := by
  subst hv
  exact zi_put (ci := 9) (C := RJx4a65c) (T := TJx4a65c) (N := 3) (f := 2) (ty := .int) K rfl inJx4a65c tyJx4a65c tyJx4a65c_ok nmJx4a65c (fun H h => zr0_LST h hq) (Nat.le_of_ble_eq_true rfl) hw (fun _ h => h) rfl (by decide +kernel) rfl rfl (Nat.le_of_ble_eq_true rfl) hd (fun H H1 h ha _ oq => h.setZ hq (by
    unfold zqLST
    rw [show sZ (uZ σ q m) q = m from if_pos rfl]
    exact ha) oq) kk
end ZD
end
section
/-! ArrayList: size, isEmpty, get, clear, and add where there is room -/
section ZE1
variable {G : zG} {X : zX} {cc : ByteArray} {own : String} {nL : Nat} {ret : Option FieldType} {rm : Room} {P : Heap → Prop} {k n pc : Nat} {lo : List (Nat × Value)} {st : List Value}
theorem zi_null (K : zK G X cc own nL ret rm) (hd : decode cc pc = .ok (.aconst_null, 1)) (kk : zV G X nL P k n (pc + 1) lo (.null :: st)) : zV G X nL P k n pc lo st := fun H locs ls hP hS hL => lv_null K.1 K.2.1 hd (kk H locs ls hP hS hL)
theorem zi_dup_x1 (K : zK G X cc own nL ret rm) {v w : Value} (hd : decode cc pc = .ok (.dup_x1, 1)) (hv : v.category = 1) (hw : w.category = 1) (kk : zV G X nL P k n (pc + 1) lo (v :: w :: v :: st)) : zV G X nL P k n pc lo (v :: w :: st) := fun H locs ls hP hS hL => lv_dup_x1 K.1 K.2.1 hd hv hw (kk H locs ls hP hS hL)
end ZE1
/-- a list's state is in order: its size within its room, its room small -/
def zLok (σ : zSt) (q : Nat) : Prop := q < 13 ∧ sZ σ q ≤ sC σ q ∧ sC σ q < 1000 ∧ (∀ j, sZ σ q ≤ j → sE σ q j = none) ∧ ∀ j x, sE σ q j = some x → zlv σ (zeK q) x
def v_isEmpty (σ : zSt) (q : Nat) : Int32 := if nI (sZ σ q) = 0 then 1 else 0
def zclr (σ : zSt) (q : Nat) : Nat → zSt
  | 0 => σ
  | i + 1 => uE (zclr σ q i) q i none
def s_clear (σ : zSt) (q : Nat) : zSt := zclr (uZ (uM σ q (sM σ q + 1)) q 0) q (sZ σ q)
/-- add at the end, where there is room -/
def s_addR (σ : zSt) (q x : Nat) : zSt := uZ (uE (uM σ q (sM σ q + 1)) q (sZ σ q) (some x)) q (sZ σ q + 1)
theorem zclr_C (σ : zSt) (q : Nat) (i : Nat) : sC (zclr σ q i) = sC σ := by
  induction i with
  | zero => rfl
  | succ i ih => exact ih
set_option maxRecDepth 100000 in
set_option maxHeartbeats 4000000 in
theorem c_size {G : zG} {ad : Nat → Nat → Nat} {σ : zSt} (q : Nat) (hq : q < 13) : zC G yJx4a65c_size_8abf5 cJx4a65c_size_8abf5 1 (some FieldType.int) 0 0 0 0 [.ref (ad 28 q)] (zP G ad σ) (some (.int (nI (sZ σ q)))) (zP G ad σ) := by
  refine zC_of (by decide) (Nat.le_of_ble_eq_true rfl) (fun X K E hnm => ?_)
  show zV G X 1 (zP G ad σ) 0 0 0 [(0, .ref (ad 28 q))] []
  refine zi_aload_n K (dJx4a65c_size_8abf5 0 rfl) 0 rfl ?_
  refine zV.opn (fun aa => ?_)
  refine zg0_size K hq w_83 (dJx4a65c_size_8abf5 1 rfl) ?_
  exact zi_iret K E (dJx4a65c_size_8abf5 2 rfl) (Nat.le_refl _) (Nat.le_refl _) rfl (fun H h => ⟨aa, h⟩)
set_option maxRecDepth 100000 in
set_option maxHeartbeats 4000000 in
theorem c_isEmpty {G : zG} {ad : Nat → Nat → Nat} {σ : zSt} (q : Nat) (hq : q < 13) : zC G yJx4a65c_isEmpty_aae02 cJx4a65c_isEmpty_aae02 1 (some FieldType.boolean) 0 0 0 0 [.ref (ad 28 q)] (zP G ad σ) (some (.int (v_isEmpty σ q))) (zP G ad σ) := by
  refine zC_of (by decide) (Nat.le_of_ble_eq_true rfl) (fun X K E hnm => ?_)
  show zV G X 1 (zP G ad σ) 0 0 0 [(0, .ref (ad 28 q))] []
  refine zi_aload_n K (dJx4a65c_isEmpty_aae02 0 rfl) 0 rfl ?_
  refine zV.opn (fun aa => ?_)
  refine zg0_size K hq w_83 (dJx4a65c_isEmpty_aae02 1 rfl) ?_
  refine zi_if_ne K 11 (dJx4a65c_isEmpty_aae02 2 rfl) rfl (fun h => ?_) (fun h => ?_)
  · refine zi_iconst K (dJx4a65c_isEmpty_aae02 5 rfl) zk_i0 ?_
    exact zi_zret K E (dJx4a65c_isEmpty_aae02 6 rfl) (Nat.le_refl _) (Nat.le_refl _) (by unfold v_isEmpty; rw [if_neg h]) rfl (fun H h => ⟨aa, h⟩)
  · refine zi_iconst K (dJx4a65c_isEmpty_aae02 3 rfl) zk_i1 ?_
    refine zi_goto K 12 (dJx4a65c_isEmpty_aae02 4 rfl) rfl ?_
    exact zi_zret K E (dJx4a65c_isEmpty_aae02 6 rfl) (Nat.le_refl _) (Nat.le_refl _) (by unfold v_isEmpty; rw [if_pos h]) rfl (fun H h => ⟨aa, h⟩)
set_option maxRecDepth 100000 in
set_option maxHeartbeats 4000000 in
theorem c_pcheck {G : zG} {P : Heap → Prop} (i N : Nat) (hi : i < N) (hN : N < 2 ^ 31) : zC G yJ3_checkIndex_8e157 cJ3_checkIndex_8e157 3 (some FieldType.int) 0 0 0 0 [.int (nI i), .int (nI N), .null] (P) (some (.int (nI i))) (P) := by
  refine zC_of (by decide) (Nat.le_of_ble_eq_true rfl) (fun X K E hnm => ?_)
  show zV G X 3 (P) 0 0 0 [(0, .int (nI i)), (1, .int (nI N)), (2, .null)] []
  refine zi_iload_n K (dJ3_checkIndex_8e157 0 rfl) 0 rfl ?_
  refine zi_if_lt K 9 (dJ3_checkIndex_8e157 1 rfl) rfl (fun h => absurd h (nI_pos (Nat.lt_trans hi hN))) (fun _ => ?_)
  refine zi_iload_n K (dJ3_checkIndex_8e157 2 rfl) 0 rfl ?_
  refine zi_iload_n K (dJ3_checkIndex_8e157 3 rfl) 1 rfl ?_
  refine zi_icmp_lt K 16 (dJ3_checkIndex_8e157 4 rfl) rfl (fun _ => ?_) (fun h => absurd (nI_lt hi hN) h)
  refine zi_iload_n K (dJ3_checkIndex_8e157 10 rfl) 0 rfl ?_
  exact zi_iret K E (dJ3_checkIndex_8e157 11 rfl) (Nat.le_refl _) (Nat.le_refl _) rfl (fun _ h => h)
set_option maxRecDepth 100000 in
set_option maxHeartbeats 4000000 in
theorem c_ocheck {G : zG} {P : Heap → Prop} (i N : Nat) (hi : i < N) (hN : N < 2 ^ 31) : zC G yJ15_checkIndex_7cf53 cJ15_checkIndex_7cf53 2 (some FieldType.int) 1 22 0 0 [.int (nI i), .int (nI N)] (P) (some (.int (nI i))) (P) := by
  refine zC_of (by decide) (Nat.le_of_ble_eq_true rfl) (fun X K E hnm => ?_)
  show zV G X 2 (P) 0 0 0 [(0, .int (nI i)), (1, .int (nI N))] []
  refine zi_iload_n K (dJ15_checkIndex_7cf53 0 rfl) 0 rfl ?_
  refine zi_iload_n K (dJ15_checkIndex_7cf53 1 rfl) 1 rfl ?_
  refine zi_null K (dJ15_checkIndex_7cf53 2 rfl) ?_
  refine zi_callS K (na := 3) (As := [.int (nI i), .int (nI N), .null]) [] [.int (nI i)] (c_pcheck (P := P) i N hi hN) (dJ15_checkIndex_7cf53 3 rfl) w_316 w_317 w_47 w_318 (by decide +kernel) rfl (fun H h => h) ⟨Nat.le_of_ble_eq_true rfl, Nat.le_of_ble_eq_true rfl⟩ ⟨Nat.le_refl _, Nat.le_refl _⟩ (Nat.le_of_ble_eq_true rfl) rfl rfl ?_
  exact zi_iret K E (dJ15_checkIndex_7cf53 4 rfl) (Nat.le_refl _) (Nat.le_refl _) rfl (fun _ h => h)
set_option maxRecDepth 100000 in
set_option maxHeartbeats 4000000 in
theorem c_elem {G : zG} {ad : Nat → Nat → Nat} {aa : Nat → Nat} {σ : zSt} (q i x : Nat) (hq : zLok σ q) (hi : i < sZ σ q) (hx : sE σ q i = some x) : zC G yJx4a65c_elementData_915e3 cJx4a65c_elementData_915e3 2 (some (FieldType.object "java/lang/Object")) 0 0 0 0 [.ref (ad 28 q), .int (nI i)] (zP0 G ad aa σ) (some (.ref (ad (zeK q) x))) (zP0 G ad aa σ) := by
  refine zC_of (by decide) (Nat.le_of_ble_eq_true rfl) (fun X K E hnm => ?_)
  show zV G X 2 (zP0 G ad aa σ) 0 0 0 [(0, .ref (ad 28 q)), (1, .int (nI i))] []
  have h0 : 0 < sC σ q := by have := hq.2.1; omega
  refine zi_aload_n K (dJx4a65c_elementData_915e3 0 rfl) 0 rfl ?_
  refine zg0_data K hq.1 w_82 (dJx4a65c_elementData_915e3 1 rfl) ?_
  rw [if_neg (show ¬ sC σ q = 0 by omega)]
  refine zi_iload_n K (dJx4a65c_elementData_915e3 2 rfl) 1 rfl ?_
  refine zi_aald K (fun H h => (zr0_LARR h ⟨hq.1, h0⟩).1) i rfl (by have := hq.2.1; omega) (by have := hq.2.2.1; omega) (dJx4a65c_elementData_915e3 3 rfl) ?_
  rw [hx]
  exact zi_aret K E (dJx4a65c_elementData_915e3 4 rfl) (Nat.le_refl _) (Nat.le_refl _) rfl (Or.inl ⟨_, rfl⟩) (fun _ h => h)
set_option maxRecDepth 100000 in
set_option maxHeartbeats 4000000 in
theorem c_get {G : zG} {ad : Nat → Nat → Nat} {σ : zSt} (q i x : Nat) (hq : zLok σ q) (hi : i < sZ σ q) (hx : sE σ q i = some x) : zC G yJx4a65c_get_915e3 cJx4a65c_get_915e3 2 (some (FieldType.object "java/lang/Object")) 2 43 0 0 [.ref (ad 28 q), .int (nI i)] (zP G ad σ) (some (.ref (ad (zeK q) x))) (zP G ad σ) := by
  refine zC_of (by decide) (Nat.le_of_ble_eq_true rfl) (fun X K E hnm => ?_)
  show zV G X 2 (zP G ad σ) 0 0 0 [(0, .ref (ad 28 q)), (1, .int (nI i))] []
  refine zV.opn (fun aa => ?_)
  refine zi_iload_n K (dJx4a65c_get_915e3 0 rfl) 1 rfl ?_
  refine zi_aload_n K (dJx4a65c_get_915e3 1 rfl) 0 rfl ?_
  refine zg0_size K hq.1 w_83 (dJx4a65c_get_915e3 2 rfl) ?_
  refine zi_callS K (na := 2) (As := [.int (nI i), .int (nI (sZ σ q))]) [] [.int (nI i)] (c_ocheck (P := zP0 G ad aa σ) i (sZ σ q) hi (by have := hq.2.1; have := hq.2.2.1; omega)) (dJx4a65c_get_915e3 3 rfl) w_313 w_314 w_46 w_315 (by decide +kernel) rfl (fun H h => h) ⟨Nat.le_of_ble_eq_true rfl, Nat.le_of_ble_eq_true rfl⟩ ⟨Nat.le_refl _, Nat.le_refl _⟩ (Nat.le_of_ble_eq_true rfl) rfl rfl ?_
  refine zi_pop K (dJx4a65c_get_915e3 4 rfl) rfl ?_
  refine zi_aload_n K (dJx4a65c_get_915e3 5 rfl) 0 rfl ?_
  refine zi_iload_n K (dJx4a65c_get_915e3 6 rfl) 1 rfl ?_
  refine zi_callV K (na := 1) [] [.ref (ad (zeK q) x)] (c_elem (ad := ad) (aa := aa) (σ := σ) q i x hq hi hx) (dJx4a65c_get_915e3 7 rfl) w_319 w_320 w_321 w_28 w_322 (by decide +kernel) rfl (fun H h => zi_recv K (zr0_LST h hq.1).1 rfl) (fun H h => h) ⟨Nat.le_of_ble_eq_true rfl, Nat.le_of_ble_eq_true rfl⟩ ⟨Nat.le_refl _, Nat.le_refl _⟩ (Nat.le_of_ble_eq_true rfl) rfl rfl ?_
  exact zi_aret K E (dJx4a65c_get_915e3 8 rfl) (Nat.le_refl _) (Nat.le_refl _) rfl (Or.inl ⟨_, rfl⟩) (fun H h => ⟨aa, h⟩)
set_option maxRecDepth 100000 in
set_option maxHeartbeats 4000000 in
theorem c_clear {G : zG} {ad : Nat → Nat → Nat} {σ : zSt} (q : Nat) (hq : zLok σ q) : zC G yJx4a65c_clear_da8c8 cJx4a65c_clear_da8c8 4 none 0 0 0 0 [.ref (ad 28 q)] (zP G ad σ) none (zP G ad (s_clear σ q)) := by
  refine zC_of (by decide) (Nat.le_of_ble_eq_true rfl) (fun X K E hnm => ?_)
  show zV G X 4 (zP G ad σ) 0 0 0 [(0, .ref (ad 28 q))] []
  refine zV.opn (fun aa => ?_)
  refine zi_aload_n K (dJx4a65c_clear_da8c8 0 rfl) 0 rfl ?_
  refine zi_dup K (dJx4a65c_clear_da8c8 1 rfl) rfl ?_
  refine zg0_mod K hq.1 w_85 (dJx4a65c_clear_da8c8 2 rfl) ?_
  refine zi_iconst K (dJx4a65c_clear_da8c8 3 rfl) zk_i1 ?_
  refine zi_iadd K (dJx4a65c_clear_da8c8 4 rfl) ?_
  refine zp0_mod K hq.1 w_85 (dJx4a65c_clear_da8c8 5 rfl) ?_
  refine zi_aload_n K (dJx4a65c_clear_da8c8 6 rfl) 0 rfl ?_
  refine zg0_data K hq.1 w_82 (dJx4a65c_clear_da8c8 7 rfl) ?_
  refine zi_astore_n K [(1, .ref (if sC σ q = 0 then G.2.2.2.2 0 else aa q)), (0, .ref (ad 28 q))] (dJx4a65c_clear_da8c8 8 rfl) (by decide) rfl ?_
  refine zi_aload_n K (dJx4a65c_clear_da8c8 9 rfl) 1 rfl ?_
  refine zg0_size K hq.1 w_83 (dJx4a65c_clear_da8c8 10 rfl) ?_
  refine zi_istore_n K [(2, .int (nI (sZ σ q))), (1, .ref (if sC σ q = 0 then G.2.2.2.2 0 else aa q)), (0, .ref (ad 28 q))] (dJx4a65c_clear_da8c8 11 rfl) (by decide) rfl ?_
  refine zi_aload_n K (dJx4a65c_clear_da8c8 12 rfl) 2 rfl ?_
  refine zi_iconst K (dJx4a65c_clear_da8c8 13 rfl) zk_i0 ?_
  refine zi_dup_x1 K (dJx4a65c_clear_da8c8 14 rfl) rfl rfl ?_
  refine zp0_size K (m := 0) (by decide) hq.1 w_83 (dJx4a65c_clear_da8c8 15 rfl) ?_
  refine zi_istore_n K [(3, .int 0), (2, .int (nI (sZ σ q))), (1, .ref (if sC σ q = 0 then G.2.2.2.2 0 else aa q)), (0, .ref (ad 28 q))] (dJx4a65c_clear_da8c8 16 rfl) (by decide) rfl ?_
  suffices hloop : ∀ (r i : Nat), i ≤ sZ σ q → sZ σ q - i < r → zV G X 4 (zP0 G ad aa (zclr (uZ (uM σ q (sM σ q + 1)) q 0) q i)) 0 0 27 [(3, .int (nI i)), (2, .int (nI (sZ σ q))), (1, .ref (if sC σ q = 0 then G.2.2.2.2 0 else aa q)), (0, .ref (ad 28 q))] [] from hloop (sZ σ q + 1) 0 (Nat.zero_le _) (Nat.lt_succ_of_le (Nat.sub_le _ _))
  intro r
  induction r with
  | zero => intro i _ h; exact absurd h (Nat.not_lt_zero _)
  | succ r ih =>
    intro i hi hr
    refine zi_iload_n K (dJx4a65c_clear_da8c8 17 rfl) 0 rfl ?_
    refine zi_iload_n K (dJx4a65c_clear_da8c8 18 rfl) 1 rfl ?_
    refine zi_icmp_ge K 42 (dJx4a65c_clear_da8c8 19 rfl) rfl (fun h => ?_) (fun h => ?_)
    · have hN := zloop_exit rfl (by have := hq.2.1; have := hq.2.2.1; omega) hi h
      subst hN
      exact zi_vret K E (dJx4a65c_clear_da8c8 26 rfl) (Nat.le_refl _) (Nat.le_refl _) rfl (fun H h => ⟨aa, h⟩)
    · have hlt := zloop_in rfl (by have := hq.2.1; have := hq.2.2.1; omega) hi h
      have hC : sC (zclr (uZ (uM σ q (sM σ q + 1)) q 0) q i) = sC σ := zclr_C _ _ _
      have h0 : 0 < sC σ q := by have := hq.2.1; omega
      refine zi_aload_n K (dJx4a65c_clear_da8c8 20 rfl) 2 rfl ?_
      refine zi_iload_n K (dJx4a65c_clear_da8c8 21 rfl) 0 rfl ?_
      refine zi_null K (dJx4a65c_clear_da8c8 22 rfl) ?_
      rw [if_neg (show ¬ sC σ q = 0 by omega)]
      refine zi_aastN (N := sC σ q) (f := fun j => (sE (zclr (uZ (uM σ q (sM σ q + 1)) q 0) q i) q j).map (ad (zeK q))) K (fun H h => by
        have h9 := zr0_LARR h ⟨hq.1, by rw [hC]; exact h0⟩
        unfold zqLARR at h9
        rw [hC] at h9
        exact h9) i rfl (by have := hq.2.1; omega) (by have := hq.2.2.1; omega) (dJx4a65c_clear_da8c8 23 rfl) (P' := zP0 G ad aa (zclr (uZ (uM σ q (sM σ q + 1)) q 0) q (i + 1))) (fun H H1 h ha _ oq => h.setE ⟨hq.1, by rw [hC]; exact h0⟩ (by
        unfold zqLARR
        rw [show sC (uE (zclr (uZ (uM σ q (sM σ q + 1)) q 0) q i) q i none) = sC σ from hC]
        rw [show (fun j => (sE (uE (zclr (uZ (uM σ q (sM σ q + 1)) q 0) q i) q i none) q j).map (ad (zeK q))) = va_up (fun j => (sE (zclr (uZ (uM σ q (sM σ q + 1)) q 0) q i) q j).map (ad (zeK q))) i none from funext fun j => by
          by_cases hj : j = i
          · subst hj; unfold va_up; rw [if_pos rfl, show sE (uE (zclr (uZ (uM σ q (sM σ q + 1)) q 0) q j) q j none) q j = none from if_pos ⟨rfl, rfl⟩]; rfl
          · unfold va_up; rw [if_neg hj, show sE (uE (zclr (uZ (uM σ q (sM σ q + 1)) q 0) q i) q i none) q j = sE (zclr (uZ (uM σ q (sM σ q + 1)) q 0) q i) q j from if_neg (fun z => hj z.2)]]
        exact ha) oq) ?_
      refine zi_iinc K (v := nI (i + 1)) [(3, .int (nI (i + 1))), (2, .int (nI (sZ σ q))), (1, .ref (aa q)), (0, .ref (ad 28 q))] (dJx4a65c_clear_da8c8 24 rfl) 0 rfl (zk_inc _) (by decide) rfl ?_
      refine zi_goto K 27 (dJx4a65c_clear_da8c8 25 rfl) rfl ?_
      have h9 := ih (i + 1) (by omega) (by omega)
      rw [if_neg (show ¬ sC σ q = 0 by omega)] at h9
      exact h9
end
section
/-! growing lists: getClass, class constants, new arrays of references, arraycopy; ArrayList.grow and add -/
theorem w_1491 : (.selects "[Ljava/lang/Object;" ⟨"java/lang/Object", "getClass", "()Ljava/lang/Class;"⟩ ⟨"java/lang/Object", "getClass", "()Ljava/lang/Class;"⟩ : Cond) ∈ zB := zb_m7 (List.mem_of_getElem? (i := 27) rfl) rfl
theorem w_484 : (.native ⟨"java/lang/Object", "getClass", "()Ljava/lang/Class;"⟩ : Cond) ∈ zB := zb_m2 (List.mem_of_getElem? (i := 220) rfl) rfl
theorem w_494 : (.native ⟨"java/lang/System", "arraycopy", "(Ljava/lang/Object;ILjava/lang/Object;II)V"⟩ : Cond) ∈ zB := zb_m2 (List.mem_of_getElem? (i := 230) rfl) rfl
section ZF1
variable {G : zG} {X : zX} {cc : ByteArray} {own : String} {nL : Nat} {ret : Option FieldType} {rm : Room} {P : Heap → Prop} {k n pc : Nat} {lo : List (Nat × Value)}
theorem zi_acmp_eq (K : zK G X cc own nL ret rm) {st : List Value} {a b : Nat} {off : Int} (tgt : Nat) (hd : decode cc pc = .ok (.if_acmp .eq off, 3)) (ht : (pc : Int) + off = (tgt : Int)) (kt : a = b → zV G X nL P k n tgt lo st) (kf : ¬ a = b → zV G X nL P k n (pc + 3) lo st) : zV G X nL P k n pc lo (.ref b :: .ref a :: st) := fun H locs ls hP hS hL =>
  lv_acmp_eq (rx := some a) (ry := some b) K.1 K.2.1 hd ht (fun c => kt (Option.some.inj c) H locs ls hP hS hL) (fun c => kf (fun e => c (by rw [e])) H locs ls hP hS hL)
theorem zi_acmp_ne (K : zK G X cc own nL ret rm) {st : List Value} {a b : Nat} {off : Int} (tgt : Nat) (hd : decode cc pc = .ok (.if_acmp .ne off, 3)) (ht : (pc : Int) + off = (tgt : Int)) (kt : ¬ a = b → zV G X nL P k n tgt lo st) (kf : a = b → zV G X nL P k n (pc + 3) lo st) : zV G X nL P k n pc lo (.ref b :: .ref a :: st) := fun H locs ls hP hS hL =>
  lv_acmp_ne (rx := some a) (ry := some b) K.1 K.2.1 hd ht (fun c => kt (fun e => c (by rw [e])) H locs ls hP hS hL) (fun c => kf (Option.some.inj c) H locs ls hP hS hL)
theorem zi_ldcM (K : zK G X cc own nL ret rm) {st : List Value} {idx : Nat} (hw : Cond.classLink own idx "[Ljava/lang/Object;" ∈ zB) (hd : decode cc pc = .ok (.ldc idx, 2)) (kk : zV G X nL P k n (pc + 2) lo (.ref (G.2.2.2.2 1) :: st)) : zV G X nL P k n pc lo st := fun H locs ls hP hS hL =>
  va_ldcM K.1 K.2.1 K.2.2.2.1 (K.2.2.2.2.1 _ hw) K.2.2.2.2.2.1.2.2.2.2.2.2.2.2.2.2.2.1 hd (kk H locs ls hP hS hL)
theorem zN.arr {U : State} (h : zN G U) : U.vm.findClass "[Ljava/lang/Object;" = some (G.2.2.2.1 3) := va_nmO (h.1.2 3 _ rfl).2 (by decide +kernel)
theorem zi_getC (K : zK G X cc own nL ret rm) {idx a N : Nat} {f : Nat → Option Nat} (st : List Value) (hw : Cond.methodLink own idx ⟨"java/lang/Object", "getClass", "()Ljava/lang/Class;"⟩ ∈ zB) (hP : ∀ H, P H → va_at G.2.2.1 zCl (a, .inl (G.2.2.2.1 3, N, .inr (.inr (.inr (.inr f))))) H) (hR : 1 ≤ rm.frames ∧ (st.map fun v => v.category).sum + 14 ≤ rm.locals) (hd : decode cc pc = .ok (.invokevirtual idx, 3)) (kk : zV G X nL P k n (pc + 3) lo (.ref (G.2.2.2.2 1) :: st)) : zV G X nL P k n pc lo (.ref a :: st) := fun H locs ls hP0 hS hL => by
  obtain ⟨h1, h2, h3, h4, h5, h6, h7, h8, h9, h10, h11⟩ := K
  rw [← h10] at hR
  exact va_getC h1 h2 (h3.trans hL.1.symm) h4 (h5 _ hw) (va_Dc.use h6.2.2.2.2.2.2.2.2.2.2.2.2) (h5 _ w_1491) (h5 _ w_463) (h5 _ w_484) h6.2.2.2.2.2.2.2.2.2.2.2.1 ⟨_, hP H hP0, rfl, zN.arr h6⟩ hR.1 hR.2 hd (kk H locs ls hP0 hS hL)
theorem zi_anew (K : zK G X cc own nL ret rm) {st : List Value} {idx N : Nat} {j : Int32} {P' : Nat → Heap → Prop} (hw : Cond.classLink own idx "java/lang/Object" ∈ zB) (hj : j = nI N) (hN : N < 100000000) (hc : k + 1 ≤ rm.cells ∧ n + N ≤ rm.slots) (hd : decode cc pc = .ok (.anewarray idx, 3))
    (hP' : ∀ (H H1 : Heap) (a : Nat), P H → a = H.size → gA G a → va_at G.2.2.1 zCl (a, .inl (G.2.2.2.1 3, N, .inr (.inr (.inr (.inr (fun _ => none)))))) H1 → (∀ q, q < H.size → H1[q]? = H[q]?) → P' a H1) (kk : ∀ a, zV G X nL (P' a) (k + 1) (n + N) (pc + 3) lo (.ref a :: st)) : zV G X nL P k n pc lo (.int j :: st) := fun H locs ls hP0 hS hL => by
  obtain ⟨h1, h2, h3, h4, h5, h6, h7, h8, h9, h10, h11⟩ := K
  rw [← h10] at hc
  subst hj
  have hcl : (nI N).toNatClampNeg = N := nI_clamp (by omega)
  refine W.anew h1 h2 h4 (h5 _ hw) (va_AO.use h6.2.2.2.2.2.1) rfl hd rfl (nI_pos (by omega)) (by rw [hcl]; omega) hc.1 (by rw [hcl]; exact hc.2) fun cA kA comp f1 f2 f3 f4 => ?_
  rw [hcl]
  obtain ⟨_, _, _, _, _, g4⟩ := (h6.1.2 3 _ rfl).2
  cases f1.symm.trans g4
  generalize hH1 : H.push ({ cls := G.2.2.2.1 3, slots := Array.replicate N .null, vm := .none } : Cell) = H1
  have z1 : H1.size = H.size + 1 := by rw [← hH1, Array.size_push]
  have e1 : H1[H.size]? = some (arrV (G.2.2.2.1 3) N (fun _ => .null)) := by rw [← hH1, Array.getElem?_push_size, ← arrV_new]
  have o1 : ∀ q : Nat, q < H.size → H1[q]? = H[q]? := fun q hq => by rw [← hH1, Array.getElem?_push, if_neg (Nat.ne_of_lt hq)]
  refine kk H.size H1 locs ls (hP' H H1 H.size hP0 rfl (h9 _ hS.1) ?_ o1) ⟨Nat.le_trans hS.1 (by omega), fun x g1 g2 => (o1 x (Nat.lt_of_lt_of_le g1 hS.1)).trans (hS.2.1 x g1 g2), hS.2.2⟩ hL
  show H1[H.size]? = some (vp_cell _ _)
  rw [vp_cell_q]
  exact e1
theorem zi_gets (K : zK G X cc RJx4a65c nL ret rm) {st : List Value} {idx : Nat} (hw : Cond.fieldLink RJx4a65c idx RJx4a65c "DEFAULTCAPACITY_EMPTY_ELEMENTDATA" "[Ljava/lang/Object;" ∈ zB) (hd : decode cc pc = .ok (.getstatic idx, 3)) (kk : zV G X nL P k n (pc + 3) lo (.ref (G.2.2.2.2 0) :: st)) : zV G X nL P k n pc lo st := fun H locs ls hP hS hL =>
  va_gets K.1 K.2.1 K.2.2.2.2.2.1.2.2.2.2.2.2.2.2.1 hS K.2.2.2.1 (K.2.2.2.2.1 _ hw) (fun _ h => h) hd (kk H locs ls hP hS hL)
theorem zi_acopy (K : zK G X cc own nL ret rm) {idx a0 a n0 n1 sp dp m : Nat} {f g : Nat → Option Nat} {P' : Heap → Prop} (st : List Value) (hw : Cond.methodLink own idx arraycopyName ∈ zB) (hP0 : ∀ H, P H → va_at G.2.2.1 zCl (a0, .inl (G.2.2.2.1 3, n0, .inr (.inr (.inr (.inr f))))) H) (hP1 : ∀ H, P H → va_at G.2.2.1 zCl (a, .inl (G.2.2.2.1 3, n1, .inr (.inr (.inr (.inr g))))) H ∧ gA G a)
    (h4 : sp + m ≤ n0) (h5 : dp + m ≤ n1) (b0 : n0 < 2 ^ 31) (b1 : n1 < 2 ^ 31) (hel : ∀ H, P H → ∀ i, i < m → ∀ y, f (sp + i) = some y → ∃ (ci : Nat) (fs : List Value) (r : vw_C), va_at G.2.2.1 zCl (y, .inr (ci, fs)) H ∧ zCl[ci]? = some r ∧ r.1 ∈ zF) (hR : 1 ≤ rm.frames ∧ (st.map fun v => v.category).sum + 40 ≤ rm.locals) (hd : decode cc pc = .ok (.invokestatic idx, 3))
    (hP' : ∀ H H1 : Heap, P H → va_at G.2.2.1 zCl (a, .inl (G.2.2.2.1 3, n1, .inr (.inr (.inr (.inr (va_cpy f g sp dp m)))))) H1 → H1.size = H.size → (∀ q, q ≠ a → H1[q]? = H[q]?) → P' H1) (kk : zV G X nL P' k n (pc + 3) lo st) : zV G X nL P k n pc lo (.int (nI m) :: .int (nI dp) :: .ref a :: .int (nI sp) :: .ref a0 :: st) := fun H locs ls hPH hS hL => by
  obtain ⟨k1, k2, k3, k4, k5, k6, k7, k8, k9, k10, k11⟩ := K
  rw [← k10] at hR
  obtain ⟨hat1, hA⟩ := hP1 H hPH
  have hc0 : H[a0]? = some (vp_cell (G.2.2.2.1 3) (n0, .inr (.inr (.inr (.inr f))))) := hP0 H hPH
  have hc1 : H[a]? = some (vp_cell (G.2.2.2.1 3) (n1, .inr (.inr (.inr (.inr g))))) := hat1
  obtain ⟨-, kq, hk0, cm0, hkk0⟩ := (k6.1.2 3 _ rfl).1 n0 (fun j => va_rf (f j))
  have cs : (nI sp).toNatClampNeg = sp := nI_clamp (by omega)
  have cd : (nI dp).toNatClampNeg = dp := nI_clamp (by omega)
  have cm : (nI m).toNatClampNeg = m := nI_clamp (by omega)
  have hnw : nativeFrameWords "java/lang/System" "arraycopy" 5 + 11 ≤ 40 := by decide
  intro T hT Y
  obtain ⟨vm', X', step⟩ := Y.arraycopy k1 k4 (k5 _ hw) (k5 _ w_494) (k5 _ w_493) (k5 _ w_41) (src := a0) (dst := a) (cs := vp_cell (G.2.2.2.1 3) (n0, .inr (.inr (.inr (.inr f))))) (cd := vp_cell (G.2.2.2.1 3) (n1, .inr (.inr (.inr (.inr g))))) (srcPos := nI sp) (destPos := nI dp) (n := nI m) (by rw [hT]; exact hc0) (by rw [hT]; exact hc1)
    (fun _ h => by cases h) (fun _ h => by cases h) (fun h => by cases h) (fun h => by cases h) hk0 hk0 hkk0 hkk0 rfl (nI_pos (by omega)) (nI_pos (by omega)) (nI_pos (by omega))
    (by rw [nI_toInt (by omega), nI_toInt (by omega)]; show ¬ _ > ((arrV _ n0 (fun j => va_rf (f j))).slots.size : Int); rw [arrV_size]; omega)
    (by rw [nI_toInt (by omega), nI_toInt (by omega)]; show ¬ _ > ((arrV _ n1 (fun j => va_rf (g j))).slots.size : Int); rw [arrV_size]; omega)
    (fun vm₁ hal i hi => by
      rw [cm] at hi
      rw [cs]
      have e : (vp_cell (G.2.2.2.1 3) (n0, .inr (.inr (.inr (.inr f))))).slots.getD (sp + i) .null = va_rf (f (sp + i)) := by
        show (arrV _ n0 (fun j => va_rf (f j))).slots.getD _ _ = _
        rw [Array.getD_eq_getD_getElem?, arrV_read _ _ (by omega)]
        rfl
      rw [e]
      cases hy : f (sp + i) with
      | none => exact ⟨rfl, trivial⟩
      | some y =>
        obtain ⟨ci, fs, r, ⟨r', hr', cellV, g1, g2, g3, -⟩, hc, hF⟩ := hel H hPH i hi y hy
        have hcls := (k6.1.1 ci r hc).2
        obtain ⟨kA, comp, r1, r2, r3, -⟩ := (k6.1.2 3 _ rfl).2
        cases hk0.symm.trans r1
        cases hkk0.symm.trans r2
        obtain ⟨c9, t9, f1, f2, f3⟩ := Cond.castable_spec (va_Nw.use (A := xa X) rfl (k6.2.2.2.2.1 r.1 hF))
        cases hcls.1.symm.trans f1
        cases r3.symm.trans f2
        obtain ⟨kC, hkC, -⟩ := hcls.2
        obtain ⟨kE, hkE, -⟩ := Vm.findClass_spec r3
        obtain ⟨kC', hkC', -⟩ := hal.2.2 _ _ hkC
        obtain ⟨kE', hkE', -⟩ := hal.2.2 _ _ hkE
        refine ⟨rfl, cellV, (show T.heap[y]? = some cellV by rw [hT]; exact g1), (fun q h => by rw [g3] at h; cases h), ⟨kC', by rw [g2]; exact hkC'⟩, ?_, ?_⟩
        · exact ⟨kE', hkE'⟩
        · show vm₁.assignable _ _ = true
          rw [hal.assignable, g2]
          exact f3)
    (g := F0 (xm X) pc ls (.int (nI m) :: .int (nI dp) :: .ref a :: .int (nI sp) :: .ref a0 :: st)) rfl (hL.1.trans k3.symm) (rest := st) rfl (by rw [k2]; exact hd) hR.1 (by show 2 * 0 + _ + _ ≤ _; omega)
  have e1 : copied (vp_cell (G.2.2.2.1 3) (n0, .inr (.inr (.inr (.inr f))))) (vp_cell (G.2.2.2.1 3) (n1, .inr (.inr (.inr (.inr g))))) (nI sp) (nI dp) (nI m) = vp_cell (G.2.2.2.1 3) (n1, .inr (.inr (.inr (.inr (va_cpy f g sp dp m))))) := by
    have h9 := va_copied (fun z => va_rf z) (G.2.2.2.1 3) (G.2.2.2.1 3) (n0 := n0) (n1 := n1) (sp := sp) (dp := dp) (n := m) f g h4
    rw [vp_cell_q, vp_cell_q, vp_cell_q]
    unfold copied
    rw [cs, cd, cm]
    exact h9
  rw [e1] at X' step
  have hl : a < H.size := (Array.getElem?_eq_some_iff.mp hc1).1
  have oq : ∀ q : Nat, q ≠ a → (H.setIfInBounds a (vp_cell (G.2.2.2.1 3) (n1, .inr (.inr (.inr (.inr (va_cpy f g sp dp m)))))))[q]? = H[q]? := fun q hq => by simp [Array.getElem?_setIfInBounds, Ne.symm hq]
  obtain ⟨t, a1, b1'⟩ := kk _ _ ls (hP' H _ hPH (show (H.setIfInBounds a _)[a]? = some _ by simp [Array.getElem?_setIfInBounds, hl]) (by simp) oq) ⟨by simp; exact hS.1, fun q g1 g2 => by
      rw [oq q (fun e => g2 (by rw [e]; exact hA))]
      exact hS.2.1 q g1 g2, fun q hq => by
      rcases List.mem_append.mp hq with h | h
      · exact hS.2.2 q h
      · obtain ⟨z, -, hz⟩ := List.mem_map.mp h
        rw [← hz]
        exact hA⟩ hL _ (by rw [← hT]; rfl) X'
  exact ⟨t, step t a1, b1'⟩
end ZF1
end
section
/-! ArrayList.grow and add -/
def aaU (aa : Nat → Nat) (q a : Nat) : Nat → Nat := fun j => if j = q then a else aa j
/-- the picture with one new array of references beside it -/
def zPt (G : zG) (ad : Nat → Nat → Nat) (aa : Nat → Nat) (σ : zSt) (N : Nat) (f : Nat → Option Nat) (a : Nat) (H : Heap) : Prop := zP0 G ad aa σ H ∧ (va_at G.2.2.1 zCl (a, .inl (G.2.2.2.1 3, N, .inr (.inr (.inr (.inr f))))) H ∧ gA G a) ∧ ∀ kd ix, zlv σ kd ix → zadr ad aa kd ix ≠ a
section ZG1
variable {G : zG} {ad : Nat → Nat → Nat} {aa : Nat → Nat} {σ : zSt} {H H1 : Heap}
theorem zP0.kept (h : zP0 G ad aa σ H) (hq : ∀ q, q < H.size → H1[q]? = H[q]?) : zP0 G ad aa σ H1 := ⟨fun kd ix hl => ⟨(h.1 kd ix hl).1.kept (hq _ (h.1 kd ix hl).1.lt), (h.1 kd ix hl).2⟩, h.2⟩
theorem zP0.new (h : zP0 G ad aa σ H) {N a : Nat} (ha : a = H.size) (hA : gA G a) (hat : va_at G.2.2.1 zCl (a, .inl (G.2.2.2.1 3, N, .inr (.inr (.inr (.inr (fun _ => none)))))) H1) (hq : ∀ q, q < H.size → H1[q]? = H[q]?) : zPt G ad aa σ N (fun _ => none) a H1 := ⟨h.kept hq, ⟨hat, hA⟩, fun kd ix hl e => by
  have h1 := (h.1 kd ix hl).1.lt
  have h2 : zadr ad aa kd ix < H.size := h1
  omega⟩
theorem zPt.set {N a : Nat} {f : Nat → Option Nat} (h : zPt G ad aa σ N f a H) {g : Nat → Option Nat} (hat : va_at G.2.2.1 zCl (a, .inl (G.2.2.2.1 3, N, .inr (.inr (.inr (.inr g))))) H1) (oq : ∀ q, q ≠ a → H1[q]? = H[q]?) : zPt G ad aa σ N g a H1 := ⟨⟨fun kd ix hl => ⟨(h.1.1 kd ix hl).1.kept (oq _ (h.2.2 kd ix hl)), (h.1.1 kd ix hl).2⟩, h.1.2⟩, ⟨hat, h.2.1.2⟩, h.2.2⟩
theorem zP0.grow (h : zP0 G ad aa σ H) {q a N : Nat} (hq : q < 13) (hN : 0 < N) (ha : va_at G.2.2.1 zCl (a, .inl (G.2.2.2.1 3, N, .inr (.inr (.inr (.inr (fun j => (sE σ q j).map (ad (zeK q)))))))) H) (hA : gA G a) (hf : ∀ kd ix, zlv σ kd ix → zadr ad aa kd ix ≠ a) (hn : va_at G.2.2.1 zCl (ad 28 q, zqLST G (aaU aa q a) (uC σ q N) q) H1) (oq : ∀ x, x ≠ ad 28 q → H1[x]? = H[x]?) : zP0 G ad (aaU aa q a) (uC σ q N) H1 := by
  have hC : sC (uC σ q N) q = N := if_pos rfl
  have hne : ad 28 q ≠ a := hf 28 q hq
  have key : ∀ k x, ¬ (k = 29 ∧ x = q) → zlv (uC σ q N) k x → zlv σ k x ∧ zadr ad (aaU aa q a) k x = zadr ad aa k x ∧ (¬ (k = 28 ∧ x = q) → zct G ad (aaU aa q a) (uC σ q N) k x = zct G ad aa σ k x) := by
    intro k x hx hl
    rcases Nat.lt_or_ge k 28 with e | e
    · exact ⟨(zlv_lists (σ := σ) (σ' := uC σ q N) (kd := k) (ix := x) (by omega) rfl).mp hl, by unfold zadr; rw [if_neg (by omega), if_neg (by omega)], fun _ => by
        have h1 : zct G ad (aaU aa q a) (uC σ q N) k x = zct G ad aa (uC σ q N) k x := by
          match k, e with
          | 0, _ => rfl
          | 1, _ => rfl
          | 2, _ => rfl
          | 3, _ => rfl
          | 4, _ => rfl
          | 5, _ => rfl
          | 6, _ => rfl
          | 7, _ => rfl
          | 8, _ => rfl
          | 9, _ => rfl
          | 10, _ => rfl
          | 11, _ => rfl
          | 12, _ => rfl
          | 13, _ => rfl
          | 14, _ => rfl
          | 15, _ => rfl
          | 16, _ => rfl
          | 17, _ => rfl
          | 18, _ => rfl
          | 19, _ => rfl
          | 20, _ => rfl
          | 21, _ => rfl
          | 22, _ => rfl
          | 23, _ => rfl
          | 24, _ => rfl
          | 25, _ => rfl
          | 26, _ => rfl
          | 27, _ => rfl
          | y + 28, h => exact absurd h (by omega)
        rw [h1]
        exact zct_lists e rfl rfl rfl⟩
    · match k, e with
      | 28, _ =>
        refine ⟨hl, rfl, fun h28 => ?_⟩
        have hxq : ¬ x = q := fun z => h28 ⟨rfl, z⟩
        show zqLST G (aaU aa q a) (uC σ q N) x = zqLST G aa σ x
        unfold zqLST
        rw [show sC (uC σ q N) x = sC σ x from if_neg hxq, show aaU aa q a x = aa x from if_neg hxq]
        rfl
      | 29, _ =>
        have hxq : ¬ x = q := fun z => hx ⟨rfl, z⟩
        have hCx : sC (uC σ q N) x = sC σ x := if_neg hxq
        refine ⟨⟨hl.1, by have := hl.2; rw [hCx] at this; exact this⟩, if_neg hxq, fun _ => ?_⟩
        show zqLARR G ad (uC σ q N) x = zqLARR G ad σ x
        unfold zqLARR
        rw [hCx]
        rfl
      | y + 30, _ => exact absurd hl id
  have hl29 : zadr ad (aaU aa q a) 29 q = a := by unfold zadr aaU; simp
  refine ⟨fun k x hl => ?_, fun k x k' x' hl hl' he => ?_⟩
  · by_cases e : k = 29 ∧ x = q
    · obtain ⟨rfl, rfl⟩ := e
      rw [hl29]
      refine ⟨?_, hA⟩
      show va_at G.2.2.1 zCl (a, zqLARR G ad (uC σ x N) x) H1
      unfold zqLARR
      rw [hC]
      exact ha.kept (oq a (Ne.symm hne))
    · obtain ⟨g1, g2, g3⟩ := key k x e hl
      rw [g2]
      refine ⟨?_, (h.1 k x g1).2⟩
      by_cases e2 : k = 28 ∧ x = q
      · obtain ⟨rfl, rfl⟩ := e2
        exact hn
      · rw [g3 e2]
        exact (h.1 k x g1).1.kept (oq _ (fun z => e2 (h.2 k x 28 q g1 hq z)))
  · by_cases e : k = 29 ∧ x = q <;> by_cases e' : k' = 29 ∧ x' = q
    · exact ⟨e.1.trans e'.1.symm, e.2.trans e'.2.symm⟩
    · obtain ⟨g1, g2, -⟩ := key k' x' e' hl'
      rw [e.1, e.2, hl29, g2] at he
      exact absurd he.symm (hf k' x' g1)
    · obtain ⟨g1, g2, -⟩ := key k x e hl
      rw [e'.1, e'.2, hl29, g2] at he
      exact absurd he (hf k x g1)
    · obtain ⟨g1, g2, -⟩ := key k x e hl
      obtain ⟨g1', g2', -⟩ := key k' x' e' hl'
      rw [g2, g2'] at he
      exact h.2 k x k' x' g1 g1' he
/-- a list's elements are objects of ours -/
theorem zeK_obj (h : zP0 G ad aa σ H) {q x : Nat} (hl : zlv σ (zeK q) x) : ∃ (ci : Nat) (fs : List Value) (r : vw_C), va_at G.2.2.1 zCl (ad (zeK q) x, .inr (ci, fs)) H ∧ zCl[ci]? = some r ∧ r.1 ∈ zF := by
  have hk : zeK q = 1 ∨ zeK q = 5 ∨ zeK q = 9 ∨ zeK q = 7 ∨ zeK q = 2 := by
    unfold zeK
    split
    · exact Or.inl rfl
    · split
      · exact Or.inr (Or.inl rfl)
      · split
        · exact Or.inr (Or.inr (Or.inl rfl))
        · split
          · exact Or.inr (Or.inr (Or.inr (Or.inl rfl)))
          · exact Or.inr (Or.inr (Or.inr (Or.inr rfl)))
  rcases hk with e | e | e | e | e <;> rw [e] at hl ⊢
  · exact ⟨4, _, (RX4, TX4, 4), (h.1 1 x hl).1, rfl, by decide⟩
  · exact ⟨7, _, (RX7, TX7, 15), (h.1 5 x hl).1, rfl, by decide⟩
  · exact ⟨6, _, (RX6, TX6, 4), (h.1 9 x hl).1, rfl, by decide⟩
  · exact ⟨1, _, (RX1, TX1, 6), (h.1 7 x hl).1, rfl, by decide⟩
  · exact ⟨0, _, (RX0, TX0, 7), (h.1 2 x hl).1, rfl, by decide⟩
end ZG1
section ZG2
variable {G : zG} {X : zX} {cc : ByteArray} {nL : Nat} {ret : Option FieldType} {rm : Room} {k n pc : Nat} {lo : List (Nat × Value)} {st : List Value} {ad : Nat → Nat → Nat} {aa : Nat → Nat} {σ : zSt}
theorem zp0_data (K : zK G X cc RJx4a65c nL ret rm) {q idx N a : Nat} (hq : q < 13) (hN : 0 < N) (hw : Cond.fieldLink RJx4a65c idx RJx4a65c "elementData" "[Ljava/lang/Object;" ∈ zB) (hd : decode cc pc = .ok (.putfield idx, 3)) (kk : zV G X nL (zP0 G ad (aaU aa q a) (uC σ q N)) k n (pc + 3) lo st) : zV G X nL (zPt G ad aa σ N (fun j => (sE σ q j).map (ad (zeK q))) a) k n pc lo (.ref a :: .ref (ad 28 q) :: st) :=
  zi_put (ci := 9) (C := RJx4a65c) (T := TJx4a65c) (N := 3) (f := 1) (ty := .array (.object "java/lang/Object")) K rfl inJx4a65c tyJx4a65c tyJx4a65c_ok nmJx4a65c (fun H h => zr0_LST h.1 hq) (Nat.le_of_ble_eq_true rfl) hw (fun _ h => h) rfl (by decide +kernel) rfl rfl (Nat.le_of_ble_eq_true rfl) hd (fun H H1 h ha _ oq => h.1.grow hq hN h.2.1.1 h.2.1.2 h.2.2 (by
    unfold zqLST
    rw [show sC (uC σ q N) q = N from if_pos rfl, if_neg (by omega), show aaU aa q a q = a from if_pos rfl]
    exact ha) oq) kk
theorem zi_alenE {own : String} {P : Heap → Prop} (K : zK G X cc own nL ret rm) (hd : decode cc pc = .ok (.arraylength, 1)) (kk : zV G X nL P k n (pc + 1) lo (.int 0 :: st)) : zV G X nL P k n pc lo (.ref (G.2.2.2.2 0) :: st) := fun H locs ls hP hS hL => by
  have h6 := K.2.2.2.2.2.1
  have hc := h6.2.2.2.2.2.2.2.2.2.1
  have hnA := h6.2.2.2.2.2.2.2.2.2.2.1
  have hc' : H[G.2.2.2.2 0]? = some (vp_cell (G.2.2.2.1 3) (0, .inr (.inr (.inr (.inr fun _ => none))))) := by rw [hS.2.1 _ (Array.getElem?_eq_some_iff.mp hc).1 hnA]; exact hc
  exact W.alen (ty := .object "java/lang/Object") K.1 K.2.1 hc' ((h6.1.2 3 _ rfl).1 0 (fun j => va_rf ((fun _ => none : Nat → Option Nat) j))) (by show (arrV _ _ _).slots.size.toInt32 = _; rw [arrV_size]; rfl) rfl rfl hd (kk H locs ls hP hS hL)
end ZG2
theorem zgr_max {c : Nat} (h : 2 ≤ c) (h2 : c < 1000) : nI c + zmx (nI 1) (nI (c / 2)) = nI (c + c / 2) := by
  unfold zmx
  by_cases e : 1 < c / 2
  · rw [if_pos (nI_lt e (by omega)), nI_add]
  · rw [if_neg (nI_nlt (by omega) (by decide)), nI_add, show c / 2 = 1 by omega]
theorem zgr_shr {c : Nat} (h : c < 1000) : nI c >>> ((1 : Int32) &&& 31) = nI (c / 2) := by
  have k := pk_shrN (n := c) (by omega) ((1 : Int32) &&& 31) 1 (by decide)
  rw [Nat.pow_one] at k
  exact k
theorem zgr_min {c : Nat} (h : c < 1000) : zmn (nI c) (nI (c + c / 2)) = nI c := if_neg (nI_nlt (by omega) (by omega))
set_option maxRecDepth 100000 in
set_option maxHeartbeats 4000000 in
theorem c_newLen {G : zG} {P : Heap → Prop} (c : Nat) (h : 2 ≤ c) (h2 : c < 1000) : zC G yJ8_newLength_cabcc cJ8_newLength_cabcc 4 (some FieldType.int) 1 16 0 0 [.int (nI c), .int (nI 1), .int (nI (c / 2))] (P) (some (.int (nI (c + c / 2)))) (P) := by
  refine zC_of (by decide) (Nat.le_of_ble_eq_true rfl) (fun X K E hnm => ?_)
  show zV G X 4 (P) 0 0 0 [(0, .int (nI c)), (1, .int (nI 1)), (2, .int (nI (c / 2)))] []
  refine zi_iload_n K (dJ8_newLength_cabcc 0 rfl) 0 rfl ?_
  refine zi_iload_n K (dJ8_newLength_cabcc 1 rfl) 1 rfl ?_
  refine zi_iload_n K (dJ8_newLength_cabcc 2 rfl) 2 rfl ?_
  refine zi_maxi K [.int (nI c)] (dJ8_newLength_cabcc 3 rfl) w_454 ⟨Nat.le_of_ble_eq_true rfl, Nat.le_of_ble_eq_true rfl⟩ ⟨Nat.le_refl _, Nat.le_refl _⟩ ?_
  refine zi_iadd K (dJ8_newLength_cabcc 4 rfl) ?_
  rw [zgr_max h h2]
  refine zi_istore_n K [(3, .int (nI (c + c / 2))), (0, .int (nI c)), (1, .int (nI 1)), (2, .int (nI (c / 2)))] (dJ8_newLength_cabcc 5 rfl) (by decide) rfl ?_
  refine zi_iconst K (dJ8_newLength_cabcc 6 rfl) zk_i0 ?_
  refine zi_iload_n K (dJ8_newLength_cabcc 7 rfl) 0 rfl ?_
  refine zi_icmp_ge K 21 (dJ8_newLength_cabcc 8 rfl) rfl (fun q => absurd q (nI_nle (by omega) (by omega))) (fun _ => ?_)
  refine zi_iload_n K (dJ8_newLength_cabcc 9 rfl) 0 rfl ?_
  refine zi_ldc K (dJ8_newLength_cabcc 10 rfl) w_455 ?_
  refine zi_icmp_gt K 21 (dJ8_newLength_cabcc 11 rfl) rfl (fun q => absurd q (show ¬ nI 2147483639 < nI (c + c / 2) from nI_nlt (by omega) (by decide))) (fun _ => ?_)
  refine zi_iload_n K (dJ8_newLength_cabcc 12 rfl) 0 rfl ?_
  exact zi_iret K E (dJ8_newLength_cabcc 13 rfl) (Nat.le_refl _) (Nat.le_refl _) rfl (fun _ h => h)
set_option maxRecDepth 100000 in
set_option maxHeartbeats 4000000 in
theorem c_copy3 {G : zG} {ad : Nat → Nat → Nat} {aa : Nat → Nat} {σ : zSt} (q : Nat) (hq : zLok σ q) (hf : sZ σ q = sC σ q) (h2 : 2 ≤ sC σ q) : zCa G yJ7_copyOf_6403c cJ7_copyOf_6403c 4 (some (FieldType.array (FieldType.object "java/lang/Object"))) 1 42 1 (sC σ q + sC σ q / 2) [.ref (aa q), .int (nI (sC σ q + sC σ q / 2)), .ref (G.2.2.2.2 1)] (zP0 G ad aa σ) (zPt G ad aa σ (sC σ q + sC σ q / 2) (fun j => (sE σ q j).map (ad (zeK q)))) := by
  refine zCa_of (by decide) (Nat.le_of_ble_eq_true rfl) (fun X K E => ?_)
  show zV G X 4 (zP0 G ad aa σ) 0 0 0 [(0, .ref (aa q)), (1, .int (nI (sC σ q + sC σ q / 2))), (2, .ref (G.2.2.2.2 1))] []
  have hc3 := hq.2.2.1
  refine zi_aload_n K (dJ7_copyOf_6403c 0 rfl) 2 rfl ?_
  refine zi_ldcM K w_488 (dJ7_copyOf_6403c 1 rfl) ?_
  refine zi_acmp_ne K 13 (dJ7_copyOf_6403c 2 rfl) rfl (fun h => absurd rfl h) (fun _ => ?_)
  refine zi_iload_n K (dJ7_copyOf_6403c 3 rfl) 1 rfl ?_
  refine zi_anew (N := sC σ q + sC σ q / 2) (P' := zPt G ad aa σ (sC σ q + sC σ q / 2) (fun _ => none)) K w_490 rfl (by omega) ⟨by show 0 + 1 ≤ 1; omega, by show 0 + (sC σ q + sC σ q / 2) ≤ sC σ q + sC σ q / 2; omega⟩ (dJ7_copyOf_6403c 4 rfl) (fun H H1 a h ha hA hat oq => h.new ha hA hat oq) (fun a => ?_)
  refine zi_goto K 24 (dJ7_copyOf_6403c 5 rfl) rfl ?_
  refine zi_astore_n K [(3, .ref a), (0, .ref (aa q)), (1, .int (nI (sC σ q + sC σ q / 2))), (2, .ref (G.2.2.2.2 1))] (dJ7_copyOf_6403c 11 rfl) (by decide) rfl ?_
  refine zi_aload_n K (dJ7_copyOf_6403c 12 rfl) 1 rfl ?_
  refine zi_iconst K (dJ7_copyOf_6403c 13 rfl) zk_i0 ?_
  refine zi_aload_n K (dJ7_copyOf_6403c 14 rfl) 0 rfl ?_
  refine zi_iconst K (dJ7_copyOf_6403c 15 rfl) zk_i0 ?_
  refine zi_aload_n K (dJ7_copyOf_6403c 16 rfl) 1 rfl ?_
  refine zi_alen (t0 := 3) (N := sC σ q) K rfl (fun H h => (zr0_LARR h.1 ⟨hq.1, by omega⟩).1) (dJ7_copyOf_6403c 17 rfl) ?_
  refine zi_iload_n K (dJ7_copyOf_6403c 18 rfl) 2 rfl ?_
  refine zi_mini K [.int 0, .ref a, .int 0, .ref (aa q)] (dJ7_copyOf_6403c 19 rfl) w_491 ⟨Nat.le_of_ble_eq_true rfl, Nat.le_of_ble_eq_true rfl⟩ ⟨Nat.le_refl _, by show 0 + (sC σ q + sC σ q / 2) ≤ sC σ q + sC σ q / 2; omega⟩ ?_
  rw [zgr_min hc3]
  refine zi_acopy (sp := 0) (dp := 0) (m := sC σ q) (n0 := sC σ q) (n1 := sC σ q + sC σ q / 2) (f := fun j => (sE σ q j).map (ad (zeK q))) (g := fun _ => none) (P' := zPt G ad aa σ (sC σ q + sC σ q / 2) (fun j => (sE σ q j).map (ad (zeK q))) a) K [] w_492 (fun H h => (zr0_LARR h.1 ⟨hq.1, by omega⟩).1) (fun H h => h.2.1) (by omega) (by omega) (by omega) (by omega) (fun H h i hi y hy => by
    rw [Nat.zero_add] at hy
    cases hx : sE σ q i with
    | none => rw [hx] at hy; cases hy
    | some x =>
      rw [hx] at hy
      cases hy
      exact zeK_obj h.1 (hq.2.2.2.2 i x hx)) ⟨Nat.le_of_ble_eq_true rfl, Nat.le_of_ble_eq_true rfl⟩ (dJ7_copyOf_6403c 20 rfl) (fun H H1 h ha _ oq => h.set (by
    rw [show (fun j => (sE σ q j).map (ad (zeK q))) = va_cpy (fun j => (sE σ q j).map (ad (zeK q))) (fun _ => none) 0 0 (sC σ q) from funext fun j => by
      unfold va_cpy
      by_cases e : j < sC σ q
      · rw [if_pos ⟨Nat.zero_le _, by omega⟩, show 0 + (j - 0) = j by omega]
      · rw [if_neg (fun z => e (by omega)), hq.2.2.2.1 j (by omega)]
        rfl]
    exact ha) oq) ?_
  refine zi_aload_n K (dJ7_copyOf_6403c 21 rfl) 0 rfl ?_
  exact zi_areta K E (dJ7_copyOf_6403c 22 rfl) (by omega) (by omega) (Or.inr ⟨_, rfl⟩) (fun _ h => h)
set_option maxRecDepth 100000 in
set_option maxHeartbeats 4000000 in
theorem c_copy2 {G : zG} {ad : Nat → Nat → Nat} {aa : Nat → Nat} {σ : zSt} (q : Nat) (hq : zLok σ q) (hf : sZ σ q = sC σ q) (h2 : 2 ≤ sC σ q) : zCa G yJ7_copyOf_1904c cJ7_copyOf_1904c 2 (some (FieldType.array (FieldType.object "java/lang/Object"))) 2 65 1 (sC σ q + sC σ q / 2) [.ref (aa q), .int (nI (sC σ q + sC σ q / 2))] (zP0 G ad aa σ) (zPt G ad aa σ (sC σ q + sC σ q / 2) (fun j => (sE σ q j).map (ad (zeK q)))) := by
  refine zCa_of (by decide) (Nat.le_of_ble_eq_true rfl) (fun X K E => ?_)
  show zV G X 2 (zP0 G ad aa σ) 0 0 0 [(0, .ref (aa q)), (1, .int (nI (sC σ q + sC σ q / 2)))] []
  have hc3 := hq.2.2.1
  refine zi_aload_n K (dJ7_copyOf_1904c 0 rfl) 0 rfl ?_
  refine zi_iload_n K (dJ7_copyOf_1904c 1 rfl) 1 rfl ?_
  refine zi_aload_n K (dJ7_copyOf_1904c 2 rfl) 0 rfl ?_
  refine zi_getC (N := sC σ q) K [.int (nI (sC σ q + sC σ q / 2)), .ref (aa q)] w_462 (fun H h => (zr0_LARR h ⟨hq.1, by omega⟩).1) ⟨Nat.le_of_ble_eq_true rfl, Nat.le_of_ble_eq_true rfl⟩ (dJ7_copyOf_1904c 3 rfl) ?_
  refine zi_callaS K (na := 3) (As := [.ref (aa q), .int (nI (sC σ q + sC σ q / 2)), .ref (G.2.2.2.2 1)]) [] (c_copy3 (ad := ad) (aa := aa) (σ := σ) q hq hf h2) (dJ7_copyOf_1904c 4 rfl) w_485 w_486 w_40 w_487 (by decide +kernel) rfl (fun H h => h) ⟨Nat.le_of_ble_eq_true rfl, Nat.le_of_ble_eq_true rfl⟩ ⟨by show 0 + 1 ≤ 1; omega, by show 0 + (sC σ q + sC σ q / 2) ≤ sC σ q + sC σ q / 2; omega⟩ (Nat.le_of_ble_eq_true rfl) rfl (fun a => ?_)
  exact zi_areta K E (dJ7_copyOf_1904c 5 rfl) (by omega) (by omega) (Or.inr ⟨_, rfl⟩) (fun _ h => h)
/-- the room behind a growth -/
def zgC (c : Nat) : Nat := if c = 0 then 10 else c + c / 2
/-- a list that is full grows -/
def zPg (G : zG) (ad : Nat → Nat → Nat) (aa : Nat → Nat) (σ : zSt) (q a : Nat) (H : Heap) : Prop := zP0 G ad (aaU aa q a) (uC σ q (zgC (sC σ q))) H
set_option maxRecDepth 100000 in
set_option maxHeartbeats 4000000 in
theorem c_growI {G : zG} {ad : Nat → Nat → Nat} {aa : Nat → Nat} {σ : zSt} (q : Nat) (hq : zLok σ q) (hf : sZ σ q = sC σ q) (h2 : sC σ q = 0 ∨ 2 ≤ sC σ q) : zCa G yJx4a65c_grow_92f84 cJx4a65c_grow_92f84 4 (some (FieldType.array (FieldType.object "java/lang/Object"))) 3 86 1 (zgC (sC σ q)) [.ref (ad 28 q), .int (nI (sZ σ q + 1))] (zP0 G ad aa σ) (zPg G ad aa σ q) := by
  refine zCa_of (by decide) (Nat.le_of_ble_eq_true rfl) (fun X K E => ?_)
  show zV G X 4 (zP0 G ad aa σ) 0 0 0 [(0, .ref (ad 28 q)), (1, .int (nI (sZ σ q + 1)))] []
  have hc3 := hq.2.2.1
  refine zi_aload_n K (dJx4a65c_grow_92f84 0 rfl) 0 rfl ?_
  refine zg0_data K hq.1 w_82 (dJx4a65c_grow_92f84 1 rfl) ?_
  rcases h2 with h0 | h2
  · have hg : zgC (sC σ q) = 10 := if_pos h0
    have hz : sZ σ q = 0 := by omega
    rw [if_pos h0]
    refine zi_alenE K (dJx4a65c_grow_92f84 2 rfl) ?_
    refine zi_istore_n K [(2, .int 0), (0, .ref (ad 28 q)), (1, .int (nI (sZ σ q + 1)))] (dJx4a65c_grow_92f84 3 rfl) (by decide) rfl ?_
    refine zi_iload_n K (dJx4a65c_grow_92f84 4 rfl) 0 rfl ?_
    refine zi_if_gt K 20 (dJx4a65c_grow_92f84 5 rfl) rfl (fun h => absurd h (by decide)) (fun _ => ?_)
    refine zi_aload_n K (dJx4a65c_grow_92f84 6 rfl) 1 rfl ?_
    refine zg0_data K hq.1 w_82 (dJx4a65c_grow_92f84 7 rfl) ?_
    rw [if_pos h0]
    refine zi_gets K w_80 (dJx4a65c_grow_92f84 8 rfl) ?_
    refine zi_acmp_eq K 45 (dJx4a65c_grow_92f84 9 rfl) rfl (fun _ => ?_) (fun h => absurd rfl h)
    refine zi_aload_n K (dJx4a65c_grow_92f84 27 rfl) 1 rfl ?_
    refine zi_bipush K (dJx4a65c_grow_92f84 28 rfl) zk_b10 ?_
    refine zi_iload_n K (dJx4a65c_grow_92f84 29 rfl) 2 rfl ?_
    refine zi_maxi K [.ref (ad 28 q)] (dJx4a65c_grow_92f84 30 rfl) w_495 ⟨Nat.le_of_ble_eq_true rfl, Nat.le_of_ble_eq_true rfl⟩ ⟨Nat.zero_le _, Nat.zero_le _⟩ ?_
    rw [show zmx 10 (nI (sZ σ q + 1)) = nI 10 by rw [hz]; decide]
    refine zi_anew (N := 10) (P' := zPt G ad aa σ 10 (fun _ => none)) K w_496 rfl (by omega) ⟨by show 0 + 1 ≤ 1; omega, by show 0 + 10 ≤ zgC (sC σ q); omega⟩ (dJx4a65c_grow_92f84 31 rfl) (fun H H1 a h ha hA hat oq => h.new ha hA hat oq) (fun a => ?_)
    refine zi_dup_x1 K (dJx4a65c_grow_92f84 32 rfl) rfl rfl ?_
    refine zV.imp (P' := zPt G ad aa σ 10 (fun j => (sE σ q j).map (ad (zeK q))) a) (fun H h => by
      rw [show (fun j => (sE σ q j).map (ad (zeK q))) = (fun _ => none) from funext fun j => by rw [hq.2.2.2.1 j (by omega)]; rfl]
      exact h) ?_
    refine zp0_data K hq.1 (by decide) w_82 (dJx4a65c_grow_92f84 33 rfl) ?_
    exact zi_areta K E (dJx4a65c_grow_92f84 34 rfl) (by omega) (by rw [hg]; omega) (Or.inr ⟨_, rfl⟩) (fun H h => by unfold zPg; rw [hg]; exact h)
  · have hg : zgC (sC σ q) = sC σ q + sC σ q / 2 := if_neg (by omega)
    rw [if_neg (show ¬ sC σ q = 0 by omega)]
    refine zi_alen (t0 := 3) (N := sC σ q) K rfl (fun H h => (zr0_LARR h ⟨hq.1, by omega⟩).1) (dJx4a65c_grow_92f84 2 rfl) ?_
    refine zi_istore_n K [(2, .int (nI (sC σ q))), (0, .ref (ad 28 q)), (1, .int (nI (sZ σ q + 1)))] (dJx4a65c_grow_92f84 3 rfl) (by decide) rfl ?_
    refine zi_iload_n K (dJx4a65c_grow_92f84 4 rfl) 0 rfl ?_
    refine zi_if_gt K 20 (dJx4a65c_grow_92f84 5 rfl) rfl (fun _ => ?_) (fun h => absurd (show nI 0 < nI (sC σ q) from nI_lt (by omega) (by omega)) h)
    refine zi_iload_n K (dJx4a65c_grow_92f84 10 rfl) 0 rfl ?_
    refine zi_iload_n K (dJx4a65c_grow_92f84 11 rfl) 2 rfl ?_
    refine zi_iload_n K (dJx4a65c_grow_92f84 12 rfl) 0 rfl ?_
    refine zi_isub K (dJx4a65c_grow_92f84 13 rfl) ?_
    refine zi_iload_n K (dJx4a65c_grow_92f84 14 rfl) 0 rfl ?_
    refine zi_iconst K (dJx4a65c_grow_92f84 15 rfl) zk_i1 ?_
    refine zi_ishr K (dJx4a65c_grow_92f84 16 rfl) ?_
    rw [show nI (sZ σ q + 1) - nI (sC σ q) = nI 1 by rw [pk_sub (by omega), show sZ σ q + 1 - sC σ q = 1 by omega], zgr_shr hc3]
    refine zi_callS K (na := 3) (As := [.int (nI (sC σ q)), .int (nI 1), .int (nI (sC σ q / 2))]) [] [.int (nI (sC σ q + sC σ q / 2))] (c_newLen (P := zP0 G ad aa σ) (sC σ q) h2 hc3) (dJx4a65c_grow_92f84 17 rfl) w_451 w_452 w_38 w_453 (by decide +kernel) rfl (fun H h => h) ⟨Nat.le_of_ble_eq_true rfl, Nat.le_of_ble_eq_true rfl⟩ ⟨Nat.zero_le _, Nat.zero_le _⟩ (Nat.le_of_ble_eq_true rfl) rfl rfl ?_
    refine zi_istore_n K [(3, .int (nI (sC σ q + sC σ q / 2))), (2, .int (nI (sC σ q))), (0, .ref (ad 28 q)), (1, .int (nI (sZ σ q + 1)))] (dJx4a65c_grow_92f84 18 rfl) (by decide) rfl ?_
    refine zi_aload_n K (dJx4a65c_grow_92f84 19 rfl) 2 rfl ?_
    refine zi_aload_n K (dJx4a65c_grow_92f84 20 rfl) 2 rfl ?_
    refine zg0_data K hq.1 w_82 (dJx4a65c_grow_92f84 21 rfl) ?_
    rw [if_neg (show ¬ sC σ q = 0 by omega)]
    refine zi_iload_n K (dJx4a65c_grow_92f84 22 rfl) 0 rfl ?_
    refine zi_callaS K (na := 2) (As := [.ref (aa q), .int (nI (sC σ q + sC σ q / 2))]) [.ref (ad 28 q)] (c_copy2 (ad := ad) (aa := aa) (σ := σ) q hq hf h2) (dJx4a65c_grow_92f84 23 rfl) w_459 w_460 w_40 w_461 (by decide +kernel) rfl (fun H h => h) ⟨Nat.le_of_ble_eq_true rfl, Nat.le_of_ble_eq_true rfl⟩ ⟨by show 0 + 0 + 1 ≤ 1; omega, by show 0 + 0 + (sC σ q + sC σ q / 2) ≤ zgC (sC σ q); omega⟩ (Nat.le_of_ble_eq_true rfl) rfl (fun a => ?_)
    refine zi_dup_x1 K (dJx4a65c_grow_92f84 24 rfl) rfl rfl ?_
    refine zp0_data K hq.1 (by omega) w_82 (dJx4a65c_grow_92f84 25 rfl) ?_
    exact zi_areta K E (dJx4a65c_grow_92f84 26 rfl) (by omega) (by rw [hg]; omega) (Or.inr ⟨_, rfl⟩) (fun H h => by unfold zPg; rw [hg]; exact h)
set_option maxRecDepth 100000 in
set_option maxHeartbeats 4000000 in
theorem c_grow {G : zG} {ad : Nat → Nat → Nat} {aa : Nat → Nat} {σ : zSt} (q : Nat) (hq : zLok σ q) (hf : sZ σ q = sC σ q) (h2 : sC σ q = 0 ∨ 2 ≤ sC σ q) : zCa G yJx4a65c_grow_d5877 cJx4a65c_grow_d5877 1 (some (FieldType.array (FieldType.object "java/lang/Object"))) 4 109 1 (zgC (sC σ q)) [.ref (ad 28 q)] (zP0 G ad aa σ) (zPg G ad aa σ q) := by
  refine zCa_of (by decide) (Nat.le_of_ble_eq_true rfl) (fun X K E => ?_)
  show zV G X 1 (zP0 G ad aa σ) 0 0 0 [(0, .ref (ad 28 q))] []
  refine zi_aload_n K (dJx4a65c_grow_d5877 0 rfl) 0 rfl ?_
  refine zi_aload_n K (dJx4a65c_grow_d5877 1 rfl) 0 rfl ?_
  refine zg0_size K hq.1 w_83 (dJx4a65c_grow_d5877 2 rfl) ?_
  refine zi_iconst K (dJx4a65c_grow_d5877 3 rfl) zk_i1 ?_
  refine zi_iadd K (dJx4a65c_grow_d5877 4 rfl) ?_
  rw [nI_1]
  refine zi_callaV K (na := 1) [] (c_growI (ad := ad) (aa := aa) (σ := σ) q hq hf h2) (dJx4a65c_grow_d5877 5 rfl) w_447 w_449 w_6 w_28 w_450 (by decide +kernel) rfl (fun H h => zi_recv K (zr0_LST h hq.1).1 rfl) (fun H h => h) ⟨Nat.le_of_ble_eq_true rfl, Nat.le_of_ble_eq_true rfl⟩ ⟨by show 0 + 1 ≤ 1; omega, by show 0 + zgC (sC σ q) ≤ zgC (sC σ q); omega⟩ (Nat.le_of_ble_eq_true rfl) rfl (fun a => ?_)
  exact zi_areta K E (dJx4a65c_grow_d5877 6 rfl) (by omega) (by omega) (Or.inr ⟨_, rfl⟩) (fun _ h => h)
end
section
/-! ArrayList.add at the end -/
def s_addE (σ : zSt) (q x : Nat) : zSt := uZ (uE σ q (sZ σ q) (some x)) q (sZ σ q + 1)
def s_add (σ : zSt) (q x : Nat) : zSt := s_addE (if sZ σ q = sC σ q then uC (uM σ q (sM σ q + 1)) q (zgC (sC σ q)) else uM σ q (sM σ q + 1)) q x
section ZG3
variable {G : zG} {X : zX} {cc : ByteArray} {own : String} {nL : Nat} {ret : Option FieldType} {rm : Room} {k n pc : Nat} {lo : List (Nat × Value)} {st : List Value} {ad : Nat → Nat → Nat} {aa : Nat → Nat} {σ : zSt}
theorem zs0_arr (K : zK G X cc own nL ret rm) {q i x : Nat} (hq : q < 13 ∧ 0 < sC σ q) (hi : i < sC σ q) (hC : sC σ q < 2 ^ 31) (hx : zlv σ (zeK q) x) (hd : decode cc pc = .ok (.aastore, 1)) (kk : zV G X nL (zP0 G ad aa (uE σ q i (some x))) k n (pc + 1) lo st) : zV G X nL (zP0 G ad aa σ) k n pc lo (.ref (ad (zeK q) x) :: .int (nI i) :: .ref (aa q) :: st) :=
  zi_aast (N := sC σ q) (f := fun j => (sE σ q j).map (ad (zeK q))) K (fun H h => zr0_LARR h hq) (fun H h => zeK_obj h hx) i rfl hi hC hd (fun H H1 h ha _ oq => h.setE hq (by
    unfold zqLARR
    rw [show sC (uE σ q i (some x)) q = sC σ q from rfl]
    rw [show (fun j => (sE (uE σ q i (some x)) q j).map (ad (zeK q))) = va_up (fun j => (sE σ q j).map (ad (zeK q))) i (some (ad (zeK q) x)) from funext fun j => by
      by_cases hj : j = i
      · subst hj; unfold va_up; rw [if_pos rfl, show sE (uE σ q j (some x)) q j = some x from if_pos ⟨rfl, rfl⟩]; rfl
      · unfold va_up; rw [if_neg hj, show sE (uE σ q i (some x)) q j = sE σ q j from if_neg (fun z => hj z.2)]]
    exact ha) oq) kk
end ZG3
theorem zlv_u {σ σ' : zSt} (h : sN σ' = sN σ) {q x : Nat} (hx : zlv σ (zeK q) x) : zlv σ' (zeK q) x := (zlv_lists (by
  unfold zeK
  split
  · decide
  · split
    · decide
    · split
      · decide
      · split <;> decide) h).mpr hx
set_option maxRecDepth 100000 in
set_option maxHeartbeats 4000000 in
theorem c_addpR {G : zG} {ad : Nat → Nat → Nat} {aa : Nat → Nat} {σ : zSt} (q x : Nat) (hq : zLok σ q) (hf : sZ σ q < sC σ q) (hx : zlv σ (zeK q) x) : zC G yJx4a65c_add_72be8 cJx4a65c_add_72be8 4 none 0 0 0 0 [.ref (ad 28 q), .ref (ad (zeK q) x), .ref (aa q), .int (nI (sZ σ q))] (zP0 G ad aa σ) none (zP G ad (s_addE σ q x)) := by
  refine zC_of (by decide) (Nat.le_of_ble_eq_true rfl) (fun X K E hnm => ?_)
  show zV G X 4 (zP0 G ad aa σ) 0 0 0 [(0, .ref (ad 28 q)), (1, .ref (ad (zeK q) x)), (2, .ref (aa q)), (3, .int (nI (sZ σ q)))] []
  have hc3 := hq.2.2.1
  refine zi_iload_n K (dJx4a65c_add_72be8 0 rfl) 3 rfl ?_
  refine zi_aload_n K (dJx4a65c_add_72be8 1 rfl) 2 rfl ?_
  refine zi_alen (t0 := 3) (N := sC σ q) K rfl (fun H h => (zr0_LARR h ⟨hq.1, by omega⟩).1) (dJx4a65c_add_72be8 2 rfl) ?_
  refine zi_icmp_ne K 11 (dJx4a65c_add_72be8 3 rfl) rfl (fun _ => ?_) (fun h => absurd ((nI_eq (by omega) (by omega)).mp h) (by omega))
  refine zi_aload_n K (dJx4a65c_add_72be8 7 rfl) 2 rfl ?_
  refine zi_iload_n K (dJx4a65c_add_72be8 8 rfl) 3 rfl ?_
  refine zi_aload_n K (dJx4a65c_add_72be8 9 rfl) 1 rfl ?_
  refine zs0_arr K ⟨hq.1, by omega⟩ hf (by omega) hx (dJx4a65c_add_72be8 10 rfl) ?_
  refine zi_aload_n K (dJx4a65c_add_72be8 11 rfl) 0 rfl ?_
  refine zi_iload_n K (dJx4a65c_add_72be8 12 rfl) 3 rfl ?_
  refine zi_iconst K (dJx4a65c_add_72be8 13 rfl) zk_i1 ?_
  refine zi_iadd K (dJx4a65c_add_72be8 14 rfl) ?_
  refine zp0_size K (m := sZ σ q + 1) (nI_1 _) hq.1 w_83 (dJx4a65c_add_72be8 15 rfl) ?_
  exact zi_vret K E (dJx4a65c_add_72be8 16 rfl) (Nat.le_refl _) (Nat.le_refl _) rfl (fun H h => ⟨aa, h⟩)
set_option maxRecDepth 100000 in
set_option maxHeartbeats 4000000 in
theorem c_addpG {G : zG} {ad : Nat → Nat → Nat} {aa : Nat → Nat} {σ : zSt} (q x : Nat) (hq : zLok σ q) (hf : sZ σ q = sC σ q) (h2 : sC σ q = 0 ∨ 2 ≤ sC σ q) (hx : zlv σ (zeK q) x) : zC G yJx4a65c_add_72be8 cJx4a65c_add_72be8 4 none 5 129 1 (zgC (sC σ q)) [.ref (ad 28 q), .ref (ad (zeK q) x), .ref (if sC σ q = 0 then G.2.2.2.2 0 else aa q), .int (nI (sZ σ q))] (zP0 G ad aa σ) none (zP G ad (s_addE (uC σ q (zgC (sC σ q))) q x)) := by
  refine zC_of (by decide) (Nat.le_of_ble_eq_true rfl) (fun X K E hnm => ?_)
  show zV G X 4 (zP0 G ad aa σ) 0 0 0 [(0, .ref (ad 28 q)), (1, .ref (ad (zeK q) x)), (2, .ref (if sC σ q = 0 then G.2.2.2.2 0 else aa q)), (3, .int (nI (sZ σ q)))] []
  have hc3 := hq.2.2.1
  have hg : sZ σ q < zgC (sC σ q) := by unfold zgC; split <;> omega
  have hg2 : zgC (sC σ q) < 2000 := by unfold zgC; split <;> omega
  have hC : sC (uC σ q (zgC (sC σ q))) q = zgC (sC σ q) := if_pos rfl
  refine zi_iload_n K (dJx4a65c_add_72be8 0 rfl) 3 rfl ?_
  refine zi_aload_n K (dJx4a65c_add_72be8 1 rfl) 2 rfl ?_
  have key : zV G X 4 (zP0 G ad aa σ) 0 0 3 [(0, .ref (ad 28 q)), (1, .ref (ad (zeK q) x)), (2, .ref (if sC σ q = 0 then G.2.2.2.2 0 else aa q)), (3, .int (nI (sZ σ q)))] [.int (nI (sC σ q)), .int (nI (sZ σ q))] := by
    refine zi_icmp_ne K 11 (dJx4a65c_add_72be8 3 rfl) rfl (fun h => absurd (by rw [hf]) h) (fun _ => ?_)
    refine zi_aload_n K (dJx4a65c_add_72be8 4 rfl) 0 rfl ?_
    refine zi_callaV K (na := 0) [] (c_grow (ad := ad) (aa := aa) (σ := σ) q hq hf h2) (dJx4a65c_add_72be8 5 rfl) w_443 w_445 w_5 w_28 w_446 (by decide +kernel) rfl (fun H h => zi_recv K (zr0_LST h hq.1).1 rfl) (fun H h => h) ⟨Nat.le_of_ble_eq_true rfl, Nat.le_of_ble_eq_true rfl⟩ ⟨by show 0 + 1 ≤ 1; omega, by show 0 + zgC (sC σ q) ≤ zgC (sC σ q); omega⟩ (Nat.le_of_ble_eq_true rfl) rfl (fun a => ?_)
    show zV G X 4 (zP0 G ad (aaU aa q a) (uC σ q (zgC (sC σ q)))) _ _ _ _ _
    refine zi_astore_n K [(2, .ref a), (0, .ref (ad 28 q)), (1, .ref (ad (zeK q) x)), (3, .int (nI (sZ σ q)))] (dJx4a65c_add_72be8 6 rfl) (by decide) rfl ?_
    refine zi_aload_n K (dJx4a65c_add_72be8 7 rfl) 0 rfl ?_
    refine zi_iload_n K (dJx4a65c_add_72be8 8 rfl) 3 rfl ?_
    refine zi_aload_n K (dJx4a65c_add_72be8 9 rfl) 2 rfl ?_
    have hz : aaU aa q a q = a := if_pos rfl
    rw [show (Value.ref a) = .ref (aaU aa q a q) by rw [hz]]
    refine zs0_arr K ⟨hq.1, by rw [hC]; omega⟩ (by rw [hC]; omega) (by rw [hC]; omega) (zlv_u (σ := σ) (σ' := uC σ q (zgC (sC σ q))) rfl hx) (dJx4a65c_add_72be8 10 rfl) ?_
    refine zi_aload_n K (dJx4a65c_add_72be8 11 rfl) 1 rfl ?_
    refine zi_iload_n K (dJx4a65c_add_72be8 12 rfl) 3 rfl ?_
    refine zi_iconst K (dJx4a65c_add_72be8 13 rfl) zk_i1 ?_
    refine zi_iadd K (dJx4a65c_add_72be8 14 rfl) ?_
    refine zp0_size K (m := sZ σ q + 1) (nI_1 _) hq.1 w_83 (dJx4a65c_add_72be8 15 rfl) ?_
    exact zi_vret K E (dJx4a65c_add_72be8 16 rfl) (by omega) (by omega) rfl (fun H h => ⟨_, h⟩)
  by_cases h0 : sC σ q = 0
  · rw [if_pos h0] at key ⊢
    refine zi_alenE K (dJx4a65c_add_72be8 2 rfl) ?_
    rw [h0] at key
    exact key
  · rw [if_neg h0] at key ⊢
    refine zi_alen (t0 := 3) (N := sC σ q) K rfl (fun H h => (zr0_LARR h ⟨hq.1, by omega⟩).1) (dJx4a65c_add_72be8 2 rfl) ?_
    exact key
set_option maxRecDepth 100000 in
set_option maxHeartbeats 4000000 in
theorem c_addG {G : zG} {ad : Nat → Nat → Nat} {σ : zSt} (q x : Nat) (hq : zLok σ q) (hf : sZ σ q = sC σ q) (h2 : sC σ q = 0 ∨ 2 ≤ sC σ q) (hx : zlv σ (zeK q) x) : zC G yJx4a65c_add_9ea2d cJx4a65c_add_9ea2d 2 (some FieldType.boolean) 6 152 1 (zgC (sC σ q)) [.ref (ad 28 q), .ref (ad (zeK q) x)] (zP G ad σ) (some (.int 1)) (zP G ad (s_add σ q x)) := by
  refine zC_of (by decide) (Nat.le_of_ble_eq_true rfl) (fun X K E hnm => ?_)
  show zV G X 2 (zP G ad σ) 0 0 0 [(0, .ref (ad 28 q)), (1, .ref (ad (zeK q) x))] []
  have hz := hq.2.1
  refine zV.opn (fun aa => ?_)
  refine zi_aload_n K (dJx4a65c_add_9ea2d 0 rfl) 0 rfl ?_
  refine zi_dup K (dJx4a65c_add_9ea2d 1 rfl) rfl ?_
  refine zg0_mod K hq.1 w_85 (dJx4a65c_add_9ea2d 2 rfl) ?_
  refine zi_iconst K (dJx4a65c_add_9ea2d 3 rfl) zk_i1 ?_
  refine zi_iadd K (dJx4a65c_add_9ea2d 4 rfl) ?_
  refine zp0_mod K hq.1 w_85 (dJx4a65c_add_9ea2d 5 rfl) ?_
  refine zi_aload_n K (dJx4a65c_add_9ea2d 6 rfl) 0 rfl ?_
  refine zi_aload_n K (dJx4a65c_add_9ea2d 7 rfl) 1 rfl ?_
  refine zi_aload_n K (dJx4a65c_add_9ea2d 8 rfl) 0 rfl ?_
  refine zg0_data K hq.1 w_82 (dJx4a65c_add_9ea2d 9 rfl) ?_
  show zV G X 2 (zP0 G ad aa (uM σ q (sM σ q + 1))) 0 0 _ _ [.ref (if sC σ q = 0 then G.2.2.2.2 0 else aa q), _, _]
  refine zi_aload_n K (dJx4a65c_add_9ea2d 10 rfl) 0 rfl ?_
  refine zg0_size K hq.1 w_83 (dJx4a65c_add_9ea2d 11 rfl) ?_
  refine zi_callV K (na := 3) [] [] (c_addpG (ad := ad) (aa := aa) (σ := uM σ q (sM σ q + 1)) q x hq hf h2 hx) (dJx4a65c_add_9ea2d 12 rfl) w_439 w_441 w_4 w_28 w_442 (by decide +kernel) rfl (fun H h => zi_recv K (zr0_LST h hq.1).1 rfl) (fun H h => h) ⟨Nat.le_of_ble_eq_true rfl, Nat.le_of_ble_eq_true rfl⟩ ⟨by show 0 + 1 ≤ 1; omega, by show 0 + zgC (sC σ q) ≤ zgC (sC σ q); omega⟩ (Nat.le_of_ble_eq_true rfl) rfl rfl ?_
  refine zi_iconst K (dJx4a65c_add_9ea2d 13 rfl) zk_i1 ?_
  exact zi_zret K E (dJx4a65c_add_9ea2d 14 rfl) (by show 0 + 1 ≤ 1; omega) (by show 0 + zgC (sC σ q) ≤ zgC (sC σ q); omega) rfl rfl (fun H h => by unfold s_add; rw [if_pos hf]; exact h)
set_option maxRecDepth 100000 in
set_option maxHeartbeats 4000000 in
theorem c_addR {G : zG} {ad : Nat → Nat → Nat} {σ : zSt} (q x : Nat) (hq : zLok σ q) (hf : sZ σ q < sC σ q) (hx : zlv σ (zeK q) x) : zC G yJx4a65c_add_9ea2d cJx4a65c_add_9ea2d 2 (some FieldType.boolean) 1 23 0 0 [.ref (ad 28 q), .ref (ad (zeK q) x)] (zP G ad σ) (some (.int 1)) (zP G ad (s_add σ q x)) := by
  refine zC_of (by decide) (Nat.le_of_ble_eq_true rfl) (fun X K E hnm => ?_)
  show zV G X 2 (zP G ad σ) 0 0 0 [(0, .ref (ad 28 q)), (1, .ref (ad (zeK q) x))] []
  have hz := hq.2.1
  refine zV.opn (fun aa => ?_)
  refine zi_aload_n K (dJx4a65c_add_9ea2d 0 rfl) 0 rfl ?_
  refine zi_dup K (dJx4a65c_add_9ea2d 1 rfl) rfl ?_
  refine zg0_mod K hq.1 w_85 (dJx4a65c_add_9ea2d 2 rfl) ?_
  refine zi_iconst K (dJx4a65c_add_9ea2d 3 rfl) zk_i1 ?_
  refine zi_iadd K (dJx4a65c_add_9ea2d 4 rfl) ?_
  refine zp0_mod K hq.1 w_85 (dJx4a65c_add_9ea2d 5 rfl) ?_
  refine zi_aload_n K (dJx4a65c_add_9ea2d 6 rfl) 0 rfl ?_
  refine zi_aload_n K (dJx4a65c_add_9ea2d 7 rfl) 1 rfl ?_
  refine zi_aload_n K (dJx4a65c_add_9ea2d 8 rfl) 0 rfl ?_
  refine zg0_data K hq.1 w_82 (dJx4a65c_add_9ea2d 9 rfl) ?_
  show zV G X 2 (zP0 G ad aa (uM σ q (sM σ q + 1))) 0 0 _ _ [.ref (if sC σ q = 0 then G.2.2.2.2 0 else aa q), _, _]
  rw [if_neg (show ¬ sC σ q = 0 by omega)]
  refine zi_aload_n K (dJx4a65c_add_9ea2d 10 rfl) 0 rfl ?_
  refine zg0_size K hq.1 w_83 (dJx4a65c_add_9ea2d 11 rfl) ?_
  refine zi_callV K (na := 3) [] [] (c_addpR (ad := ad) (aa := aa) (σ := uM σ q (sM σ q + 1)) q x hq hf hx) (dJx4a65c_add_9ea2d 12 rfl) w_439 w_441 w_4 w_28 w_442 (by decide +kernel) rfl (fun H h => zi_recv K (zr0_LST h hq.1).1 rfl) (fun H h => h) ⟨Nat.le_of_ble_eq_true rfl, Nat.le_of_ble_eq_true rfl⟩ ⟨Nat.le_refl _, Nat.le_refl _⟩ (Nat.le_of_ble_eq_true rfl) rfl rfl ?_
  refine zi_iconst K (dJx4a65c_add_9ea2d 13 rfl) zk_i1 ?_
  exact zi_zret K E (dJx4a65c_add_9ea2d 14 rfl) (Nat.le_refl _) (Nat.le_refl _) rfl rfl (fun H h => by unfold s_add; rw [if_neg (by omega)]; exact h)
end
section
/-! reading lists: elements by their places; Flow's sums -/
def lx (σ : zSt) (q i : Nat) : Nat := (sE σ q i).getD 0
def zLW (σ : zSt) (q : Nat) : Prop := zLok σ q ∧ ∀ i, i < sZ σ q → (sE σ q i).isSome = true
theorem zL_ok {σ : zSt} {q : Nat} (h : zLW σ q) : zLok σ q := h.1
theorem zL_x {σ : zSt} {q i : Nat} (h : zLW σ q) (hi : i < sZ σ q) : sE σ q i = some (lx σ q i) := by
  have h1 := h.2 i hi
  unfold lx
  cases he : sE σ q i with
  | none => rw [he] at h1; cases h1
  | some x => rfl
theorem zL_lv {σ : zSt} {q i kd : Nat} (h : zLW σ q) (hi : i < sZ σ q) (hk : zeK q = kd) : zlv σ kd (lx σ q i) := hk ▸ h.1.2.2.2.2 i _ (zL_x h hi)
theorem zL_b {σ : zSt} {q : Nat} (h : zLW σ q) : sZ σ q < 2 ^ 31 := by have := h.1.2.1; have := h.1.2.2.1; omega
theorem zeK5 {b : Nat} (hb : b < 2) : zeK (5 + 4 * b) = 2 := by
  rcases (show b = 0 ∨ b = 1 by omega) with rfl | rfl <;> rfl
theorem zeK6 {b : Nat} (hb : b < 2) : zeK (6 + 4 * b) = 7 := by
  rcases (show b = 0 ∨ b = 1 by omega) with rfl | rfl <;> rfl
theorem zeK7 {b : Nat} (hb : b < 2) : zeK (7 + 4 * b) = 2 := by
  rcases (show b = 0 ∨ b = 1 by omega) with rfl | rfl <;> rfl
theorem zeK8 {b : Nat} (hb : b < 2) : zeK (8 + 4 * b) = 2 := by
  rcases (show b = 0 ∨ b = 1 by omega) with rfl | rfl <;> rfl
theorem c_getK {G : zG} {ad : Nat → Nat → Nat} {σ : zSt} (q i x kd : Nat) (hk : zeK q = kd) (hq : zLok σ q) (hi : i < sZ σ q) (hx : sE σ q i = some x) : zC G yJx4a65c_get_915e3 cJx4a65c_get_915e3 2 (some (FieldType.object "java/lang/Object")) 2 43 0 0 [.ref (ad 28 q), .int (nI i)] (zP G ad σ) (some (.ref (ad kd x))) (zP G ad σ) := hk ▸ c_get q i x hq hi hx
theorem c_sizeN {G : zG} {ad : Nat → Nat → Nat} {σ : zSt} (q n : Nat) (hq : q < 13) (hn : sZ σ q = n) : zC G yJx4a65c_size_8abf5 cJx4a65c_size_8abf5 1 (some FieldType.int) 0 0 0 0 [.ref (ad 28 q)] (zP G ad σ) (some (.int (nI n))) (zP G ad σ) := hn ▸ c_size q hq
theorem zrecv_LST {G : zG} {X : zX} {cc : ByteArray} {own : String} {nL : Nat} {ret : Option FieldType} {rm : Room} {ad : Nat → Nat → Nat} {σ : zSt} {H : Heap} {q : Nat} (K : zK G X cc own nL ret rm) (hq : q < 13) (h : zP G ad σ H) : ∃ cell : Cell, H[ad 28 q]? = some cell ∧ cell.vm.isStatics = false ∧ (xs X).vm.findClass RJx4a65c = some cell.cls := by
  obtain ⟨aa, h⟩ := h
  exact zi_recv K (zr0_LST h hq).1 rfl
/-- two states that differ in numbers alone -/
theorem zLW_mv {σ σ' : zSt} (e : σ'.2.2 = σ.2.2) {q : Nat} (h : zLW σ q) : zLW σ' q := by
  obtain ⟨a, b, c⟩ := σ
  obtain ⟨a', b', c'⟩ := σ'
  cases e
  exact h
theorem zZ_mv {σ σ' : zSt} (e : σ'.2.2 = σ.2.2) (q : Nat) : sZ σ' q = sZ σ q := by
  obtain ⟨a, b, c⟩ := σ
  obtain ⟨a', b', c'⟩ := σ'
  cases e
  rfl
theorem zE_mv {σ σ' : zSt} (e : σ'.2.2 = σ.2.2) (q i : Nat) : sE σ' q i = sE σ q i := by
  obtain ⟨a, b, c⟩ := σ
  obtain ⟨a', b', c'⟩ := σ'
  cases e
  rfl
def zsumL (f : Nat → Int64) : Nat → Int64
  | 0 => 0
  | i + 1 => zsumL f i + f i
def v_allLeft (σ : zSt) (b : Nat) : Int64 := zsumL (fun y => sL σ 0 (lx σ (5 + 4 * b) y) 0) (sZ σ (5 + 4 * b))
set_option maxRecDepth 100000 in
set_option maxHeartbeats 4000000 in
theorem c_allLeft {G : zG} {ad : Nat → Nat → Nat} {σ : zSt} (b : Nat) (hb : b < 2) (h5 : zLW σ (5 + 4 * b)) : zC G yX2_allLeft cX2_allLeft 4 (some FieldType.long) 3 64 0 0 [.ref (ad 11 b)] (zP G ad σ) (some (.long (v_allLeft σ b))) (zP G ad σ) := by
  refine zC_of (by decide) (Nat.le_of_ble_eq_true rfl) (fun X K E hnm => ?_)
  show zV G X 4 (zP G ad σ) 0 0 0 [(0, .ref (ad 11 b))] []
  refine zi_lconst K (dX2_allLeft 0 rfl) zk_l0 ?_
  refine zi_lstore_n K [(1, .long 0), (0, .ref (ad 11 b))] (dX2_allLeft 1 rfl) (by decide) rfl ?_
  refine zi_iconst K (dX2_allLeft 2 rfl) zk_i0 ?_
  refine zi_istore_n K [(3, .int 0), (1, .long 0), (0, .ref (ad 11 b))] (dX2_allLeft 3 rfl) (by decide) rfl ?_
  refine zV.pick [2, 1, 0] (lo' := [(0, .ref (ad 11 b)), (1, .long 0), (3, .int 0)]) rfl ?_
  suffices hloop4 : ∀ (r i : Nat), i ≤ sZ σ (5 + 4 * b) → sZ σ (5 + 4 * b) - i < r → zV G X 4 (zP G ad σ) (0) (0) 4 [(0, .ref (ad 11 b)), (1, .long (zsumL (fun y => sL σ 0 (lx σ (5 + 4 * b) y) 0) i)), (3, .int (nI i))] [] from hloop4 (sZ σ (5 + 4 * b) + 1) 0 (Nat.zero_le _) (Nat.lt_succ_of_le (Nat.sub_le _ _))
  intro r
  induction r with
  | zero => intro i _ h; exact absurd h (Nat.not_lt_zero _)
  | succ r ih4 =>
    intro i hi4 hr4
    refine zi_iload_n K (dX2_allLeft 4 rfl) 2 rfl ?_
    refine zi_aload_n K (dX2_allLeft 5 rfl) 0 rfl ?_
    refine zg_FL_claims K hb w_132 (dX2_allLeft 6 rfl) ?_
    refine zi_callV K (na := 0) [.int (nI i)] [.int (nI (sZ σ (5 + 4 * b))), .int (nI i)] (c_sizeN (σ := σ) (5 + 4 * b) (sZ σ (5 + 4 * b)) (zL_ok h5).1 rfl) (dX2_allLeft 7 rfl) w_351 w_231 w_232 w_28 w_233 (by decide +kernel) rfl (fun H h => zrecv_LST K (zL_ok h5).1 h) (fun H h => h) ⟨Nat.le_of_ble_eq_true rfl, Nat.le_of_ble_eq_true rfl⟩ ⟨Nat.le_refl _, Nat.le_refl _⟩ (Nat.le_of_ble_eq_true rfl) rfl rfl ?_
    refine zi_icmp_ge K 38 (dX2_allLeft 8 rfl) rfl (fun h12_0 => ?_) (fun h12_0 => ?_)
    · skip
      have hN4 := zloop_exit rfl (zL_b h5) hi4 h12_0
      subst hN4
      refine zi_lload_n K (dX2_allLeft 20 rfl) 1 rfl ?_
      exact zi_lret K E (dX2_allLeft 21 rfl) (Nat.le_refl _) (Nat.le_refl _) rfl (fun _ h => h)
    · skip
      have hlt4 := zloop_in rfl (zL_b h5) hi4 h12_0
      refine zi_lload_n K (dX2_allLeft 9 rfl) 1 rfl ?_
      refine zi_aload_n K (dX2_allLeft 10 rfl) 0 rfl ?_
      refine zg_FL_claims K hb w_132 (dX2_allLeft 11 rfl) ?_
      refine zi_iload_n K (dX2_allLeft 12 rfl) 2 rfl ?_
      refine zi_callV K (na := 1) [.long (zsumL (fun y => sL σ 0 (lx σ (5 + 4 * b) y) 0) i)] [.ref (ad 2 (lx σ (5 + 4 * b) i)), .long (zsumL (fun y => sL σ 0 (lx σ (5 + 4 * b) y) 0) i)] (c_getK (σ := σ) (5 + 4 * b) i (lx σ (5 + 4 * b) i) 2 (zeK5 hb) (zL_ok h5) hlt4 (zL_x h5 hlt4)) (dX2_allLeft 13 rfl) w_352 w_310 w_311 w_28 w_312 (by decide +kernel) rfl (fun H h => zrecv_LST K (zL_ok h5).1 h) (fun H h => h) ⟨Nat.le_of_ble_eq_true rfl, Nat.le_of_ble_eq_true rfl⟩ ⟨Nat.le_refl _, Nat.le_refl _⟩ (Nat.le_of_ble_eq_true rfl) rfl rfl ?_
      refine zi_cast K (fun H h => (zr_CL (σ := σ) (zL_lv h5 hlt4 (zeK5 hb)) H h).1) rfl w_353 (dX2_allLeft 14 rfl) ?_
      refine zg_CL_left K (zL_lv h5 hlt4 (zeK5 hb)) w_759 (dX2_allLeft 15 rfl) ?_
      refine zi_ladd K (dX2_allLeft 16 rfl) ?_
      refine zi_lstore_n K [(1, .long ((zsumL (fun y => sL σ 0 (lx σ (5 + 4 * b) y) 0) i) + (sL σ 0 (lx σ (5 + 4 * b) i) 0))), (0, .ref (ad 11 b)), (3, .int (nI i))] (dX2_allLeft 17 rfl) (by decide) rfl ?_
      refine zi_iinc K (v := nI (i + 1)) [(3, .int (nI (i + 1))), (1, .long ((zsumL (fun y => sL σ 0 (lx σ (5 + 4 * b) y) 0) i) + (sL σ 0 (lx σ (5 + 4 * b) i) 0))), (0, .ref (ad 11 b))] (dX2_allLeft 18 rfl) 2 rfl (zk_inc _) (by decide) rfl ?_
      refine zi_goto K 4 (dX2_allLeft 19 rfl) rfl ?_
      refine zV.pick [2, 1, 0] (lo' := [(0, .ref (ad 11 b)), (1, .long ((zsumL (fun y => sL σ 0 (lx σ (5 + 4 * b) y) 0) i) + (sL σ 0 (lx σ (5 + 4 * b) i) 0))), (3, .int (nI (i + 1)))]) rfl ?_
      refine zV.lov (lo' := [(0, .ref (ad 11 b)), (1, .long (zsumL (fun y => sL σ 0 (lx σ (5 + 4 * b) y) 0) (i + 1))), (3, .int (nI (i + 1)))]) (by first | rfl | (simp only [zsumL])) ?_
      exact ih4 (i + 1) (by omega) (by omega)
def v_partOf (σ : zSt) (b t i0 : Nat) : Int64 := zsumL (fun y => sL σ 1 (lx σ (5 + 4 * b) y) t * (sI σ 21 t i0).toInt64 / 100) (sZ σ (5 + 4 * b))
set_option maxRecDepth 100000 in
set_option maxHeartbeats 4000000 in
theorem c_partOf {G : zG} {ad : Nat → Nat → Nat} {σ : zSt} (b t i0 : Nat) (hb : b < 2) (ht : t < sN σ 2) (hi0 : i0 < 5) (ht8 : t < 8) (h5 : zLW σ (5 + 4 * b)) : zC G yX2_partOf cX2_partOf 6 (some FieldType.long) 3 64 0 0 [.ref (ad 11 b), .ref (ad 5 t), .int (nI i0)] (zP G ad σ) (some (.long (v_partOf σ b t i0))) (zP G ad σ) := by
  refine zC_of (by decide) (Nat.le_of_ble_eq_true rfl) (fun X K E hnm => ?_)
  show zV G X 6 (zP G ad σ) 0 0 0 [(0, .ref (ad 11 b)), (1, .ref (ad 5 t)), (2, .int (nI i0))] []
  refine zi_lconst K (dX2_partOf 0 rfl) zk_l0 ?_
  refine zi_lstore_n K [(3, .long 0), (0, .ref (ad 11 b)), (1, .ref (ad 5 t)), (2, .int (nI i0))] (dX2_partOf 1 rfl) (by decide) rfl ?_
  refine zi_iconst K (dX2_partOf 2 rfl) zk_i0 ?_
  refine zi_istore K [(5, .int 0), (3, .long 0), (0, .ref (ad 11 b)), (1, .ref (ad 5 t)), (2, .int (nI i0))] (dX2_partOf 3 rfl) (by decide) rfl ?_
  refine zV.pick [2, 3, 4, 1, 0] (lo' := [(0, .ref (ad 11 b)), (1, .ref (ad 5 t)), (2, .int (nI i0)), (3, .long 0), (5, .int 0)]) rfl ?_
  suffices hloop5 : ∀ (r i : Nat), i ≤ sZ σ (5 + 4 * b) → sZ σ (5 + 4 * b) - i < r → zV G X 6 (zP G ad σ) (0) (0) 5 [(0, .ref (ad 11 b)), (1, .ref (ad 5 t)), (2, .int (nI i0)), (3, .long (zsumL (fun y => sL σ 1 (lx σ (5 + 4 * b) y) t * (sI σ 21 t i0).toInt64 / 100) i)), (5, .int (nI i))] [] from hloop5 (sZ σ (5 + 4 * b) + 1) 0 (Nat.zero_le _) (Nat.lt_succ_of_le (Nat.sub_le _ _))
  intro r
  induction r with
  | zero => intro i _ h; exact absurd h (Nat.not_lt_zero _)
  | succ r ih5 =>
    intro i hi5 hr5
    refine zi_iload K (dX2_partOf 4 rfl) 4 rfl ?_
    refine zi_aload_n K (dX2_partOf 5 rfl) 0 rfl ?_
    refine zg_FL_claims K hb w_132 (dX2_partOf 6 rfl) ?_
    refine zi_callV K (na := 0) [.int (nI i)] [.int (nI (sZ σ (5 + 4 * b))), .int (nI i)] (c_sizeN (σ := σ) (5 + 4 * b) (sZ σ (5 + 4 * b)) (zL_ok h5).1 rfl) (dX2_partOf 7 rfl) w_351 w_231 w_232 w_28 w_233 (by decide +kernel) rfl (fun H h => zrecv_LST K (zL_ok h5).1 h) (fun H h => h) ⟨Nat.le_of_ble_eq_true rfl, Nat.le_of_ble_eq_true rfl⟩ ⟨Nat.le_refl _, Nat.le_refl _⟩ (Nat.le_of_ble_eq_true rfl) rfl rfl ?_
    refine zi_icmp_ge K 58 (dX2_partOf 8 rfl) rfl (fun h14_0 => ?_) (fun h14_0 => ?_)
    · skip
      have hN5 := zloop_exit rfl (zL_b h5) hi5 h14_0
      subst hN5
      refine zi_lload_n K (dX2_partOf 31 rfl) 3 rfl ?_
      exact zi_lret K E (dX2_partOf 32 rfl) (Nat.le_refl _) (Nat.le_refl _) rfl (fun _ h => h)
    · skip
      have hlt5 := zloop_in rfl (zL_b h5) hi5 h14_0
      refine zi_lload_n K (dX2_partOf 9 rfl) 3 rfl ?_
      refine zi_aload_n K (dX2_partOf 10 rfl) 0 rfl ?_
      refine zg_FL_claims K hb w_132 (dX2_partOf 11 rfl) ?_
      refine zi_iload K (dX2_partOf 12 rfl) 4 rfl ?_
      refine zi_callV K (na := 1) [.long (zsumL (fun y => sL σ 1 (lx σ (5 + 4 * b) y) t * (sI σ 21 t i0).toInt64 / 100) i)] [.ref (ad 2 (lx σ (5 + 4 * b) i)), .long (zsumL (fun y => sL σ 1 (lx σ (5 + 4 * b) y) t * (sI σ 21 t i0).toInt64 / 100) i)] (c_getK (σ := σ) (5 + 4 * b) i (lx σ (5 + 4 * b) i) 2 (zeK5 hb) (zL_ok h5) hlt5 (zL_x h5 hlt5)) (dX2_partOf 13 rfl) w_352 w_310 w_311 w_28 w_312 (by decide +kernel) rfl (fun H h => zrecv_LST K (zL_ok h5).1 h) (fun H h => h) ⟨Nat.le_of_ble_eq_true rfl, Nat.le_of_ble_eq_true rfl⟩ ⟨Nat.le_refl _, Nat.le_refl _⟩ (Nat.le_of_ble_eq_true rfl) rfl rfl ?_
      refine zi_cast K (fun H h => (zr_CL (σ := σ) (zL_lv h5 hlt5 (zeK5 hb)) H h).1) rfl w_353 (dX2_partOf 14 rfl) ?_
      refine zg_CL_took K (zL_lv h5 hlt5 (zeK5 hb)) w_742 (dX2_partOf 15 rfl) ?_
      refine zi_aload_n K (dX2_partOf 16 rfl) 1 rfl ?_
      refine zg_TR_number K ht w_1092 (dX2_partOf 17 rfl) ?_
      refine zl_TOOK K (zL_lv h5 hlt5 (zeK5 hb)) t rfl (by omega) (dX2_partOf 18 rfl) ?_
      refine zi_aload_n K (dX2_partOf 19 rfl) 1 rfl ?_
      refine zg_TR_shares K ht w_1106 (dX2_partOf 20 rfl) ?_
      refine zi_iload_n K (dX2_partOf 21 rfl) 2 rfl ?_
      refine zl_SHR K ht i0 rfl (by omega) (dX2_partOf 22 rfl) ?_
      refine zi_i2l K (dX2_partOf 23 rfl) ?_
      refine zi_lmul K (dX2_partOf 24 rfl) ?_
      refine zi_ldc2 K (dX2_partOf 25 rfl) w_564 ?_
      refine zi_ldiv K (dX2_partOf 26 rfl) (by decide) ?_
      refine zi_ladd K (dX2_partOf 27 rfl) ?_
      refine zi_lstore_n K [(3, .long ((zsumL (fun y => sL σ 1 (lx σ (5 + 4 * b) y) t * (sI σ 21 t i0).toInt64 / 100) i) + (((sL σ 1 (lx σ (5 + 4 * b) i) t) * ((sI σ 21 t i0).toInt64)) / 100))), (0, .ref (ad 11 b)), (1, .ref (ad 5 t)), (2, .int (nI i0)), (5, .int (nI i))] (dX2_partOf 28 rfl) (by decide) rfl ?_
      refine zi_iinc K (v := nI (i + 1)) [(5, .int (nI (i + 1))), (3, .long ((zsumL (fun y => sL σ 1 (lx σ (5 + 4 * b) y) t * (sI σ 21 t i0).toInt64 / 100) i) + (((sL σ 1 (lx σ (5 + 4 * b) i) t) * ((sI σ 21 t i0).toInt64)) / 100))), (0, .ref (ad 11 b)), (1, .ref (ad 5 t)), (2, .int (nI i0))] (dX2_partOf 29 rfl) 4 rfl (zk_inc _) (by decide) rfl ?_
      refine zi_goto K 5 (dX2_partOf 30 rfl) rfl ?_
      refine zV.pick [2, 3, 4, 1, 0] (lo' := [(0, .ref (ad 11 b)), (1, .ref (ad 5 t)), (2, .int (nI i0)), (3, .long ((zsumL (fun y => sL σ 1 (lx σ (5 + 4 * b) y) t * (sI σ 21 t i0).toInt64 / 100) i) + (((sL σ 1 (lx σ (5 + 4 * b) i) t) * ((sI σ 21 t i0).toInt64)) / 100))), (5, .int (nI (i + 1)))]) rfl ?_
      refine zV.lov (lo' := [(0, .ref (ad 11 b)), (1, .ref (ad 5 t)), (2, .int (nI i0)), (3, .long (zsumL (fun y => sL σ 1 (lx σ (5 + 4 * b) y) t * (sI σ 21 t i0).toInt64 / 100) (i + 1))), (5, .int (nI (i + 1)))]) (by first | rfl | (simp only [zsumL])) ?_
      exact ih5 (i + 1) (by omega) (by omega)
def v_allPartsOf (σ : zSt) (b i0 : Nat) : Int64 := zsumL (fun y => v_partOf σ b (lx σ (6 + 4 * b) y % 8) i0) (sZ σ (6 + 4 * b))
set_option maxRecDepth 100000 in
set_option maxHeartbeats 4000000 in
theorem c_allPartsOf {G : zG} {ad : Nat → Nat → Nat} {σ : zSt} (b i0 : Nat) (hb : b < 2) (hi0 : i0 < 5) (hcv : ∀ j, zlV σ j → j % 8 < sN σ 2) (h5 : zLW σ (5 + 4 * b)) (h6 : zLW σ (6 + 4 * b)) : zC G yX2_allPartsOf cX2_allPartsOf 5 (some FieldType.long) 4 89 0 0 [.ref (ad 11 b), .int (nI i0)] (zP G ad σ) (some (.long (v_allPartsOf σ b i0))) (zP G ad σ) := by
  refine zC_of (by decide) (Nat.le_of_ble_eq_true rfl) (fun X K E hnm => ?_)
  show zV G X 5 (zP G ad σ) 0 0 0 [(0, .ref (ad 11 b)), (1, .int (nI i0))] []
  refine zi_lconst K (dX2_allPartsOf 0 rfl) zk_l0 ?_
  refine zi_lstore_n K [(2, .long 0), (0, .ref (ad 11 b)), (1, .int (nI i0))] (dX2_allPartsOf 1 rfl) (by decide) rfl ?_
  refine zi_iconst K (dX2_allPartsOf 2 rfl) zk_i0 ?_
  refine zi_istore K [(4, .int 0), (2, .long 0), (0, .ref (ad 11 b)), (1, .int (nI i0))] (dX2_allPartsOf 3 rfl) (by decide) rfl ?_
  refine zV.pick [2, 3, 1, 0] (lo' := [(0, .ref (ad 11 b)), (1, .int (nI i0)), (2, .long 0), (4, .int 0)]) rfl ?_
  suffices hloop5 : ∀ (r i : Nat), i ≤ sZ σ (6 + 4 * b) → sZ σ (6 + 4 * b) - i < r → zV G X 5 (zP G ad σ) (0) (0) 5 [(0, .ref (ad 11 b)), (1, .int (nI i0)), (2, .long (zsumL (fun y => v_partOf σ b (lx σ (6 + 4 * b) y % 8) i0) i)), (4, .int (nI i))] [] from hloop5 (sZ σ (6 + 4 * b) + 1) 0 (Nat.zero_le _) (Nat.lt_succ_of_le (Nat.sub_le _ _))
  intro r
  induction r with
  | zero => intro i _ h; exact absurd h (Nat.not_lt_zero _)
  | succ r ih5 =>
    intro i hi5 hr5
    refine zi_iload K (dX2_allPartsOf 4 rfl) 3 rfl ?_
    refine zi_aload_n K (dX2_allPartsOf 5 rfl) 0 rfl ?_
    refine zg_FL_covers K hb w_134 (dX2_allPartsOf 6 rfl) ?_
    refine zi_callV K (na := 0) [.int (nI i)] [.int (nI (sZ σ (6 + 4 * b))), .int (nI i)] (c_sizeN (σ := σ) (6 + 4 * b) (sZ σ (6 + 4 * b)) (zL_ok h6).1 rfl) (dX2_allPartsOf 7 rfl) w_351 w_231 w_232 w_28 w_233 (by decide +kernel) rfl (fun H h => zrecv_LST K (zL_ok h6).1 h) (fun H h => h) ⟨Nat.le_of_ble_eq_true rfl, Nat.le_of_ble_eq_true rfl⟩ ⟨Nat.le_refl _, Nat.le_refl _⟩ (Nat.le_of_ble_eq_true rfl) rfl rfl ?_
    refine zi_icmp_ge K 46 (dX2_allPartsOf 8 rfl) rfl (fun h14_0 => ?_) (fun h14_0 => ?_)
    · skip
      have hN5 := zloop_exit rfl (zL_b h6) hi5 h14_0
      subst hN5
      refine zi_lload_n K (dX2_allPartsOf 23 rfl) 2 rfl ?_
      exact zi_lret K E (dX2_allPartsOf 24 rfl) (Nat.le_refl _) (Nat.le_refl _) rfl (fun _ h => h)
    · skip
      have hlt5 := zloop_in rfl (zL_b h6) hi5 h14_0
      refine zi_lload_n K (dX2_allPartsOf 9 rfl) 2 rfl ?_
      refine zi_aload_n K (dX2_allPartsOf 10 rfl) 0 rfl ?_
      refine zi_aload_n K (dX2_allPartsOf 11 rfl) 0 rfl ?_
      refine zg_FL_covers K hb w_134 (dX2_allPartsOf 12 rfl) ?_
      refine zi_iload K (dX2_allPartsOf 13 rfl) 3 rfl ?_
      refine zi_callV K (na := 1) [.ref (ad 11 b), .long (zsumL (fun y => v_partOf σ b (lx σ (6 + 4 * b) y % 8) i0) i)] [.ref (ad 7 (lx σ (6 + 4 * b) i)), .ref (ad 11 b), .long (zsumL (fun y => v_partOf σ b (lx σ (6 + 4 * b) y % 8) i0) i)] (c_getK (σ := σ) (6 + 4 * b) i (lx σ (6 + 4 * b) i) 7 (zeK6 hb) (zL_ok h6) hlt5 (zL_x h6 hlt5)) (dX2_allPartsOf 14 rfl) w_352 w_310 w_311 w_28 w_312 (by decide +kernel) rfl (fun H h => zrecv_LST K (zL_ok h6).1 h) (fun H h => h) ⟨Nat.le_of_ble_eq_true rfl, Nat.le_of_ble_eq_true rfl⟩ ⟨Nat.le_refl _, Nat.le_refl _⟩ (Nat.le_of_ble_eq_true rfl) rfl rfl ?_
      refine zi_cast K (fun H h => (zr_COV (σ := σ) (zL_lv h6 hlt5 (zeK6 hb)) H h).1) rfl w_364 (dX2_allPartsOf 15 rfl) ?_
      refine zg_COV_treaty K (zL_lv h6 hlt5 (zeK6 hb)) w_1162 (dX2_allPartsOf 16 rfl) ?_
      refine zi_iload_n K (dX2_allPartsOf 17 rfl) 1 rfl ?_
      refine zi_callV K (na := 2) [.long (zsumL (fun y => v_partOf σ b (lx σ (6 + 4 * b) y % 8) i0) i)] [.long (v_partOf σ b ((lx σ (6 + 4 * b) i) % 8) i0), .long (zsumL (fun y => v_partOf σ b (lx σ (6 + 4 * b) y % 8) i0) i)] (c_partOf (σ := σ) b ((lx σ (6 + 4 * b) i) % 8) i0 hb (hcv _ (zL_lv h6 hlt5 (zeK6 hb))) hi0 (Nat.mod_lt _ (by decide)) h5) (dX2_allPartsOf 18 rfl) w_560 w_561 w_562 w_29 w_563 (by decide +kernel) rfl (fun H h => zi_recv K (zr_FL (σ := σ) hb H h).1 rfl) (fun H h => h) ⟨Nat.le_of_ble_eq_true rfl, Nat.le_of_ble_eq_true rfl⟩ ⟨Nat.le_refl _, Nat.le_refl _⟩ (Nat.le_of_ble_eq_true rfl) rfl rfl ?_
      refine zi_ladd K (dX2_allPartsOf 19 rfl) ?_
      refine zi_lstore_n K [(2, .long ((zsumL (fun y => v_partOf σ b (lx σ (6 + 4 * b) y % 8) i0) i) + (v_partOf σ b ((lx σ (6 + 4 * b) i) % 8) i0))), (0, .ref (ad 11 b)), (1, .int (nI i0)), (4, .int (nI i))] (dX2_allPartsOf 20 rfl) (by decide) rfl ?_
      refine zi_iinc K (v := nI (i + 1)) [(4, .int (nI (i + 1))), (2, .long ((zsumL (fun y => v_partOf σ b (lx σ (6 + 4 * b) y % 8) i0) i) + (v_partOf σ b ((lx σ (6 + 4 * b) i) % 8) i0))), (0, .ref (ad 11 b)), (1, .int (nI i0))] (dX2_allPartsOf 21 rfl) 3 rfl (zk_inc _) (by decide) rfl ?_
      refine zi_goto K 5 (dX2_allPartsOf 22 rfl) rfl ?_
      refine zV.pick [2, 3, 1, 0] (lo' := [(0, .ref (ad 11 b)), (1, .int (nI i0)), (2, .long ((zsumL (fun y => v_partOf σ b (lx σ (6 + 4 * b) y % 8) i0) i) + (v_partOf σ b ((lx σ (6 + 4 * b) i) % 8) i0))), (4, .int (nI (i + 1)))]) rfl ?_
      refine zV.lov (lo' := [(0, .ref (ad 11 b)), (1, .int (nI i0)), (2, .long (zsumL (fun y => v_partOf σ b (lx σ (6 + 4 * b) y % 8) i0) (i + 1))), (4, .int (nI (i + 1)))]) (by first | rfl | (simp only [zsumL])) ?_
      exact ih5 (i + 1) (by omega) (by omega)
end
section
/-! Pool: rows copied, rounds, rings -/
def zcpr (σ : zSt) (td ts : Nat) : zSt := (σ.1, (fun t o e => if t = td ∧ o = 0 ∧ e < 5 then σ.2.1 ts 0 e else σ.2.1 t o e), σ.2.2)
theorem zcpr_22 (σ : zSt) (td ts : Nat) : (zcpr σ td ts).2.2 = σ.2.2 := rfl
theorem zcpr_1 (σ : zSt) (td ts : Nat) : (zcpr σ td ts).1 = σ.1 := rfl
section ZPL
variable {G : zG} {X : zX} {cc : ByteArray} {own : String} {nL : Nat} {ret : Option FieldType} {rm : Room} {P : Heap → Prop} {k n pc : Nat} {lo : List (Nat × Value)}
theorem zi_acopyl (K : zK G X cc own nL ret rm) {idx a0 a : Nat} {f g : Nat → Int64} {P' : Heap → Prop} (st : List Value) (hw : Cond.methodLink own idx arraycopyName ∈ zB) (hP0 : ∀ H, P H → va_at G.2.2.1 zCl (a0, .inl (G.2.2.2.1 1, 5, .inr (.inl f))) H) (hP1 : ∀ H, P H → va_at G.2.2.1 zCl (a, .inl (G.2.2.2.1 1, 5, .inr (.inl g))) H ∧ gA G a)
    (hR : 1 ≤ rm.frames ∧ (st.map fun v => v.category).sum + 40 ≤ rm.locals) (hd : decode cc pc = .ok (.invokestatic idx, 3))
    (hP' : ∀ H H1 : Heap, P H → va_at G.2.2.1 zCl (a, .inl (G.2.2.2.1 1, 5, .inr (.inl (va_cpy f g 0 0 5)))) H1 → H1.size = H.size → (∀ q, q ≠ a → H1[q]? = H[q]?) → P' H1) (kk : zV G X nL P' k n (pc + 3) lo st) : zV G X nL P k n pc lo (.int 5 :: .int 0 :: .ref a :: .int 0 :: .ref a0 :: st) := fun H locs ls hPH hS hL => by
  obtain ⟨k1, k2, k3, k4, k5, k6, k7, k8, k9, k10, k11⟩ := K
  rw [← k10] at hR
  obtain ⟨hat1, hA⟩ := hP1 H hPH
  have hc0 : H[a0]? = some (vp_cell (G.2.2.2.1 1) (5, .inr (.inl f))) := hP0 H hPH
  have hc1 : H[a]? = some (vp_cell (G.2.2.2.1 1) (5, .inr (.inl g))) := hat1
  obtain ⟨-, kq, hk0, cm0, hkk0⟩ := (k6.1.2 1 _ rfl).1 5 (fun j => .long (f j))
  have c0 : (0 : Int32).toNatClampNeg = 0 := by decide
  have c5 : (5 : Int32).toNatClampNeg = 5 := by decide
  have hnw : nativeFrameWords "java/lang/System" "arraycopy" 5 + 11 ≤ 40 := by decide
  intro T hT Y
  obtain ⟨vm', X', step⟩ := Y.arraycopy k1 k4 (k5 _ hw) (k5 _ w_494) (k5 _ w_493) (k5 _ w_41) (src := a0) (dst := a) (cs := vp_cell (G.2.2.2.1 1) (5, .inr (.inl f))) (cd := vp_cell (G.2.2.2.1 1) (5, .inr (.inl g))) (srcPos := 0) (destPos := 0) (n := 5) (by rw [hT]; exact hc0) (by rw [hT]; exact hc1)
    (fun _ h => by cases h) (fun _ h => by cases h) (fun h => by cases h) (fun h => by cases h) hk0 hk0 hkk0 hkk0 (by simp [refKind]) (by decide) (by decide) (by decide)
    (by show ¬ _ > ((arrV _ 5 (fun j => .long (f j))).slots.size : Int); rw [arrV_size]; decide)
    (by show ¬ _ > ((arrV _ 5 (fun j => .long (g j))).slots.size : Int); rw [arrV_size]; decide)
    (fun vm₁ hal i hi => by
      rw [c5] at hi
      rw [c0]
      have e : (vp_cell (G.2.2.2.1 1) (5, .inr (.inl f))).slots.getD (0 + i) .null = .long (f (0 + i)) := by
        show (arrV _ 5 (fun j => .long (f j))).slots.getD _ _ = _
        rw [Array.getD_eq_getD_getElem?, arrV_read _ _ (by omega)]
        rfl
      rw [e]
      exact ⟨rfl, trivial⟩)
    (g := F0 (xm X) pc ls (.int 5 :: .int 0 :: .ref a :: .int 0 :: .ref a0 :: st)) rfl (hL.1.trans k3.symm) (rest := st) rfl (by rw [k2]; exact hd) hR.1 (by show 2 * 0 + _ + _ ≤ _; omega)
  have e1 : copied (vp_cell (G.2.2.2.1 1) (5, .inr (.inl f))) (vp_cell (G.2.2.2.1 1) (5, .inr (.inl g))) 0 0 5 = vp_cell (G.2.2.2.1 1) (5, .inr (.inl (va_cpy f g 0 0 5))) := by
    have h9 := va_copied (fun z => .long z) (G.2.2.2.1 1) (G.2.2.2.1 1) (n0 := 5) (n1 := 5) (sp := 0) (dp := 0) (n := 5) f g (by omega)
    rw [vp_cell_l, vp_cell_l, vp_cell_l]
    unfold copied
    rw [c0, c5]
    exact h9
  rw [e1] at X' step
  have hl : a < H.size := (Array.getElem?_eq_some_iff.mp hc1).1
  have oq : ∀ q : Nat, q ≠ a → (H.setIfInBounds a (vp_cell (G.2.2.2.1 1) (5, .inr (.inl (va_cpy f g 0 0 5)))))[q]? = H[q]? := fun q hq => by simp [Array.getElem?_setIfInBounds, Ne.symm hq]
  obtain ⟨t, a1, b1'⟩ := kk _ _ ls (hP' H _ hPH (show (H.setIfInBounds a _)[a]? = some _ by simp [Array.getElem?_setIfInBounds, hl]) (by simp) oq) ⟨by simp; exact hS.1, fun q g1 g2 => by
      rw [oq q (fun e => g2 (by rw [e]; exact hA))]
      exact hS.2.1 q g1 g2, fun q hq => by
      rcases List.mem_append.mp hq with h | h
      · exact hS.2.2 q h
      · obtain ⟨z, -, hz⟩ := List.mem_map.mp h
        rw [← hz]
        exact hA⟩ hL _ (by rw [← hT]; rfl) X'
  exact ⟨t, step t a1, b1'⟩
theorem zcp_PCOM_PBEF (K : zK G X cc own nL ret rm) {idx : Nat} {ad : Nat → Nat → Nat} {σ : zSt} (st : List Value) (hw : Cond.methodLink own idx arraycopyName ∈ zB) (hR : 1 ≤ rm.frames ∧ (st.map fun v => v.category).sum + 40 ≤ rm.locals) (hd : decode cc pc = .ok (.invokestatic idx, 3)) (kk : zV G X nL (zP G ad (zcpr σ 13 10)) k n (pc + 3) lo st) : zV G X nL (zP G ad σ) k n pc lo (.int 5 :: .int 0 :: .ref (ad 27 0) :: .int 0 :: .ref (ad 24 0) :: st) :=
  zi_acopyl (f := fun j => sL σ 10 0 j) (g := fun j => sL σ 13 0 j) K st hw (fun H h => (zr_PCOM (ix := 0) rfl H h).1) (zr_PBEF (ix := 0) rfl) hR hd (fun H H1 h ha _ oq => by
    obtain ⟨aa, h⟩ := h
    refine ⟨aa, h.upd (kd := 27) (ix := 0) rfl (fun k x => by rw [zlv_congr (σ' := zcpr σ 13 10) (σ := σ) rfl]) (fun k x hne _ => zct_congr rfl (fun _ _ _ => rfl) (fun t' e' h' => ?_)) ?_ oq⟩
    · exact if_neg (fun q => hne ⟨by rw [← h', q.1]; rfl, q.2.1⟩)
    · show va_at G.2.2.1 zCl (ad 27 0, zqPBEF G (zcpr σ 13 10) 0) H1
      unfold zqPBEF
      rw [show (fun j => sL (zcpr σ 13 10) 13 0 j) = va_cpy (fun j => sL σ 10 0 j) (fun j => sL σ 13 0 j) 0 0 5 from funext fun j => by
        unfold va_cpy
        by_cases e : j < 5
        · rw [if_pos ⟨Nat.zero_le _, by omega⟩, show 0 + (j - 0) = j by omega]
          exact if_pos ⟨rfl, rfl, e⟩
        · rw [if_neg (fun z => e (by omega))]
          exact if_neg (fun z => e z.2.2)]
      exact ha) kk
theorem zcp_POWN_PCOM (K : zK G X cc own nL ret rm) {idx : Nat} {ad : Nat → Nat → Nat} {σ : zSt} (st : List Value) (hw : Cond.methodLink own idx arraycopyName ∈ zB) (hR : 1 ≤ rm.frames ∧ (st.map fun v => v.category).sum + 40 ≤ rm.locals) (hd : decode cc pc = .ok (.invokestatic idx, 3)) (kk : zV G X nL (zP G ad (zcpr σ 10 9)) k n (pc + 3) lo st) : zV G X nL (zP G ad σ) k n pc lo (.int 5 :: .int 0 :: .ref (ad 24 0) :: .int 0 :: .ref (ad 23 0) :: st) :=
  zi_acopyl (f := fun j => sL σ 9 0 j) (g := fun j => sL σ 10 0 j) K st hw (fun H h => (zr_POWN (ix := 0) rfl H h).1) (zr_PCOM (ix := 0) rfl) hR hd (fun H H1 h ha _ oq => by
    obtain ⟨aa, h⟩ := h
    refine ⟨aa, h.upd (kd := 24) (ix := 0) rfl (fun k x => by rw [zlv_congr (σ' := zcpr σ 10 9) (σ := σ) rfl]) (fun k x hne _ => zct_congr rfl (fun _ _ _ => rfl) (fun t' e' h' => ?_)) ?_ oq⟩
    · exact if_neg (fun q => hne ⟨by rw [← h', q.1]; rfl, q.2.1⟩)
    · show va_at G.2.2.1 zCl (ad 24 0, zqPCOM G (zcpr σ 10 9) 0) H1
      unfold zqPCOM
      rw [show (fun j => sL (zcpr σ 10 9) 10 0 j) = va_cpy (fun j => sL σ 9 0 j) (fun j => sL σ 10 0 j) 0 0 5 from funext fun j => by
        unfold va_cpy
        by_cases e : j < 5
        · rw [if_pos ⟨Nat.zero_le _, by omega⟩, show 0 + (j - 0) = j by omega]
          exact if_pos ⟨rfl, rfl, e⟩
        · rw [if_neg (fun z => e (by omega))]
          exact if_neg (fun z => e z.2.2)]
      exact ha) kk
theorem zcp_PABV_PBEF (K : zK G X cc own nL ret rm) {idx : Nat} {ad : Nat → Nat → Nat} {σ : zSt} (st : List Value) (hw : Cond.methodLink own idx arraycopyName ∈ zB) (hR : 1 ≤ rm.frames ∧ (st.map fun v => v.category).sum + 40 ≤ rm.locals) (hd : decode cc pc = .ok (.invokestatic idx, 3)) (kk : zV G X nL (zP G ad (zcpr σ 13 12)) k n (pc + 3) lo st) : zV G X nL (zP G ad σ) k n pc lo (.int 5 :: .int 0 :: .ref (ad 27 0) :: .int 0 :: .ref (ad 26 0) :: st) :=
  zi_acopyl (f := fun j => sL σ 12 0 j) (g := fun j => sL σ 13 0 j) K st hw (fun H h => (zr_PABV (ix := 0) rfl H h).1) (zr_PBEF (ix := 0) rfl) hR hd (fun H H1 h ha _ oq => by
    obtain ⟨aa, h⟩ := h
    refine ⟨aa, h.upd (kd := 27) (ix := 0) rfl (fun k x => by rw [zlv_congr (σ' := zcpr σ 13 12) (σ := σ) rfl]) (fun k x hne _ => zct_congr rfl (fun _ _ _ => rfl) (fun t' e' h' => ?_)) ?_ oq⟩
    · exact if_neg (fun q => hne ⟨by rw [← h', q.1]; rfl, q.2.1⟩)
    · show va_at G.2.2.1 zCl (ad 27 0, zqPBEF G (zcpr σ 13 12) 0) H1
      unfold zqPBEF
      rw [show (fun j => sL (zcpr σ 13 12) 13 0 j) = va_cpy (fun j => sL σ 12 0 j) (fun j => sL σ 13 0 j) 0 0 5 from funext fun j => by
        unfold va_cpy
        by_cases e : j < 5
        · rw [if_pos ⟨Nat.zero_le _, by omega⟩, show 0 + (j - 0) = j by omega]
          exact if_pos ⟨rfl, rfl, e⟩
        · rw [if_neg (fun z => e (by omega))]
          exact if_neg (fun z => e z.2.2)]
      exact ha) kk
theorem zcp_POWN_PABV (K : zK G X cc own nL ret rm) {idx : Nat} {ad : Nat → Nat → Nat} {σ : zSt} (st : List Value) (hw : Cond.methodLink own idx arraycopyName ∈ zB) (hR : 1 ≤ rm.frames ∧ (st.map fun v => v.category).sum + 40 ≤ rm.locals) (hd : decode cc pc = .ok (.invokestatic idx, 3)) (kk : zV G X nL (zP G ad (zcpr σ 12 9)) k n (pc + 3) lo st) : zV G X nL (zP G ad σ) k n pc lo (.int 5 :: .int 0 :: .ref (ad 26 0) :: .int 0 :: .ref (ad 23 0) :: st) :=
  zi_acopyl (f := fun j => sL σ 9 0 j) (g := fun j => sL σ 12 0 j) K st hw (fun H h => (zr_POWN (ix := 0) rfl H h).1) (zr_PABV (ix := 0) rfl) hR hd (fun H H1 h ha _ oq => by
    obtain ⟨aa, h⟩ := h
    refine ⟨aa, h.upd (kd := 26) (ix := 0) rfl (fun k x => by rw [zlv_congr (σ' := zcpr σ 12 9) (σ := σ) rfl]) (fun k x hne _ => zct_congr rfl (fun _ _ _ => rfl) (fun t' e' h' => ?_)) ?_ oq⟩
    · exact if_neg (fun q => hne ⟨by rw [← h', q.1]; rfl, q.2.1⟩)
    · show va_at G.2.2.1 zCl (ad 26 0, zqPABV G (zcpr σ 12 9) 0) H1
      unfold zqPABV
      rw [show (fun j => sL (zcpr σ 12 9) 12 0 j) = va_cpy (fun j => sL σ 9 0 j) (fun j => sL σ 12 0 j) 0 0 5 from funext fun j => by
        unfold va_cpy
        by_cases e : j < 5
        · rw [if_pos ⟨Nat.zero_le _, by omega⟩, show 0 + (j - 0) = j by omega]
          exact if_pos ⟨rfl, rfl, e⟩
        · rw [if_neg (fun z => e (by omega))]
          exact if_neg (fun z => e z.2.2)]
      exact ha) kk
theorem zcp_PCOM_PEAR (K : zK G X cc own nL ret rm) {idx : Nat} {ad : Nat → Nat → Nat} {σ : zSt} (st : List Value) (hw : Cond.methodLink own idx arraycopyName ∈ zB) (hR : 1 ≤ rm.frames ∧ (st.map fun v => v.category).sum + 40 ≤ rm.locals) (hd : decode cc pc = .ok (.invokestatic idx, 3)) (kk : zV G X nL (zP G ad (zcpr σ 11 10)) k n (pc + 3) lo st) : zV G X nL (zP G ad σ) k n pc lo (.int 5 :: .int 0 :: .ref (ad 25 0) :: .int 0 :: .ref (ad 24 0) :: st) :=
  zi_acopyl (f := fun j => sL σ 10 0 j) (g := fun j => sL σ 11 0 j) K st hw (fun H h => (zr_PCOM (ix := 0) rfl H h).1) (zr_PEAR (ix := 0) rfl) hR hd (fun H H1 h ha _ oq => by
    obtain ⟨aa, h⟩ := h
    refine ⟨aa, h.upd (kd := 25) (ix := 0) rfl (fun k x => by rw [zlv_congr (σ' := zcpr σ 11 10) (σ := σ) rfl]) (fun k x hne _ => zct_congr rfl (fun _ _ _ => rfl) (fun t' e' h' => ?_)) ?_ oq⟩
    · exact if_neg (fun q => hne ⟨by rw [← h', q.1]; rfl, q.2.1⟩)
    · show va_at G.2.2.1 zCl (ad 25 0, zqPEAR G (zcpr σ 11 10) 0) H1
      unfold zqPEAR
      rw [show (fun j => sL (zcpr σ 11 10) 11 0 j) = va_cpy (fun j => sL σ 10 0 j) (fun j => sL σ 11 0 j) 0 0 5 from funext fun j => by
        unfold va_cpy
        by_cases e : j < 5
        · rw [if_pos ⟨Nat.zero_le _, by omega⟩, show 0 + (j - 0) = j by omega]
          exact if_pos ⟨rfl, rfl, e⟩
        · rw [if_neg (fun z => e (by omega))]
          exact if_neg (fun z => e z.2.2)]
      exact ha) kk
theorem zcp_PCOM_PABV (K : zK G X cc own nL ret rm) {idx : Nat} {ad : Nat → Nat → Nat} {σ : zSt} (st : List Value) (hw : Cond.methodLink own idx arraycopyName ∈ zB) (hR : 1 ≤ rm.frames ∧ (st.map fun v => v.category).sum + 40 ≤ rm.locals) (hd : decode cc pc = .ok (.invokestatic idx, 3)) (kk : zV G X nL (zP G ad (zcpr σ 12 10)) k n (pc + 3) lo st) : zV G X nL (zP G ad σ) k n pc lo (.int 5 :: .int 0 :: .ref (ad 26 0) :: .int 0 :: .ref (ad 24 0) :: st) :=
  zi_acopyl (f := fun j => sL σ 10 0 j) (g := fun j => sL σ 12 0 j) K st hw (fun H h => (zr_PCOM (ix := 0) rfl H h).1) (zr_PABV (ix := 0) rfl) hR hd (fun H H1 h ha _ oq => by
    obtain ⟨aa, h⟩ := h
    refine ⟨aa, h.upd (kd := 26) (ix := 0) rfl (fun k x => by rw [zlv_congr (σ' := zcpr σ 12 10) (σ := σ) rfl]) (fun k x hne _ => zct_congr rfl (fun _ _ _ => rfl) (fun t' e' h' => ?_)) ?_ oq⟩
    · exact if_neg (fun q => hne ⟨by rw [← h', q.1]; rfl, q.2.1⟩)
    · show va_at G.2.2.1 zCl (ad 26 0, zqPABV G (zcpr σ 12 10) 0) H1
      unfold zqPABV
      rw [show (fun j => sL (zcpr σ 12 10) 12 0 j) = va_cpy (fun j => sL σ 10 0 j) (fun j => sL σ 12 0 j) 0 0 5 from funext fun j => by
        unfold va_cpy
        by_cases e : j < 5
        · rw [if_pos ⟨Nat.zero_le _, by omega⟩, show 0 + (j - 0) = j by omega]
          exact if_pos ⟨rfl, rfl, e⟩
        · rw [if_neg (fun z => e (by omega))]
          exact if_neg (fun z => e z.2.2)]
      exact ha) kk
end ZPL
/-- one round's inner steps, all rounds -/
def gI (σ : zSt) (td : Nat) : Nat → zSt
  | 0 => σ
  | i + 1 => uL (gI σ td i) td 0 (sI (gI σ td i) 32 0 i).toNatClampNeg (sL (gI σ td i) td 0 (sI (gI σ td i) 32 0 i).toNatClampNeg + v_handedOn (gI σ td i) i (sL (gI σ td i) 13 0 i))
def gR (σ : zSt) (td : Nat) : Nat → zSt
  | 0 => σ
  | r + 1 => gI (zcpr (zcpr (gR σ td r) 13 td) td 9) td 5
theorem gI_1 (σ : zSt) (td i : Nat) : (gI σ td i).1 = σ.1 := by
  induction i with
  | zero => rfl
  | succ i ih => exact ih
theorem gI_22 (σ : zSt) (td i : Nat) : (gI σ td i).2.2 = σ.2.2 := by
  induction i with
  | zero => rfl
  | succ i ih => exact ih
theorem gR_1 (σ : zSt) (td i : Nat) : (gR σ td i).1 = σ.1 := by
  induction i with
  | zero => rfl
  | succ i ih => exact (gI_1 _ _ _).trans ih
theorem gR_22 (σ : zSt) (td i : Nat) : (gR σ td i).2.2 = σ.2.2 := by
  induction i with
  | zero => rfl
  | succ i ih => exact (gI_22 _ _ _).trans ih
/-- where the reinsurers hand on to -/
def zRc (σ : zSt) : Prop := ∀ i, i < 5 → sI σ 32 0 i = nI (sI σ 32 0 i).toNatClampNeg ∧ (sI σ 32 0 i).toNatClampNeg < 5
theorem zRc_mv {σ σ' : zSt} (e : σ'.1 = σ.1) (h : zRc σ) : zRc σ' := by
  obtain ⟨a, b⟩ := σ
  obtain ⟨a', b'⟩ := σ'
  cases e
  exact h
def s_goR_PCOM (σ : zSt) (n : Nat) : zSt := (gR σ 10 n)
theorem s_goR_PCOM_22 (σ : zSt) (n : Nat) : (s_goR_PCOM σ n).2.2 = σ.2.2 := by
  unfold s_goR_PCOM
  (repeat' split) <;> first | exact ((gR_22 σ 10 n).trans rfl)
set_option maxRecDepth 100000 in
set_option maxHeartbeats 4000000 in
theorem c_goR_PCOM {G : zG} {ad : Nat → Nat → Nat} {σ : zSt} (n : Nat) (hn : n < 1000) (hrc : zRc σ) : zC G yX5_goRounds cX5_goRounds 5 none 2 40 0 0 [.ref (ad 18 0), .ref (ad 24 0), .int (nI n)] (zP G ad σ) none (zP G ad (s_goR_PCOM σ n)) := by
  refine zC_of (by decide) (Nat.le_of_ble_eq_true rfl) (fun X K E hnm => ?_)
  show zV G X 5 (zP G ad σ) 0 0 0 [(0, .ref (ad 18 0)), (1, .ref (ad 24 0)), (2, .int (nI n))] []
  refine zi_iconst K (dX5_goRounds 0 rfl) zk_i0 ?_
  refine zi_istore_n K [(3, .int 0), (0, .ref (ad 18 0)), (1, .ref (ad 24 0)), (2, .int (nI n))] (dX5_goRounds 1 rfl) (by decide) rfl ?_
  refine zV.pick [1, 2, 3, 0] (lo' := [(0, .ref (ad 18 0)), (1, .ref (ad 24 0)), (2, .int (nI n)), (3, .int 0)]) rfl ?_
  suffices hloop2 : ∀ (r r0 : Nat), r0 ≤ n → n - r0 < r → zV G X 5 (zP G ad (gR σ 10 r0)) (0) (0) 2 [(0, .ref (ad 18 0)), (1, .ref (ad 24 0)), (2, .int (nI n)), (3, .int (nI r0))] [] from hloop2 (n + 1) 0 (Nat.zero_le _) (Nat.lt_succ_of_le (Nat.sub_le _ _))
  intro r
  induction r with
  | zero => intro r0 _ h; exact absurd h (Nat.not_lt_zero _)
  | succ r ih2 =>
    intro r0 hi2 hr2
    refine zi_iload_n K (dX5_goRounds 2 rfl) 3 rfl ?_
    refine zi_iload_n K (dX5_goRounds 3 rfl) 2 rfl ?_
    refine zi_icmp_ge K 75 (dX5_goRounds 4 rfl) rfl (fun h4_0 => ?_) (fun h4_0 => ?_)
    · skip
      have hN2 := zloop_exit rfl (by omega) hi2 h4_0
      subst hN2
      exact zi_vret K E (dX5_goRounds 44 rfl) (Nat.le_refl _) (Nat.le_refl _) rfl (fun H h => by exact h)
    · skip
      have hlt2 := zloop_in rfl (by omega) hi2 h4_0
      refine zi_aload_n K (dX5_goRounds 5 rfl) 1 rfl ?_
      refine zi_iconst K (dX5_goRounds 6 rfl) zk_i0 ?_
      refine zi_aload_n K (dX5_goRounds 7 rfl) 0 rfl ?_
      refine zg_POOL_before K rfl w_173 (dX5_goRounds 8 rfl) ?_
      refine zi_iconst K (dX5_goRounds 9 rfl) zk_i0 ?_
      refine zi_iconst K (dX5_goRounds 10 rfl) zk_i5 ?_
      refine zcp_PCOM_PBEF K [] w_635 ⟨Nat.le_of_ble_eq_true rfl, Nat.le_of_ble_eq_true rfl⟩ (dX5_goRounds 11 rfl) ?_
      have e1 : (zcpr (gR σ 10 r0) 13 10).2.2 = σ.2.2 := (zcpr_22 (gR σ 10 r0) 13 10).trans (gR_22 σ 10 r0)
      refine zi_aload_n K (dX5_goRounds 12 rfl) 0 rfl ?_
      refine zg_POOL_own K rfl w_167 (dX5_goRounds 13 rfl) ?_
      refine zi_iconst K (dX5_goRounds 14 rfl) zk_i0 ?_
      refine zi_aload_n K (dX5_goRounds 15 rfl) 1 rfl ?_
      refine zi_iconst K (dX5_goRounds 16 rfl) zk_i0 ?_
      refine zi_iconst K (dX5_goRounds 17 rfl) zk_i5 ?_
      refine zcp_POWN_PCOM K [] w_635 ⟨Nat.le_of_ble_eq_true rfl, Nat.le_of_ble_eq_true rfl⟩ (dX5_goRounds 18 rfl) ?_
      have e2 : (zcpr (zcpr (gR σ 10 r0) 13 10) 10 9).2.2 = σ.2.2 := (zcpr_22 (zcpr (gR σ 10 r0) 13 10) 10 9).trans e1
      refine zi_iconst K (dX5_goRounds 19 rfl) zk_i0 ?_
      refine zi_istore K [(4, .int 0), (0, .ref (ad 18 0)), (1, .ref (ad 24 0)), (2, .int (nI n)), (3, .int (nI r0))] (dX5_goRounds 20 rfl) (by decide) rfl ?_
      refine zV.pick [1, 2, 3, 4, 0] (lo' := [(0, .ref (ad 18 0)), (1, .ref (ad 24 0)), (2, .int (nI n)), (3, .int (nI r0)), (4, .int 0)]) rfl ?_
      suffices hloop32 : ∀ (r i : Nat), i ≤ 5 → 5 - i < r → zV G X 5 (zP G ad (gI (zcpr (zcpr (gR σ 10 r0) 13 10) 10 9) 10 i)) (0) (0) 32 [(0, .ref (ad 18 0)), (1, .ref (ad 24 0)), (2, .int (nI n)), (3, .int (nI r0)), (4, .int (nI i))] [] from hloop32 (5 + 1) 0 (Nat.zero_le _) (Nat.lt_succ_of_le (Nat.sub_le _ _))
      intro r
      induction r with
      | zero => intro i _ h; exact absurd h (Nat.not_lt_zero _)
      | succ r ih32 =>
        intro i hi32 hr32
        refine zi_iload K (dX5_goRounds 21 rfl) 4 rfl ?_
        refine zi_iconst K (dX5_goRounds 22 rfl) zk_i5 ?_
        refine zi_icmp_ge K 69 (dX5_goRounds 23 rfl) rfl (fun h35_0 => ?_) (fun h35_0 => ?_)
        · skip
          have hN32 := zloop_exit (by decide) (Nat.le_of_ble_eq_true rfl) hi32 h35_0
          subst hN32
          refine zi_iinc K (v := nI (r0 + 1)) [(3, .int (nI (r0 + 1))), (0, .ref (ad 18 0)), (1, .ref (ad 24 0)), (2, .int (nI n)), (4, .int (nI 5))] (dX5_goRounds 42 rfl) 3 rfl (zk_inc _) (by decide) rfl ?_
          refine zi_goto K 2 (dX5_goRounds 43 rfl) rfl ?_
          refine zV.pick [1, 2, 3, 0] (lo' := [(0, .ref (ad 18 0)), (1, .ref (ad 24 0)), (2, .int (nI n)), (3, .int (nI (r0 + 1)))]) rfl ?_
          refine zV.st (σ' := gR σ 10 (r0 + 1)) (by first | rfl | (simp only [gR])) ?_
          exact ih2 (r0 + 1) (by omega) (by omega)
        · skip
          have hlt32 := zloop_in (by decide) (Nat.le_of_ble_eq_true rfl) hi32 h35_0
          have hrc2 := zRc_mv (σ := σ) (σ' := (gI (zcpr (zcpr (gR σ 10 r0) 13 10) 10 9) 10 i)) ((gI_1 _ _ _).trans (gR_1 _ _ _)) hrc i hlt32
          refine zi_aload_n K (dX5_goRounds 24 rfl) 1 rfl ?_
          refine zi_aload_n K (dX5_goRounds 25 rfl) 0 rfl ?_
          refine zg_POOL_receivers K rfl w_161 (dX5_goRounds 26 rfl) ?_
          refine zi_iload K (dX5_goRounds 27 rfl) 4 rfl ?_
          refine zl_PREC K rfl i rfl (by omega) (dX5_goRounds 28 rfl) ?_
          refine zi_dup2_11 K (dX5_goRounds 29 rfl) rfl rfl ?_
          refine zl_PCOM K rfl ((sI (gI (zcpr (zcpr (gR σ 10 r0) 13 10) 10 9) 10 i) 32 0 i).toNatClampNeg) hrc2.1 hrc2.2 (dX5_goRounds 30 rfl) ?_
          refine zi_aload_n K (dX5_goRounds 31 rfl) 0 rfl ?_
          refine zi_iload K (dX5_goRounds 32 rfl) 4 rfl ?_
          refine zi_aload_n K (dX5_goRounds 33 rfl) 0 rfl ?_
          refine zg_POOL_before K rfl w_173 (dX5_goRounds 34 rfl) ?_
          refine zi_iload K (dX5_goRounds 35 rfl) 4 rfl ?_
          refine zl_PBEF K rfl i rfl (by omega) (dX5_goRounds 36 rfl) ?_
          refine zi_callV K (na := 2) [.long (sL (gI (zcpr (zcpr (gR σ 10 r0) 13 10) 10 9) 10 i) 10 0 ((sI (gI (zcpr (zcpr (gR σ 10 r0) 13 10) 10 9) 10 i) 32 0 i).toNatClampNeg)), .int (sI (gI (zcpr (zcpr (gR σ 10 r0) 13 10) 10 9) 10 i) 32 0 i), .ref (ad 24 0)] [.long (v_handedOn (gI (zcpr (zcpr (gR σ 10 r0) 13 10) 10 9) 10 i) i (sL (gI (zcpr (zcpr (gR σ 10 r0) 13 10) 10 9) 10 i) 13 0 i)), .long (sL (gI (zcpr (zcpr (gR σ 10 r0) 13 10) 10 9) 10 i) 10 0 ((sI (gI (zcpr (zcpr (gR σ 10 r0) 13 10) 10 9) 10 i) 32 0 i).toNatClampNeg)), .int (sI (gI (zcpr (zcpr (gR σ 10 r0) 13 10) 10 9) 10 i) 32 0 i), .ref (ad 24 0)] (c_handedOn (σ := (gI (zcpr (zcpr (gR σ 10 r0) 13 10) 10 9) 10 i)) i (sL (gI (zcpr (zcpr (gR σ 10 r0) 13 10) 10 9) 10 i) 13 0 i) (by omega)) (dX5_goRounds 37 rfl) w_636 w_637 w_638 w_31 w_639 (by decide +kernel) rfl (fun H h => zi_recv K (zr_POOL (σ := (gI (zcpr (zcpr (gR σ 10 r0) 13 10) 10 9) 10 i)) rfl H h).1 rfl) (fun H h => h) ⟨Nat.le_of_ble_eq_true rfl, Nat.le_of_ble_eq_true rfl⟩ ⟨Nat.le_refl _, Nat.le_refl _⟩ (Nat.le_of_ble_eq_true rfl) rfl rfl ?_
          refine zi_ladd K (dX5_goRounds 38 rfl) ?_
          refine zs_PCOM K rfl ((sI (gI (zcpr (zcpr (gR σ 10 r0) 13 10) 10 9) 10 i) 32 0 i).toNatClampNeg) hrc2.1 hrc2.2 (dX5_goRounds 39 rfl) ?_
          have e3 : (uL (gI (zcpr (zcpr (gR σ 10 r0) 13 10) 10 9) 10 i) 10 0 ((sI (gI (zcpr (zcpr (gR σ 10 r0) 13 10) 10 9) 10 i) 32 0 i).toNatClampNeg) ((sL (gI (zcpr (zcpr (gR σ 10 r0) 13 10) 10 9) 10 i) 10 0 ((sI (gI (zcpr (zcpr (gR σ 10 r0) 13 10) 10 9) 10 i) 32 0 i).toNatClampNeg)) + (v_handedOn (gI (zcpr (zcpr (gR σ 10 r0) 13 10) 10 9) 10 i) i (sL (gI (zcpr (zcpr (gR σ 10 r0) 13 10) 10 9) 10 i) 13 0 i)))).2.2 = σ.2.2 := (uL_22 (gI (zcpr (zcpr (gR σ 10 r0) 13 10) 10 9) 10 i) 10 0 ((sI (gI (zcpr (zcpr (gR σ 10 r0) 13 10) 10 9) 10 i) 32 0 i).toNatClampNeg) ((sL (gI (zcpr (zcpr (gR σ 10 r0) 13 10) 10 9) 10 i) 10 0 ((sI (gI (zcpr (zcpr (gR σ 10 r0) 13 10) 10 9) 10 i) 32 0 i).toNatClampNeg)) + (v_handedOn (gI (zcpr (zcpr (gR σ 10 r0) 13 10) 10 9) 10 i) i (sL (gI (zcpr (zcpr (gR σ 10 r0) 13 10) 10 9) 10 i) 13 0 i)))).trans ((gI_22 _ _ _).trans (gR_22 σ 10 r0))
          refine zi_iinc K (v := nI (i + 1)) [(4, .int (nI (i + 1))), (0, .ref (ad 18 0)), (1, .ref (ad 24 0)), (2, .int (nI n)), (3, .int (nI r0))] (dX5_goRounds 40 rfl) 4 rfl (zk_inc _) (by decide) rfl ?_
          refine zi_goto K 32 (dX5_goRounds 41 rfl) rfl ?_
          refine zV.pick [1, 2, 3, 4, 0] (lo' := [(0, .ref (ad 18 0)), (1, .ref (ad 24 0)), (2, .int (nI n)), (3, .int (nI r0)), (4, .int (nI (i + 1)))]) rfl ?_
          refine zV.st (σ' := gI (zcpr (zcpr (gR σ 10 r0) 13 10) 10 9) 10 (i + 1)) (by first | rfl | (simp only [gI])) ?_
          exact ih32 (i + 1) (by omega) (by omega)
def s_goR_PABV (σ : zSt) (n : Nat) : zSt := (gR σ 12 n)
theorem s_goR_PABV_22 (σ : zSt) (n : Nat) : (s_goR_PABV σ n).2.2 = σ.2.2 := by
  unfold s_goR_PABV
  (repeat' split) <;> first | exact ((gR_22 σ 12 n).trans rfl)
set_option maxRecDepth 100000 in
set_option maxHeartbeats 4000000 in
theorem c_goR_PABV {G : zG} {ad : Nat → Nat → Nat} {σ : zSt} (n : Nat) (hn : n < 1000) (hrc : zRc σ) : zC G yX5_goRounds cX5_goRounds 5 none 2 40 0 0 [.ref (ad 18 0), .ref (ad 26 0), .int (nI n)] (zP G ad σ) none (zP G ad (s_goR_PABV σ n)) := by
  refine zC_of (by decide) (Nat.le_of_ble_eq_true rfl) (fun X K E hnm => ?_)
  show zV G X 5 (zP G ad σ) 0 0 0 [(0, .ref (ad 18 0)), (1, .ref (ad 26 0)), (2, .int (nI n))] []
  refine zi_iconst K (dX5_goRounds 0 rfl) zk_i0 ?_
  refine zi_istore_n K [(3, .int 0), (0, .ref (ad 18 0)), (1, .ref (ad 26 0)), (2, .int (nI n))] (dX5_goRounds 1 rfl) (by decide) rfl ?_
  refine zV.pick [1, 2, 3, 0] (lo' := [(0, .ref (ad 18 0)), (1, .ref (ad 26 0)), (2, .int (nI n)), (3, .int 0)]) rfl ?_
  suffices hloop2 : ∀ (r r0 : Nat), r0 ≤ n → n - r0 < r → zV G X 5 (zP G ad (gR σ 12 r0)) (0) (0) 2 [(0, .ref (ad 18 0)), (1, .ref (ad 26 0)), (2, .int (nI n)), (3, .int (nI r0))] [] from hloop2 (n + 1) 0 (Nat.zero_le _) (Nat.lt_succ_of_le (Nat.sub_le _ _))
  intro r
  induction r with
  | zero => intro r0 _ h; exact absurd h (Nat.not_lt_zero _)
  | succ r ih2 =>
    intro r0 hi2 hr2
    refine zi_iload_n K (dX5_goRounds 2 rfl) 3 rfl ?_
    refine zi_iload_n K (dX5_goRounds 3 rfl) 2 rfl ?_
    refine zi_icmp_ge K 75 (dX5_goRounds 4 rfl) rfl (fun h4_0 => ?_) (fun h4_0 => ?_)
    · skip
      have hN2 := zloop_exit rfl (by omega) hi2 h4_0
      subst hN2
      exact zi_vret K E (dX5_goRounds 44 rfl) (Nat.le_refl _) (Nat.le_refl _) rfl (fun H h => by exact h)
    · skip
      have hlt2 := zloop_in rfl (by omega) hi2 h4_0
      refine zi_aload_n K (dX5_goRounds 5 rfl) 1 rfl ?_
      refine zi_iconst K (dX5_goRounds 6 rfl) zk_i0 ?_
      refine zi_aload_n K (dX5_goRounds 7 rfl) 0 rfl ?_
      refine zg_POOL_before K rfl w_173 (dX5_goRounds 8 rfl) ?_
      refine zi_iconst K (dX5_goRounds 9 rfl) zk_i0 ?_
      refine zi_iconst K (dX5_goRounds 10 rfl) zk_i5 ?_
      refine zcp_PABV_PBEF K [] w_635 ⟨Nat.le_of_ble_eq_true rfl, Nat.le_of_ble_eq_true rfl⟩ (dX5_goRounds 11 rfl) ?_
      have e1 : (zcpr (gR σ 12 r0) 13 12).2.2 = σ.2.2 := (zcpr_22 (gR σ 12 r0) 13 12).trans (gR_22 σ 12 r0)
      refine zi_aload_n K (dX5_goRounds 12 rfl) 0 rfl ?_
      refine zg_POOL_own K rfl w_167 (dX5_goRounds 13 rfl) ?_
      refine zi_iconst K (dX5_goRounds 14 rfl) zk_i0 ?_
      refine zi_aload_n K (dX5_goRounds 15 rfl) 1 rfl ?_
      refine zi_iconst K (dX5_goRounds 16 rfl) zk_i0 ?_
      refine zi_iconst K (dX5_goRounds 17 rfl) zk_i5 ?_
      refine zcp_POWN_PABV K [] w_635 ⟨Nat.le_of_ble_eq_true rfl, Nat.le_of_ble_eq_true rfl⟩ (dX5_goRounds 18 rfl) ?_
      have e2 : (zcpr (zcpr (gR σ 12 r0) 13 12) 12 9).2.2 = σ.2.2 := (zcpr_22 (zcpr (gR σ 12 r0) 13 12) 12 9).trans e1
      refine zi_iconst K (dX5_goRounds 19 rfl) zk_i0 ?_
      refine zi_istore K [(4, .int 0), (0, .ref (ad 18 0)), (1, .ref (ad 26 0)), (2, .int (nI n)), (3, .int (nI r0))] (dX5_goRounds 20 rfl) (by decide) rfl ?_
      refine zV.pick [1, 2, 3, 4, 0] (lo' := [(0, .ref (ad 18 0)), (1, .ref (ad 26 0)), (2, .int (nI n)), (3, .int (nI r0)), (4, .int 0)]) rfl ?_
      suffices hloop32 : ∀ (r i : Nat), i ≤ 5 → 5 - i < r → zV G X 5 (zP G ad (gI (zcpr (zcpr (gR σ 12 r0) 13 12) 12 9) 12 i)) (0) (0) 32 [(0, .ref (ad 18 0)), (1, .ref (ad 26 0)), (2, .int (nI n)), (3, .int (nI r0)), (4, .int (nI i))] [] from hloop32 (5 + 1) 0 (Nat.zero_le _) (Nat.lt_succ_of_le (Nat.sub_le _ _))
      intro r
      induction r with
      | zero => intro i _ h; exact absurd h (Nat.not_lt_zero _)
      | succ r ih32 =>
        intro i hi32 hr32
        refine zi_iload K (dX5_goRounds 21 rfl) 4 rfl ?_
        refine zi_iconst K (dX5_goRounds 22 rfl) zk_i5 ?_
        refine zi_icmp_ge K 69 (dX5_goRounds 23 rfl) rfl (fun h35_0 => ?_) (fun h35_0 => ?_)
        · skip
          have hN32 := zloop_exit (by decide) (Nat.le_of_ble_eq_true rfl) hi32 h35_0
          subst hN32
          refine zi_iinc K (v := nI (r0 + 1)) [(3, .int (nI (r0 + 1))), (0, .ref (ad 18 0)), (1, .ref (ad 26 0)), (2, .int (nI n)), (4, .int (nI 5))] (dX5_goRounds 42 rfl) 3 rfl (zk_inc _) (by decide) rfl ?_
          refine zi_goto K 2 (dX5_goRounds 43 rfl) rfl ?_
          refine zV.pick [1, 2, 3, 0] (lo' := [(0, .ref (ad 18 0)), (1, .ref (ad 26 0)), (2, .int (nI n)), (3, .int (nI (r0 + 1)))]) rfl ?_
          refine zV.st (σ' := gR σ 12 (r0 + 1)) (by first | rfl | (simp only [gR])) ?_
          exact ih2 (r0 + 1) (by omega) (by omega)
        · skip
          have hlt32 := zloop_in (by decide) (Nat.le_of_ble_eq_true rfl) hi32 h35_0
          have hrc2 := zRc_mv (σ := σ) (σ' := (gI (zcpr (zcpr (gR σ 12 r0) 13 12) 12 9) 12 i)) ((gI_1 _ _ _).trans (gR_1 _ _ _)) hrc i hlt32
          refine zi_aload_n K (dX5_goRounds 24 rfl) 1 rfl ?_
          refine zi_aload_n K (dX5_goRounds 25 rfl) 0 rfl ?_
          refine zg_POOL_receivers K rfl w_161 (dX5_goRounds 26 rfl) ?_
          refine zi_iload K (dX5_goRounds 27 rfl) 4 rfl ?_
          refine zl_PREC K rfl i rfl (by omega) (dX5_goRounds 28 rfl) ?_
          refine zi_dup2_11 K (dX5_goRounds 29 rfl) rfl rfl ?_
          refine zl_PABV K rfl ((sI (gI (zcpr (zcpr (gR σ 12 r0) 13 12) 12 9) 12 i) 32 0 i).toNatClampNeg) hrc2.1 hrc2.2 (dX5_goRounds 30 rfl) ?_
          refine zi_aload_n K (dX5_goRounds 31 rfl) 0 rfl ?_
          refine zi_iload K (dX5_goRounds 32 rfl) 4 rfl ?_
          refine zi_aload_n K (dX5_goRounds 33 rfl) 0 rfl ?_
          refine zg_POOL_before K rfl w_173 (dX5_goRounds 34 rfl) ?_
          refine zi_iload K (dX5_goRounds 35 rfl) 4 rfl ?_
          refine zl_PBEF K rfl i rfl (by omega) (dX5_goRounds 36 rfl) ?_
          refine zi_callV K (na := 2) [.long (sL (gI (zcpr (zcpr (gR σ 12 r0) 13 12) 12 9) 12 i) 12 0 ((sI (gI (zcpr (zcpr (gR σ 12 r0) 13 12) 12 9) 12 i) 32 0 i).toNatClampNeg)), .int (sI (gI (zcpr (zcpr (gR σ 12 r0) 13 12) 12 9) 12 i) 32 0 i), .ref (ad 26 0)] [.long (v_handedOn (gI (zcpr (zcpr (gR σ 12 r0) 13 12) 12 9) 12 i) i (sL (gI (zcpr (zcpr (gR σ 12 r0) 13 12) 12 9) 12 i) 13 0 i)), .long (sL (gI (zcpr (zcpr (gR σ 12 r0) 13 12) 12 9) 12 i) 12 0 ((sI (gI (zcpr (zcpr (gR σ 12 r0) 13 12) 12 9) 12 i) 32 0 i).toNatClampNeg)), .int (sI (gI (zcpr (zcpr (gR σ 12 r0) 13 12) 12 9) 12 i) 32 0 i), .ref (ad 26 0)] (c_handedOn (σ := (gI (zcpr (zcpr (gR σ 12 r0) 13 12) 12 9) 12 i)) i (sL (gI (zcpr (zcpr (gR σ 12 r0) 13 12) 12 9) 12 i) 13 0 i) (by omega)) (dX5_goRounds 37 rfl) w_636 w_637 w_638 w_31 w_639 (by decide +kernel) rfl (fun H h => zi_recv K (zr_POOL (σ := (gI (zcpr (zcpr (gR σ 12 r0) 13 12) 12 9) 12 i)) rfl H h).1 rfl) (fun H h => h) ⟨Nat.le_of_ble_eq_true rfl, Nat.le_of_ble_eq_true rfl⟩ ⟨Nat.le_refl _, Nat.le_refl _⟩ (Nat.le_of_ble_eq_true rfl) rfl rfl ?_
          refine zi_ladd K (dX5_goRounds 38 rfl) ?_
          refine zs_PABV K rfl ((sI (gI (zcpr (zcpr (gR σ 12 r0) 13 12) 12 9) 12 i) 32 0 i).toNatClampNeg) hrc2.1 hrc2.2 (dX5_goRounds 39 rfl) ?_
          have e3 : (uL (gI (zcpr (zcpr (gR σ 12 r0) 13 12) 12 9) 12 i) 12 0 ((sI (gI (zcpr (zcpr (gR σ 12 r0) 13 12) 12 9) 12 i) 32 0 i).toNatClampNeg) ((sL (gI (zcpr (zcpr (gR σ 12 r0) 13 12) 12 9) 12 i) 12 0 ((sI (gI (zcpr (zcpr (gR σ 12 r0) 13 12) 12 9) 12 i) 32 0 i).toNatClampNeg)) + (v_handedOn (gI (zcpr (zcpr (gR σ 12 r0) 13 12) 12 9) 12 i) i (sL (gI (zcpr (zcpr (gR σ 12 r0) 13 12) 12 9) 12 i) 13 0 i)))).2.2 = σ.2.2 := (uL_22 (gI (zcpr (zcpr (gR σ 12 r0) 13 12) 12 9) 12 i) 12 0 ((sI (gI (zcpr (zcpr (gR σ 12 r0) 13 12) 12 9) 12 i) 32 0 i).toNatClampNeg) ((sL (gI (zcpr (zcpr (gR σ 12 r0) 13 12) 12 9) 12 i) 12 0 ((sI (gI (zcpr (zcpr (gR σ 12 r0) 13 12) 12 9) 12 i) 32 0 i).toNatClampNeg)) + (v_handedOn (gI (zcpr (zcpr (gR σ 12 r0) 13 12) 12 9) 12 i) i (sL (gI (zcpr (zcpr (gR σ 12 r0) 13 12) 12 9) 12 i) 13 0 i)))).trans ((gI_22 _ _ _).trans (gR_22 σ 12 r0))
          refine zi_iinc K (v := nI (i + 1)) [(4, .int (nI (i + 1))), (0, .ref (ad 18 0)), (1, .ref (ad 26 0)), (2, .int (nI n)), (3, .int (nI r0))] (dX5_goRounds 40 rfl) 4 rfl (zk_inc _) (by decide) rfl ?_
          refine zi_goto K 32 (dX5_goRounds 41 rfl) rfl ?_
          refine zV.pick [1, 2, 3, 4, 0] (lo' := [(0, .ref (ad 18 0)), (1, .ref (ad 26 0)), (2, .int (nI n)), (3, .int (nI r0)), (4, .int (nI (i + 1)))]) rfl ?_
          refine zV.st (σ' := gI (zcpr (zcpr (gR σ 12 r0) 13 12) 12 9) 12 (i + 1)) (by first | rfl | (simp only [gI])) ?_
          exact ih32 (i + 1) (by omega) (by omega)
end
section
/-! Pool: rings settled, what fits; bool loops -/
theorem zfL_1 (σ : zSt) (t o : Nat) (v : Int64) (i : Nat) : (zfL σ t o v i).1 = σ.1 := by
  induction i with
  | zero => rfl
  | succ i ih => exact ih
theorem s_fill_PCOM_1 (σ : zSt) (k : Nat) (v : Int64) : (s_fill_PCOM σ k v).1 = σ.1 := zfL_1 _ _ _ _ _
theorem s_fill_PABV_1 (σ : zSt) (k : Nat) (v : Int64) : (s_fill_PABV σ k v).1 = σ.1 := zfL_1 _ _ _ _ _
theorem s_goR_PCOM_1 (σ : zSt) (n : Nat) : (s_goR_PCOM σ n).1 = σ.1 := gR_1 _ _ _
theorem s_goR_PABV_1 (σ : zSt) (n : Nat) : (s_goR_PABV σ n).1 = σ.1 := gR_1 _ _ _
/-- what still rises is taken from above -/
def rgL (σ : zSt) : Nat → zSt
  | 0 => σ
  | i + 1 => if sL (rgL σ i) 10 0 i = sL (rgL σ i) 11 0 i then rgL σ i else uL (rgL σ i) 10 0 i (sL (rgL σ i) 12 0 i)
theorem rgL_1 (σ : zSt) (i : Nat) : (rgL σ i).1 = σ.1 := by
  induction i with
  | zero => rfl
  | succ i ih =>
    unfold rgL
    split
    · exact ih
    · exact ih
theorem rgL_22 (σ : zSt) (i : Nat) : (rgL σ i).2.2 = σ.2.2 := by
  induction i with
  | zero => rfl
  | succ i ih =>
    unfold rgL
    split
    · exact ih
    · exact ih
def zall (p : Nat → Bool) : Nat → Bool
  | 0 => true
  | n + 1 => zall p n && p n
theorem zall_s {p : Nat → Bool} {n : Nat} (h : zall p n = true) (h2 : p n = true) : zall p (n + 1) = true := by
  show (zall p n && p n) = true
  rw [h, h2]
  rfl
theorem zall_f {p : Nat → Bool} {i : Nat} (h : p i = false) : ∀ {n : Nat}, i < n → zall p n = false := by
  intro n
  induction n with
  | zero => intro hi; exact absurd hi (Nat.not_lt_zero _)
  | succ n ih =>
    intro hi
    show (zall p n && p n) = false
    by_cases e : i = n
    · rw [← e, h, Bool.and_false]
    · rw [ih (by omega), Bool.false_and]
theorem zall_iff {p : Nat → Bool} {n : Nat} : zall p n = true ↔ ∀ i, i < n → p i = true := by
  constructor
  · intro h i hi
    cases hp : p i with
    | true => rfl
    | false => rw [zall_f hp hi] at h; cases h
  · intro h
    induction n with
    | zero => rfl
    | succ n ih => exact zall_s (ih fun i hi => h i (by omega)) (h n (by omega))
def s_rings (σ : zSt)  : zSt := (rgL (s_goR_PABV (s_fill_PABV (s_goR_PCOM (zcpr (s_goR_PCOM (s_fill_PCOM σ 0 0) 10) 11 10) 5) 0 1000000000000) 10) 5)
theorem s_rings_22 (σ : zSt)  : (s_rings σ ).2.2 = σ.2.2 := by
  unfold s_rings
  (repeat' split) <;> first | exact ((rgL_22 (s_goR_PABV (s_fill_PABV (s_goR_PCOM (zcpr (s_goR_PCOM (s_fill_PCOM σ 0 0) 10) 11 10) 5) 0 1000000000000) 10) 5).trans ((s_goR_PABV_22 (s_fill_PABV (s_goR_PCOM (zcpr (s_goR_PCOM (s_fill_PCOM σ 0 0) 10) 11 10) 5) 0 1000000000000) 10).trans ((s_fill_PABV_22 (s_goR_PCOM (zcpr (s_goR_PCOM (s_fill_PCOM σ 0 0) 10) 11 10) 5) 0 1000000000000).trans ((s_goR_PCOM_22 (zcpr (s_goR_PCOM (s_fill_PCOM σ 0 0) 10) 11 10) 5).trans ((zcpr_22 (s_goR_PCOM (s_fill_PCOM σ 0 0) 10) 11 10).trans ((s_goR_PCOM_22 (s_fill_PCOM σ 0 0) 10).trans ((s_fill_PCOM_22 σ 0 0).trans rfl)))))))
set_option maxRecDepth 100000 in
set_option maxHeartbeats 4000000 in
theorem c_rings {G : zG} {ad : Nat → Nat → Nat} {σ : zSt}  (hrc : zRc σ) : zC G yX5_settleRings cX5_settleRings 2 none 3 64 0 0 [.ref (ad 18 0)] (zP G ad σ) none (zP G ad (s_rings σ )) := by
  refine zC_of (by decide) (Nat.le_of_ble_eq_true rfl) (fun X K E hnm => ?_)
  show zV G X 2 (zP G ad σ) 0 0 0 [(0, .ref (ad 18 0))] []
  refine zi_aload_n K (dX5_settleRings 0 rfl) 0 rfl ?_
  refine zg_POOL_comes K rfl w_169 (dX5_settleRings 1 rfl) ?_
  refine zi_lconst K (dX5_settleRings 2 rfl) zk_l0 ?_
  refine zi_callS K (na := 2) (As := [.ref (ad 24 0), .long 0]) [] [] (c_fill_PCOM  0 0 rfl) (dX5_settleRings 3 rfl) w_630 w_359 w_40 w_360 (by decide +kernel) rfl (fun H h => h) ⟨Nat.le_of_ble_eq_true rfl, Nat.le_of_ble_eq_true rfl⟩ ⟨Nat.le_refl _, Nat.le_refl _⟩ (Nat.le_of_ble_eq_true rfl) rfl rfl ?_
  have e1 : (s_fill_PCOM σ 0 0).2.2 = σ.2.2 := (s_fill_PCOM_22 σ 0 0).trans rfl
  refine zi_aload_n K (dX5_settleRings 4 rfl) 0 rfl ?_
  refine zi_aload_n K (dX5_settleRings 5 rfl) 0 rfl ?_
  refine zg_POOL_comes K rfl w_169 (dX5_settleRings 6 rfl) ?_
  refine zi_bipush K (dX5_settleRings 7 rfl) zk_b10 ?_
  refine zi_callV K (na := 2) [] [] (c_goR_PCOM (σ := (s_fill_PCOM σ 0 0)) 10 (by decide) (zRc_mv (σ := σ) (σ' := (s_fill_PCOM σ 0 0)) ((s_fill_PCOM_1 σ 0 0).trans rfl) hrc)) (dX5_settleRings 8 rfl) w_631 w_633 w_17 w_31 w_634 (by decide +kernel) rfl (fun H h => zi_recv K (zr_POOL (σ := (s_fill_PCOM σ 0 0)) rfl H h).1 rfl) (fun H h => h) ⟨Nat.le_of_ble_eq_true rfl, Nat.le_of_ble_eq_true rfl⟩ ⟨Nat.le_refl _, Nat.le_refl _⟩ (Nat.le_of_ble_eq_true rfl) rfl rfl ?_
  have e2 : (s_goR_PCOM (s_fill_PCOM σ 0 0) 10).2.2 = σ.2.2 := (s_goR_PCOM_22 (s_fill_PCOM σ 0 0) 10).trans e1
  refine zi_aload_n K (dX5_settleRings 9 rfl) 0 rfl ?_
  refine zg_POOL_comes K rfl w_169 (dX5_settleRings 10 rfl) ?_
  refine zi_iconst K (dX5_settleRings 11 rfl) zk_i0 ?_
  refine zi_aload_n K (dX5_settleRings 12 rfl) 0 rfl ?_
  refine zg_POOL_early K rfl w_171 (dX5_settleRings 13 rfl) ?_
  refine zi_iconst K (dX5_settleRings 14 rfl) zk_i0 ?_
  refine zi_iconst K (dX5_settleRings 15 rfl) zk_i5 ?_
  refine zcp_PCOM_PEAR K [] w_635 ⟨Nat.le_of_ble_eq_true rfl, Nat.le_of_ble_eq_true rfl⟩ (dX5_settleRings 16 rfl) ?_
  have e3 : (zcpr (s_goR_PCOM (s_fill_PCOM σ 0 0) 10) 11 10).2.2 = σ.2.2 := (zcpr_22 (s_goR_PCOM (s_fill_PCOM σ 0 0) 10) 11 10).trans e2
  refine zi_aload_n K (dX5_settleRings 17 rfl) 0 rfl ?_
  refine zi_aload_n K (dX5_settleRings 18 rfl) 0 rfl ?_
  refine zg_POOL_comes K rfl w_169 (dX5_settleRings 19 rfl) ?_
  refine zi_iconst K (dX5_settleRings 20 rfl) zk_i5 ?_
  refine zi_callV K (na := 2) [] [] (c_goR_PCOM (σ := (zcpr (s_goR_PCOM (s_fill_PCOM σ 0 0) 10) 11 10)) 5 (by decide) (zRc_mv (σ := σ) (σ' := (zcpr (s_goR_PCOM (s_fill_PCOM σ 0 0) 10) 11 10)) ((zcpr_1 (s_goR_PCOM (s_fill_PCOM σ 0 0) 10) 11 10).trans ((s_goR_PCOM_1 (s_fill_PCOM σ 0 0) 10).trans ((s_fill_PCOM_1 σ 0 0).trans rfl))) hrc)) (dX5_settleRings 21 rfl) w_631 w_633 w_17 w_31 w_634 (by decide +kernel) rfl (fun H h => zi_recv K (zr_POOL (σ := (zcpr (s_goR_PCOM (s_fill_PCOM σ 0 0) 10) 11 10)) rfl H h).1 rfl) (fun H h => h) ⟨Nat.le_of_ble_eq_true rfl, Nat.le_of_ble_eq_true rfl⟩ ⟨Nat.le_refl _, Nat.le_refl _⟩ (Nat.le_of_ble_eq_true rfl) rfl rfl ?_
  have e4 : (s_goR_PCOM (zcpr (s_goR_PCOM (s_fill_PCOM σ 0 0) 10) 11 10) 5).2.2 = σ.2.2 := (s_goR_PCOM_22 (zcpr (s_goR_PCOM (s_fill_PCOM σ 0 0) 10) 11 10) 5).trans e3
  refine zi_aload_n K (dX5_settleRings 22 rfl) 0 rfl ?_
  refine zg_POOL_above K rfl w_172 (dX5_settleRings 23 rfl) ?_
  refine zi_ldc2 K (dX5_settleRings 24 rfl) w_642 ?_
  refine zi_callS K (na := 2) (As := [.ref (ad 26 0), .long 1000000000000]) [] [] (c_fill_PABV (σ := (s_goR_PCOM (zcpr (s_goR_PCOM (s_fill_PCOM σ 0 0) 10) 11 10) 5)) 0 1000000000000 rfl) (dX5_settleRings 25 rfl) w_630 w_359 w_40 w_360 (by decide +kernel) rfl (fun H h => h) ⟨Nat.le_of_ble_eq_true rfl, Nat.le_of_ble_eq_true rfl⟩ ⟨Nat.le_refl _, Nat.le_refl _⟩ (Nat.le_of_ble_eq_true rfl) rfl rfl ?_
  have e5 : (s_fill_PABV (s_goR_PCOM (zcpr (s_goR_PCOM (s_fill_PCOM σ 0 0) 10) 11 10) 5) 0 1000000000000).2.2 = σ.2.2 := (s_fill_PABV_22 (s_goR_PCOM (zcpr (s_goR_PCOM (s_fill_PCOM σ 0 0) 10) 11 10) 5) 0 1000000000000).trans e4
  refine zi_aload_n K (dX5_settleRings 26 rfl) 0 rfl ?_
  refine zi_aload_n K (dX5_settleRings 27 rfl) 0 rfl ?_
  refine zg_POOL_above K rfl w_172 (dX5_settleRings 28 rfl) ?_
  refine zi_bipush K (dX5_settleRings 29 rfl) zk_b10 ?_
  refine zi_callV K (na := 2) [] [] (c_goR_PABV (σ := (s_fill_PABV (s_goR_PCOM (zcpr (s_goR_PCOM (s_fill_PCOM σ 0 0) 10) 11 10) 5) 0 1000000000000)) 10 (by decide) (zRc_mv (σ := σ) (σ' := (s_fill_PABV (s_goR_PCOM (zcpr (s_goR_PCOM (s_fill_PCOM σ 0 0) 10) 11 10) 5) 0 1000000000000)) ((s_fill_PABV_1 (s_goR_PCOM (zcpr (s_goR_PCOM (s_fill_PCOM σ 0 0) 10) 11 10) 5) 0 1000000000000).trans ((s_goR_PCOM_1 (zcpr (s_goR_PCOM (s_fill_PCOM σ 0 0) 10) 11 10) 5).trans ((zcpr_1 (s_goR_PCOM (s_fill_PCOM σ 0 0) 10) 11 10).trans ((s_goR_PCOM_1 (s_fill_PCOM σ 0 0) 10).trans ((s_fill_PCOM_1 σ 0 0).trans rfl))))) hrc)) (dX5_settleRings 30 rfl) w_631 w_633 w_17 w_31 w_634 (by decide +kernel) rfl (fun H h => zi_recv K (zr_POOL (σ := (s_fill_PABV (s_goR_PCOM (zcpr (s_goR_PCOM (s_fill_PCOM σ 0 0) 10) 11 10) 5) 0 1000000000000)) rfl H h).1 rfl) (fun H h => h) ⟨Nat.le_of_ble_eq_true rfl, Nat.le_of_ble_eq_true rfl⟩ ⟨Nat.le_refl _, Nat.le_refl _⟩ (Nat.le_of_ble_eq_true rfl) rfl rfl ?_
  have e6 : (s_goR_PABV (s_fill_PABV (s_goR_PCOM (zcpr (s_goR_PCOM (s_fill_PCOM σ 0 0) 10) 11 10) 5) 0 1000000000000) 10).2.2 = σ.2.2 := (s_goR_PABV_22 (s_fill_PABV (s_goR_PCOM (zcpr (s_goR_PCOM (s_fill_PCOM σ 0 0) 10) 11 10) 5) 0 1000000000000) 10).trans e5
  refine zi_iconst K (dX5_settleRings 31 rfl) zk_i0 ?_
  refine zi_istore_n K [(1, .int 0), (0, .ref (ad 18 0))] (dX5_settleRings 32 rfl) (by decide) rfl ?_
  refine zV.pick [1, 0] (lo' := [(0, .ref (ad 18 0)), (1, .int 0)]) rfl ?_
  suffices hloop63 : ∀ (r i : Nat), i ≤ 5 → 5 - i < r → zV G X 2 (zP G ad (rgL (s_goR_PABV (s_fill_PABV (s_goR_PCOM (zcpr (s_goR_PCOM (s_fill_PCOM σ 0 0) 10) 11 10) 5) 0 1000000000000) 10) i)) (0) (0) 63 [(0, .ref (ad 18 0)), (1, .int (nI i))] [] from hloop63 (5 + 1) 0 (Nat.zero_le _) (Nat.lt_succ_of_le (Nat.sub_le _ _))
  intro r
  induction r with
  | zero => intro i _ h; exact absurd h (Nat.not_lt_zero _)
  | succ r ih63 =>
    intro i hi63 hr63
    refine zi_iload_n K (dX5_settleRings 33 rfl) 1 rfl ?_
    refine zi_iconst K (dX5_settleRings 34 rfl) zk_i5 ?_
    refine zi_icmp_ge K 102 (dX5_settleRings 35 rfl) rfl (fun h65_0 => ?_) (fun h65_0 => ?_)
    · skip
      have hN63 := zloop_exit (by decide) (Nat.le_of_ble_eq_true rfl) hi63 h65_0
      subst hN63
      exact zi_vret K E (dX5_settleRings 56 rfl) (Nat.le_refl _) (Nat.le_refl _) rfl (fun H h => by exact h)
    · skip
      have hlt63 := zloop_in (by decide) (Nat.le_of_ble_eq_true rfl) hi63 h65_0
      refine zi_aload_n K (dX5_settleRings 36 rfl) 0 rfl ?_
      refine zg_POOL_comes K rfl w_169 (dX5_settleRings 37 rfl) ?_
      refine zi_iload_n K (dX5_settleRings 38 rfl) 1 rfl ?_
      refine zl_PCOM K rfl i rfl (by omega) (dX5_settleRings 39 rfl) ?_
      refine zi_aload_n K (dX5_settleRings 40 rfl) 0 rfl ?_
      refine zg_POOL_early K rfl w_171 (dX5_settleRings 41 rfl) ?_
      refine zi_iload_n K (dX5_settleRings 42 rfl) 1 rfl ?_
      refine zl_PEAR K rfl i rfl (by omega) (dX5_settleRings 43 rfl) ?_
      refine zi_lif_eq K 96 (dX5_settleRings 44 rfl) (dX5_settleRings 45 rfl) rfl (fun h80_0 => ?_) (fun h80_0 => ?_)
      · skip
        refine zi_iinc K (v := nI (i + 1)) [(1, .int (nI (i + 1))), (0, .ref (ad 18 0))] (dX5_settleRings 54 rfl) 1 rfl (zk_inc _) (by decide) rfl ?_
        refine zi_goto K 63 (dX5_settleRings 55 rfl) rfl ?_
        refine zV.pick [1, 0] (lo' := [(0, .ref (ad 18 0)), (1, .int (nI (i + 1)))]) rfl ?_
        refine zV.st (σ' := rgL (s_goR_PABV (s_fill_PABV (s_goR_PCOM (zcpr (s_goR_PCOM (s_fill_PCOM σ 0 0) 10) 11 10) 5) 0 1000000000000) 10) (i + 1)) (by simp only [rgL, if_pos h80_0]) ?_
        exact ih63 (i + 1) (by omega) (by omega)
      · skip
        refine zi_aload_n K (dX5_settleRings 46 rfl) 0 rfl ?_
        refine zg_POOL_comes K rfl w_169 (dX5_settleRings 47 rfl) ?_
        refine zi_iload_n K (dX5_settleRings 48 rfl) 1 rfl ?_
        refine zi_aload_n K (dX5_settleRings 49 rfl) 0 rfl ?_
        refine zg_POOL_above K rfl w_172 (dX5_settleRings 50 rfl) ?_
        refine zi_iload_n K (dX5_settleRings 51 rfl) 1 rfl ?_
        refine zl_PABV K rfl i rfl (by omega) (dX5_settleRings 52 rfl) ?_
        refine zs_PCOM K rfl i rfl (by omega) (dX5_settleRings 53 rfl) ?_
        have e7 : (uL (rgL (s_goR_PABV (s_fill_PABV (s_goR_PCOM (zcpr (s_goR_PCOM (s_fill_PCOM σ 0 0) 10) 11 10) 5) 0 1000000000000) 10) i) 10 0 i (sL (rgL (s_goR_PABV (s_fill_PABV (s_goR_PCOM (zcpr (s_goR_PCOM (s_fill_PCOM σ 0 0) 10) 11 10) 5) 0 1000000000000) 10) i) 12 0 i)).2.2 = σ.2.2 := (uL_22 (rgL (s_goR_PABV (s_fill_PABV (s_goR_PCOM (zcpr (s_goR_PCOM (s_fill_PCOM σ 0 0) 10) 11 10) 5) 0 1000000000000) 10) i) 10 0 i (sL (rgL (s_goR_PABV (s_fill_PABV (s_goR_PCOM (zcpr (s_goR_PCOM (s_fill_PCOM σ 0 0) 10) 11 10) 5) 0 1000000000000) 10) i) 12 0 i)).trans ((rgL_22 _ _).trans ((s_goR_PABV_22 (s_fill_PABV (s_goR_PCOM (zcpr (s_goR_PCOM (s_fill_PCOM σ 0 0) 10) 11 10) 5) 0 1000000000000) 10).trans ((s_fill_PABV_22 (s_goR_PCOM (zcpr (s_goR_PCOM (s_fill_PCOM σ 0 0) 10) 11 10) 5) 0 1000000000000).trans ((s_goR_PCOM_22 (zcpr (s_goR_PCOM (s_fill_PCOM σ 0 0) 10) 11 10) 5).trans ((zcpr_22 (s_goR_PCOM (s_fill_PCOM σ 0 0) 10) 11 10).trans ((s_goR_PCOM_22 (s_fill_PCOM σ 0 0) 10).trans ((s_fill_PCOM_22 σ 0 0).trans rfl)))))))
        refine zi_iinc K (v := nI (i + 1)) [(1, .int (nI (i + 1))), (0, .ref (ad 18 0))] (dX5_settleRings 54 rfl) 1 rfl (zk_inc _) (by decide) rfl ?_
        refine zi_goto K 63 (dX5_settleRings 55 rfl) rfl ?_
        refine zV.pick [1, 0] (lo' := [(0, .ref (ad 18 0)), (1, .int (nI (i + 1)))]) rfl ?_
        refine zV.st (σ' := rgL (s_goR_PABV (s_fill_PABV (s_goR_PCOM (zcpr (s_goR_PCOM (s_fill_PCOM σ 0 0) 10) 11 10) 5) 0 1000000000000) 10) (i + 1)) (by simp only [rgL, if_neg h80_0]) ?_
        exact ih63 (i + 1) (by omega) (by omega)
def v_fits (σ : zSt)  : Int32 := if zall (fun y => sL (s_goR_PABV (zcpr σ 12 10) 1) 12 0 y == sL (s_goR_PABV (zcpr σ 12 10) 1) 10 0 y) 5 = true then 1 else 0
def s_fits (σ : zSt)  : zSt := (s_goR_PABV (zcpr σ 12 10) 1)
theorem s_fits_22 (σ : zSt)  : (s_fits σ ).2.2 = σ.2.2 := by
  unfold s_fits
  (repeat' split) <;> first | exact ((s_goR_PABV_22 (zcpr σ 12 10) 1).trans ((zcpr_22 σ 12 10).trans rfl))
set_option maxRecDepth 100000 in
set_option maxHeartbeats 4000000 in
theorem c_fits {G : zG} {ad : Nat → Nat → Nat} {σ : zSt}  (hrc : zRc σ) : zC G yX5_fits cX5_fits 2 (some FieldType.boolean) 3 64 0 0 [.ref (ad 18 0)] (zP G ad σ) (some (.int (v_fits σ ))) (zP G ad (s_fits σ )) := by
  refine zC_of (by decide) (Nat.le_of_ble_eq_true rfl) (fun X K E hnm => ?_)
  show zV G X 2 (zP G ad σ) 0 0 0 [(0, .ref (ad 18 0))] []
  refine zi_aload_n K (dX5_fits 0 rfl) 0 rfl ?_
  refine zg_POOL_comes K rfl w_169 (dX5_fits 1 rfl) ?_
  refine zi_iconst K (dX5_fits 2 rfl) zk_i0 ?_
  refine zi_aload_n K (dX5_fits 3 rfl) 0 rfl ?_
  refine zg_POOL_above K rfl w_172 (dX5_fits 4 rfl) ?_
  refine zi_iconst K (dX5_fits 5 rfl) zk_i0 ?_
  refine zi_iconst K (dX5_fits 6 rfl) zk_i5 ?_
  refine zcp_PCOM_PABV K [] w_635 ⟨Nat.le_of_ble_eq_true rfl, Nat.le_of_ble_eq_true rfl⟩ (dX5_fits 7 rfl) ?_
  refine zi_aload_n K (dX5_fits 8 rfl) 0 rfl ?_
  refine zi_aload_n K (dX5_fits 9 rfl) 0 rfl ?_
  refine zg_POOL_above K rfl w_172 (dX5_fits 10 rfl) ?_
  refine zi_iconst K (dX5_fits 11 rfl) zk_i1 ?_
  refine zi_callV K (na := 2) [] [] (c_goR_PABV (σ := (zcpr σ 12 10)) 1 (by decide) (zRc_mv (σ := σ) (σ' := (zcpr σ 12 10)) ((zcpr_1 σ 12 10).trans rfl) hrc)) (dX5_fits 12 rfl) w_631 w_633 w_17 w_31 w_634 (by decide +kernel) rfl (fun H h => zi_recv K (zr_POOL (σ := (zcpr σ 12 10)) rfl H h).1 rfl) (fun H h => h) ⟨Nat.le_of_ble_eq_true rfl, Nat.le_of_ble_eq_true rfl⟩ ⟨Nat.le_refl _, Nat.le_refl _⟩ (Nat.le_of_ble_eq_true rfl) rfl rfl ?_
  have e1 : (s_goR_PABV (zcpr σ 12 10) 1).2.2 = σ.2.2 := (s_goR_PABV_22 (zcpr σ 12 10) 1).trans rfl
  refine zi_iconst K (dX5_fits 13 rfl) zk_i0 ?_
  refine zi_istore_n K [(1, .int 0), (0, .ref (ad 18 0))] (dX5_fits 14 rfl) (by decide) rfl ?_
  refine zV.pick [1, 0] (lo' := [(0, .ref (ad 18 0)), (1, .int 0)]) rfl ?_
  suffices hloop25 : ∀ (r i : Nat), i ≤ 5 → 5 - i < r → zall (fun y => sL (s_goR_PABV (zcpr σ 12 10) 1) 12 0 y == sL (s_goR_PABV (zcpr σ 12 10) 1) 10 0 y) i = true → zV G X 2 (zP G ad (s_goR_PABV (zcpr σ 12 10) 1)) (0) (0) 25 [(0, .ref (ad 18 0)), (1, .int (nI i))] [] from hloop25 (5 + 1) 0 (Nat.zero_le _) (Nat.lt_succ_of_le (Nat.sub_le _ _)) rfl
  intro r
  induction r with
  | zero => intro i _ h; exact absurd h (Nat.not_lt_zero _)
  | succ r ih25 =>
    intro i hi25 hr25 hv25
    refine zi_iload_n K (dX5_fits 15 rfl) 1 rfl ?_
    refine zi_iconst K (dX5_fits 16 rfl) zk_i5 ?_
    refine zi_icmp_ge K 54 (dX5_fits 17 rfl) rfl (fun h27_0 => ?_) (fun h27_0 => ?_)
    · skip
      have hN25 := zloop_exit (by decide) (Nat.le_of_ble_eq_true rfl) hi25 h27_0
      subst hN25
      refine zi_iconst K (dX5_fits 32 rfl) zk_i1 ?_
      exact zi_zret K E (dX5_fits 33 rfl) (Nat.le_refl _) (Nat.le_refl _) (by unfold v_fits; rw [if_pos hv25]) rfl (fun H h => by exact h)
    · skip
      have hlt25 := zloop_in (by decide) (Nat.le_of_ble_eq_true rfl) hi25 h27_0
      refine zi_aload_n K (dX5_fits 18 rfl) 0 rfl ?_
      refine zg_POOL_above K rfl w_172 (dX5_fits 19 rfl) ?_
      refine zi_iload_n K (dX5_fits 20 rfl) 1 rfl ?_
      refine zl_PABV K rfl i rfl (by omega) (dX5_fits 21 rfl) ?_
      refine zi_aload_n K (dX5_fits 22 rfl) 0 rfl ?_
      refine zg_POOL_comes K rfl w_169 (dX5_fits 23 rfl) ?_
      refine zi_iload_n K (dX5_fits 24 rfl) 1 rfl ?_
      refine zl_PCOM K rfl i rfl (by omega) (dX5_fits 25 rfl) ?_
      refine zi_lif_eq K 48 (dX5_fits 26 rfl) (dX5_fits 27 rfl) rfl (fun h42_0 => ?_) (fun h42_0 => ?_)
      · skip
        refine zi_iinc K (v := nI (i + 1)) [(1, .int (nI (i + 1))), (0, .ref (ad 18 0))] (dX5_fits 30 rfl) 1 rfl (zk_inc _) (by decide) rfl ?_
        refine zi_goto K 25 (dX5_fits 31 rfl) rfl ?_
        refine zV.pick [1, 0] (lo' := [(0, .ref (ad 18 0)), (1, .int (nI (i + 1)))]) rfl ?_
        exact ih25 (i + 1) (by omega) (by omega) (zall_s hv25 (by simp only [beq_iff_eq]; exact h42_0))
      · skip
        refine zi_iconst K (dX5_fits 28 rfl) zk_i0 ?_
        exact zi_zret K E (dX5_fits 29 rfl) (Nat.le_refl _) (Nat.le_refl _) (by unfold v_fits; rw [if_neg (by rw [zall_f (p := fun y => sL (s_goR_PABV (zcpr σ 12 10) 1) 12 0 y == sL (s_goR_PABV (zcpr σ 12 10) 1) 10 0 y) (i := i) (by simp only [beq_eq_false_iff_ne]; exact h42_0) hlt25]; decide)]) rfl (fun H h => by exact h)
end
section
/-! Flow: what is whole, what limits keep -/
def zaccL (a : Int64) (f : Nat → Int64) : Nat → Int64
  | 0 => a
  | i + 1 => zaccL a f i + f i
def v_lossWhole (σ : zSt) (b : Nat) : Int32 := if zall (fun y => zaccL (sL σ 0 (lx σ (5 + 4 * b) y) 0) (fun e => sL σ 1 (lx σ (5 + 4 * b) y) e) 8 == (sI σ 6 (lx σ (5 + 4 * b) y) 0).toInt64) (sZ σ (5 + 4 * b)) = true then 1 else 0
set_option maxRecDepth 100000 in
set_option maxHeartbeats 4000000 in
theorem c_lossWhole {G : zG} {ad : Nat → Nat → Nat} {σ : zSt} (b : Nat) (hb : b < 2) (h5 : zLW σ (5 + 4 * b)) : zC G yX2_areLossesWhole cX2_areLossesWhole 6 (some FieldType.boolean) 3 64 0 0 [.ref (ad 11 b)] (zP G ad σ) (some (.int (v_lossWhole σ b))) (zP G ad σ) := by
  refine zC_of (by decide) (Nat.le_of_ble_eq_true rfl) (fun X K E hnm => ?_)
  show zV G X 6 (zP G ad σ) 0 0 0 [(0, .ref (ad 11 b))] []
  refine zi_iconst K (dX2_areLossesWhole 0 rfl) zk_i0 ?_
  refine zi_istore_n K [(1, .int 0), (0, .ref (ad 11 b))] (dX2_areLossesWhole 1 rfl) (by decide) rfl ?_
  refine zV.pick [1, 0] (lo' := [(0, .ref (ad 11 b)), (1, .int 0)]) rfl ?_
  suffices hloop2 : ∀ (r i : Nat), i ≤ sZ σ (5 + 4 * b) → sZ σ (5 + 4 * b) - i < r → zall (fun y => zaccL (sL σ 0 (lx σ (5 + 4 * b) y) 0) (fun e => sL σ 1 (lx σ (5 + 4 * b) y) e) 8 == (sI σ 6 (lx σ (5 + 4 * b) y) 0).toInt64) i = true → zV G X 6 (zP G ad σ) (0) (0) 2 [(0, .ref (ad 11 b)), (1, .int (nI i))] [] from hloop2 (sZ σ (5 + 4 * b) + 1) 0 (Nat.zero_le _) (Nat.lt_succ_of_le (Nat.sub_le _ _)) rfl
  intro r
  induction r with
  | zero => intro i _ h; exact absurd h (Nat.not_lt_zero _)
  | succ r ih2 =>
    intro i hi2 hr2 hv2
    refine zi_iload_n K (dX2_areLossesWhole 2 rfl) 1 rfl ?_
    refine zi_aload_n K (dX2_areLossesWhole 3 rfl) 0 rfl ?_
    refine zg_FL_claims K hb w_132 (dX2_areLossesWhole 4 rfl) ?_
    refine zi_callV K (na := 0) [.int (nI i)] [.int (nI (sZ σ (5 + 4 * b))), .int (nI i)] (c_sizeN (σ := σ) (5 + 4 * b) (sZ σ (5 + 4 * b)) (zL_ok h5).1 rfl) (dX2_areLossesWhole 5 rfl) w_351 w_231 w_232 w_28 w_233 (by decide +kernel) rfl (fun H h => zrecv_LST K (zL_ok h5).1 h) (fun H h => h) ⟨Nat.le_of_ble_eq_true rfl, Nat.le_of_ble_eq_true rfl⟩ ⟨Nat.le_refl _, Nat.le_refl _⟩ (Nat.le_of_ble_eq_true rfl) rfl rfl ?_
    refine zi_icmp_ge K 77 (dX2_areLossesWhole 6 rfl) rfl (fun h10_0 => ?_) (fun h10_0 => ?_)
    · skip
      have hN2 := zloop_exit rfl (zL_b h5) hi2 h10_0
      subst hN2
      refine zi_iconst K (dX2_areLossesWhole 42 rfl) zk_i1 ?_
      exact zi_zret K E (dX2_areLossesWhole 43 rfl) (Nat.le_refl _) (Nat.le_refl _) (by unfold v_lossWhole; rw [if_pos hv2]) rfl (fun _ h => h)
    · skip
      have hlt2 := zloop_in rfl (zL_b h5) hi2 h10_0
      refine zi_aload_n K (dX2_areLossesWhole 7 rfl) 0 rfl ?_
      refine zg_FL_claims K hb w_132 (dX2_areLossesWhole 8 rfl) ?_
      refine zi_iload_n K (dX2_areLossesWhole 9 rfl) 1 rfl ?_
      refine zi_callV K (na := 1) [] [.ref (ad 2 (lx σ (5 + 4 * b) i))] (c_getK (σ := σ) (5 + 4 * b) i (lx σ (5 + 4 * b) i) 2 (zeK5 hb) (zL_ok h5) hlt2 (zL_x h5 hlt2)) (dX2_areLossesWhole 10 rfl) w_352 w_310 w_311 w_28 w_312 (by decide +kernel) rfl (fun H h => zrecv_LST K (zL_ok h5).1 h) (fun H h => h) ⟨Nat.le_of_ble_eq_true rfl, Nat.le_of_ble_eq_true rfl⟩ ⟨Nat.le_refl _, Nat.le_refl _⟩ (Nat.le_of_ble_eq_true rfl) rfl rfl ?_
      refine zi_cast K (fun H h => (zr_CL (σ := σ) (zL_lv h5 hlt2 (zeK5 hb)) H h).1) rfl w_353 (dX2_areLossesWhole 11 rfl) ?_
      refine zi_astore_n K [(2, .ref (ad 2 (lx σ (5 + 4 * b) i))), (0, .ref (ad 11 b)), (1, .int (nI i))] (dX2_areLossesWhole 12 rfl) (by decide) rfl ?_
      refine zi_aload_n K (dX2_areLossesWhole 13 rfl) 0 rfl ?_
      refine zg_CL_left K (zL_lv h5 hlt2 (zeK5 hb)) w_759 (dX2_areLossesWhole 14 rfl) ?_
      refine zi_lstore_n K [(3, .long (sL σ 0 (lx σ (5 + 4 * b) i) 0)), (2, .ref (ad 2 (lx σ (5 + 4 * b) i))), (0, .ref (ad 11 b)), (1, .int (nI i))] (dX2_areLossesWhole 15 rfl) (by decide) rfl ?_
      refine zi_iconst K (dX2_areLossesWhole 16 rfl) zk_i0 ?_
      refine zi_istore K [(5, .int 0), (3, .long (sL σ 0 (lx σ (5 + 4 * b) i) 0)), (2, .ref (ad 2 (lx σ (5 + 4 * b) i))), (0, .ref (ad 11 b)), (1, .int (nI i))] (dX2_areLossesWhole 17 rfl) (by decide) rfl ?_
      refine zV.pick [3, 4, 2, 1, 0] (lo' := [(0, .ref (ad 11 b)), (1, .int (nI i)), (2, .ref (ad 2 (lx σ (5 + 4 * b) i))), (3, .long (sL σ 0 (lx σ (5 + 4 * b) i) 0)), (5, .int 0)]) rfl ?_
      suffices hloop33 : ∀ (r q : Nat), q ≤ 8 → 8 - q < r → zV G X 6 (zP G ad σ) (0) (0) 33 [(0, .ref (ad 11 b)), (1, .int (nI i)), (2, .ref (ad 2 (lx σ (5 + 4 * b) i))), (3, .long (zaccL (sL σ 0 (lx σ (5 + 4 * b) i) 0) (fun e => sL σ 1 (lx σ (5 + 4 * b) i) e) q)), (5, .int (nI q))] [] from hloop33 (8 + 1) 0 (Nat.zero_le _) (Nat.lt_succ_of_le (Nat.sub_le _ _))
      intro r
      induction r with
      | zero => intro q _ h; exact absurd h (Nat.not_lt_zero _)
      | succ r ih33 =>
        intro q hi33 hr33
        refine zi_iload K (dX2_areLossesWhole 18 rfl) 4 rfl ?_
        refine zi_aload_n K (dX2_areLossesWhole 19 rfl) 2 rfl ?_
        refine zg_CL_took K (zL_lv h5 hlt2 (zeK5 hb)) w_742 (dX2_areLossesWhole 20 rfl) ?_
        refine zn_TOOK K (zL_lv h5 hlt2 (zeK5 hb)) (dX2_areLossesWhole 21 rfl) ?_
        refine zi_icmp_ge K 59 (dX2_areLossesWhole 22 rfl) rfl (fun h40_0 => ?_) (fun h40_0 => ?_)
        · skip
          have hN33 := zloop_exit (by decide) (Nat.le_of_ble_eq_true rfl) hi33 h40_0
          subst hN33
          refine zi_lload_n K (dX2_areLossesWhole 32 rfl) 3 rfl ?_
          refine zi_aload_n K (dX2_areLossesWhole 33 rfl) 2 rfl ?_
          refine zg_CL_amount K (zL_lv h5 hlt2 (zeK5 hb)) w_754 (dX2_areLossesWhole 34 rfl) ?_
          refine zi_i2l K (dX2_areLossesWhole 35 rfl) ?_
          refine zi_lif_eq K 71 (dX2_areLossesWhole 36 rfl) (dX2_areLossesWhole 37 rfl) rfl (fun h65_0 => ?_) (fun h65_0 => ?_)
          · skip
            refine zi_iinc K (v := nI (i + 1)) [(1, .int (nI (i + 1))), (0, .ref (ad 11 b)), (2, .ref (ad 2 (lx σ (5 + 4 * b) i))), (3, .long (zaccL (sL σ 0 (lx σ (5 + 4 * b) i) 0) (fun e => sL σ 1 (lx σ (5 + 4 * b) i) e) 8)), (5, .int (nI 8))] (dX2_areLossesWhole 40 rfl) 1 rfl (zk_inc _) (by decide) rfl ?_
            refine zi_goto K 2 (dX2_areLossesWhole 41 rfl) rfl ?_
            refine zV.pick [1, 0] (lo' := [(0, .ref (ad 11 b)), (1, .int (nI (i + 1)))]) rfl ?_
            exact ih2 (i + 1) (by omega) (by omega) (zall_s hv2 (by simp only [beq_iff_eq]; exact h65_0))
          · skip
            refine zi_iconst K (dX2_areLossesWhole 38 rfl) zk_i0 ?_
            exact zi_zret K E (dX2_areLossesWhole 39 rfl) (Nat.le_refl _) (Nat.le_refl _) (by unfold v_lossWhole; rw [if_neg (by rw [zall_f (p := fun y => zaccL (sL σ 0 (lx σ (5 + 4 * b) y) 0) (fun e => sL σ 1 (lx σ (5 + 4 * b) y) e) 8 == (sI σ 6 (lx σ (5 + 4 * b) y) 0).toInt64) (i := i) (by simp only [beq_eq_false_iff_ne]; exact h65_0) hlt2]; decide)]) rfl (fun _ h => h)
        · skip
          have hlt33 := zloop_in (by decide) (Nat.le_of_ble_eq_true rfl) hi33 h40_0
          refine zi_lload_n K (dX2_areLossesWhole 23 rfl) 3 rfl ?_
          refine zi_aload_n K (dX2_areLossesWhole 24 rfl) 2 rfl ?_
          refine zg_CL_took K (zL_lv h5 hlt2 (zeK5 hb)) w_742 (dX2_areLossesWhole 25 rfl) ?_
          refine zi_iload K (dX2_areLossesWhole 26 rfl) 4 rfl ?_
          refine zl_TOOK K (zL_lv h5 hlt2 (zeK5 hb)) q rfl (by omega) (dX2_areLossesWhole 27 rfl) ?_
          refine zi_ladd K (dX2_areLossesWhole 28 rfl) ?_
          refine zi_lstore_n K [(3, .long ((zaccL (sL σ 0 (lx σ (5 + 4 * b) i) 0) (fun e => sL σ 1 (lx σ (5 + 4 * b) i) e) q) + (sL σ 1 (lx σ (5 + 4 * b) i) q))), (0, .ref (ad 11 b)), (1, .int (nI i)), (2, .ref (ad 2 (lx σ (5 + 4 * b) i))), (5, .int (nI q))] (dX2_areLossesWhole 29 rfl) (by decide) rfl ?_
          refine zi_iinc K (v := nI (q + 1)) [(5, .int (nI (q + 1))), (3, .long ((zaccL (sL σ 0 (lx σ (5 + 4 * b) i) 0) (fun e => sL σ 1 (lx σ (5 + 4 * b) i) e) q) + (sL σ 1 (lx σ (5 + 4 * b) i) q))), (0, .ref (ad 11 b)), (1, .int (nI i)), (2, .ref (ad 2 (lx σ (5 + 4 * b) i)))] (dX2_areLossesWhole 30 rfl) 4 rfl (zk_inc _) (by decide) rfl ?_
          refine zi_goto K 33 (dX2_areLossesWhole 31 rfl) rfl ?_
          refine zV.pick [2, 3, 4, 1, 0] (lo' := [(0, .ref (ad 11 b)), (1, .int (nI i)), (2, .ref (ad 2 (lx σ (5 + 4 * b) i))), (3, .long ((zaccL (sL σ 0 (lx σ (5 + 4 * b) i) 0) (fun e => sL σ 1 (lx σ (5 + 4 * b) i) e) q) + (sL σ 1 (lx σ (5 + 4 * b) i) q))), (5, .int (nI (q + 1)))]) rfl ?_
          refine zV.lov (lo' := [(0, .ref (ad 11 b)), (1, .int (nI i)), (2, .ref (ad 2 (lx σ (5 + 4 * b) i))), (3, .long (zaccL (sL σ 0 (lx σ (5 + 4 * b) i) 0) (fun e => sL σ 1 (lx σ (5 + 4 * b) i) e) (q + 1))), (5, .int (nI (q + 1)))]) (by first | rfl | (simp only [zaccL])) ?_
          exact ih33 (q + 1) (by omega) (by omega)
def v_limKept (σ : zSt) (b : Nat) : Int32 := if zall (fun y => if sI σ 19 (lx σ (6 + 4 * b) y % 8) 0 = 0 then (if v_wholeLimit σ (lx σ (6 + 4 * b) y % 8) < sL σ 3 (lx σ (6 + 4 * b) y) 0 then false else true) else true) (sZ σ (6 + 4 * b)) = true then 1 else 0
set_option maxRecDepth 100000 in
set_option maxHeartbeats 4000000 in
theorem c_limKept {G : zG} {ad : Nat → Nat → Nat} {σ : zSt} (b : Nat) (hb : b < 2) (hcv : ∀ j, zlV σ j → j % 8 < sN σ 2) (h6 : zLW σ (6 + 4 * b)) : zC G yX2_areLimitsKept cX2_areLimitsKept 3 (some FieldType.boolean) 3 64 0 0 [.ref (ad 11 b)] (zP G ad σ) (some (.int (v_limKept σ b))) (zP G ad σ) := by
  refine zC_of (by decide) (Nat.le_of_ble_eq_true rfl) (fun X K E hnm => ?_)
  show zV G X 3 (zP G ad σ) 0 0 0 [(0, .ref (ad 11 b))] []
  refine zi_iconst K (dX2_areLimitsKept 0 rfl) zk_i0 ?_
  refine zi_istore_n K [(1, .int 0), (0, .ref (ad 11 b))] (dX2_areLimitsKept 1 rfl) (by decide) rfl ?_
  refine zV.pick [1, 0] (lo' := [(0, .ref (ad 11 b)), (1, .int 0)]) rfl ?_
  suffices hloop2 : ∀ (r i : Nat), i ≤ sZ σ (6 + 4 * b) → sZ σ (6 + 4 * b) - i < r → zall (fun y => if sI σ 19 (lx σ (6 + 4 * b) y % 8) 0 = 0 then (if v_wholeLimit σ (lx σ (6 + 4 * b) y % 8) < sL σ 3 (lx σ (6 + 4 * b) y) 0 then false else true) else true) i = true → zV G X 3 (zP G ad σ) (0) (0) 2 [(0, .ref (ad 11 b)), (1, .int (nI i))] [] from hloop2 (sZ σ (6 + 4 * b) + 1) 0 (Nat.zero_le _) (Nat.lt_succ_of_le (Nat.sub_le _ _)) rfl
  intro r
  induction r with
  | zero => intro i _ h; exact absurd h (Nat.not_lt_zero _)
  | succ r ih2 =>
    intro i hi2 hr2 hv2
    refine zi_iload_n K (dX2_areLimitsKept 2 rfl) 1 rfl ?_
    refine zi_aload_n K (dX2_areLimitsKept 3 rfl) 0 rfl ?_
    refine zg_FL_covers K hb w_134 (dX2_areLimitsKept 4 rfl) ?_
    refine zi_callV K (na := 0) [.int (nI i)] [.int (nI (sZ σ (6 + 4 * b))), .int (nI i)] (c_sizeN (σ := σ) (6 + 4 * b) (sZ σ (6 + 4 * b)) (zL_ok h6).1 rfl) (dX2_areLimitsKept 5 rfl) w_351 w_231 w_232 w_28 w_233 (by decide +kernel) rfl (fun H h => zrecv_LST K (zL_ok h6).1 h) (fun H h => h) ⟨Nat.le_of_ble_eq_true rfl, Nat.le_of_ble_eq_true rfl⟩ ⟨Nat.le_refl _, Nat.le_refl _⟩ (Nat.le_of_ble_eq_true rfl) rfl rfl ?_
    refine zi_icmp_ge K 58 (dX2_areLimitsKept 6 rfl) rfl (fun h10_0 => ?_) (fun h10_0 => ?_)
    · skip
      have hN2 := zloop_exit rfl (zL_b h6) hi2 h10_0
      subst hN2
      refine zi_iconst K (dX2_areLimitsKept 28 rfl) zk_i1 ?_
      exact zi_zret K E (dX2_areLimitsKept 29 rfl) (Nat.le_refl _) (Nat.le_refl _) (by unfold v_limKept; rw [if_pos hv2]) rfl (fun _ h => h)
    · skip
      have hlt2 := zloop_in rfl (zL_b h6) hi2 h10_0
      refine zi_aload_n K (dX2_areLimitsKept 7 rfl) 0 rfl ?_
      refine zg_FL_covers K hb w_134 (dX2_areLimitsKept 8 rfl) ?_
      refine zi_iload_n K (dX2_areLimitsKept 9 rfl) 1 rfl ?_
      refine zi_callV K (na := 1) [] [.ref (ad 7 (lx σ (6 + 4 * b) i))] (c_getK (σ := σ) (6 + 4 * b) i (lx σ (6 + 4 * b) i) 7 (zeK6 hb) (zL_ok h6) hlt2 (zL_x h6 hlt2)) (dX2_areLimitsKept 10 rfl) w_352 w_310 w_311 w_28 w_312 (by decide +kernel) rfl (fun H h => zrecv_LST K (zL_ok h6).1 h) (fun H h => h) ⟨Nat.le_of_ble_eq_true rfl, Nat.le_of_ble_eq_true rfl⟩ ⟨Nat.le_refl _, Nat.le_refl _⟩ (Nat.le_of_ble_eq_true rfl) rfl rfl ?_
      refine zi_cast K (fun H h => (zr_COV (σ := σ) (zL_lv h6 hlt2 (zeK6 hb)) H h).1) rfl w_364 (dX2_areLimitsKept 11 rfl) ?_
      refine zi_astore_n K [(2, .ref (ad 7 (lx σ (6 + 4 * b) i))), (0, .ref (ad 11 b)), (1, .int (nI i))] (dX2_areLimitsKept 12 rfl) (by decide) rfl ?_
      refine zi_aload_n K (dX2_areLimitsKept 13 rfl) 0 rfl ?_
      refine zg_COV_treaty K (zL_lv h6 hlt2 (zeK6 hb)) w_1162 (dX2_areLimitsKept 14 rfl) ?_
      refine zg_TR_isCommuted K (hcv _ (zL_lv h6 hlt2 (zeK6 hb))) w_1122 (dX2_areLimitsKept 15 rfl) ?_
      refine zi_if_ne K 52 (dX2_areLimitsKept 16 rfl) rfl (fun h32_0 => ?_) (fun h32_0 => ?_)
      · skip
        refine zi_iinc K (v := nI (i + 1)) [(1, .int (nI (i + 1))), (2, .ref (ad 7 (lx σ (6 + 4 * b) i))), (0, .ref (ad 11 b))] (dX2_areLimitsKept 26 rfl) 2 rfl (zk_inc _) (by decide) rfl ?_
        refine zi_goto K 2 (dX2_areLimitsKept 27 rfl) rfl ?_
        refine zV.pick [2, 0] (lo' := [(0, .ref (ad 11 b)), (1, .int (nI (i + 1)))]) rfl ?_
        exact ih2 (i + 1) (by omega) (by omega) (zall_s hv2 (by first | exact (if_pos h32_0).trans (if_neg h46_1) | exact if_neg h32_0))
      · skip
        refine zi_aload_n K (dX2_areLimitsKept 17 rfl) 0 rfl ?_
        refine zg_COV_taken K (zL_lv h6 hlt2 (zeK6 hb)) w_1172 (dX2_areLimitsKept 18 rfl) ?_
        refine zi_aload_n K (dX2_areLimitsKept 19 rfl) 0 rfl ?_
        refine zg_COV_treaty K (zL_lv h6 hlt2 (zeK6 hb)) w_1162 (dX2_areLimitsKept 20 rfl) ?_
        refine zi_callV K (na := 0) [.long (sL σ 3 (lx σ (6 + 4 * b) i) 0)] [.long (v_wholeLimit σ ((lx σ (6 + 4 * b) i) % 8)), .long (sL σ 3 (lx σ (6 + 4 * b) i) 0)] (c_wholeLimit  ((lx σ (6 + 4 * b) i) % 8) (hcv _ (zL_lv h6 hlt2 (zeK6 hb)))) (dX2_areLimitsKept 21 rfl) w_651 w_371 w_372 w_55 w_373 (by decide +kernel) rfl (fun H h => zi_recv K (zr_TR (σ := σ) (hcv _ (zL_lv h6 hlt2 (zeK6 hb))) H h).1 rfl) (fun H h => h) ⟨Nat.le_of_ble_eq_true rfl, Nat.le_of_ble_eq_true rfl⟩ ⟨Nat.le_refl _, Nat.le_refl _⟩ (Nat.le_of_ble_eq_true rfl) rfl rfl ?_
        refine zi_lif_le K 52 (dX2_areLimitsKept 22 rfl) (dX2_areLimitsKept 23 rfl) rfl (fun h46_1 => ?_) (fun h46_1 => ?_)
        · skip
          refine zi_iinc K (v := nI (i + 1)) [(1, .int (nI (i + 1))), (2, .ref (ad 7 (lx σ (6 + 4 * b) i))), (0, .ref (ad 11 b))] (dX2_areLimitsKept 26 rfl) 2 rfl (zk_inc _) (by decide) rfl ?_
          refine zi_goto K 2 (dX2_areLimitsKept 27 rfl) rfl ?_
          refine zV.pick [2, 0] (lo' := [(0, .ref (ad 11 b)), (1, .int (nI (i + 1)))]) rfl ?_
          exact ih2 (i + 1) (by omega) (by omega) (zall_s hv2 (by first | exact (if_pos h32_0).trans (if_neg h46_1) | exact if_neg h32_0))
        · skip
          refine zi_iconst K (dX2_areLimitsKept 24 rfl) zk_i0 ?_
          exact zi_zret K E (dX2_areLimitsKept 25 rfl) (Nat.le_refl _) (Nat.le_refl _) (by unfold v_limKept; rw [if_neg (by rw [zall_f (p := fun y => if sI σ 19 (lx σ (6 + 4 * b) y % 8) 0 = 0 then (if v_wholeLimit σ (lx σ (6 + 4 * b) y % 8) < sL σ 3 (lx σ (6 + 4 * b) y) 0 then false else true) else true) (i := i) ((if_pos h32_0).trans (if_pos h46_1)) hlt2]; decide)]) rfl (fun _ h => h)
end
section
/-! Layertreaty: ranges, kinds, the objects by their numbers (where they are), counts and sums -/
def v_isOut (σ : zSt) (x lo hi : Int32) : Int32 := if x < lo then 1 else if x ≤ hi then 0 else 1
set_option maxRecDepth 100000 in
set_option maxHeartbeats 4000000 in
theorem c_isOut {G : zG} {ad : Nat → Nat → Nat} {σ : zSt} (x lo hi : Int32)  : zC G yX8_isOut cX8_isOut 3 (some FieldType.boolean) 0 0 0 0 [.int x, .int lo, .int hi] (zP G ad σ) (some (.int (v_isOut σ x lo hi))) (zP G ad σ) := by
  refine zC_of (by decide) (Nat.le_of_ble_eq_true rfl) (fun X K E hnm => ?_)
  show zV G X 3 (zP G ad σ) 0 0 0 [(0, .int x), (1, .int lo), (2, .int hi)] []
  refine zi_iload_n K (dX8_isOut 0 rfl) 0 rfl ?_
  refine zi_iload_n K (dX8_isOut 1 rfl) 1 rfl ?_
  refine zi_icmp_lt K 10 (dX8_isOut 2 rfl) rfl (fun h2_0 => ?_) (fun h2_0 => ?_)
  · skip
    refine zi_iconst K (dX8_isOut 6 rfl) zk_i1 ?_
    refine zi_goto K 15 (dX8_isOut 7 rfl) rfl ?_
    exact zi_zret K E (dX8_isOut 9 rfl) (Nat.le_refl _) (Nat.le_refl _) (by unfold v_isOut; rw [if_pos h2_0]) rfl (fun _ h => h)
  · skip
    refine zi_iload_n K (dX8_isOut 3 rfl) 0 rfl ?_
    refine zi_iload_n K (dX8_isOut 4 rfl) 2 rfl ?_
    refine zi_icmp_le K 14 (dX8_isOut 5 rfl) rfl (fun h7_1 => ?_) (fun h7_1 => ?_)
    · skip
      refine zi_iconst K (dX8_isOut 8 rfl) zk_i0 ?_
      exact zi_zret K E (dX8_isOut 9 rfl) (Nat.le_refl _) (Nat.le_refl _) (by unfold v_isOut; rw [if_neg h2_0, if_pos h7_1]) rfl (fun _ h => h)
    · skip
      refine zi_iconst K (dX8_isOut 6 rfl) zk_i1 ?_
      refine zi_goto K 15 (dX8_isOut 7 rfl) rfl ?_
      exact zi_zret K E (dX8_isOut 9 rfl) (Nat.le_refl _) (Nat.le_refl _) (by unfold v_isOut; rw [if_neg h2_0, if_neg h7_1]) rfl (fun _ h => h)
def v_isSpan (σ : zSt) (x y : Int32) : Int32 := if x < 0 then 0 else if y < x then 0 else if 999 < y then 0 else 1
set_option maxRecDepth 100000 in
set_option maxHeartbeats 4000000 in
theorem c_isSpan {G : zG} {ad : Nat → Nat → Nat} {σ : zSt} (x y : Int32)  : zC G yX8_isSpan cX8_isSpan 2 (some FieldType.boolean) 0 0 0 0 [.int x, .int y] (zP G ad σ) (some (.int (v_isSpan σ x y))) (zP G ad σ) := by
  refine zC_of (by decide) (Nat.le_of_ble_eq_true rfl) (fun X K E hnm => ?_)
  show zV G X 2 (zP G ad σ) 0 0 0 [(0, .int x), (1, .int y)] []
  refine zi_iload_n K (dX8_isSpan 0 rfl) 0 rfl ?_
  refine zi_if_lt K 20 (dX8_isSpan 1 rfl) rfl (fun h1_0 => ?_) (fun h1_0 => ?_)
  · skip
    refine zi_iconst K (dX8_isSpan 10 rfl) zk_i0 ?_
    exact zi_zret K E (dX8_isSpan 11 rfl) (Nat.le_refl _) (Nat.le_refl _) (by unfold v_isSpan; rw [if_pos h1_0]) rfl (fun _ h => h)
  · skip
    refine zi_iload_n K (dX8_isSpan 2 rfl) 0 rfl ?_
    refine zi_iload_n K (dX8_isSpan 3 rfl) 1 rfl ?_
    refine zi_icmp_gt K 20 (dX8_isSpan 4 rfl) rfl (fun h6_1 => ?_) (fun h6_1 => ?_)
    · skip
      refine zi_iconst K (dX8_isSpan 10 rfl) zk_i0 ?_
      exact zi_zret K E (dX8_isSpan 11 rfl) (Nat.le_refl _) (Nat.le_refl _) (by unfold v_isSpan; rw [if_neg h1_0, if_pos h6_1]) rfl (fun _ h => h)
    · skip
      refine zi_iload_n K (dX8_isSpan 5 rfl) 1 rfl ?_
      refine zi_sipush K (dX8_isSpan 6 rfl) zk_s999 ?_
      refine zi_icmp_gt K 20 (dX8_isSpan 7 rfl) rfl (fun h13_2 => ?_) (fun h13_2 => ?_)
      · skip
        refine zi_iconst K (dX8_isSpan 10 rfl) zk_i0 ?_
        exact zi_zret K E (dX8_isSpan 11 rfl) (Nat.le_refl _) (Nat.le_refl _) (by unfold v_isSpan; rw [if_neg h1_0, if_neg h6_1, if_pos h13_2]) rfl (fun _ h => h)
      · skip
        refine zi_iconst K (dX8_isSpan 8 rfl) zk_i1 ?_
        refine zi_goto K 21 (dX8_isSpan 9 rfl) rfl ?_
        exact zi_zret K E (dX8_isSpan 11 rfl) (Nat.le_refl _) (Nat.le_refl _) (by unfold v_isSpan; rw [if_neg h1_0, if_neg h6_1, if_neg h13_2]) rfl (fun _ h => h)
def v_isBasis (σ : zSt) (x : Int32) : Int32 := if x = 111 then 1 else if x = 97 then 1 else if x = 99 then 1 else 0
set_option maxRecDepth 100000 in
set_option maxHeartbeats 4000000 in
theorem c_isBasis {G : zG} {ad : Nat → Nat → Nat} {σ : zSt} (x : Int32)  : zC G yX8_isBasis cX8_isBasis 1 (some FieldType.boolean) 0 0 0 0 [.int x] (zP G ad σ) (some (.int (v_isBasis σ x))) (zP G ad σ) := by
  refine zC_of (by decide) (Nat.le_of_ble_eq_true rfl) (fun X K E hnm => ?_)
  show zV G X 1 (zP G ad σ) 0 0 0 [(0, .int x)] []
  refine zi_iload_n K (dX8_isBasis 0 rfl) 0 rfl ?_
  refine zi_bipush K (dX8_isBasis 1 rfl) zk_b111 ?_
  refine zi_icmp_eq K 18 (dX8_isBasis 2 rfl) rfl (fun h3_0 => ?_) (fun h3_0 => ?_)
  · skip
    refine zi_iconst K (dX8_isBasis 9 rfl) zk_i1 ?_
    refine zi_goto K 23 (dX8_isBasis 10 rfl) rfl ?_
    exact zi_zret K E (dX8_isBasis 12 rfl) (Nat.le_refl _) (Nat.le_refl _) (by unfold v_isBasis; rw [if_pos h3_0]) rfl (fun _ h => h)
  · skip
    refine zi_iload_n K (dX8_isBasis 3 rfl) 0 rfl ?_
    refine zi_bipush K (dX8_isBasis 4 rfl) zk_b97 ?_
    refine zi_icmp_eq K 18 (dX8_isBasis 5 rfl) rfl (fun h9_1 => ?_) (fun h9_1 => ?_)
    · skip
      refine zi_iconst K (dX8_isBasis 9 rfl) zk_i1 ?_
      refine zi_goto K 23 (dX8_isBasis 10 rfl) rfl ?_
      exact zi_zret K E (dX8_isBasis 12 rfl) (Nat.le_refl _) (Nat.le_refl _) (by unfold v_isBasis; rw [if_neg h3_0, if_pos h9_1]) rfl (fun _ h => h)
    · skip
      refine zi_iload_n K (dX8_isBasis 6 rfl) 0 rfl ?_
      refine zi_bipush K (dX8_isBasis 7 rfl) zk_b99 ?_
      refine zi_icmp_ne K 22 (dX8_isBasis 8 rfl) rfl (fun h15_2 => ?_) (fun h15_2 => ?_)
      · skip
        refine zi_iconst K (dX8_isBasis 11 rfl) zk_i0 ?_
        exact zi_zret K E (dX8_isBasis 12 rfl) (Nat.le_refl _) (Nat.le_refl _) (by unfold v_isBasis; rw [if_neg h3_0, if_neg h9_1, if_neg h15_2]) rfl (fun _ h => h)
      · skip
        refine zi_iconst K (dX8_isBasis 9 rfl) zk_i1 ?_
        refine zi_goto K 23 (dX8_isBasis 10 rfl) rfl ?_
        exact zi_zret K E (dX8_isBasis 12 rfl) (Nat.le_refl _) (Nat.le_refl _) (by unfold v_isBasis; rw [if_neg h3_0, if_neg h9_1, if_pos h15_2]) rfl (fun _ h => h)
def v_fitsKind (σ : zSt) (x y z : Int32) : Int32 := if x = 113 then (if v_isOut σ y 0 100 = 0 then 1 else 0) else if x = 115 then (if v_isOut σ y 1 1000000 = 0 then (if v_isOut σ z 1 20 = 0 then 1 else 0) else 0) else if x = 114 then (if v_isOut σ y 0 1000000 = 0 then (if v_isOut σ z 1 1000000 = 0 then 1 else 0) else 0) else if x = 101 then (if v_isOut σ y 0 1000000 = 0 then (if v_isOut σ z 1 1000000 = 0 then 1 else 0) else 0) else if x = 97 then (if v_isOut σ y 0 1000000 = 0 then (if v_isOut σ z 1 1000000 = 0 then 1 else 0) else 0) else 0
set_option maxRecDepth 100000 in
set_option maxHeartbeats 4000000 in
theorem c_fitsKind {G : zG} {ad : Nat → Nat → Nat} {σ : zSt} (x y z : Int32)  : zC G yX8_fitsKind cX8_fitsKind 3 (some FieldType.boolean) 1 22 0 0 [.int x, .int y, .int z] (zP G ad σ) (some (.int (v_fitsKind σ x y z))) (zP G ad σ) := by
  refine zC_of (by decide) (Nat.le_of_ble_eq_true rfl) (fun X K E hnm => ?_)
  show zV G X 3 (zP G ad σ) 0 0 0 [(0, .int x), (1, .int y), (2, .int z)] []
  refine zi_iload_n K (dX8_fitsKind 0 rfl) 0 rfl ?_
  refine zi_bipush K (dX8_fitsKind 1 rfl) zk_b113 ?_
  refine zi_icmp_ne K 22 (dX8_fitsKind 2 rfl) rfl (fun h3_0 => ?_) (fun h3_0 => ?_)
  · skip
    refine zi_iload_n K (dX8_fitsKind 12 rfl) 0 rfl ?_
    refine zi_bipush K (dX8_fitsKind 13 rfl) zk_b115 ?_
    refine zi_icmp_ne K 54 (dX8_fitsKind 14 rfl) rfl (fun h25_1 => ?_) (fun h25_1 => ?_)
    · skip
      refine zi_iload_n K (dX8_fitsKind 29 rfl) 0 rfl ?_
      refine zi_bipush K (dX8_fitsKind 30 rfl) zk_b114 ?_
      refine zi_icmp_eq K 72 (dX8_fitsKind 31 rfl) rfl (fun h57_2 => ?_) (fun h57_2 => ?_)
      · skip
        refine zi_iload_n K (dX8_fitsKind 38 rfl) 1 rfl ?_
        refine zi_iconst K (dX8_fitsKind 39 rfl) zk_i0 ?_
        refine zi_ldc K (dX8_fitsKind 40 rfl) w_671 ?_
        refine zi_callS K (na := 3) (As := [.int y, .int 0, .int 1000000]) [] [.int (v_isOut σ y 0 1000000)] (c_isOut  y 0 1000000) (dX8_fitsKind 41 rfl) w_234 w_235 w_25 w_236 (by decide +kernel) rfl (fun H h => h) ⟨Nat.le_of_ble_eq_true rfl, Nat.le_of_ble_eq_true rfl⟩ ⟨Nat.le_refl _, Nat.le_refl _⟩ (Nat.le_of_ble_eq_true rfl) rfl rfl ?_
        refine zi_if_ne K 96 (dX8_fitsKind 42 rfl) rfl (fun h79_3 => ?_) (fun h79_3 => ?_)
        · skip
          refine zi_iconst K (dX8_fitsKind 50 rfl) zk_i0 ?_
          exact zi_zret K E (dX8_fitsKind 51 rfl) (Nat.le_refl _) (Nat.le_refl _) (by unfold v_fitsKind; rw [if_neg h3_0, if_neg h25_1, if_pos h57_2, if_neg h79_3]) rfl (fun _ h => h)
        · skip
          refine zi_iload_n K (dX8_fitsKind 43 rfl) 2 rfl ?_
          refine zi_iconst K (dX8_fitsKind 44 rfl) zk_i1 ?_
          refine zi_ldc K (dX8_fitsKind 45 rfl) w_671 ?_
          refine zi_callS K (na := 3) (As := [.int z, .int 1, .int 1000000]) [] [.int (v_isOut σ z 1 1000000)] (c_isOut  z 1 1000000) (dX8_fitsKind 46 rfl) w_234 w_235 w_25 w_236 (by decide +kernel) rfl (fun H h => h) ⟨Nat.le_of_ble_eq_true rfl, Nat.le_of_ble_eq_true rfl⟩ ⟨Nat.le_refl _, Nat.le_refl _⟩ (Nat.le_of_ble_eq_true rfl) rfl rfl ?_
          refine zi_if_ne K 96 (dX8_fitsKind 47 rfl) rfl (fun h89_4 => ?_) (fun h89_4 => ?_)
          · skip
            refine zi_iconst K (dX8_fitsKind 50 rfl) zk_i0 ?_
            exact zi_zret K E (dX8_fitsKind 51 rfl) (Nat.le_refl _) (Nat.le_refl _) (by unfold v_fitsKind; rw [if_neg h3_0, if_neg h25_1, if_pos h57_2, if_pos h79_3, if_neg h89_4]) rfl (fun _ h => h)
          · skip
            refine zi_iconst K (dX8_fitsKind 48 rfl) zk_i1 ?_
            refine zi_goto K 97 (dX8_fitsKind 49 rfl) rfl ?_
            exact zi_zret K E (dX8_fitsKind 51 rfl) (Nat.le_refl _) (Nat.le_refl _) (by unfold v_fitsKind; rw [if_neg h3_0, if_neg h25_1, if_pos h57_2, if_pos h79_3, if_pos h89_4]) rfl (fun _ h => h)
      · skip
        refine zi_iload_n K (dX8_fitsKind 32 rfl) 0 rfl ?_
        refine zi_bipush K (dX8_fitsKind 33 rfl) zk_b101 ?_
        refine zi_icmp_eq K 72 (dX8_fitsKind 34 rfl) rfl (fun h63_3 => ?_) (fun h63_3 => ?_)
        · skip
          refine zi_iload_n K (dX8_fitsKind 38 rfl) 1 rfl ?_
          refine zi_iconst K (dX8_fitsKind 39 rfl) zk_i0 ?_
          refine zi_ldc K (dX8_fitsKind 40 rfl) w_671 ?_
          refine zi_callS K (na := 3) (As := [.int y, .int 0, .int 1000000]) [] [.int (v_isOut σ y 0 1000000)] (c_isOut  y 0 1000000) (dX8_fitsKind 41 rfl) w_234 w_235 w_25 w_236 (by decide +kernel) rfl (fun H h => h) ⟨Nat.le_of_ble_eq_true rfl, Nat.le_of_ble_eq_true rfl⟩ ⟨Nat.le_refl _, Nat.le_refl _⟩ (Nat.le_of_ble_eq_true rfl) rfl rfl ?_
          refine zi_if_ne K 96 (dX8_fitsKind 42 rfl) rfl (fun h79_4 => ?_) (fun h79_4 => ?_)
          · skip
            refine zi_iconst K (dX8_fitsKind 50 rfl) zk_i0 ?_
            exact zi_zret K E (dX8_fitsKind 51 rfl) (Nat.le_refl _) (Nat.le_refl _) (by unfold v_fitsKind; rw [if_neg h3_0, if_neg h25_1, if_neg h57_2, if_pos h63_3, if_neg h79_4]) rfl (fun _ h => h)
          · skip
            refine zi_iload_n K (dX8_fitsKind 43 rfl) 2 rfl ?_
            refine zi_iconst K (dX8_fitsKind 44 rfl) zk_i1 ?_
            refine zi_ldc K (dX8_fitsKind 45 rfl) w_671 ?_
            refine zi_callS K (na := 3) (As := [.int z, .int 1, .int 1000000]) [] [.int (v_isOut σ z 1 1000000)] (c_isOut  z 1 1000000) (dX8_fitsKind 46 rfl) w_234 w_235 w_25 w_236 (by decide +kernel) rfl (fun H h => h) ⟨Nat.le_of_ble_eq_true rfl, Nat.le_of_ble_eq_true rfl⟩ ⟨Nat.le_refl _, Nat.le_refl _⟩ (Nat.le_of_ble_eq_true rfl) rfl rfl ?_
            refine zi_if_ne K 96 (dX8_fitsKind 47 rfl) rfl (fun h89_5 => ?_) (fun h89_5 => ?_)
            · skip
              refine zi_iconst K (dX8_fitsKind 50 rfl) zk_i0 ?_
              exact zi_zret K E (dX8_fitsKind 51 rfl) (Nat.le_refl _) (Nat.le_refl _) (by unfold v_fitsKind; rw [if_neg h3_0, if_neg h25_1, if_neg h57_2, if_pos h63_3, if_pos h79_4, if_neg h89_5]) rfl (fun _ h => h)
            · skip
              refine zi_iconst K (dX8_fitsKind 48 rfl) zk_i1 ?_
              refine zi_goto K 97 (dX8_fitsKind 49 rfl) rfl ?_
              exact zi_zret K E (dX8_fitsKind 51 rfl) (Nat.le_refl _) (Nat.le_refl _) (by unfold v_fitsKind; rw [if_neg h3_0, if_neg h25_1, if_neg h57_2, if_pos h63_3, if_pos h79_4, if_pos h89_5]) rfl (fun _ h => h)
        · skip
          refine zi_iload_n K (dX8_fitsKind 35 rfl) 0 rfl ?_
          refine zi_bipush K (dX8_fitsKind 36 rfl) zk_b97 ?_
          refine zi_icmp_ne K 96 (dX8_fitsKind 37 rfl) rfl (fun h69_4 => ?_) (fun h69_4 => ?_)
          · skip
            refine zi_iconst K (dX8_fitsKind 50 rfl) zk_i0 ?_
            exact zi_zret K E (dX8_fitsKind 51 rfl) (Nat.le_refl _) (Nat.le_refl _) (by unfold v_fitsKind; rw [if_neg h3_0, if_neg h25_1, if_neg h57_2, if_neg h63_3, if_neg h69_4]) rfl (fun _ h => h)
          · skip
            refine zi_iload_n K (dX8_fitsKind 38 rfl) 1 rfl ?_
            refine zi_iconst K (dX8_fitsKind 39 rfl) zk_i0 ?_
            refine zi_ldc K (dX8_fitsKind 40 rfl) w_671 ?_
            refine zi_callS K (na := 3) (As := [.int y, .int 0, .int 1000000]) [] [.int (v_isOut σ y 0 1000000)] (c_isOut  y 0 1000000) (dX8_fitsKind 41 rfl) w_234 w_235 w_25 w_236 (by decide +kernel) rfl (fun H h => h) ⟨Nat.le_of_ble_eq_true rfl, Nat.le_of_ble_eq_true rfl⟩ ⟨Nat.le_refl _, Nat.le_refl _⟩ (Nat.le_of_ble_eq_true rfl) rfl rfl ?_
            refine zi_if_ne K 96 (dX8_fitsKind 42 rfl) rfl (fun h79_5 => ?_) (fun h79_5 => ?_)
            · skip
              refine zi_iconst K (dX8_fitsKind 50 rfl) zk_i0 ?_
              exact zi_zret K E (dX8_fitsKind 51 rfl) (Nat.le_refl _) (Nat.le_refl _) (by unfold v_fitsKind; rw [if_neg h3_0, if_neg h25_1, if_neg h57_2, if_neg h63_3, if_pos h69_4, if_neg h79_5]) rfl (fun _ h => h)
            · skip
              refine zi_iload_n K (dX8_fitsKind 43 rfl) 2 rfl ?_
              refine zi_iconst K (dX8_fitsKind 44 rfl) zk_i1 ?_
              refine zi_ldc K (dX8_fitsKind 45 rfl) w_671 ?_
              refine zi_callS K (na := 3) (As := [.int z, .int 1, .int 1000000]) [] [.int (v_isOut σ z 1 1000000)] (c_isOut  z 1 1000000) (dX8_fitsKind 46 rfl) w_234 w_235 w_25 w_236 (by decide +kernel) rfl (fun H h => h) ⟨Nat.le_of_ble_eq_true rfl, Nat.le_of_ble_eq_true rfl⟩ ⟨Nat.le_refl _, Nat.le_refl _⟩ (Nat.le_of_ble_eq_true rfl) rfl rfl ?_
              refine zi_if_ne K 96 (dX8_fitsKind 47 rfl) rfl (fun h89_6 => ?_) (fun h89_6 => ?_)
              · skip
                refine zi_iconst K (dX8_fitsKind 50 rfl) zk_i0 ?_
                exact zi_zret K E (dX8_fitsKind 51 rfl) (Nat.le_refl _) (Nat.le_refl _) (by unfold v_fitsKind; rw [if_neg h3_0, if_neg h25_1, if_neg h57_2, if_neg h63_3, if_pos h69_4, if_pos h79_5, if_neg h89_6]) rfl (fun _ h => h)
              · skip
                refine zi_iconst K (dX8_fitsKind 48 rfl) zk_i1 ?_
                refine zi_goto K 97 (dX8_fitsKind 49 rfl) rfl ?_
                exact zi_zret K E (dX8_fitsKind 51 rfl) (Nat.le_refl _) (Nat.le_refl _) (by unfold v_fitsKind; rw [if_neg h3_0, if_neg h25_1, if_neg h57_2, if_neg h63_3, if_pos h69_4, if_pos h79_5, if_pos h89_6]) rfl (fun _ h => h)
    · skip
      refine zi_iload_n K (dX8_fitsKind 15 rfl) 1 rfl ?_
      refine zi_iconst K (dX8_fitsKind 16 rfl) zk_i1 ?_
      refine zi_ldc K (dX8_fitsKind 17 rfl) w_671 ?_
      refine zi_callS K (na := 3) (As := [.int y, .int 1, .int 1000000]) [] [.int (v_isOut σ y 1 1000000)] (c_isOut  y 1 1000000) (dX8_fitsKind 18 rfl) w_234 w_235 w_25 w_236 (by decide +kernel) rfl (fun H h => h) ⟨Nat.le_of_ble_eq_true rfl, Nat.le_of_ble_eq_true rfl⟩ ⟨Nat.le_refl _, Nat.le_refl _⟩ (Nat.le_of_ble_eq_true rfl) rfl rfl ?_
      refine zi_if_ne K 52 (dX8_fitsKind 19 rfl) rfl (fun h35_2 => ?_) (fun h35_2 => ?_)
      · skip
        refine zi_iconst K (dX8_fitsKind 27 rfl) zk_i0 ?_
        exact zi_zret K E (dX8_fitsKind 28 rfl) (Nat.le_refl _) (Nat.le_refl _) (by unfold v_fitsKind; rw [if_neg h3_0, if_pos h25_1, if_neg h35_2]) rfl (fun _ h => h)
      · skip
        refine zi_iload_n K (dX8_fitsKind 20 rfl) 2 rfl ?_
        refine zi_iconst K (dX8_fitsKind 21 rfl) zk_i1 ?_
        refine zi_bipush K (dX8_fitsKind 22 rfl) zk_b20 ?_
        refine zi_callS K (na := 3) (As := [.int z, .int 1, .int 20]) [] [.int (v_isOut σ z 1 20)] (c_isOut  z 1 20) (dX8_fitsKind 23 rfl) w_234 w_235 w_25 w_236 (by decide +kernel) rfl (fun H h => h) ⟨Nat.le_of_ble_eq_true rfl, Nat.le_of_ble_eq_true rfl⟩ ⟨Nat.le_refl _, Nat.le_refl _⟩ (Nat.le_of_ble_eq_true rfl) rfl rfl ?_
        refine zi_if_ne K 52 (dX8_fitsKind 24 rfl) rfl (fun h45_3 => ?_) (fun h45_3 => ?_)
        · skip
          refine zi_iconst K (dX8_fitsKind 27 rfl) zk_i0 ?_
          exact zi_zret K E (dX8_fitsKind 28 rfl) (Nat.le_refl _) (Nat.le_refl _) (by unfold v_fitsKind; rw [if_neg h3_0, if_pos h25_1, if_pos h35_2, if_neg h45_3]) rfl (fun _ h => h)
        · skip
          refine zi_iconst K (dX8_fitsKind 25 rfl) zk_i1 ?_
          refine zi_goto K 53 (dX8_fitsKind 26 rfl) rfl ?_
          exact zi_zret K E (dX8_fitsKind 28 rfl) (Nat.le_refl _) (Nat.le_refl _) (by unfold v_fitsKind; rw [if_neg h3_0, if_pos h25_1, if_pos h35_2, if_pos h45_3]) rfl (fun _ h => h)
  · skip
    refine zi_iload_n K (dX8_fitsKind 3 rfl) 1 rfl ?_
    refine zi_iconst K (dX8_fitsKind 4 rfl) zk_i0 ?_
    refine zi_bipush K (dX8_fitsKind 5 rfl) zk_b100 ?_
    refine zi_callS K (na := 3) (As := [.int y, .int 0, .int 100]) [] [.int (v_isOut σ y 0 100)] (c_isOut  y 0 100) (dX8_fitsKind 6 rfl) w_234 w_235 w_25 w_236 (by decide +kernel) rfl (fun H h => h) ⟨Nat.le_of_ble_eq_true rfl, Nat.le_of_ble_eq_true rfl⟩ ⟨Nat.le_refl _, Nat.le_refl _⟩ (Nat.le_of_ble_eq_true rfl) rfl rfl ?_
    refine zi_if_ne K 20 (dX8_fitsKind 7 rfl) rfl (fun h13_1 => ?_) (fun h13_1 => ?_)
    · skip
      refine zi_iconst K (dX8_fitsKind 10 rfl) zk_i0 ?_
      exact zi_zret K E (dX8_fitsKind 11 rfl) (Nat.le_refl _) (Nat.le_refl _) (by unfold v_fitsKind; rw [if_pos h3_0, if_neg h13_1]) rfl (fun _ h => h)
    · skip
      refine zi_iconst K (dX8_fitsKind 8 rfl) zk_i1 ?_
      refine zi_goto K 21 (dX8_fitsKind 9 rfl) rfl ?_
      exact zi_zret K E (dX8_fitsKind 11 rfl) (Nat.le_refl _) (Nat.le_refl _) (by unfold v_fitsKind; rw [if_pos h3_0, if_pos h13_1]) rfl (fun _ h => h)
theorem isOut_in {σ : zSt} {x lo hi : Int32} (h1 : ¬ x < lo) (h2 : x ≤ hi) : v_isOut σ x lo hi = 0 := by
  unfold v_isOut
  rw [if_neg h1, if_pos h2]
theorem isOut_ok {σ : zSt} {i n : Nat} (hi : i < n) (hn : n < 2 ^ 31) : v_isOut σ (nI i) 0 (nI n - 1) = 0 := by
  obtain ⟨m, rfl⟩ : ∃ m, n = m + 1 := ⟨n - 1, by omega⟩
  rw [nI_pred]
  exact isOut_in (nI_pos (by omega)) (nI_le (by omega) (by omega))
theorem isOut_5 {σ : zSt} {i : Nat} (hi : i < 5) : v_isOut σ (nI i) 0 4 = 0 := isOut_in (nI_pos (by omega)) (nI_le (b := 4) (by omega) (by omega))
set_option maxRecDepth 100000 in
set_option maxHeartbeats 4000000 in
theorem c_claimAt {G : zG} {ad : Nat → Nat → Nat} {σ : zSt} (i : Nat) (h1 : zLW σ 1) (hi : i < sZ σ 1) : zC G yX8_claimAt cX8_claimAt 2 (some (FieldType.object "Layertreaty$Claim")) 3 64 0 0 [.ref (ad 0 0), .int (nI i)] (zP G ad σ) (some (.ref (ad 2 (lx σ 1 i)))) (zP G ad σ) := by
  refine zC_of (by decide) (Nat.le_of_ble_eq_true rfl) (fun X K E hnm => ?_)
  show zV G X 2 (zP G ad σ) 0 0 0 [(0, .ref (ad 0 0)), (1, .int (nI i))] []
  refine zi_iload_n K (dX8_claimAt 0 rfl) 1 rfl ?_
  refine zi_iconst K (dX8_claimAt 1 rfl) zk_i0 ?_
  refine zi_aload_n K (dX8_claimAt 2 rfl) 0 rfl ?_
  refine zg_O_claims K rfl w_195 (dX8_claimAt 3 rfl) ?_
  refine zi_callV K (na := 0) [.int 0, .int (nI i)] [.int (nI (sZ σ 1)), .int 0, .int (nI i)] (c_sizeN (σ := σ) 1 (sZ σ 1) (zL_ok h1).1 rfl) (dX8_claimAt 4 rfl) w_230 w_231 w_232 w_28 w_233 (by decide +kernel) rfl (fun H h => zrecv_LST K (zL_ok h1).1 h) (fun H h => h) ⟨Nat.le_of_ble_eq_true rfl, Nat.le_of_ble_eq_true rfl⟩ ⟨Nat.le_refl _, Nat.le_refl _⟩ (Nat.le_of_ble_eq_true rfl) rfl rfl ?_
  refine zi_iconst K (dX8_claimAt 5 rfl) zk_i1 ?_
  refine zi_isub K (dX8_claimAt 6 rfl) ?_
  refine zi_callS K (na := 3) (As := [.int (nI i), .int 0, .int ((nI (sZ σ 1)) - 1)]) [] [.int (v_isOut σ (nI i) 0 ((nI (sZ σ 1)) - 1))] (c_isOut  (nI i) 0 ((nI (sZ σ 1)) - 1)) (dX8_claimAt 7 rfl) w_234 w_235 w_25 w_236 (by decide +kernel) rfl (fun H h => h) ⟨Nat.le_of_ble_eq_true rfl, Nat.le_of_ble_eq_true rfl⟩ ⟨Nat.le_refl _, Nat.le_refl _⟩ (Nat.le_of_ble_eq_true rfl) rfl rfl ?_
  refine zi_if_eq K 28 (dX8_claimAt 8 rfl) rfl (fun h14_0 => ?_) (fun h14_0 => ?_)
  rotate_left
  · exact absurd (isOut_ok hi (zL_b h1)) h14_0
  refine zi_aload_n K (dX8_claimAt 14 rfl) 0 rfl ?_
  refine zg_O_claims K rfl w_195 (dX8_claimAt 15 rfl) ?_
  refine zi_iload_n K (dX8_claimAt 16 rfl) 1 rfl ?_
  refine zi_callV K (na := 1) [] [.ref (ad 2 (lx σ 1 i))] (c_getK (σ := σ) 1 i (lx σ 1 i) 2 rfl (zL_ok h1) hi (zL_x h1 hi)) (dX8_claimAt 17 rfl) w_309 w_310 w_311 w_28 w_312 (by decide +kernel) rfl (fun H h => zrecv_LST K (zL_ok h1).1 h) (fun H h => h) ⟨Nat.le_of_ble_eq_true rfl, Nat.le_of_ble_eq_true rfl⟩ ⟨Nat.le_refl _, Nat.le_refl _⟩ (Nat.le_of_ble_eq_true rfl) rfl rfl ?_
  refine zi_cast K (fun H h => (zr_CL (σ := σ) (zL_lv h1 hi rfl) H h).1) rfl w_603 (dX8_claimAt 18 rfl) ?_
  exact zi_aret K E (dX8_claimAt 19 rfl) (Nat.le_refl _) (Nat.le_refl _) rfl (Or.inl ⟨_, rfl⟩) (fun _ h => h)
set_option maxRecDepth 100000 in
set_option maxHeartbeats 4000000 in
theorem c_treatyAt {G : zG} {ad : Nat → Nat → Nat} {σ : zSt} (i : Nat) (h2 : zLW σ 2) (hi : i < sZ σ 2) : zC G yX8_treatyAt cX8_treatyAt 2 (some (FieldType.object "Layertreaty$Treaty")) 3 64 0 0 [.ref (ad 0 0), .int (nI i)] (zP G ad σ) (some (.ref (ad 5 (lx σ 2 i)))) (zP G ad σ) := by
  refine zC_of (by decide) (Nat.le_of_ble_eq_true rfl) (fun X K E hnm => ?_)
  show zV G X 2 (zP G ad σ) 0 0 0 [(0, .ref (ad 0 0)), (1, .int (nI i))] []
  refine zi_iload_n K (dX8_treatyAt 0 rfl) 1 rfl ?_
  refine zi_iconst K (dX8_treatyAt 1 rfl) zk_i0 ?_
  refine zi_aload_n K (dX8_treatyAt 2 rfl) 0 rfl ?_
  refine zg_O_terms K rfl w_196 (dX8_treatyAt 3 rfl) ?_
  refine zi_callV K (na := 0) [.int 0, .int (nI i)] [.int (nI (sZ σ 2)), .int 0, .int (nI i)] (c_sizeN (σ := σ) 2 (sZ σ 2) (zL_ok h2).1 rfl) (dX8_treatyAt 4 rfl) w_230 w_231 w_232 w_28 w_233 (by decide +kernel) rfl (fun H h => zrecv_LST K (zL_ok h2).1 h) (fun H h => h) ⟨Nat.le_of_ble_eq_true rfl, Nat.le_of_ble_eq_true rfl⟩ ⟨Nat.le_refl _, Nat.le_refl _⟩ (Nat.le_of_ble_eq_true rfl) rfl rfl ?_
  refine zi_iconst K (dX8_treatyAt 5 rfl) zk_i1 ?_
  refine zi_isub K (dX8_treatyAt 6 rfl) ?_
  refine zi_callS K (na := 3) (As := [.int (nI i), .int 0, .int ((nI (sZ σ 2)) - 1)]) [] [.int (v_isOut σ (nI i) 0 ((nI (sZ σ 2)) - 1))] (c_isOut  (nI i) 0 ((nI (sZ σ 2)) - 1)) (dX8_treatyAt 7 rfl) w_234 w_235 w_25 w_236 (by decide +kernel) rfl (fun H h => h) ⟨Nat.le_of_ble_eq_true rfl, Nat.le_of_ble_eq_true rfl⟩ ⟨Nat.le_refl _, Nat.le_refl _⟩ (Nat.le_of_ble_eq_true rfl) rfl rfl ?_
  refine zi_if_eq K 27 (dX8_treatyAt 8 rfl) rfl (fun h14_0 => ?_) (fun h14_0 => ?_)
  rotate_left
  · exact absurd (isOut_ok hi (zL_b h2)) h14_0
  refine zi_aload_n K (dX8_treatyAt 14 rfl) 0 rfl ?_
  refine zg_O_terms K rfl w_196 (dX8_treatyAt 15 rfl) ?_
  refine zi_iload_n K (dX8_treatyAt 16 rfl) 1 rfl ?_
  refine zi_callV K (na := 1) [] [.ref (ad 5 (lx σ 2 i))] (c_getK (σ := σ) 2 i (lx σ 2 i) 5 rfl (zL_ok h2) hi (zL_x h2 hi)) (dX8_treatyAt 17 rfl) w_309 w_310 w_311 w_28 w_312 (by decide +kernel) rfl (fun H h => zrecv_LST K (zL_ok h2).1 h) (fun H h => h) ⟨Nat.le_of_ble_eq_true rfl, Nat.le_of_ble_eq_true rfl⟩ ⟨Nat.le_refl _, Nat.le_refl _⟩ (Nat.le_of_ble_eq_true rfl) rfl rfl ?_
  refine zi_cast K (fun H h => (zr_TR (σ := σ) (zL_lv h2 hi rfl) H h).1) rfl w_323 (dX8_treatyAt 18 rfl) ?_
  exact zi_aret K E (dX8_treatyAt 19 rfl) (Nat.le_refl _) (Nat.le_refl _) rfl (Or.inl ⟨_, rfl⟩) (fun _ h => h)
set_option maxRecDepth 100000 in
set_option maxHeartbeats 4000000 in
theorem c_coverAt {G : zG} {ad : Nat → Nat → Nat} {σ : zSt} (i : Nat) (h6 : zLW σ 6) (hi : i < sZ σ 6) : zC G yX8_coverAt cX8_coverAt 2 (some (FieldType.object "Layertreaty$Cover")) 3 64 0 0 [.ref (ad 0 0), .int (nI i)] (zP G ad σ) (some (.ref (ad 7 (lx σ 6 i)))) (zP G ad σ) := by
  refine zC_of (by decide) (Nat.le_of_ble_eq_true rfl) (fun X K E hnm => ?_)
  show zV G X 2 (zP G ad σ) 0 0 0 [(0, .ref (ad 0 0)), (1, .int (nI i))] []
  refine zi_iload_n K (dX8_coverAt 0 rfl) 1 rfl ?_
  refine zi_iconst K (dX8_coverAt 1 rfl) zk_i0 ?_
  refine zi_aload_n K (dX8_coverAt 2 rfl) 0 rfl ?_
  refine zg_O_real K rfl w_199 (dX8_coverAt 3 rfl) ?_
  refine zg_FL_covers K (by decide) w_135 (dX8_coverAt 4 rfl) ?_
  refine zi_callV K (na := 0) [.int 0, .int (nI i)] [.int (nI (sZ σ 6)), .int 0, .int (nI i)] (c_sizeN (σ := σ) 6 (sZ σ 6) (zL_ok h6).1 rfl) (dX8_coverAt 5 rfl) w_230 w_231 w_232 w_28 w_233 (by decide +kernel) rfl (fun H h => zrecv_LST K (zL_ok h6).1 h) (fun H h => h) ⟨Nat.le_of_ble_eq_true rfl, Nat.le_of_ble_eq_true rfl⟩ ⟨Nat.le_refl _, Nat.le_refl _⟩ (Nat.le_of_ble_eq_true rfl) rfl rfl ?_
  refine zi_iconst K (dX8_coverAt 6 rfl) zk_i1 ?_
  refine zi_isub K (dX8_coverAt 7 rfl) ?_
  refine zi_callS K (na := 3) (As := [.int (nI i), .int 0, .int ((nI (sZ σ 6)) - 1)]) [] [.int (v_isOut σ (nI i) 0 ((nI (sZ σ 6)) - 1))] (c_isOut  (nI i) 0 ((nI (sZ σ 6)) - 1)) (dX8_coverAt 8 rfl) w_234 w_235 w_25 w_236 (by decide +kernel) rfl (fun H h => h) ⟨Nat.le_of_ble_eq_true rfl, Nat.le_of_ble_eq_true rfl⟩ ⟨Nat.le_refl _, Nat.le_refl _⟩ (Nat.le_of_ble_eq_true rfl) rfl rfl ?_
  refine zi_if_eq K 30 (dX8_coverAt 9 rfl) rfl (fun h17_0 => ?_) (fun h17_0 => ?_)
  rotate_left
  · exact absurd (isOut_ok hi (zL_b h6)) h17_0
  refine zi_aload_n K (dX8_coverAt 15 rfl) 0 rfl ?_
  refine zg_O_real K rfl w_199 (dX8_coverAt 16 rfl) ?_
  refine zg_FL_covers K (by decide) w_135 (dX8_coverAt 17 rfl) ?_
  refine zi_iload_n K (dX8_coverAt 18 rfl) 1 rfl ?_
  refine zi_callV K (na := 1) [] [.ref (ad 7 (lx σ 6 i))] (c_getK (σ := σ) 6 i (lx σ 6 i) 7 rfl (zL_ok h6) hi (zL_x h6 hi)) (dX8_coverAt 19 rfl) w_309 w_310 w_311 w_28 w_312 (by decide +kernel) rfl (fun H h => zrecv_LST K (zL_ok h6).1 h) (fun H h => h) ⟨Nat.le_of_ble_eq_true rfl, Nat.le_of_ble_eq_true rfl⟩ ⟨Nat.le_refl _, Nat.le_refl _⟩ (Nat.le_of_ble_eq_true rfl) rfl rfl ?_
  refine zi_cast K (fun H h => (zr_COV (σ := σ) (zL_lv h6 hi rfl) H h).1) rfl w_555 (dX8_coverAt 20 rfl) ?_
  exact zi_aret K E (dX8_coverAt 21 rfl) (Nat.le_refl _) (Nat.le_refl _) rfl (Or.inl ⟨_, rfl⟩) (fun _ h => h)
set_option maxRecDepth 100000 in
set_option maxHeartbeats 4000000 in
theorem c_scenarioAt {G : zG} {ad : Nat → Nat → Nat} {σ : zSt} (i : Nat) (h3 : zLW σ 3) (hi : i < sZ σ 3) : zC G yX8_scenarioAt cX8_scenarioAt 2 (some (FieldType.object "Layertreaty$Scenario")) 3 64 0 0 [.ref (ad 0 0), .int (nI i)] (zP G ad σ) (some (.ref (ad 9 (lx σ 3 i)))) (zP G ad σ) := by
  refine zC_of (by decide) (Nat.le_of_ble_eq_true rfl) (fun X K E hnm => ?_)
  show zV G X 2 (zP G ad σ) 0 0 0 [(0, .ref (ad 0 0)), (1, .int (nI i))] []
  refine zi_iload_n K (dX8_scenarioAt 0 rfl) 1 rfl ?_
  refine zi_iconst K (dX8_scenarioAt 1 rfl) zk_i0 ?_
  refine zi_aload_n K (dX8_scenarioAt 2 rfl) 0 rfl ?_
  refine zg_O_scenarios K rfl w_197 (dX8_scenarioAt 3 rfl) ?_
  refine zi_callV K (na := 0) [.int 0, .int (nI i)] [.int (nI (sZ σ 3)), .int 0, .int (nI i)] (c_sizeN (σ := σ) 3 (sZ σ 3) (zL_ok h3).1 rfl) (dX8_scenarioAt 4 rfl) w_230 w_231 w_232 w_28 w_233 (by decide +kernel) rfl (fun H h => zrecv_LST K (zL_ok h3).1 h) (fun H h => h) ⟨Nat.le_of_ble_eq_true rfl, Nat.le_of_ble_eq_true rfl⟩ ⟨Nat.le_refl _, Nat.le_refl _⟩ (Nat.le_of_ble_eq_true rfl) rfl rfl ?_
  refine zi_iconst K (dX8_scenarioAt 5 rfl) zk_i1 ?_
  refine zi_isub K (dX8_scenarioAt 6 rfl) ?_
  refine zi_callS K (na := 3) (As := [.int (nI i), .int 0, .int ((nI (sZ σ 3)) - 1)]) [] [.int (v_isOut σ (nI i) 0 ((nI (sZ σ 3)) - 1))] (c_isOut  (nI i) 0 ((nI (sZ σ 3)) - 1)) (dX8_scenarioAt 7 rfl) w_234 w_235 w_25 w_236 (by decide +kernel) rfl (fun H h => h) ⟨Nat.le_of_ble_eq_true rfl, Nat.le_of_ble_eq_true rfl⟩ ⟨Nat.le_refl _, Nat.le_refl _⟩ (Nat.le_of_ble_eq_true rfl) rfl rfl ?_
  refine zi_if_eq K 28 (dX8_scenarioAt 8 rfl) rfl (fun h14_0 => ?_) (fun h14_0 => ?_)
  rotate_left
  · exact absurd (isOut_ok hi (zL_b h3)) h14_0
  refine zi_aload_n K (dX8_scenarioAt 14 rfl) 0 rfl ?_
  refine zg_O_scenarios K rfl w_197 (dX8_scenarioAt 15 rfl) ?_
  refine zi_iload_n K (dX8_scenarioAt 16 rfl) 1 rfl ?_
  refine zi_callV K (na := 1) [] [.ref (ad 9 (lx σ 3 i))] (c_getK (σ := σ) 3 i (lx σ 3 i) 9 rfl (zL_ok h3) hi (zL_x h3 hi)) (dX8_scenarioAt 17 rfl) w_309 w_310 w_311 w_28 w_312 (by decide +kernel) rfl (fun H h => zrecv_LST K (zL_ok h3).1 h) (fun H h => h) ⟨Nat.le_of_ble_eq_true rfl, Nat.le_of_ble_eq_true rfl⟩ ⟨Nat.le_refl _, Nat.le_refl _⟩ (Nat.le_of_ble_eq_true rfl) rfl rfl ?_
  refine zi_cast K (fun H h => (zr_SC (σ := σ) (zL_lv h3 hi rfl) H h).1) rfl w_597 (dX8_scenarioAt 18 rfl) ?_
  exact zi_aret K E (dX8_scenarioAt 19 rfl) (Nat.le_refl _) (Nat.le_refl _) rfl (Or.inl ⟨_, rfl⟩) (fun _ h => h)
set_option maxRecDepth 100000 in
set_option maxHeartbeats 4000000 in
theorem c_checkRe {G : zG} {ad : Nat → Nat → Nat} {σ : zSt} (i : Nat) (hi : i < 5) : zC G yX8_checkReinsurer cX8_checkReinsurer 1 none 1 22 0 0 [.int (nI i)] (zP G ad σ) none (zP G ad σ) := by
  refine zC_of (by decide) (Nat.le_of_ble_eq_true rfl) (fun X K E hnm => ?_)
  show zV G X 1 (zP G ad σ) 0 0 0 [(0, .int (nI i))] []
  refine zi_iload_n K (dX8_checkReinsurer 0 rfl) 0 rfl ?_
  refine zi_iconst K (dX8_checkReinsurer 1 rfl) zk_i0 ?_
  refine zi_iconst K (dX8_checkReinsurer 2 rfl) zk_i4 ?_
  refine zi_callS K (na := 3) (As := [.int (nI i), .int 0, .int 4]) [] [.int (v_isOut σ (nI i) 0 4)] (c_isOut  (nI i) 0 4) (dX8_checkReinsurer 3 rfl) w_234 w_235 w_25 w_236 (by decide +kernel) rfl (fun H h => h) ⟨Nat.le_of_ble_eq_true rfl, Nat.le_of_ble_eq_true rfl⟩ ⟨Nat.le_refl _, Nat.le_refl _⟩ (Nat.le_of_ble_eq_true rfl) rfl rfl ?_
  refine zi_if_eq K 20 (dX8_checkReinsurer 4 rfl) rfl (fun h6_0 => ?_) (fun h6_0 => ?_)
  rotate_left
  · exact absurd (isOut_5 hi) h6_0
  exact zi_vret K E (dX8_checkReinsurer 10 rfl) (Nat.le_refl _) (Nat.le_refl _) rfl (fun _ h => h)
set_option maxRecDepth 100000 in
set_option maxHeartbeats 4000000 in
theorem c_hasEvents {G : zG} {ad : Nat → Nat → Nat} {σ : zSt} (t : Nat) (ht : t < sN σ 2) (he : sI σ 8 t 0 = 101) : zC G yX8_checkHasEvents cX8_checkHasEvents 1 none 0 0 0 0 [.ref (ad 5 t)] (zP G ad σ) none (zP G ad σ) := by
  refine zC_of (by decide) (Nat.le_of_ble_eq_true rfl) (fun X K E hnm => ?_)
  show zV G X 1 (zP G ad σ) 0 0 0 [(0, .ref (ad 5 t))] []
  refine zi_aload_n K (dX8_checkHasEvents 0 rfl) 0 rfl ?_
  refine zg_TR_kind K ht w_1097 (dX8_checkHasEvents 1 rfl) ?_
  refine zi_bipush K (dX8_checkHasEvents 2 rfl) zk_b101 ?_
  refine zi_icmp_eq K 20 (dX8_checkHasEvents 3 rfl) rfl (fun h6_0 => ?_) (fun h6_0 => ?_)
  rotate_left
  · exact absurd he h6_0
  exact zi_vret K E (dX8_checkHasEvents 9 rfl) (Nat.le_refl _) (Nat.le_refl _) rfl (fun _ h => h)
def v_losses (σ : zSt)  : Int32 := nI (sZ σ 1)
set_option maxRecDepth 100000 in
set_option maxHeartbeats 4000000 in
theorem c_losses {G : zG} {ad : Nat → Nat → Nat} {σ : zSt}  (h1 : zLW σ 1) : zC G yX8_losses cX8_losses 1 (some FieldType.int) 1 20 0 0 [.ref (ad 0 0)] (zP G ad σ) (some (.int (v_losses σ ))) (zP G ad σ) := by
  refine zC_of (by decide) (Nat.le_of_ble_eq_true rfl) (fun X K E hnm => ?_)
  show zV G X 1 (zP G ad σ) 0 0 0 [(0, .ref (ad 0 0))] []
  refine zi_aload_n K (dX8_losses 0 rfl) 0 rfl ?_
  refine zg_O_claims K rfl w_195 (dX8_losses 1 rfl) ?_
  refine zi_callV K (na := 0) [] [.int (nI (sZ σ 1))] (c_sizeN (σ := σ) 1 (sZ σ 1) (zL_ok h1).1 rfl) (dX8_losses 2 rfl) w_230 w_231 w_232 w_28 w_233 (by decide +kernel) rfl (fun H h => zrecv_LST K (zL_ok h1).1 h) (fun H h => h) ⟨Nat.le_of_ble_eq_true rfl, Nat.le_of_ble_eq_true rfl⟩ ⟨Nat.le_refl _, Nat.le_refl _⟩ (Nat.le_of_ble_eq_true rfl) rfl rfl ?_
  exact zi_iret K E (dX8_losses 3 rfl) (Nat.le_refl _) (Nat.le_refl _) rfl (fun _ h => h)
def v_allLosses (σ : zSt)  : Int64 := zsumL (fun y => (sI σ 6 (lx σ 1 y) 0).toInt64) (sZ σ 1)
set_option maxRecDepth 100000 in
set_option maxHeartbeats 4000000 in
theorem c_allLosses {G : zG} {ad : Nat → Nat → Nat} {σ : zSt}  (h1 : zLW σ 1) : zC G yX8_allLosses cX8_allLosses 4 (some FieldType.long) 3 64 0 0 [.ref (ad 0 0)] (zP G ad σ) (some (.long (v_allLosses σ ))) (zP G ad σ) := by
  refine zC_of (by decide) (Nat.le_of_ble_eq_true rfl) (fun X K E hnm => ?_)
  show zV G X 4 (zP G ad σ) 0 0 0 [(0, .ref (ad 0 0))] []
  refine zi_lconst K (dX8_allLosses 0 rfl) zk_l0 ?_
  refine zi_lstore_n K [(1, .long 0), (0, .ref (ad 0 0))] (dX8_allLosses 1 rfl) (by decide) rfl ?_
  refine zi_iconst K (dX8_allLosses 2 rfl) zk_i0 ?_
  refine zi_istore_n K [(3, .int 0), (1, .long 0), (0, .ref (ad 0 0))] (dX8_allLosses 3 rfl) (by decide) rfl ?_
  refine zV.pick [2, 1, 0] (lo' := [(0, .ref (ad 0 0)), (1, .long 0), (3, .int 0)]) rfl ?_
  suffices hloop4 : ∀ (r i : Nat), i ≤ sZ σ 1 → sZ σ 1 - i < r → zV G X 4 (zP G ad σ) (0) (0) 4 [(0, .ref (ad 0 0)), (1, .long (zsumL (fun y => (sI σ 6 (lx σ 1 y) 0).toInt64) i)), (3, .int (nI i))] [] from hloop4 (sZ σ 1 + 1) 0 (Nat.zero_le _) (Nat.lt_succ_of_le (Nat.sub_le _ _))
  intro r
  induction r with
  | zero => intro i _ h; exact absurd h (Nat.not_lt_zero _)
  | succ r ih4 =>
    intro i hi4 hr4
    refine zi_iload_n K (dX8_allLosses 4 rfl) 2 rfl ?_
    refine zi_aload_n K (dX8_allLosses 5 rfl) 0 rfl ?_
    refine zg_O_claims K rfl w_195 (dX8_allLosses 6 rfl) ?_
    refine zi_callV K (na := 0) [.int (nI i)] [.int (nI (sZ σ 1)), .int (nI i)] (c_sizeN (σ := σ) 1 (sZ σ 1) (zL_ok h1).1 rfl) (dX8_allLosses 7 rfl) w_230 w_231 w_232 w_28 w_233 (by decide +kernel) rfl (fun H h => zrecv_LST K (zL_ok h1).1 h) (fun H h => h) ⟨Nat.le_of_ble_eq_true rfl, Nat.le_of_ble_eq_true rfl⟩ ⟨Nat.le_refl _, Nat.le_refl _⟩ (Nat.le_of_ble_eq_true rfl) rfl rfl ?_
    refine zi_icmp_ge K 39 (dX8_allLosses 8 rfl) rfl (fun h12_0 => ?_) (fun h12_0 => ?_)
    · skip
      have hN4 := zloop_exit rfl (zL_b h1) hi4 h12_0
      subst hN4
      refine zi_lload_n K (dX8_allLosses 21 rfl) 1 rfl ?_
      exact zi_lret K E (dX8_allLosses 22 rfl) (Nat.le_refl _) (Nat.le_refl _) rfl (fun _ h => h)
    · skip
      have hlt4 := zloop_in rfl (zL_b h1) hi4 h12_0
      refine zi_lload_n K (dX8_allLosses 9 rfl) 1 rfl ?_
      refine zi_aload_n K (dX8_allLosses 10 rfl) 0 rfl ?_
      refine zg_O_claims K rfl w_195 (dX8_allLosses 11 rfl) ?_
      refine zi_iload_n K (dX8_allLosses 12 rfl) 2 rfl ?_
      refine zi_callV K (na := 1) [.long (zsumL (fun y => (sI σ 6 (lx σ 1 y) 0).toInt64) i)] [.ref (ad 2 (lx σ 1 i)), .long (zsumL (fun y => (sI σ 6 (lx σ 1 y) 0).toInt64) i)] (c_getK (σ := σ) 1 i (lx σ 1 i) 2 rfl (zL_ok h1) hlt4 (zL_x h1 hlt4)) (dX8_allLosses 13 rfl) w_309 w_310 w_311 w_28 w_312 (by decide +kernel) rfl (fun H h => zrecv_LST K (zL_ok h1).1 h) (fun H h => h) ⟨Nat.le_of_ble_eq_true rfl, Nat.le_of_ble_eq_true rfl⟩ ⟨Nat.le_refl _, Nat.le_refl _⟩ (Nat.le_of_ble_eq_true rfl) rfl rfl ?_
      refine zi_cast K (fun H h => (zr_CL (σ := σ) (zL_lv h1 hlt4 rfl) H h).1) rfl w_603 (dX8_allLosses 14 rfl) ?_
      refine zg_CL_amount K (zL_lv h1 hlt4 rfl) w_753 (dX8_allLosses 15 rfl) ?_
      refine zi_i2l K (dX8_allLosses 16 rfl) ?_
      refine zi_ladd K (dX8_allLosses 17 rfl) ?_
      refine zi_lstore_n K [(1, .long ((zsumL (fun y => (sI σ 6 (lx σ 1 y) 0).toInt64) i) + ((sI σ 6 (lx σ 1 i) 0).toInt64))), (0, .ref (ad 0 0)), (3, .int (nI i))] (dX8_allLosses 18 rfl) (by decide) rfl ?_
      refine zi_iinc K (v := nI (i + 1)) [(3, .int (nI (i + 1))), (1, .long ((zsumL (fun y => (sI σ 6 (lx σ 1 y) 0).toInt64) i) + ((sI σ 6 (lx σ 1 i) 0).toInt64))), (0, .ref (ad 0 0))] (dX8_allLosses 19 rfl) 2 rfl (zk_inc _) (by decide) rfl ?_
      refine zi_goto K 4 (dX8_allLosses 20 rfl) rfl ?_
      refine zV.pick [2, 1, 0] (lo' := [(0, .ref (ad 0 0)), (1, .long ((zsumL (fun y => (sI σ 6 (lx σ 1 y) 0).toInt64) i) + ((sI σ 6 (lx σ 1 i) 0).toInt64))), (3, .int (nI (i + 1)))]) rfl ?_
      refine zV.lov (lo' := [(0, .ref (ad 0 0)), (1, .long (zsumL (fun y => (sI σ 6 (lx σ 1 y) 0).toInt64) (i + 1))), (3, .int (nI (i + 1)))]) (by first | rfl | (simp only [zsumL])) ?_
      exact ih4 (i + 1) (by omega) (by omega)
/-- the weights of the scenarios with a greater net -/
def zwt (σ : zSt) (net : Int64) : Nat → Int32
  | 0 => 0
  | i + 1 => if net < sL σ 6 (lx σ 3 i) 0 then zwt σ net i + sI σ 24 (lx σ 3 i) 0 else zwt σ net i
def v_weightAbove (σ : zSt) (net : Int64) : Int32 := zwt σ net (sZ σ 3)
set_option maxRecDepth 100000 in
set_option maxHeartbeats 4000000 in
theorem c_weightAbove {G : zG} {ad : Nat → Nat → Nat} {σ : zSt} (net : Int64) (h3 : zLW σ 3) : zC G yX8_weightAbove cX8_weightAbove 5 (some FieldType.int) 3 64 0 0 [.ref (ad 0 0), .long net] (zP G ad σ) (some (.int (v_weightAbove σ net))) (zP G ad σ) := by
  refine zC_of (by decide) (Nat.le_of_ble_eq_true rfl) (fun X K E hnm => ?_)
  show zV G X 5 (zP G ad σ) 0 0 0 [(0, .ref (ad 0 0)), (1, .long net)] []
  refine zi_iconst K (dX8_weightAbove 0 rfl) zk_i0 ?_
  refine zi_istore_n K [(3, .int 0), (0, .ref (ad 0 0)), (1, .long net)] (dX8_weightAbove 1 rfl) (by decide) rfl ?_
  refine zi_iconst K (dX8_weightAbove 2 rfl) zk_i0 ?_
  refine zi_istore K [(4, .int 0), (3, .int 0), (0, .ref (ad 0 0)), (1, .long net)] (dX8_weightAbove 3 rfl) (by decide) rfl ?_
  refine zV.pick [2, 3, 1, 0] (lo' := [(0, .ref (ad 0 0)), (1, .long net), (3, .int 0), (4, .int 0)]) rfl ?_
  suffices hloop5 : ∀ (r i : Nat), i ≤ sZ σ 3 → sZ σ 3 - i < r → zV G X 5 (zP G ad σ) (0) (0) 5 [(0, .ref (ad 0 0)), (1, .long net), (3, .int (zwt σ net i)), (4, .int (nI i))] [] from hloop5 (sZ σ 3 + 1) 0 (Nat.zero_le _) (Nat.lt_succ_of_le (Nat.sub_le _ _))
  intro r
  induction r with
  | zero => intro i _ h; exact absurd h (Nat.not_lt_zero _)
  | succ r ih5 =>
    intro i hi5 hr5
    refine zi_iload K (dX8_weightAbove 4 rfl) 3 rfl ?_
    refine zi_aload_n K (dX8_weightAbove 5 rfl) 0 rfl ?_
    refine zg_O_scenarios K rfl w_197 (dX8_weightAbove 6 rfl) ?_
    refine zi_callV K (na := 0) [.int (nI i)] [.int (nI (sZ σ 3)), .int (nI i)] (c_sizeN (σ := σ) 3 (sZ σ 3) (zL_ok h3).1 rfl) (dX8_weightAbove 7 rfl) w_230 w_231 w_232 w_28 w_233 (by decide +kernel) rfl (fun H h => zrecv_LST K (zL_ok h3).1 h) (fun H h => h) ⟨Nat.le_of_ble_eq_true rfl, Nat.le_of_ble_eq_true rfl⟩ ⟨Nat.le_refl _, Nat.le_refl _⟩ (Nat.le_of_ble_eq_true rfl) rfl rfl ?_
    refine zi_icmp_ge K 61 (dX8_weightAbove 8 rfl) rfl (fun h14_0 => ?_) (fun h14_0 => ?_)
    · skip
      have hN5 := zloop_exit rfl (zL_b h3) hi5 h14_0
      subst hN5
      refine zi_iload_n K (dX8_weightAbove 29 rfl) 2 rfl ?_
      exact zi_iret K E (dX8_weightAbove 30 rfl) (Nat.le_refl _) (Nat.le_refl _) rfl (fun _ h => h)
    · skip
      have hlt5 := zloop_in rfl (zL_b h3) hi5 h14_0
      refine zi_aload_n K (dX8_weightAbove 9 rfl) 0 rfl ?_
      refine zg_O_scenarios K rfl w_197 (dX8_weightAbove 10 rfl) ?_
      refine zi_iload K (dX8_weightAbove 11 rfl) 3 rfl ?_
      refine zi_callV K (na := 1) [] [.ref (ad 9 (lx σ 3 i))] (c_getK (σ := σ) 3 i (lx σ 3 i) 9 rfl (zL_ok h3) hlt5 (zL_x h3 hlt5)) (dX8_weightAbove 12 rfl) w_309 w_310 w_311 w_28 w_312 (by decide +kernel) rfl (fun H h => zrecv_LST K (zL_ok h3).1 h) (fun H h => h) ⟨Nat.le_of_ble_eq_true rfl, Nat.le_of_ble_eq_true rfl⟩ ⟨Nat.le_refl _, Nat.le_refl _⟩ (Nat.le_of_ble_eq_true rfl) rfl rfl ?_
      refine zi_cast K (fun H h => (zr_SC (σ := σ) (zL_lv h3 hlt5 rfl) H h).1) rfl w_597 (dX8_weightAbove 13 rfl) ?_
      refine zg_SC_net K (zL_lv h3 hlt5 rfl) w_1321 (dX8_weightAbove 14 rfl) ?_
      refine zi_lload_n K (dX8_weightAbove 15 rfl) 1 rfl ?_
      refine zi_lif_le K 55 (dX8_weightAbove 16 rfl) (dX8_weightAbove 17 rfl) rfl (fun h33_0 => ?_) (fun h33_0 => ?_)
      · skip
        refine zi_iinc K (v := nI (i + 1)) [(4, .int (nI (i + 1))), (0, .ref (ad 0 0)), (1, .long net), (3, .int (zwt σ net i))] (dX8_weightAbove 27 rfl) 3 rfl (zk_inc _) (by decide) rfl ?_
        refine zi_goto K 5 (dX8_weightAbove 28 rfl) rfl ?_
        refine zV.pick [1, 2, 3, 0] (lo' := [(0, .ref (ad 0 0)), (1, .long net), (3, .int (zwt σ net i)), (4, .int (nI (i + 1)))]) rfl ?_
        refine zV.lov (lo' := [(0, .ref (ad 0 0)), (1, .long net), (3, .int (zwt σ net (i + 1))), (4, .int (nI (i + 1)))]) (by simp only [zwt, if_neg h33_0]) ?_
        exact ih5 (i + 1) (by omega) (by omega)
      · skip
        refine zi_iload_n K (dX8_weightAbove 18 rfl) 2 rfl ?_
        refine zi_aload_n K (dX8_weightAbove 19 rfl) 0 rfl ?_
        refine zg_O_scenarios K rfl w_197 (dX8_weightAbove 20 rfl) ?_
        refine zi_iload K (dX8_weightAbove 21 rfl) 3 rfl ?_
        refine zi_callV K (na := 1) [.int (zwt σ net i)] [.ref (ad 9 (lx σ 3 i)), .int (zwt σ net i)] (c_getK (σ := σ) 3 i (lx σ 3 i) 9 rfl (zL_ok h3) hlt5 (zL_x h3 hlt5)) (dX8_weightAbove 22 rfl) w_309 w_310 w_311 w_28 w_312 (by decide +kernel) rfl (fun H h => zrecv_LST K (zL_ok h3).1 h) (fun H h => h) ⟨Nat.le_of_ble_eq_true rfl, Nat.le_of_ble_eq_true rfl⟩ ⟨Nat.le_refl _, Nat.le_refl _⟩ (Nat.le_of_ble_eq_true rfl) rfl rfl ?_
        refine zi_cast K (fun H h => (zr_SC (σ := σ) (zL_lv h3 hlt5 rfl) H h).1) rfl w_597 (dX8_weightAbove 23 rfl) ?_
        refine zg_SC_weight K (zL_lv h3 hlt5 rfl) w_1317 (dX8_weightAbove 24 rfl) ?_
        refine zi_iadd K (dX8_weightAbove 25 rfl) ?_
        refine zi_istore_n K [(3, .int ((zwt σ net i) + (sI σ 24 (lx σ 3 i) 0))), (0, .ref (ad 0 0)), (1, .long net), (4, .int (nI i))] (dX8_weightAbove 26 rfl) (by decide) rfl ?_
        refine zi_iinc K (v := nI (i + 1)) [(4, .int (nI (i + 1))), (3, .int ((zwt σ net i) + (sI σ 24 (lx σ 3 i) 0))), (0, .ref (ad 0 0)), (1, .long net)] (dX8_weightAbove 27 rfl) 3 rfl (zk_inc _) (by decide) rfl ?_
        refine zi_goto K 5 (dX8_weightAbove 28 rfl) rfl ?_
        refine zV.pick [2, 3, 1, 0] (lo' := [(0, .ref (ad 0 0)), (1, .long net), (3, .int ((zwt σ net i) + (sI σ 24 (lx σ 3 i) 0))), (4, .int (nI (i + 1)))]) rfl ?_
        refine zV.lov (lo' := [(0, .ref (ad 0 0)), (1, .long net), (3, .int (zwt σ net (i + 1))), (4, .int (nI (i + 1)))]) (by simp only [zwt, if_pos h33_0]) ?_
        exact ih5 (i + 1) (by omega) (by omega)
end
section
/-! Laying: adding a day, cuts, worth of a laying -/
theorem zk_pr {n : Nat} (h : ¬ nI n ≤ 0) : nI n - 1 = nI (n - 1) := by
  cases n with
  | zero => exact absurd (by decide) h
  | succ m => exact nI_pred m
def s_lyAdd (σ : zSt) (b k n : Nat) : zSt := if nI n ≤ 0 then (if 30 ≤ nI n then σ else (uI (uL (uI σ 28 b n (sI σ 4 k 0)) 7 b n (sL (uI σ 28 b n (sI σ 4 k 0)) 0 k 0)) 27 b 0 ((nI n) + 1))) else if sI σ 28 b (n - 1) = sI σ 4 k 0 then (uL σ 7 b (n - 1) ((sL σ 7 b (n - 1)) + (sL σ 0 k 0))) else if 30 ≤ nI n then σ else (uI (uL (uI σ 28 b n (sI σ 4 k 0)) 7 b n (sL (uI σ 28 b n (sI σ 4 k 0)) 0 k 0)) 27 b 0 ((nI n) + 1))
theorem s_lyAdd_22 (σ : zSt) (b k n : Nat) : (s_lyAdd σ b k n).2.2 = σ.2.2 := by
  unfold s_lyAdd
  (repeat' split) <;> first | exact ((uI_22 (uL (uI σ 28 b n (sI σ 4 k 0)) 7 b n (sL (uI σ 28 b n (sI σ 4 k 0)) 0 k 0)) 27 b 0 ((nI n) + 1)).trans ((uL_22 (uI σ 28 b n (sI σ 4 k 0)) 7 b n (sL (uI σ 28 b n (sI σ 4 k 0)) 0 k 0)).trans ((uI_22 σ 28 b n (sI σ 4 k 0)).trans rfl))) | exact ((uL_22 σ 7 b (n - 1) ((sL σ 7 b (n - 1)) + (sL σ 0 k 0))).trans rfl) | exact rfl
set_option maxRecDepth 100000 in
set_option maxHeartbeats 4000000 in
theorem c_lyAdd {G : zG} {ad : Nat → Nat → Nat} {σ : zSt} (b k n : Nat) (hb : b < 2) (hk : zlC σ k) (hn : sI σ 27 b 0 = nI n) (hn30 : n ≤ 30) : zC G yX3_add cX3_add 2 none 0 0 0 0 [.ref (ad 12 b), .ref (ad 2 k)] (zP G ad σ) none (zP G ad (s_lyAdd σ b k n)) := by
  refine zC_of (by decide) (Nat.le_of_ble_eq_true rfl) (fun X K E hnm => ?_)
  show zV G X 2 (zP G ad σ) 0 0 0 [(0, .ref (ad 12 b)), (1, .ref (ad 2 k))] []
  refine zi_aload_n K (dX3_add 0 rfl) 0 rfl ?_
  refine zg_LAY_size K hb w_115 (dX3_add 1 rfl) ?_
  rw [show sI σ 27 b 0 = nI n from hn]
  refine zi_if_le K 46 (dX3_add 2 rfl) rfl (fun h4_0 => ?_) (fun h4_0 => ?_)
  · skip
    refine zi_aload_n K (dX3_add 26 rfl) 0 rfl ?_
    refine zg_LAY_size K hb w_115 (dX3_add 27 rfl) ?_
    rw [show sI σ 27 b 0 = nI n from hn]
    refine zi_aload_n K (dX3_add 28 rfl) 0 rfl ?_
    refine zg_LAY_days K hb w_108 (dX3_add 29 rfl) ?_
    refine zn_LDAYS K hb (dX3_add 30 rfl) ?_
    refine zi_icmp_ge K 94 (dX3_add 31 rfl) rfl (fun h55_1 => ?_) (fun h55_1 => ?_)
    · skip
      exact zi_vret K E (dX3_add 52 rfl) (Nat.le_refl _) (Nat.le_refl _) rfl (fun H h => by unfold s_lyAdd; rw [if_pos h4_0, if_pos h55_1]; exact h)
    · skip
      refine zi_aload_n K (dX3_add 32 rfl) 0 rfl ?_
      refine zg_LAY_days K hb w_108 (dX3_add 33 rfl) ?_
      refine zi_aload_n K (dX3_add 34 rfl) 0 rfl ?_
      refine zg_LAY_size K hb w_115 (dX3_add 35 rfl) ?_
      rw [show sI σ 27 b 0 = nI n from hn]
      refine zi_aload_n K (dX3_add 36 rfl) 1 rfl ?_
      refine zg_CL_day K hk w_747 (dX3_add 37 rfl) ?_
      refine zs_LDAYS K hb n rfl (by first | omega | (have q := zloop_in (i := n) (N := 30) (by decide) (by decide) hn30 h55_1; omega) | (have q := zloop_in (i := n) (N := 30) (by decide) (by decide) hn30 h55_2; omega)) (dX3_add 38 rfl) ?_
      refine zi_aload_n K (dX3_add 39 rfl) 0 rfl ?_
      refine zg_LAY_sums K hb w_110 (dX3_add 40 rfl) ?_
      refine zi_aload_n K (dX3_add 41 rfl) 0 rfl ?_
      refine zg_LAY_size K hb w_115 (dX3_add 42 rfl) ?_
      rw [show sI (uI σ 28 b n (sI σ 4 k 0)) 27 b 0 = nI n from hn]
      refine zi_aload_n K (dX3_add 43 rfl) 1 rfl ?_
      refine zg_CL_left K hk w_756 (dX3_add 44 rfl) ?_
      refine zs_LSUMS K hb n rfl (by first | omega | (have q := zloop_in (i := n) (N := 30) (by decide) (by decide) hn30 h55_1; omega) | (have q := zloop_in (i := n) (N := 30) (by decide) (by decide) hn30 h55_2; omega)) (dX3_add 45 rfl) ?_
      refine zi_aload_n K (dX3_add 46 rfl) 0 rfl ?_
      refine zi_dup K (dX3_add 47 rfl) rfl ?_
      refine zg_LAY_size K hb w_115 (dX3_add 48 rfl) ?_
      rw [show sI (uL (uI σ 28 b n (sI σ 4 k 0)) 7 b n (sL (uI σ 28 b n (sI σ 4 k 0)) 0 k 0)) 27 b 0 = nI n from hn]
      refine zi_iconst K (dX3_add 49 rfl) zk_i1 ?_
      refine zi_iadd K (dX3_add 50 rfl) ?_
      refine zp_LAY_size K hb w_115 (dX3_add 51 rfl) ?_
      exact zi_vret K E (dX3_add 52 rfl) (Nat.le_refl _) (Nat.le_refl _) rfl (fun H h => by unfold s_lyAdd; rw [if_pos h4_0, if_neg h55_1]; exact h)
  · skip
    refine zi_aload_n K (dX3_add 3 rfl) 0 rfl ?_
    refine zg_LAY_days K hb w_108 (dX3_add 4 rfl) ?_
    refine zi_aload_n K (dX3_add 5 rfl) 0 rfl ?_
    refine zg_LAY_size K hb w_115 (dX3_add 6 rfl) ?_
    rw [show sI σ 27 b 0 = nI n from hn]
    refine zi_iconst K (dX3_add 7 rfl) zk_i1 ?_
    refine zi_isub K (dX3_add 8 rfl) ?_
    refine zl_LDAYS K hb (n - 1) (zk_pr h4_0) (by omega) (dX3_add 9 rfl) ?_
    refine zi_aload_n K (dX3_add 10 rfl) 1 rfl ?_
    refine zg_CL_day K hk w_747 (dX3_add 11 rfl) ?_
    refine zi_icmp_ne K 46 (dX3_add 12 rfl) rfl (fun h22_1 => ?_) (fun h22_1 => ?_)
    · skip
      refine zi_aload_n K (dX3_add 26 rfl) 0 rfl ?_
      refine zg_LAY_size K hb w_115 (dX3_add 27 rfl) ?_
      rw [show sI σ 27 b 0 = nI n from hn]
      refine zi_aload_n K (dX3_add 28 rfl) 0 rfl ?_
      refine zg_LAY_days K hb w_108 (dX3_add 29 rfl) ?_
      refine zn_LDAYS K hb (dX3_add 30 rfl) ?_
      refine zi_icmp_ge K 94 (dX3_add 31 rfl) rfl (fun h55_2 => ?_) (fun h55_2 => ?_)
      · skip
        exact zi_vret K E (dX3_add 52 rfl) (Nat.le_refl _) (Nat.le_refl _) rfl (fun H h => by unfold s_lyAdd; rw [if_neg h4_0, if_neg h22_1, if_pos h55_2]; exact h)
      · skip
        refine zi_aload_n K (dX3_add 32 rfl) 0 rfl ?_
        refine zg_LAY_days K hb w_108 (dX3_add 33 rfl) ?_
        refine zi_aload_n K (dX3_add 34 rfl) 0 rfl ?_
        refine zg_LAY_size K hb w_115 (dX3_add 35 rfl) ?_
        rw [show sI σ 27 b 0 = nI n from hn]
        refine zi_aload_n K (dX3_add 36 rfl) 1 rfl ?_
        refine zg_CL_day K hk w_747 (dX3_add 37 rfl) ?_
        refine zs_LDAYS K hb n rfl (by first | omega | (have q := zloop_in (i := n) (N := 30) (by decide) (by decide) hn30 h55_1; omega) | (have q := zloop_in (i := n) (N := 30) (by decide) (by decide) hn30 h55_2; omega)) (dX3_add 38 rfl) ?_
        refine zi_aload_n K (dX3_add 39 rfl) 0 rfl ?_
        refine zg_LAY_sums K hb w_110 (dX3_add 40 rfl) ?_
        refine zi_aload_n K (dX3_add 41 rfl) 0 rfl ?_
        refine zg_LAY_size K hb w_115 (dX3_add 42 rfl) ?_
        rw [show sI (uI σ 28 b n (sI σ 4 k 0)) 27 b 0 = nI n from hn]
        refine zi_aload_n K (dX3_add 43 rfl) 1 rfl ?_
        refine zg_CL_left K hk w_756 (dX3_add 44 rfl) ?_
        refine zs_LSUMS K hb n rfl (by first | omega | (have q := zloop_in (i := n) (N := 30) (by decide) (by decide) hn30 h55_1; omega) | (have q := zloop_in (i := n) (N := 30) (by decide) (by decide) hn30 h55_2; omega)) (dX3_add 45 rfl) ?_
        refine zi_aload_n K (dX3_add 46 rfl) 0 rfl ?_
        refine zi_dup K (dX3_add 47 rfl) rfl ?_
        refine zg_LAY_size K hb w_115 (dX3_add 48 rfl) ?_
        rw [show sI (uL (uI σ 28 b n (sI σ 4 k 0)) 7 b n (sL (uI σ 28 b n (sI σ 4 k 0)) 0 k 0)) 27 b 0 = nI n from hn]
        refine zi_iconst K (dX3_add 49 rfl) zk_i1 ?_
        refine zi_iadd K (dX3_add 50 rfl) ?_
        refine zp_LAY_size K hb w_115 (dX3_add 51 rfl) ?_
        exact zi_vret K E (dX3_add 52 rfl) (Nat.le_refl _) (Nat.le_refl _) rfl (fun H h => by unfold s_lyAdd; rw [if_neg h4_0, if_neg h22_1, if_neg h55_2]; exact h)
    · skip
      refine zi_aload_n K (dX3_add 13 rfl) 0 rfl ?_
      refine zg_LAY_sums K hb w_110 (dX3_add 14 rfl) ?_
      refine zi_aload_n K (dX3_add 15 rfl) 0 rfl ?_
      refine zg_LAY_size K hb w_115 (dX3_add 16 rfl) ?_
      rw [show sI σ 27 b 0 = nI n from hn]
      refine zi_iconst K (dX3_add 17 rfl) zk_i1 ?_
      refine zi_isub K (dX3_add 18 rfl) ?_
      refine zi_dup2_11 K (dX3_add 19 rfl) rfl rfl ?_
      refine zl_LSUMS K hb (n - 1) (zk_pr h4_0) (by omega) (dX3_add 20 rfl) ?_
      refine zi_aload_n K (dX3_add 21 rfl) 1 rfl ?_
      refine zg_CL_left K hk w_756 (dX3_add 22 rfl) ?_
      refine zi_ladd K (dX3_add 23 rfl) ?_
      refine zs_LSUMS K hb (n - 1) (zk_pr h4_0) (by omega) (dX3_add 24 rfl) ?_
      refine zi_goto K 94 (dX3_add 25 rfl) rfl ?_
      exact zi_vret K E (dX3_add 52 rfl) (Nat.le_refl _) (Nat.le_refl _) rfl (fun H h => by unfold s_lyAdd; rw [if_neg h4_0, if_pos h22_1]; exact h)
def v_isCut (σ : zSt) (b n : Nat) (c p : Int32) : Int32 := if p = (nI n) - 1 then 1 else if (c >>> ((((nI n) - 2) - p) &&& 31)) &&& 1 = 1 then 1 else 0
set_option maxRecDepth 100000 in
set_option maxHeartbeats 4000000 in
theorem c_isCut {G : zG} {ad : Nat → Nat → Nat} {σ : zSt} (b n : Nat) (c p : Int32) (hb : b < 2) (hn : sI σ 27 b 0 = nI n) : zC G yX3_isCut cX3_isCut 3 (some FieldType.boolean) 0 0 0 0 [.ref (ad 12 b), .int c, .int p] (zP G ad σ) (some (.int (v_isCut σ b n c p))) (zP G ad σ) := by
  refine zC_of (by decide) (Nat.le_of_ble_eq_true rfl) (fun X K E hnm => ?_)
  show zV G X 3 (zP G ad σ) 0 0 0 [(0, .ref (ad 12 b)), (1, .int c), (2, .int p)] []
  refine zi_iload_n K (dX3_isCut 0 rfl) 2 rfl ?_
  refine zi_aload_n K (dX3_isCut 1 rfl) 0 rfl ?_
  refine zg_LAY_size K hb w_115 (dX3_isCut 2 rfl) ?_
  rw [show sI σ 27 b 0 = nI n from hn]
  refine zi_iconst K (dX3_isCut 3 rfl) zk_i1 ?_
  refine zi_isub K (dX3_isCut 4 rfl) ?_
  refine zi_icmp_eq K 26 (dX3_isCut 5 rfl) rfl (fun h7_0 => ?_) (fun h7_0 => ?_)
  · skip
    refine zi_iconst K (dX3_isCut 18 rfl) zk_i1 ?_
    refine zi_goto K 31 (dX3_isCut 19 rfl) rfl ?_
    exact zi_zret K E (dX3_isCut 21 rfl) (Nat.le_refl _) (Nat.le_refl _) (by unfold v_isCut; rw [if_pos h7_0]) rfl (fun _ h => h)
  · skip
    refine zi_iload_n K (dX3_isCut 6 rfl) 1 rfl ?_
    refine zi_aload_n K (dX3_isCut 7 rfl) 0 rfl ?_
    refine zg_LAY_size K hb w_115 (dX3_isCut 8 rfl) ?_
    rw [show sI σ 27 b 0 = nI n from hn]
    refine zi_iconst K (dX3_isCut 9 rfl) zk_i2 ?_
    refine zi_isub K (dX3_isCut 10 rfl) ?_
    refine zi_iload_n K (dX3_isCut 11 rfl) 2 rfl ?_
    refine zi_isub K (dX3_isCut 12 rfl) ?_
    refine zi_ishr K (dX3_isCut 13 rfl) ?_
    refine zi_iconst K (dX3_isCut 14 rfl) zk_i1 ?_
    refine zi_iand K (dX3_isCut 15 rfl) ?_
    refine zi_iconst K (dX3_isCut 16 rfl) zk_i1 ?_
    refine zi_icmp_ne K 30 (dX3_isCut 17 rfl) rfl (fun h23_1 => ?_) (fun h23_1 => ?_)
    · skip
      refine zi_iconst K (dX3_isCut 20 rfl) zk_i0 ?_
      exact zi_zret K E (dX3_isCut 21 rfl) (Nat.le_refl _) (Nat.le_refl _) (by unfold v_isCut; rw [if_neg h7_0, if_neg h23_1]) rfl (fun _ h => h)
    · skip
      refine zi_iconst K (dX3_isCut 18 rfl) zk_i1 ?_
      refine zi_goto K 31 (dX3_isCut 19 rfl) rfl ?_
      exact zi_zret K E (dX3_isCut 21 rfl) (Nat.le_refl _) (Nat.le_refl _) (by unfold v_isCut; rw [if_neg h7_0, if_pos h23_1]) rfl (fun _ h => h)
def lv_worthOf (σ : zSt) (b n : Nat) (c : Int32) (t : Nat) : Nat → Nat → Int64 → Int64 → Int32 → Int64
  | 0, _, _, _, _ => 0
  | r + 1, p, worth, sum, fd => if nI n ≤ nI p then worth else if sum = 0 then (if (sI σ 28 b p) - (sI σ 28 b p) < sI σ 14 t 0 then (if v_isCut σ b n c (nI p) = 0 then lv_worthOf σ b n c t r (p + 1) worth (sum + (sL σ 7 b p)) (sI σ 28 b p) else lv_worthOf σ b n c t r (p + 1) (worth + (v_layerOf σ t (sum + (sL σ 7 b p)))) 0 (sI σ 28 b p)) else (-1)) else if (sI σ 28 b p) - fd < sI σ 14 t 0 then (if v_isCut σ b n c (nI p) = 0 then lv_worthOf σ b n c t r (p + 1) worth (sum + (sL σ 7 b p)) fd else lv_worthOf σ b n c t r (p + 1) (worth + (v_layerOf σ t (sum + (sL σ 7 b p)))) 0 fd) else (-1)
def v_worthOf (σ : zSt) (b n : Nat) (c : Int32) (t : Nat) : Int64 := lv_worthOf σ b n c t (n + 1) 0 0 0 (sI σ 28 b 0)
set_option maxRecDepth 100000 in
set_option maxHeartbeats 4000000 in
theorem c_worthOf {G : zG} {ad : Nat → Nat → Nat} {σ : zSt} (b n : Nat) (c : Int32) (t : Nat) (hb : b < 2) (ht : t < sN σ 2) (hn : sI σ 27 b 0 = nI n) (hn30 : n ≤ 30) : zC G yX3_worthOf cX3_worthOf 9 (some FieldType.long) 2 39 0 0 [.ref (ad 12 b), .int c, .ref (ad 5 t)] (zP G ad σ) (some (.long (v_worthOf σ b n c t))) (zP G ad σ) := by
  refine zC_of (by decide) (Nat.le_of_ble_eq_true rfl) (fun X K E hnm => ?_)
  show zV G X 9 (zP G ad σ) 0 0 0 [(0, .ref (ad 12 b)), (1, .int c), (2, .ref (ad 5 t))] []
  refine zi_lconst K (dX3_worthOf 0 rfl) zk_l0 ?_
  refine zi_lstore_n K [(3, .long 0), (0, .ref (ad 12 b)), (1, .int c), (2, .ref (ad 5 t))] (dX3_worthOf 1 rfl) (by decide) rfl ?_
  refine zi_lconst K (dX3_worthOf 2 rfl) zk_l0 ?_
  refine zi_lstore K [(5, .long 0), (3, .long 0), (0, .ref (ad 12 b)), (1, .int c), (2, .ref (ad 5 t))] (dX3_worthOf 3 rfl) (by decide) rfl ?_
  refine zi_aload_n K (dX3_worthOf 4 rfl) 2 rfl ?_
  refine zg_LAY_days K hb w_108 (dX3_worthOf 5 rfl) ?_
  refine zi_iconst K (dX3_worthOf 6 rfl) zk_i0 ?_
  refine zl_LDAYS K hb 0 (by decide) (by decide) (dX3_worthOf 7 rfl) ?_
  refine zi_istore K [(7, .int (sI σ 28 b 0)), (5, .long 0), (3, .long 0), (0, .ref (ad 12 b)), (1, .int c), (2, .ref (ad 5 t))] (dX3_worthOf 8 rfl) (by decide) rfl ?_
  refine zi_iconst K (dX3_worthOf 9 rfl) zk_i0 ?_
  refine zi_istore K [(8, .int 0), (7, .int (sI σ 28 b 0)), (5, .long 0), (3, .long 0), (0, .ref (ad 12 b)), (1, .int c), (2, .ref (ad 5 t))] (dX3_worthOf 10 rfl) (by decide) rfl ?_
  refine zV.pick [0, 3, 2, 1, 4, 5, 6] (lo' := [(8, .int 0), (3, .long 0), (5, .long 0), (7, .int (sI σ 28 b 0)), (0, .ref (ad 12 b)), (1, .int c), (2, .ref (ad 5 t))]) rfl ?_
  suffices hlR : ∀ (r : Nat) (p : Nat) (worth : Int64) (sum : Int64) (fd : Int32), p ≤ n → n - p < r → v_worthOf σ b n c t = lv_worthOf σ b n c t r p worth sum fd → zV G X 9 (zP G ad σ) (0) (0) 16 [(8, .int (nI p)), (3, .long worth), (5, .long sum), (7, .int fd), (0, .ref (ad 12 b)), (1, .int c), (2, .ref (ad 5 t))] [] from hlR (n + 1) 0 0 0 (sI σ 28 b 0) (Nat.zero_le _) (by omega) rfl
  intro r
  induction r with
  | zero => intro p worth sum fd _ h; exact absurd h (Nat.not_lt_zero _)
  | succ r ihR =>
    intro p worth sum fd hfR hmR hV
    refine zi_iload K (dX3_worthOf 11 rfl) 0 rfl ?_
    refine zi_aload_n K (dX3_worthOf 12 rfl) 4 rfl ?_
    refine zg_LAY_size K hb w_115 (dX3_worthOf 13 rfl) ?_
    rw [show sI σ 27 b 0 = nI n from hn]
    refine zi_icmp_ge K 102 (dX3_worthOf 14 rfl) rfl (fun h22_0 => ?_) (fun h22_0 => ?_)
    · skip
      refine zi_lload_n K (dX3_worthOf 57 rfl) 1 rfl ?_
      exact zi_lret K E (dX3_worthOf 58 rfl) (Nat.le_refl _) (Nat.le_refl _) (by rw [hV]; simp only [lv_worthOf, if_pos h22_0]) (fun _ h => h)
    · skip
      refine zi_lload K (dX3_worthOf 15 rfl) 2 rfl ?_
      refine zi_lconst K (dX3_worthOf 16 rfl) zk_l0 ?_
      refine zi_lif_ne K 41 (dX3_worthOf 17 rfl) (dX3_worthOf 18 rfl) rfl (fun h28_1 => ?_) (fun h28_1 => ?_)
      · skip
        refine zi_aload_n K (dX3_worthOf 24 rfl) 4 rfl ?_
        refine zg_LAY_days K hb w_108 (dX3_worthOf 25 rfl) ?_
        refine zi_iload K (dX3_worthOf 26 rfl) 0 rfl ?_
        refine zl_LDAYS K hb p rfl (by have q := zloop_in (i := p) (N := n) rfl (by omega) hfR h22_0; omega) (dX3_worthOf 27 rfl) ?_
        refine zi_iload K (dX3_worthOf 28 rfl) 3 rfl ?_
        refine zi_isub K (dX3_worthOf 29 rfl) ?_
        refine zi_aload_n K (dX3_worthOf 30 rfl) 6 rfl ?_
        refine zg_TR_days K ht w_1108 (dX3_worthOf 31 rfl) ?_
        refine zi_icmp_lt K 62 (dX3_worthOf 32 rfl) rfl (fun h55_2 => ?_) (fun h55_2 => ?_)
        · skip
          refine zi_lload K (dX3_worthOf 35 rfl) 2 rfl ?_
          refine zi_aload_n K (dX3_worthOf 36 rfl) 4 rfl ?_
          refine zg_LAY_sums K hb w_110 (dX3_worthOf 37 rfl) ?_
          refine zi_iload K (dX3_worthOf 38 rfl) 0 rfl ?_
          refine zl_LSUMS K hb p rfl (by have q := zloop_in (i := p) (N := n) rfl (by omega) hfR h22_0; omega) (dX3_worthOf 39 rfl) ?_
          refine zi_ladd K (dX3_worthOf 40 rfl) ?_
          refine zi_lstore K [(5, .long (sum + (sL σ 7 b p))), (8, .int (nI p)), (3, .long worth), (7, .int fd), (0, .ref (ad 12 b)), (1, .int c), (2, .ref (ad 5 t))] (dX3_worthOf 41 rfl) (by decide) rfl ?_
          refine zi_aload_n K (dX3_worthOf 42 rfl) 4 rfl ?_
          refine zi_iload_n K (dX3_worthOf 43 rfl) 5 rfl ?_
          refine zi_iload K (dX3_worthOf 44 rfl) 1 rfl ?_
          refine zi_callV K (na := 2) [] [.int (v_isCut σ b n c (nI p))] (c_isCut (σ := σ) b n c (nI p) hb hn) (dX3_worthOf 45 rfl) w_525 w_527 w_9 w_30 w_528 (by decide +kernel) rfl (fun H h => zi_recv K (zr_LAY (σ := σ) hb H h).1 rfl) (fun H h => h) ⟨Nat.le_of_ble_eq_true rfl, Nat.le_of_ble_eq_true rfl⟩ ⟨Nat.le_refl _, Nat.le_refl _⟩ (Nat.le_of_ble_eq_true rfl) rfl rfl ?_
          refine zi_if_eq K 96 (dX3_worthOf 46 rfl) rfl (fun h81_3 => ?_) (fun h81_3 => ?_)
          · skip
            refine zi_iinc K (v := nI (p + 1)) [(8, .int (nI (p + 1))), (5, .long (sum + (sL σ 7 b p))), (3, .long worth), (7, .int fd), (0, .ref (ad 12 b)), (1, .int c), (2, .ref (ad 5 t))] (dX3_worthOf 55 rfl) 1 rfl (zk_inc _) (by decide) rfl ?_
            refine zi_goto K 16 (dX3_worthOf 56 rfl) rfl ?_
            refine zV.pick [0, 2, 1, 3, 4, 5, 6] (lo' := [(8, .int (nI (p + 1))), (3, .long worth), (5, .long (sum + (sL σ 7 b p))), (7, .int fd), (0, .ref (ad 12 b)), (1, .int c), (2, .ref (ad 5 t))]) rfl ?_
            exact ihR (p + 1) worth (sum + (sL σ 7 b p)) fd (by have q := zloop_in (i := p) (N := n) rfl (by omega) hfR h22_0; omega) (by have q := zloop_in (i := p) (N := n) rfl (by omega) hfR h22_0; omega) (by rw [hV]; simp only [lv_worthOf, if_neg h22_0, if_neg h28_1, if_pos h55_2, if_pos h81_3])
          · skip
            refine zi_lload_n K (dX3_worthOf 47 rfl) 2 rfl ?_
            refine zi_aload_n K (dX3_worthOf 48 rfl) 6 rfl ?_
            refine zi_lload K (dX3_worthOf 49 rfl) 0 rfl ?_
            refine zi_callV K (na := 1) [.long worth] [.long (v_layerOf σ t (sum + (sL σ 7 b p))), .long worth] (c_layerOf  t (sum + (sL σ 7 b p)) ht) (dX3_worthOf 50 rfl) w_509 w_400 w_401 w_55 w_402 (by decide +kernel) rfl (fun H h => zi_recv K (zr_TR (σ := σ) ht H h).1 rfl) (fun H h => h) ⟨Nat.le_of_ble_eq_true rfl, Nat.le_of_ble_eq_true rfl⟩ ⟨Nat.le_refl _, Nat.le_refl _⟩ (Nat.le_of_ble_eq_true rfl) rfl rfl ?_
            refine zi_ladd K (dX3_worthOf 51 rfl) ?_
            refine zi_lstore_n K [(3, .long (worth + (v_layerOf σ t (sum + (sL σ 7 b p))))), (5, .long (sum + (sL σ 7 b p))), (8, .int (nI p)), (7, .int fd), (0, .ref (ad 12 b)), (1, .int c), (2, .ref (ad 5 t))] (dX3_worthOf 52 rfl) (by decide) rfl ?_
            refine zi_lconst K (dX3_worthOf 53 rfl) zk_l0 ?_
            refine zi_lstore K [(5, .long 0), (3, .long (worth + (v_layerOf σ t (sum + (sL σ 7 b p))))), (8, .int (nI p)), (7, .int fd), (0, .ref (ad 12 b)), (1, .int c), (2, .ref (ad 5 t))] (dX3_worthOf 54 rfl) (by decide) rfl ?_
            refine zi_iinc K (v := nI (p + 1)) [(8, .int (nI (p + 1))), (5, .long 0), (3, .long (worth + (v_layerOf σ t (sum + (sL σ 7 b p))))), (7, .int fd), (0, .ref (ad 12 b)), (1, .int c), (2, .ref (ad 5 t))] (dX3_worthOf 55 rfl) 2 rfl (zk_inc _) (by decide) rfl ?_
            refine zi_goto K 16 (dX3_worthOf 56 rfl) rfl ?_
            refine zV.pick [0, 2, 1, 3, 4, 5, 6] (lo' := [(8, .int (nI (p + 1))), (3, .long (worth + (v_layerOf σ t (sum + (sL σ 7 b p))))), (5, .long 0), (7, .int fd), (0, .ref (ad 12 b)), (1, .int c), (2, .ref (ad 5 t))]) rfl ?_
            exact ihR (p + 1) (worth + (v_layerOf σ t (sum + (sL σ 7 b p)))) 0 fd (by have q := zloop_in (i := p) (N := n) rfl (by omega) hfR h22_0; omega) (by have q := zloop_in (i := p) (N := n) rfl (by omega) hfR h22_0; omega) (by rw [hV]; simp only [lv_worthOf, if_neg h22_0, if_neg h28_1, if_pos h55_2, if_neg h81_3])
        · skip
          refine zi_ldc2 K (dX3_worthOf 33 rfl) w_514 ?_
          exact zi_lret K E (dX3_worthOf 34 rfl) (Nat.le_refl _) (Nat.le_refl _) (by rw [hV]; simp only [lv_worthOf, if_neg h22_0, if_neg h28_1, if_neg h55_2]) (fun _ h => h)
      · skip
        refine zi_aload_n K (dX3_worthOf 19 rfl) 4 rfl ?_
        refine zg_LAY_days K hb w_108 (dX3_worthOf 20 rfl) ?_
        refine zi_iload K (dX3_worthOf 21 rfl) 0 rfl ?_
        refine zl_LDAYS K hb p rfl (by have q := zloop_in (i := p) (N := n) rfl (by omega) hfR h22_0; omega) (dX3_worthOf 22 rfl) ?_
        refine zi_istore K [(7, .int (sI σ 28 b p)), (8, .int (nI p)), (3, .long worth), (5, .long sum), (0, .ref (ad 12 b)), (1, .int c), (2, .ref (ad 5 t))] (dX3_worthOf 23 rfl) (by decide) rfl ?_
        refine zi_aload_n K (dX3_worthOf 24 rfl) 4 rfl ?_
        refine zg_LAY_days K hb w_108 (dX3_worthOf 25 rfl) ?_
        refine zi_iload K (dX3_worthOf 26 rfl) 1 rfl ?_
        refine zl_LDAYS K hb p rfl (by have q := zloop_in (i := p) (N := n) rfl (by omega) hfR h22_0; omega) (dX3_worthOf 27 rfl) ?_
        refine zi_iload K (dX3_worthOf 28 rfl) 0 rfl ?_
        refine zi_isub K (dX3_worthOf 29 rfl) ?_
        refine zi_aload_n K (dX3_worthOf 30 rfl) 6 rfl ?_
        refine zg_TR_days K ht w_1108 (dX3_worthOf 31 rfl) ?_
        refine zi_icmp_lt K 62 (dX3_worthOf 32 rfl) rfl (fun h55_2 => ?_) (fun h55_2 => ?_)
        · skip
          refine zi_lload K (dX3_worthOf 35 rfl) 3 rfl ?_
          refine zi_aload_n K (dX3_worthOf 36 rfl) 4 rfl ?_
          refine zg_LAY_sums K hb w_110 (dX3_worthOf 37 rfl) ?_
          refine zi_iload K (dX3_worthOf 38 rfl) 1 rfl ?_
          refine zl_LSUMS K hb p rfl (by have q := zloop_in (i := p) (N := n) rfl (by omega) hfR h22_0; omega) (dX3_worthOf 39 rfl) ?_
          refine zi_ladd K (dX3_worthOf 40 rfl) ?_
          refine zi_lstore K [(5, .long (sum + (sL σ 7 b p))), (7, .int (sI σ 28 b p)), (8, .int (nI p)), (3, .long worth), (0, .ref (ad 12 b)), (1, .int c), (2, .ref (ad 5 t))] (dX3_worthOf 41 rfl) (by decide) rfl ?_
          refine zi_aload_n K (dX3_worthOf 42 rfl) 4 rfl ?_
          refine zi_iload_n K (dX3_worthOf 43 rfl) 5 rfl ?_
          refine zi_iload K (dX3_worthOf 44 rfl) 2 rfl ?_
          refine zi_callV K (na := 2) [] [.int (v_isCut σ b n c (nI p))] (c_isCut (σ := σ) b n c (nI p) hb hn) (dX3_worthOf 45 rfl) w_525 w_527 w_9 w_30 w_528 (by decide +kernel) rfl (fun H h => zi_recv K (zr_LAY (σ := σ) hb H h).1 rfl) (fun H h => h) ⟨Nat.le_of_ble_eq_true rfl, Nat.le_of_ble_eq_true rfl⟩ ⟨Nat.le_refl _, Nat.le_refl _⟩ (Nat.le_of_ble_eq_true rfl) rfl rfl ?_
          refine zi_if_eq K 96 (dX3_worthOf 46 rfl) rfl (fun h81_3 => ?_) (fun h81_3 => ?_)
          · skip
            refine zi_iinc K (v := nI (p + 1)) [(8, .int (nI (p + 1))), (5, .long (sum + (sL σ 7 b p))), (7, .int (sI σ 28 b p)), (3, .long worth), (0, .ref (ad 12 b)), (1, .int c), (2, .ref (ad 5 t))] (dX3_worthOf 55 rfl) 2 rfl (zk_inc _) (by decide) rfl ?_
            refine zi_goto K 16 (dX3_worthOf 56 rfl) rfl ?_
            refine zV.pick [0, 3, 1, 2, 4, 5, 6] (lo' := [(8, .int (nI (p + 1))), (3, .long worth), (5, .long (sum + (sL σ 7 b p))), (7, .int (sI σ 28 b p)), (0, .ref (ad 12 b)), (1, .int c), (2, .ref (ad 5 t))]) rfl ?_
            exact ihR (p + 1) worth (sum + (sL σ 7 b p)) (sI σ 28 b p) (by have q := zloop_in (i := p) (N := n) rfl (by omega) hfR h22_0; omega) (by have q := zloop_in (i := p) (N := n) rfl (by omega) hfR h22_0; omega) (by rw [hV]; simp only [lv_worthOf, if_neg h22_0, if_pos h28_1, if_pos h55_2, if_pos h81_3])
          · skip
            refine zi_lload_n K (dX3_worthOf 47 rfl) 3 rfl ?_
            refine zi_aload_n K (dX3_worthOf 48 rfl) 6 rfl ?_
            refine zi_lload K (dX3_worthOf 49 rfl) 0 rfl ?_
            refine zi_callV K (na := 1) [.long worth] [.long (v_layerOf σ t (sum + (sL σ 7 b p))), .long worth] (c_layerOf  t (sum + (sL σ 7 b p)) ht) (dX3_worthOf 50 rfl) w_509 w_400 w_401 w_55 w_402 (by decide +kernel) rfl (fun H h => zi_recv K (zr_TR (σ := σ) ht H h).1 rfl) (fun H h => h) ⟨Nat.le_of_ble_eq_true rfl, Nat.le_of_ble_eq_true rfl⟩ ⟨Nat.le_refl _, Nat.le_refl _⟩ (Nat.le_of_ble_eq_true rfl) rfl rfl ?_
            refine zi_ladd K (dX3_worthOf 51 rfl) ?_
            refine zi_lstore_n K [(3, .long (worth + (v_layerOf σ t (sum + (sL σ 7 b p))))), (5, .long (sum + (sL σ 7 b p))), (7, .int (sI σ 28 b p)), (8, .int (nI p)), (0, .ref (ad 12 b)), (1, .int c), (2, .ref (ad 5 t))] (dX3_worthOf 52 rfl) (by decide) rfl ?_
            refine zi_lconst K (dX3_worthOf 53 rfl) zk_l0 ?_
            refine zi_lstore K [(5, .long 0), (3, .long (worth + (v_layerOf σ t (sum + (sL σ 7 b p))))), (7, .int (sI σ 28 b p)), (8, .int (nI p)), (0, .ref (ad 12 b)), (1, .int c), (2, .ref (ad 5 t))] (dX3_worthOf 54 rfl) (by decide) rfl ?_
            refine zi_iinc K (v := nI (p + 1)) [(8, .int (nI (p + 1))), (5, .long 0), (3, .long (worth + (v_layerOf σ t (sum + (sL σ 7 b p))))), (7, .int (sI σ 28 b p)), (0, .ref (ad 12 b)), (1, .int c), (2, .ref (ad 5 t))] (dX3_worthOf 55 rfl) 3 rfl (zk_inc _) (by decide) rfl ?_
            refine zi_goto K 16 (dX3_worthOf 56 rfl) rfl ?_
            refine zV.pick [0, 2, 1, 3, 4, 5, 6] (lo' := [(8, .int (nI (p + 1))), (3, .long (worth + (v_layerOf σ t (sum + (sL σ 7 b p))))), (5, .long 0), (7, .int (sI σ 28 b p)), (0, .ref (ad 12 b)), (1, .int c), (2, .ref (ad 5 t))]) rfl ?_
            exact ihR (p + 1) (worth + (v_layerOf σ t (sum + (sL σ 7 b p)))) 0 (sI σ 28 b p) (by have q := zloop_in (i := p) (N := n) rfl (by omega) hfR h22_0; omega) (by have q := zloop_in (i := p) (N := n) rfl (by omega) hfR h22_0; omega) (by rw [hV]; simp only [lv_worthOf, if_neg h22_0, if_pos h28_1, if_pos h55_2, if_neg h81_3])
        · skip
          refine zi_ldc2 K (dX3_worthOf 33 rfl) w_514 ?_
          exact zi_lret K E (dX3_worthOf 34 rfl) (Nat.le_refl _) (Nat.le_refl _) (by rw [hV]; simp only [lv_worthOf, if_neg h22_0, if_pos h28_1, if_neg h55_2]) (fun _ h => h)
end
section
/-! Integer.bitCount; Laying.laidCuts, isBestOfAll -/
def v_bitCount (σ : zSt) (x : Int32) : Int32 := (((((((x - ((((x : Int32).toUInt32 >>> ((1 : Int32).toUInt32 &&& Int32.toUInt32 31)).toInt32) &&& 1431655765)) &&& 858993459) + ((((x - ((((x : Int32).toUInt32 >>> ((1 : Int32).toUInt32 &&& Int32.toUInt32 31)).toInt32) &&& 1431655765) : Int32).toUInt32 >>> ((2 : Int32).toUInt32 &&& Int32.toUInt32 31)).toInt32) &&& 858993459)) + (((((x - ((((x : Int32).toUInt32 >>> ((1 : Int32).toUInt32 &&& Int32.toUInt32 31)).toInt32) &&& 1431655765)) &&& 858993459) + ((((x - ((((x : Int32).toUInt32 >>> ((1 : Int32).toUInt32 &&& Int32.toUInt32 31)).toInt32) &&& 1431655765) : Int32).toUInt32 >>> ((2 : Int32).toUInt32 &&& Int32.toUInt32 31)).toInt32) &&& 858993459) : Int32).toUInt32 >>> ((4 : Int32).toUInt32 &&& Int32.toUInt32 31)).toInt32)) &&& 252645135) + (((((((x - ((((x : Int32).toUInt32 >>> ((1 : Int32).toUInt32 &&& Int32.toUInt32 31)).toInt32) &&& 1431655765)) &&& 858993459) + ((((x - ((((x : Int32).toUInt32 >>> ((1 : Int32).toUInt32 &&& Int32.toUInt32 31)).toInt32) &&& 1431655765) : Int32).toUInt32 >>> ((2 : Int32).toUInt32 &&& Int32.toUInt32 31)).toInt32) &&& 858993459)) + (((((x - ((((x : Int32).toUInt32 >>> ((1 : Int32).toUInt32 &&& Int32.toUInt32 31)).toInt32) &&& 1431655765)) &&& 858993459) + ((((x - ((((x : Int32).toUInt32 >>> ((1 : Int32).toUInt32 &&& Int32.toUInt32 31)).toInt32) &&& 1431655765) : Int32).toUInt32 >>> ((2 : Int32).toUInt32 &&& Int32.toUInt32 31)).toInt32) &&& 858993459) : Int32).toUInt32 >>> ((4 : Int32).toUInt32 &&& Int32.toUInt32 31)).toInt32)) &&& 252645135 : Int32).toUInt32 >>> ((8 : Int32).toUInt32 &&& Int32.toUInt32 31)).toInt32)) + ((((((((x - ((((x : Int32).toUInt32 >>> ((1 : Int32).toUInt32 &&& Int32.toUInt32 31)).toInt32) &&& 1431655765)) &&& 858993459) + ((((x - ((((x : Int32).toUInt32 >>> ((1 : Int32).toUInt32 &&& Int32.toUInt32 31)).toInt32) &&& 1431655765) : Int32).toUInt32 >>> ((2 : Int32).toUInt32 &&& Int32.toUInt32 31)).toInt32) &&& 858993459)) + (((((x - ((((x : Int32).toUInt32 >>> ((1 : Int32).toUInt32 &&& Int32.toUInt32 31)).toInt32) &&& 1431655765)) &&& 858993459) + ((((x - ((((x : Int32).toUInt32 >>> ((1 : Int32).toUInt32 &&& Int32.toUInt32 31)).toInt32) &&& 1431655765) : Int32).toUInt32 >>> ((2 : Int32).toUInt32 &&& Int32.toUInt32 31)).toInt32) &&& 858993459) : Int32).toUInt32 >>> ((4 : Int32).toUInt32 &&& Int32.toUInt32 31)).toInt32)) &&& 252645135) + (((((((x - ((((x : Int32).toUInt32 >>> ((1 : Int32).toUInt32 &&& Int32.toUInt32 31)).toInt32) &&& 1431655765)) &&& 858993459) + ((((x - ((((x : Int32).toUInt32 >>> ((1 : Int32).toUInt32 &&& Int32.toUInt32 31)).toInt32) &&& 1431655765) : Int32).toUInt32 >>> ((2 : Int32).toUInt32 &&& Int32.toUInt32 31)).toInt32) &&& 858993459)) + (((((x - ((((x : Int32).toUInt32 >>> ((1 : Int32).toUInt32 &&& Int32.toUInt32 31)).toInt32) &&& 1431655765)) &&& 858993459) + ((((x - ((((x : Int32).toUInt32 >>> ((1 : Int32).toUInt32 &&& Int32.toUInt32 31)).toInt32) &&& 1431655765) : Int32).toUInt32 >>> ((2 : Int32).toUInt32 &&& Int32.toUInt32 31)).toInt32) &&& 858993459) : Int32).toUInt32 >>> ((4 : Int32).toUInt32 &&& Int32.toUInt32 31)).toInt32)) &&& 252645135 : Int32).toUInt32 >>> ((8 : Int32).toUInt32 &&& Int32.toUInt32 31)).toInt32) : Int32).toUInt32 >>> ((16 : Int32).toUInt32 &&& Int32.toUInt32 31)).toInt32)) &&& 63
set_option maxRecDepth 100000 in
set_option maxHeartbeats 4000000 in
theorem c_bitCount {G : zG} {ad : Nat → Nat → Nat} {σ : zSt} (x : Int32)  : zC G yJ6_bitCount_0f7a4 cJ6_bitCount_0f7a4 1 (some FieldType.int) 0 0 0 0 [.int x] (zP G ad σ) (some (.int (v_bitCount σ x))) (zP G ad σ) := by
  refine zC_of (by decide) (Nat.le_of_ble_eq_true rfl) (fun X K E hnm => ?_)
  show zV G X 1 (zP G ad σ) 0 0 0 [(0, .int x)] []
  refine zi_iload_n K (dJ6_bitCount_0f7a4 0 rfl) 0 rfl ?_
  refine zi_iload_n K (dJ6_bitCount_0f7a4 1 rfl) 0 rfl ?_
  refine zi_iconst K (dJ6_bitCount_0f7a4 2 rfl) zk_i1 ?_
  refine zi_iushr K (dJ6_bitCount_0f7a4 3 rfl) rfl ?_
  refine zi_ldcw K (dJ6_bitCount_0f7a4 4 rfl) w_518 ?_
  refine zi_iand K (dJ6_bitCount_0f7a4 5 rfl) ?_
  refine zi_isub K (dJ6_bitCount_0f7a4 6 rfl) ?_
  refine zi_istore_n K [(0, .int (x - ((((x : Int32).toUInt32 >>> ((1 : Int32).toUInt32 &&& Int32.toUInt32 31)).toInt32) &&& 1431655765)))] (dJ6_bitCount_0f7a4 7 rfl) (by decide) rfl ?_
  refine zi_iload_n K (dJ6_bitCount_0f7a4 8 rfl) 0 rfl ?_
  refine zi_ldcw K (dJ6_bitCount_0f7a4 9 rfl) w_519 ?_
  refine zi_iand K (dJ6_bitCount_0f7a4 10 rfl) ?_
  refine zi_iload_n K (dJ6_bitCount_0f7a4 11 rfl) 0 rfl ?_
  refine zi_iconst K (dJ6_bitCount_0f7a4 12 rfl) zk_i2 ?_
  refine zi_iushr K (dJ6_bitCount_0f7a4 13 rfl) rfl ?_
  refine zi_ldcw K (dJ6_bitCount_0f7a4 14 rfl) w_519 ?_
  refine zi_iand K (dJ6_bitCount_0f7a4 15 rfl) ?_
  refine zi_iadd K (dJ6_bitCount_0f7a4 16 rfl) ?_
  refine zi_istore_n K [(0, .int (((x - ((((x : Int32).toUInt32 >>> ((1 : Int32).toUInt32 &&& Int32.toUInt32 31)).toInt32) &&& 1431655765)) &&& 858993459) + ((((x - ((((x : Int32).toUInt32 >>> ((1 : Int32).toUInt32 &&& Int32.toUInt32 31)).toInt32) &&& 1431655765) : Int32).toUInt32 >>> ((2 : Int32).toUInt32 &&& Int32.toUInt32 31)).toInt32) &&& 858993459)))] (dJ6_bitCount_0f7a4 17 rfl) (by decide) rfl ?_
  refine zi_iload_n K (dJ6_bitCount_0f7a4 18 rfl) 0 rfl ?_
  refine zi_iload_n K (dJ6_bitCount_0f7a4 19 rfl) 0 rfl ?_
  refine zi_iconst K (dJ6_bitCount_0f7a4 20 rfl) zk_i4 ?_
  refine zi_iushr K (dJ6_bitCount_0f7a4 21 rfl) rfl ?_
  refine zi_iadd K (dJ6_bitCount_0f7a4 22 rfl) ?_
  refine zi_ldcw K (dJ6_bitCount_0f7a4 23 rfl) w_520 ?_
  refine zi_iand K (dJ6_bitCount_0f7a4 24 rfl) ?_
  refine zi_istore_n K [(0, .int (((((x - ((((x : Int32).toUInt32 >>> ((1 : Int32).toUInt32 &&& Int32.toUInt32 31)).toInt32) &&& 1431655765)) &&& 858993459) + ((((x - ((((x : Int32).toUInt32 >>> ((1 : Int32).toUInt32 &&& Int32.toUInt32 31)).toInt32) &&& 1431655765) : Int32).toUInt32 >>> ((2 : Int32).toUInt32 &&& Int32.toUInt32 31)).toInt32) &&& 858993459)) + (((((x - ((((x : Int32).toUInt32 >>> ((1 : Int32).toUInt32 &&& Int32.toUInt32 31)).toInt32) &&& 1431655765)) &&& 858993459) + ((((x - ((((x : Int32).toUInt32 >>> ((1 : Int32).toUInt32 &&& Int32.toUInt32 31)).toInt32) &&& 1431655765) : Int32).toUInt32 >>> ((2 : Int32).toUInt32 &&& Int32.toUInt32 31)).toInt32) &&& 858993459) : Int32).toUInt32 >>> ((4 : Int32).toUInt32 &&& Int32.toUInt32 31)).toInt32)) &&& 252645135))] (dJ6_bitCount_0f7a4 25 rfl) (by decide) rfl ?_
  refine zi_iload_n K (dJ6_bitCount_0f7a4 26 rfl) 0 rfl ?_
  refine zi_iload_n K (dJ6_bitCount_0f7a4 27 rfl) 0 rfl ?_
  refine zi_bipush K (dJ6_bitCount_0f7a4 28 rfl) zk_b8 ?_
  refine zi_iushr K (dJ6_bitCount_0f7a4 29 rfl) rfl ?_
  refine zi_iadd K (dJ6_bitCount_0f7a4 30 rfl) ?_
  refine zi_istore_n K [(0, .int ((((((x - ((((x : Int32).toUInt32 >>> ((1 : Int32).toUInt32 &&& Int32.toUInt32 31)).toInt32) &&& 1431655765)) &&& 858993459) + ((((x - ((((x : Int32).toUInt32 >>> ((1 : Int32).toUInt32 &&& Int32.toUInt32 31)).toInt32) &&& 1431655765) : Int32).toUInt32 >>> ((2 : Int32).toUInt32 &&& Int32.toUInt32 31)).toInt32) &&& 858993459)) + (((((x - ((((x : Int32).toUInt32 >>> ((1 : Int32).toUInt32 &&& Int32.toUInt32 31)).toInt32) &&& 1431655765)) &&& 858993459) + ((((x - ((((x : Int32).toUInt32 >>> ((1 : Int32).toUInt32 &&& Int32.toUInt32 31)).toInt32) &&& 1431655765) : Int32).toUInt32 >>> ((2 : Int32).toUInt32 &&& Int32.toUInt32 31)).toInt32) &&& 858993459) : Int32).toUInt32 >>> ((4 : Int32).toUInt32 &&& Int32.toUInt32 31)).toInt32)) &&& 252645135) + (((((((x - ((((x : Int32).toUInt32 >>> ((1 : Int32).toUInt32 &&& Int32.toUInt32 31)).toInt32) &&& 1431655765)) &&& 858993459) + ((((x - ((((x : Int32).toUInt32 >>> ((1 : Int32).toUInt32 &&& Int32.toUInt32 31)).toInt32) &&& 1431655765) : Int32).toUInt32 >>> ((2 : Int32).toUInt32 &&& Int32.toUInt32 31)).toInt32) &&& 858993459)) + (((((x - ((((x : Int32).toUInt32 >>> ((1 : Int32).toUInt32 &&& Int32.toUInt32 31)).toInt32) &&& 1431655765)) &&& 858993459) + ((((x - ((((x : Int32).toUInt32 >>> ((1 : Int32).toUInt32 &&& Int32.toUInt32 31)).toInt32) &&& 1431655765) : Int32).toUInt32 >>> ((2 : Int32).toUInt32 &&& Int32.toUInt32 31)).toInt32) &&& 858993459) : Int32).toUInt32 >>> ((4 : Int32).toUInt32 &&& Int32.toUInt32 31)).toInt32)) &&& 252645135 : Int32).toUInt32 >>> ((8 : Int32).toUInt32 &&& Int32.toUInt32 31)).toInt32)))] (dJ6_bitCount_0f7a4 31 rfl) (by decide) rfl ?_
  refine zi_iload_n K (dJ6_bitCount_0f7a4 32 rfl) 0 rfl ?_
  refine zi_iload_n K (dJ6_bitCount_0f7a4 33 rfl) 0 rfl ?_
  refine zi_bipush K (dJ6_bitCount_0f7a4 34 rfl) zk_b16 ?_
  refine zi_iushr K (dJ6_bitCount_0f7a4 35 rfl) rfl ?_
  refine zi_iadd K (dJ6_bitCount_0f7a4 36 rfl) ?_
  refine zi_istore_n K [(0, .int (((((((x - ((((x : Int32).toUInt32 >>> ((1 : Int32).toUInt32 &&& Int32.toUInt32 31)).toInt32) &&& 1431655765)) &&& 858993459) + ((((x - ((((x : Int32).toUInt32 >>> ((1 : Int32).toUInt32 &&& Int32.toUInt32 31)).toInt32) &&& 1431655765) : Int32).toUInt32 >>> ((2 : Int32).toUInt32 &&& Int32.toUInt32 31)).toInt32) &&& 858993459)) + (((((x - ((((x : Int32).toUInt32 >>> ((1 : Int32).toUInt32 &&& Int32.toUInt32 31)).toInt32) &&& 1431655765)) &&& 858993459) + ((((x - ((((x : Int32).toUInt32 >>> ((1 : Int32).toUInt32 &&& Int32.toUInt32 31)).toInt32) &&& 1431655765) : Int32).toUInt32 >>> ((2 : Int32).toUInt32 &&& Int32.toUInt32 31)).toInt32) &&& 858993459) : Int32).toUInt32 >>> ((4 : Int32).toUInt32 &&& Int32.toUInt32 31)).toInt32)) &&& 252645135) + (((((((x - ((((x : Int32).toUInt32 >>> ((1 : Int32).toUInt32 &&& Int32.toUInt32 31)).toInt32) &&& 1431655765)) &&& 858993459) + ((((x - ((((x : Int32).toUInt32 >>> ((1 : Int32).toUInt32 &&& Int32.toUInt32 31)).toInt32) &&& 1431655765) : Int32).toUInt32 >>> ((2 : Int32).toUInt32 &&& Int32.toUInt32 31)).toInt32) &&& 858993459)) + (((((x - ((((x : Int32).toUInt32 >>> ((1 : Int32).toUInt32 &&& Int32.toUInt32 31)).toInt32) &&& 1431655765)) &&& 858993459) + ((((x - ((((x : Int32).toUInt32 >>> ((1 : Int32).toUInt32 &&& Int32.toUInt32 31)).toInt32) &&& 1431655765) : Int32).toUInt32 >>> ((2 : Int32).toUInt32 &&& Int32.toUInt32 31)).toInt32) &&& 858993459) : Int32).toUInt32 >>> ((4 : Int32).toUInt32 &&& Int32.toUInt32 31)).toInt32)) &&& 252645135 : Int32).toUInt32 >>> ((8 : Int32).toUInt32 &&& Int32.toUInt32 31)).toInt32)) + ((((((((x - ((((x : Int32).toUInt32 >>> ((1 : Int32).toUInt32 &&& Int32.toUInt32 31)).toInt32) &&& 1431655765)) &&& 858993459) + ((((x - ((((x : Int32).toUInt32 >>> ((1 : Int32).toUInt32 &&& Int32.toUInt32 31)).toInt32) &&& 1431655765) : Int32).toUInt32 >>> ((2 : Int32).toUInt32 &&& Int32.toUInt32 31)).toInt32) &&& 858993459)) + (((((x - ((((x : Int32).toUInt32 >>> ((1 : Int32).toUInt32 &&& Int32.toUInt32 31)).toInt32) &&& 1431655765)) &&& 858993459) + ((((x - ((((x : Int32).toUInt32 >>> ((1 : Int32).toUInt32 &&& Int32.toUInt32 31)).toInt32) &&& 1431655765) : Int32).toUInt32 >>> ((2 : Int32).toUInt32 &&& Int32.toUInt32 31)).toInt32) &&& 858993459) : Int32).toUInt32 >>> ((4 : Int32).toUInt32 &&& Int32.toUInt32 31)).toInt32)) &&& 252645135) + (((((((x - ((((x : Int32).toUInt32 >>> ((1 : Int32).toUInt32 &&& Int32.toUInt32 31)).toInt32) &&& 1431655765)) &&& 858993459) + ((((x - ((((x : Int32).toUInt32 >>> ((1 : Int32).toUInt32 &&& Int32.toUInt32 31)).toInt32) &&& 1431655765) : Int32).toUInt32 >>> ((2 : Int32).toUInt32 &&& Int32.toUInt32 31)).toInt32) &&& 858993459)) + (((((x - ((((x : Int32).toUInt32 >>> ((1 : Int32).toUInt32 &&& Int32.toUInt32 31)).toInt32) &&& 1431655765)) &&& 858993459) + ((((x - ((((x : Int32).toUInt32 >>> ((1 : Int32).toUInt32 &&& Int32.toUInt32 31)).toInt32) &&& 1431655765) : Int32).toUInt32 >>> ((2 : Int32).toUInt32 &&& Int32.toUInt32 31)).toInt32) &&& 858993459) : Int32).toUInt32 >>> ((4 : Int32).toUInt32 &&& Int32.toUInt32 31)).toInt32)) &&& 252645135 : Int32).toUInt32 >>> ((8 : Int32).toUInt32 &&& Int32.toUInt32 31)).toInt32) : Int32).toUInt32 >>> ((16 : Int32).toUInt32 &&& Int32.toUInt32 31)).toInt32)))] (dJ6_bitCount_0f7a4 37 rfl) (by decide) rfl ?_
  refine zi_iload_n K (dJ6_bitCount_0f7a4 38 rfl) 0 rfl ?_
  refine zi_bipush K (dJ6_bitCount_0f7a4 39 rfl) zk_b63 ?_
  refine zi_iand K (dJ6_bitCount_0f7a4 40 rfl) ?_
  exact zi_iret K E (dJ6_bitCount_0f7a4 41 rfl) (Nat.le_refl _) (Nat.le_refl _) rfl (fun _ h => h)
def lv_laidCuts (σ : zSt) (b m : Nat) : Nat → Nat → Int32 → Int32 → Int32
  | 0, _, _, _ => 0
  | r + 1, p, cuts, fin => if (nI (m + 1)) - 1 ≤ nI p then cuts else if nI p ≤ fin then (if nI p = fin then lv_laidCuts σ b m r (p + 1) (cuts ||| (1 <<< ((((nI (m + 1)) - 2) - (nI p)) &&& 31))) fin else lv_laidCuts σ b m r (p + 1) cuts fin) else if nI p = sI σ 29 b p then lv_laidCuts σ b m r (p + 1) (cuts ||| (1 <<< ((((nI (m + 1)) - 2) - (nI p)) &&& 31))) (sI σ 29 b p) else lv_laidCuts σ b m r (p + 1) cuts (sI σ 29 b p)
def v_laidCuts (σ : zSt) (b m : Nat) : Int32 := lv_laidCuts σ b m (m + 1) 0 0 (-1)
set_option maxRecDepth 100000 in
set_option maxHeartbeats 4000000 in
theorem c_laidCuts {G : zG} {ad : Nat → Nat → Nat} {σ : zSt} (b m : Nat) (hb : b < 2) (hn : sI σ 27 b 0 = nI (m + 1)) (hm30 : m < 30) : zC G yX3_laidCuts cX3_laidCuts 4 (some FieldType.int) 0 0 0 0 [.ref (ad 12 b)] (zP G ad σ) (some (.int (v_laidCuts σ b m))) (zP G ad σ) := by
  refine zC_of (by decide) (Nat.le_of_ble_eq_true rfl) (fun X K E hnm => ?_)
  show zV G X 4 (zP G ad σ) 0 0 0 [(0, .ref (ad 12 b))] []
  refine zi_iconst K (dX3_laidCuts 0 rfl) zk_i0 ?_
  refine zi_istore_n K [(1, .int 0), (0, .ref (ad 12 b))] (dX3_laidCuts 1 rfl) (by decide) rfl ?_
  refine zi_iconst K (dX3_laidCuts 2 rfl) zk_im1 ?_
  refine zi_istore_n K [(2, .int (-1)), (1, .int 0), (0, .ref (ad 12 b))] (dX3_laidCuts 3 rfl) (by decide) rfl ?_
  refine zi_iconst K (dX3_laidCuts 4 rfl) zk_i0 ?_
  refine zi_istore_n K [(3, .int 0), (2, .int (-1)), (1, .int 0), (0, .ref (ad 12 b))] (dX3_laidCuts 5 rfl) (by decide) rfl ?_
  refine zV.pick [0, 2, 1, 3] (lo' := [(3, .int 0), (1, .int 0), (2, .int (-1)), (0, .ref (ad 12 b))]) rfl ?_
  suffices hlR : ∀ (r : Nat) (p : Nat) (cuts : Int32) (fin : Int32), p ≤ m → m - p < r → v_laidCuts σ b m = lv_laidCuts σ b m r p cuts fin → zV G X 4 (zP G ad σ) (0) (0) 6 [(3, .int (nI p)), (1, .int cuts), (2, .int fin), (0, .ref (ad 12 b))] [] from hlR (m + 1) 0 0 (-1) (Nat.zero_le _) (by omega) rfl
  intro r
  induction r with
  | zero => intro p cuts fin _ h; exact absurd h (Nat.not_lt_zero _)
  | succ r ihR =>
    intro p cuts fin hfR hmR hV
    refine zi_iload_n K (dX3_laidCuts 6 rfl) 0 rfl ?_
    refine zi_aload_n K (dX3_laidCuts 7 rfl) 3 rfl ?_
    refine zg_LAY_size K hb w_115 (dX3_laidCuts 8 rfl) ?_
    rw [show sI σ 27 b 0 = nI (m + 1) from hn]
    refine zi_iconst K (dX3_laidCuts 9 rfl) zk_i1 ?_
    refine zi_isub K (dX3_laidCuts 10 rfl) ?_
    refine zi_icmp_ge K 52 (dX3_laidCuts 11 rfl) rfl (fun h13_0 => ?_) (fun h13_0 => ?_)
    · skip
      refine zi_iload_n K (dX3_laidCuts 36 rfl) 1 rfl ?_
      exact zi_iret K E (dX3_laidCuts 37 rfl) (Nat.le_refl _) (Nat.le_refl _) (by rw [hV]; simp only [lv_laidCuts, if_pos h13_0]) (fun _ h => h)
    · skip
      refine zi_iload_n K (dX3_laidCuts 12 rfl) 0 rfl ?_
      refine zi_iload_n K (dX3_laidCuts 13 rfl) 2 rfl ?_
      refine zi_icmp_le K 28 (dX3_laidCuts 14 rfl) rfl (fun h18_1 => ?_) (fun h18_1 => ?_)
      · skip
        refine zi_iload_n K (dX3_laidCuts 20 rfl) 0 rfl ?_
        refine zi_iload_n K (dX3_laidCuts 21 rfl) 2 rfl ?_
        refine zi_icmp_ne K 46 (dX3_laidCuts 22 rfl) rfl (fun h30_2 => ?_) (fun h30_2 => ?_)
        · skip
          refine zi_iinc K (v := nI (p + 1)) [(3, .int (nI (p + 1))), (1, .int cuts), (2, .int fin), (0, .ref (ad 12 b))] (dX3_laidCuts 34 rfl) 0 rfl (zk_inc _) (by decide) rfl ?_
          refine zi_goto K 6 (dX3_laidCuts 35 rfl) rfl ?_
          refine zV.pick [0, 1, 2, 3] (lo' := [(3, .int (nI (p + 1))), (1, .int cuts), (2, .int fin), (0, .ref (ad 12 b))]) rfl ?_
          exact ihR (p + 1) cuts fin (by have q := zloop_in (i := p) (N := m) (nI_pred m) (by omega) hfR h13_0; omega) (by have q := zloop_in (i := p) (N := m) (nI_pred m) (by omega) hfR h13_0; omega) (by rw [hV]; simp only [lv_laidCuts, if_neg h13_0, if_pos h18_1, if_neg h30_2])
        · skip
          refine zi_iload_n K (dX3_laidCuts 23 rfl) 1 rfl ?_
          refine zi_iconst K (dX3_laidCuts 24 rfl) zk_i1 ?_
          refine zi_aload_n K (dX3_laidCuts 25 rfl) 3 rfl ?_
          refine zg_LAY_size K hb w_115 (dX3_laidCuts 26 rfl) ?_
          rw [show sI σ 27 b 0 = nI (m + 1) from hn]
          refine zi_iconst K (dX3_laidCuts 27 rfl) zk_i2 ?_
          refine zi_isub K (dX3_laidCuts 28 rfl) ?_
          refine zi_iload_n K (dX3_laidCuts 29 rfl) 0 rfl ?_
          refine zi_isub K (dX3_laidCuts 30 rfl) ?_
          refine zi_ishl K (dX3_laidCuts 31 rfl) ?_
          refine zi_ior K (dX3_laidCuts 32 rfl) ?_
          refine zi_istore_n K [(1, .int (cuts ||| (1 <<< ((((nI (m + 1)) - 2) - (nI p)) &&& 31)))), (3, .int (nI p)), (2, .int fin), (0, .ref (ad 12 b))] (dX3_laidCuts 33 rfl) (by decide) rfl ?_
          refine zi_iinc K (v := nI (p + 1)) [(3, .int (nI (p + 1))), (1, .int (cuts ||| (1 <<< ((((nI (m + 1)) - 2) - (nI p)) &&& 31)))), (2, .int fin), (0, .ref (ad 12 b))] (dX3_laidCuts 34 rfl) 1 rfl (zk_inc _) (by decide) rfl ?_
          refine zi_goto K 6 (dX3_laidCuts 35 rfl) rfl ?_
          refine zV.pick [0, 1, 2, 3] (lo' := [(3, .int (nI (p + 1))), (1, .int (cuts ||| (1 <<< ((((nI (m + 1)) - 2) - (nI p)) &&& 31)))), (2, .int fin), (0, .ref (ad 12 b))]) rfl ?_
          exact ihR (p + 1) (cuts ||| (1 <<< ((((nI (m + 1)) - 2) - (nI p)) &&& 31))) fin (by have q := zloop_in (i := p) (N := m) (nI_pred m) (by omega) hfR h13_0; omega) (by have q := zloop_in (i := p) (N := m) (nI_pred m) (by omega) hfR h13_0; omega) (by rw [hV]; simp only [lv_laidCuts, if_neg h13_0, if_pos h18_1, if_pos h30_2])
      · skip
        refine zi_aload_n K (dX3_laidCuts 15 rfl) 3 rfl ?_
        refine zg_LAY_ends K hb w_111 (dX3_laidCuts 16 rfl) ?_
        refine zi_iload_n K (dX3_laidCuts 17 rfl) 0 rfl ?_
        refine zl_LENDS K hb p rfl (by have q := zloop_in (i := p) (N := m) (nI_pred m) (by omega) hfR h13_0; omega) (dX3_laidCuts 18 rfl) ?_
        refine zi_istore_n K [(2, .int (sI σ 29 b p)), (3, .int (nI p)), (1, .int cuts), (0, .ref (ad 12 b))] (dX3_laidCuts 19 rfl) (by decide) rfl ?_
        refine zi_iload_n K (dX3_laidCuts 20 rfl) 1 rfl ?_
        refine zi_iload_n K (dX3_laidCuts 21 rfl) 0 rfl ?_
        refine zi_icmp_ne K 46 (dX3_laidCuts 22 rfl) rfl (fun h30_2 => ?_) (fun h30_2 => ?_)
        · skip
          refine zi_iinc K (v := nI (p + 1)) [(3, .int (nI (p + 1))), (2, .int (sI σ 29 b p)), (1, .int cuts), (0, .ref (ad 12 b))] (dX3_laidCuts 34 rfl) 1 rfl (zk_inc _) (by decide) rfl ?_
          refine zi_goto K 6 (dX3_laidCuts 35 rfl) rfl ?_
          refine zV.pick [0, 2, 1, 3] (lo' := [(3, .int (nI (p + 1))), (1, .int cuts), (2, .int (sI σ 29 b p)), (0, .ref (ad 12 b))]) rfl ?_
          exact ihR (p + 1) cuts (sI σ 29 b p) (by have q := zloop_in (i := p) (N := m) (nI_pred m) (by omega) hfR h13_0; omega) (by have q := zloop_in (i := p) (N := m) (nI_pred m) (by omega) hfR h13_0; omega) (by rw [hV]; simp only [lv_laidCuts, if_neg h13_0, if_neg h18_1, if_neg h30_2])
        · skip
          refine zi_iload_n K (dX3_laidCuts 23 rfl) 2 rfl ?_
          refine zi_iconst K (dX3_laidCuts 24 rfl) zk_i1 ?_
          refine zi_aload_n K (dX3_laidCuts 25 rfl) 3 rfl ?_
          refine zg_LAY_size K hb w_115 (dX3_laidCuts 26 rfl) ?_
          rw [show sI σ 27 b 0 = nI (m + 1) from hn]
          refine zi_iconst K (dX3_laidCuts 27 rfl) zk_i2 ?_
          refine zi_isub K (dX3_laidCuts 28 rfl) ?_
          refine zi_iload_n K (dX3_laidCuts 29 rfl) 1 rfl ?_
          refine zi_isub K (dX3_laidCuts 30 rfl) ?_
          refine zi_ishl K (dX3_laidCuts 31 rfl) ?_
          refine zi_ior K (dX3_laidCuts 32 rfl) ?_
          refine zi_istore_n K [(1, .int (cuts ||| (1 <<< ((((nI (m + 1)) - 2) - (nI p)) &&& 31)))), (2, .int (sI σ 29 b p)), (3, .int (nI p)), (0, .ref (ad 12 b))] (dX3_laidCuts 33 rfl) (by decide) rfl ?_
          refine zi_iinc K (v := nI (p + 1)) [(3, .int (nI (p + 1))), (1, .int (cuts ||| (1 <<< ((((nI (m + 1)) - 2) - (nI p)) &&& 31)))), (2, .int (sI σ 29 b p)), (0, .ref (ad 12 b))] (dX3_laidCuts 34 rfl) 2 rfl (zk_inc _) (by decide) rfl ?_
          refine zi_goto K 6 (dX3_laidCuts 35 rfl) rfl ?_
          refine zV.pick [0, 1, 2, 3] (lo' := [(3, .int (nI (p + 1))), (1, .int (cuts ||| (1 <<< ((((nI (m + 1)) - 2) - (nI p)) &&& 31)))), (2, .int (sI σ 29 b p)), (0, .ref (ad 12 b))]) rfl ?_
          exact ihR (p + 1) (cuts ||| (1 <<< ((((nI (m + 1)) - 2) - (nI p)) &&& 31))) (sI σ 29 b p) (by have q := zloop_in (i := p) (N := m) (nI_pred m) (by omega) hfR h13_0; omega) (by have q := zloop_in (i := p) (N := m) (nI_pred m) (by omega) hfR h13_0; omega) (by rw [hV]; simp only [lv_laidCuts, if_neg h13_0, if_neg h18_1, if_pos h30_2])
theorem zsh_pow {m : Nat} (h : m < 12) : (1 : Int32) <<< ((nI (m + 1) - 1) &&& 31) = nI (2 ^ m) := by
  rw [nI_pred]
  rcases (show m = 0 ∨ m = 1 ∨ m = 2 ∨ m = 3 ∨ m = 4 ∨ m = 5 ∨ m = 6 ∨ m = 7 ∨ m = 8 ∨ m = 9 ∨ m = 10 ∨ m = 11 by omega) with h | h | h | h | h | h | h | h | h | h | h | h <;> subst h <;> decide
theorem zpow_b {m : Nat} (h : m < 12) : 2 ^ m < 2 ^ 31 := Nat.pow_lt_pow_right (by omega) (by omega)
def lv_bestOfAll (σ : zSt) (b m t : Nat) : Nat → Nat → Int32 → Int32 → Int64 → Int32
  | 0, _, _, _, _ => 0
  | r + 1, c, bc, bn, most => if 1 <<< ((nI (m + 1) - 1) &&& 31) ≤ nI c then (if bc = v_laidCuts σ b m then 1 else 0) else if most < v_worthOf σ b (m + 1) (nI c) t then lv_bestOfAll σ b m t r (c + 1) (nI c) (1 + (v_bitCount σ (nI c))) (v_worthOf σ b (m + 1) (nI c) t) else if v_worthOf σ b (m + 1) (nI c) t = most then (if bn ≤ 1 + (v_bitCount σ (nI c)) then lv_bestOfAll σ b m t r (c + 1) bc bn most else lv_bestOfAll σ b m t r (c + 1) (nI c) (1 + (v_bitCount σ (nI c))) (v_worthOf σ b (m + 1) (nI c) t)) else lv_bestOfAll σ b m t r (c + 1) bc bn most
def v_bestOfAll (σ : zSt) (b m t : Nat) : Int32 := lv_bestOfAll σ b m t (2 ^ m + 1) 0 0 0 (-1)
set_option maxRecDepth 100000 in
set_option maxHeartbeats 4000000 in
theorem c_bestOfAll {G : zG} {ad : Nat → Nat → Nat} {σ : zSt} (b m t : Nat) (hb : b < 2) (ht : t < sN σ 2) (hn : sI σ 27 b 0 = nI (m + 1)) (hm12 : m < 12) : zC G yX3_isBestOfAll cX3_isBestOfAll 11 (some FieldType.boolean) 3 67 0 0 [.ref (ad 12 b), .ref (ad 5 t)] (zP G ad σ) (some (.int (v_bestOfAll σ b m t))) (zP G ad σ) := by
  refine zC_of (by decide) (Nat.le_of_ble_eq_true rfl) (fun X K E hnm => ?_)
  show zV G X 11 (zP G ad σ) 0 0 0 [(0, .ref (ad 12 b)), (1, .ref (ad 5 t))] []
  refine zi_aload_n K (dX3_isBestOfAll_p0 0 rfl) 0 rfl ?_
  refine zg_LAY_size K hb w_115 (dX3_isBestOfAll_p0 1 rfl) ?_
  rw [show sI σ 27 b 0 = nI (m + 1) from hn]
  refine zi_if_eq K 16 (dX3_isBestOfAll_p0 2 rfl) rfl (fun h4_0 => ?_) (fun h4_0 => ?_)
  · exact absurd h4_0 (nI_ne0 (by omega) (by omega))
  refine zi_aload_n K (dX3_isBestOfAll_p0 3 rfl) 0 rfl ?_
  refine zg_LAY_size K hb w_115 (dX3_isBestOfAll_p0 4 rfl) ?_
  rw [show sI σ 27 b 0 = nI (m + 1) from hn]
  refine zi_bipush K (dX3_isBestOfAll_p0 5 rfl) zk_b12 ?_
  refine zi_icmp_le K 18 (dX3_isBestOfAll_p0 6 rfl) rfl (fun h13_0 => ?_) (fun h13_0 => ?_)
  rotate_left
  · exact absurd (nI_le (b := 12) (by omega) (by omega)) h13_0
  refine zi_iconst K (dX3_isBestOfAll_p0 9 rfl) zk_i0 ?_
  refine zi_istore_n K [(2, .int 0), (0, .ref (ad 12 b)), (1, .ref (ad 5 t))] (dX3_isBestOfAll_p0 10 rfl) (by decide) rfl ?_
  refine zi_iconst K (dX3_isBestOfAll_p0 11 rfl) zk_i0 ?_
  refine zi_istore_n K [(3, .int 0), (2, .int 0), (0, .ref (ad 12 b)), (1, .ref (ad 5 t))] (dX3_isBestOfAll_p0 12 rfl) (by decide) rfl ?_
  refine zi_ldc2 K (dX3_isBestOfAll_p0 13 rfl) w_514 ?_
  refine zi_lstore K [(4, .long (-1)), (3, .int 0), (2, .int 0), (0, .ref (ad 12 b)), (1, .ref (ad 5 t))] (dX3_isBestOfAll_p0 14 rfl) (by decide) rfl ?_
  refine zi_iconst K (dX3_isBestOfAll_p0 15 rfl) zk_i1 ?_
  refine zi_aload_n K (dX3_isBestOfAll_p0 16 rfl) 3 rfl ?_
  refine zg_LAY_size K hb w_115 (dX3_isBestOfAll_p0 17 rfl) ?_
  rw [show sI σ 27 b 0 = nI (m + 1) from hn]
  refine zi_iconst K (dX3_isBestOfAll_p0 18 rfl) zk_i1 ?_
  refine zi_isub K (dX3_isBestOfAll_p0 19 rfl) ?_
  refine zi_ishl K (dX3_isBestOfAll_p0 20 rfl) ?_
  refine zi_istore K [(6, .int (1 <<< (((nI (m + 1)) - 1) &&& 31))), (4, .long (-1)), (3, .int 0), (2, .int 0), (0, .ref (ad 12 b)), (1, .ref (ad 5 t))] (dX3_isBestOfAll_p0 21 rfl) (by decide) rfl ?_
  refine zi_iconst K (dX3_isBestOfAll_p0 22 rfl) zk_i0 ?_
  refine zi_istore K [(7, .int 0), (6, .int (1 <<< (((nI (m + 1)) - 1) &&& 31))), (4, .long (-1)), (3, .int 0), (2, .int 0), (0, .ref (ad 12 b)), (1, .ref (ad 5 t))] (dX3_isBestOfAll_p0 23 rfl) (by decide) rfl ?_
  refine zV.pick [0, 4, 3, 2, 5, 6, 1] (lo' := [(7, .int 0), (2, .int 0), (3, .int 0), (4, .long (-1)), (0, .ref (ad 12 b)), (1, .ref (ad 5 t)), (6, .int (1 <<< (((nI (m + 1)) - 1) &&& 31)))]) rfl ?_
  suffices hlR : ∀ (r : Nat) (c : Nat) (bc : Int32) (bn : Int32) (most : Int64), c ≤ 2 ^ m → 2 ^ m - c < r → v_bestOfAll σ b m t = lv_bestOfAll σ b m t r c bc bn most → zV G X 11 (zP G ad σ) (0) (0) 40 [(7, .int (nI c)), (2, .int bc), (3, .int bn), (4, .long most), (0, .ref (ad 12 b)), (1, .ref (ad 5 t)), (6, .int (1 <<< ((nI (m + 1) - 1) &&& 31)))] [] from hlR (2 ^ m + 1) 0 0 0 (-1) (Nat.zero_le _) (Nat.lt_succ_of_le (Nat.sub_le _ _)) rfl
  intro r
  induction r with
  | zero => intro c bc bn most _ h; exact absurd h (Nat.not_lt_zero _)
  | succ r ihR =>
    intro c bc bn most hfR hmR hV
    refine zi_iload K (dX3_isBestOfAll_p0 24 rfl) 0 rfl ?_
    refine zi_iload K (dX3_isBestOfAll_p0 25 rfl) 6 rfl ?_
    refine zi_icmp_ge K 103 (dX3_isBestOfAll_p0 26 rfl) rfl (fun h44_0 => ?_) (fun h44_0 => ?_)
    · skip
      refine zi_iload_n K (dX3_isBestOfAll_p1 6 rfl) 1 rfl ?_
      refine zi_aload_n K (dX3_isBestOfAll_p1 7 rfl) 4 rfl ?_
      refine zi_callV K (na := 0) [.int bc] [.int (v_laidCuts σ b m), .int bc] (c_laidCuts (σ := σ) b m hb hn (by omega)) (dX3_isBestOfAll_p1 8 rfl) w_529 w_531 w_10 w_30 w_532 (by decide +kernel) rfl (fun H h => zi_recv K (zr_LAY (σ := σ) hb H h).1 rfl) (fun H h => h) ⟨Nat.le_of_ble_eq_true rfl, Nat.le_of_ble_eq_true rfl⟩ ⟨Nat.le_refl _, Nat.le_refl _⟩ (Nat.le_of_ble_eq_true rfl) rfl rfl ?_
      refine zi_icmp_ne K 115 (dX3_isBestOfAll_p1 9 rfl) rfl (fun h108_1 => ?_) (fun h108_1 => ?_)
      · skip
        refine zi_iconst K (dX3_isBestOfAll_p1 12 rfl) zk_i0 ?_
        exact zi_zret K E (dX3_isBestOfAll_p1 13 rfl) (Nat.le_refl _) (Nat.le_refl _) (by rw [hV]; simp only [lv_bestOfAll, if_pos h44_0, if_neg h108_1]) rfl (fun _ h => h)
      · skip
        refine zi_iconst K (dX3_isBestOfAll_p1 10 rfl) zk_i1 ?_
        refine zi_goto K 116 (dX3_isBestOfAll_p1 11 rfl) rfl ?_
        exact zi_zret K E (dX3_isBestOfAll_p1 13 rfl) (Nat.le_refl _) (Nat.le_refl _) (by rw [hV]; simp only [lv_bestOfAll, if_pos h44_0, if_pos h108_1]) rfl (fun _ h => h)
    · skip
      refine zi_iconst K (dX3_isBestOfAll_p0 27 rfl) zk_i1 ?_
      refine zi_iload K (dX3_isBestOfAll_p0 28 rfl) 0 rfl ?_
      refine zi_callS K (na := 1) (As := [.int (nI c)]) [.int 1] [.int (v_bitCount σ (nI c)), .int 1] (c_bitCount  (nI c)) (dX3_isBestOfAll_p0 29 rfl) w_515 w_516 w_54 w_517 (by decide +kernel) rfl (fun H h => h) ⟨Nat.le_of_ble_eq_true rfl, Nat.le_of_ble_eq_true rfl⟩ ⟨Nat.le_refl _, Nat.le_refl _⟩ (Nat.le_of_ble_eq_true rfl) rfl rfl ?_
      refine zi_iadd K (dX3_isBestOfAll_p0 30 rfl) ?_
      refine zi_istore K [(8, .int (1 + (v_bitCount σ (nI c)))), (7, .int (nI c)), (2, .int bc), (3, .int bn), (4, .long most), (0, .ref (ad 12 b)), (1, .ref (ad 5 t)), (6, .int (1 <<< ((nI (m + 1) - 1) &&& 31)))] (dX3_isBestOfAll_p0 31 rfl) (by decide) rfl ?_
      refine zi_aload_n K (dX3_isBestOfAll_p0 32 rfl) 5 rfl ?_
      refine zi_iload K (dX3_isBestOfAll_p0 33 rfl) 1 rfl ?_
      refine zi_aload_n K (dX3_isBestOfAll_p0 34 rfl) 6 rfl ?_
      refine zi_callV K (na := 2) [] [.long (v_worthOf σ b (m + 1) (nI c) t)] (c_worthOf (σ := σ) b (m + 1) (nI c) t hb ht hn (by omega)) (dX3_isBestOfAll_p0 35 rfl) w_521 w_523 w_8 w_30 w_524 (by decide +kernel) rfl (fun H h => zi_recv K (zr_LAY (σ := σ) hb H h).1 rfl) (fun H h => h) ⟨Nat.le_of_ble_eq_true rfl, Nat.le_of_ble_eq_true rfl⟩ ⟨Nat.le_refl _, Nat.le_refl _⟩ (Nat.le_of_ble_eq_true rfl) rfl rfl ?_
      refine zi_lstore K [(9, .long (v_worthOf σ b (m + 1) (nI c) t)), (8, .int (1 + (v_bitCount σ (nI c)))), (7, .int (nI c)), (2, .int bc), (3, .int bn), (4, .long most), (0, .ref (ad 12 b)), (1, .ref (ad 5 t)), (6, .int (1 <<< ((nI (m + 1) - 1) &&& 31)))] (dX3_isBestOfAll_p0 36 rfl) (by decide) rfl ?_
      refine zi_lload K (dX3_isBestOfAll_p0 37 rfl) 0 rfl ?_
      refine zi_lload K (dX3_isBestOfAll_p0 38 rfl) 5 rfl ?_
      refine zi_lif_gt K 87 (dX3_isBestOfAll_p0 39 rfl) (dX3_isBestOfAll_p0 40 rfl) rfl (fun h69_1 => ?_) (fun h69_1 => ?_)
      · skip
        refine zi_lload K (dX3_isBestOfAll_p0 48 rfl) 0 rfl ?_
        refine zi_lstore K [(4, .long (v_worthOf σ b (m + 1) (nI c) t)), (9, .long (v_worthOf σ b (m + 1) (nI c) t)), (8, .int (1 + (v_bitCount σ (nI c)))), (7, .int (nI c)), (2, .int bc), (3, .int bn), (0, .ref (ad 12 b)), (1, .ref (ad 5 t)), (6, .int (1 <<< ((nI (m + 1) - 1) &&& 31)))] (dX3_isBestOfAll_p0 49 rfl) (by decide) rfl ?_
        refine zi_iload K (dX3_isBestOfAll_p1 0 rfl) 2 rfl ?_
        refine zi_istore_n K [(3, .int (1 + (v_bitCount σ (nI c)))), (4, .long (v_worthOf σ b (m + 1) (nI c) t)), (9, .long (v_worthOf σ b (m + 1) (nI c) t)), (8, .int (1 + (v_bitCount σ (nI c)))), (7, .int (nI c)), (2, .int bc), (0, .ref (ad 12 b)), (1, .ref (ad 5 t)), (6, .int (1 <<< ((nI (m + 1) - 1) &&& 31)))] (dX3_isBestOfAll_p1 1 rfl) (by decide) rfl ?_
        refine zi_iload K (dX3_isBestOfAll_p1 2 rfl) 4 rfl ?_
        refine zi_istore_n K [(2, .int (nI c)), (3, .int (1 + (v_bitCount σ (nI c)))), (4, .long (v_worthOf σ b (m + 1) (nI c) t)), (9, .long (v_worthOf σ b (m + 1) (nI c) t)), (8, .int (1 + (v_bitCount σ (nI c)))), (7, .int (nI c)), (0, .ref (ad 12 b)), (1, .ref (ad 5 t)), (6, .int (1 <<< ((nI (m + 1) - 1) &&& 31)))] (dX3_isBestOfAll_p1 3 rfl) (by decide) rfl ?_
        refine zi_iinc K (v := nI (c + 1)) [(7, .int (nI (c + 1))), (2, .int (nI c)), (3, .int (1 + (v_bitCount σ (nI c)))), (4, .long (v_worthOf σ b (m + 1) (nI c) t)), (9, .long (v_worthOf σ b (m + 1) (nI c) t)), (8, .int (1 + (v_bitCount σ (nI c)))), (0, .ref (ad 12 b)), (1, .ref (ad 5 t)), (6, .int (1 <<< ((nI (m + 1) - 1) &&& 31)))] (dX3_isBestOfAll_p1 4 rfl) 5 rfl (zk_inc _) (by decide) rfl ?_
        refine zi_goto K 40 (dX3_isBestOfAll_p1 5 rfl) rfl ?_
        refine zV.pick [0, 1, 2, 3, 6, 7, 8] (lo' := [(7, .int (nI (c + 1))), (2, .int (nI c)), (3, .int (1 + (v_bitCount σ (nI c)))), (4, .long (v_worthOf σ b (m + 1) (nI c) t)), (0, .ref (ad 12 b)), (1, .ref (ad 5 t)), (6, .int (1 <<< ((nI (m + 1) - 1) &&& 31)))]) rfl ?_
        exact ihR (c + 1) (nI c) (1 + (v_bitCount σ (nI c))) (v_worthOf σ b (m + 1) (nI c) t) (by have q := zloop_in (i := c) (N := 2 ^ m) (zsh_pow hm12) (zpow_b hm12) hfR h44_0; omega) (by have q := zloop_in (i := c) (N := 2 ^ m) (zsh_pow hm12) (zpow_b hm12) hfR h44_0; omega) (by rw [hV]; simp only [lv_bestOfAll, if_neg h44_0, if_pos h69_1])
      · skip
        refine zi_lload K (dX3_isBestOfAll_p0 41 rfl) 0 rfl ?_
        refine zi_lload K (dX3_isBestOfAll_p0 42 rfl) 5 rfl ?_
        refine zi_lif_ne K 97 (dX3_isBestOfAll_p0 43 rfl) (dX3_isBestOfAll_p0 44 rfl) rfl (fun h77_2 => ?_) (fun h77_2 => ?_)
        · skip
          refine zi_iinc K (v := nI (c + 1)) [(7, .int (nI (c + 1))), (9, .long (v_worthOf σ b (m + 1) (nI c) t)), (8, .int (1 + (v_bitCount σ (nI c)))), (2, .int bc), (3, .int bn), (4, .long most), (0, .ref (ad 12 b)), (1, .ref (ad 5 t)), (6, .int (1 <<< ((nI (m + 1) - 1) &&& 31)))] (dX3_isBestOfAll_p1 4 rfl) 2 rfl (zk_inc _) (by decide) rfl ?_
          refine zi_goto K 40 (dX3_isBestOfAll_p1 5 rfl) rfl ?_
          refine zV.pick [0, 3, 4, 5, 6, 7, 8] (lo' := [(7, .int (nI (c + 1))), (2, .int bc), (3, .int bn), (4, .long most), (0, .ref (ad 12 b)), (1, .ref (ad 5 t)), (6, .int (1 <<< ((nI (m + 1) - 1) &&& 31)))]) rfl ?_
          exact ihR (c + 1) bc bn most (by have q := zloop_in (i := c) (N := 2 ^ m) (zsh_pow hm12) (zpow_b hm12) hfR h44_0; omega) (by have q := zloop_in (i := c) (N := 2 ^ m) (zsh_pow hm12) (zpow_b hm12) hfR h44_0; omega) (by rw [hV]; simp only [lv_bestOfAll, if_neg h44_0, if_neg h69_1, if_neg h77_2])
        · skip
          refine zi_iload K (dX3_isBestOfAll_p0 45 rfl) 1 rfl ?_
          refine zi_iload_n K (dX3_isBestOfAll_p0 46 rfl) 4 rfl ?_
          refine zi_icmp_ge K 97 (dX3_isBestOfAll_p0 47 rfl) rfl (fun h84_3 => ?_) (fun h84_3 => ?_)
          · skip
            refine zi_iinc K (v := nI (c + 1)) [(7, .int (nI (c + 1))), (9, .long (v_worthOf σ b (m + 1) (nI c) t)), (8, .int (1 + (v_bitCount σ (nI c)))), (2, .int bc), (3, .int bn), (4, .long most), (0, .ref (ad 12 b)), (1, .ref (ad 5 t)), (6, .int (1 <<< ((nI (m + 1) - 1) &&& 31)))] (dX3_isBestOfAll_p1 4 rfl) 2 rfl (zk_inc _) (by decide) rfl ?_
            refine zi_goto K 40 (dX3_isBestOfAll_p1 5 rfl) rfl ?_
            refine zV.pick [0, 3, 4, 5, 6, 7, 8] (lo' := [(7, .int (nI (c + 1))), (2, .int bc), (3, .int bn), (4, .long most), (0, .ref (ad 12 b)), (1, .ref (ad 5 t)), (6, .int (1 <<< ((nI (m + 1) - 1) &&& 31)))]) rfl ?_
            exact ihR (c + 1) bc bn most (by have q := zloop_in (i := c) (N := 2 ^ m) (zsh_pow hm12) (zpow_b hm12) hfR h44_0; omega) (by have q := zloop_in (i := c) (N := 2 ^ m) (zsh_pow hm12) (zpow_b hm12) hfR h44_0; omega) (by rw [hV]; simp only [lv_bestOfAll, if_neg h44_0, if_neg h69_1, if_pos h77_2, if_pos h84_3])
          · skip
            refine zi_lload K (dX3_isBestOfAll_p0 48 rfl) 0 rfl ?_
            refine zi_lstore K [(4, .long (v_worthOf σ b (m + 1) (nI c) t)), (9, .long (v_worthOf σ b (m + 1) (nI c) t)), (8, .int (1 + (v_bitCount σ (nI c)))), (7, .int (nI c)), (2, .int bc), (3, .int bn), (0, .ref (ad 12 b)), (1, .ref (ad 5 t)), (6, .int (1 <<< ((nI (m + 1) - 1) &&& 31)))] (dX3_isBestOfAll_p0 49 rfl) (by decide) rfl ?_
            refine zi_iload K (dX3_isBestOfAll_p1 0 rfl) 2 rfl ?_
            refine zi_istore_n K [(3, .int (1 + (v_bitCount σ (nI c)))), (4, .long (v_worthOf σ b (m + 1) (nI c) t)), (9, .long (v_worthOf σ b (m + 1) (nI c) t)), (8, .int (1 + (v_bitCount σ (nI c)))), (7, .int (nI c)), (2, .int bc), (0, .ref (ad 12 b)), (1, .ref (ad 5 t)), (6, .int (1 <<< ((nI (m + 1) - 1) &&& 31)))] (dX3_isBestOfAll_p1 1 rfl) (by decide) rfl ?_
            refine zi_iload K (dX3_isBestOfAll_p1 2 rfl) 4 rfl ?_
            refine zi_istore_n K [(2, .int (nI c)), (3, .int (1 + (v_bitCount σ (nI c)))), (4, .long (v_worthOf σ b (m + 1) (nI c) t)), (9, .long (v_worthOf σ b (m + 1) (nI c) t)), (8, .int (1 + (v_bitCount σ (nI c)))), (7, .int (nI c)), (0, .ref (ad 12 b)), (1, .ref (ad 5 t)), (6, .int (1 <<< ((nI (m + 1) - 1) &&& 31)))] (dX3_isBestOfAll_p1 3 rfl) (by decide) rfl ?_
            refine zi_iinc K (v := nI (c + 1)) [(7, .int (nI (c + 1))), (2, .int (nI c)), (3, .int (1 + (v_bitCount σ (nI c)))), (4, .long (v_worthOf σ b (m + 1) (nI c) t)), (9, .long (v_worthOf σ b (m + 1) (nI c) t)), (8, .int (1 + (v_bitCount σ (nI c)))), (0, .ref (ad 12 b)), (1, .ref (ad 5 t)), (6, .int (1 <<< ((nI (m + 1) - 1) &&& 31)))] (dX3_isBestOfAll_p1 4 rfl) 5 rfl (zk_inc _) (by decide) rfl ?_
            refine zi_goto K 40 (dX3_isBestOfAll_p1 5 rfl) rfl ?_
            refine zV.pick [0, 1, 2, 3, 6, 7, 8] (lo' := [(7, .int (nI (c + 1))), (2, .int (nI c)), (3, .int (1 + (v_bitCount σ (nI c)))), (4, .long (v_worthOf σ b (m + 1) (nI c) t)), (0, .ref (ad 12 b)), (1, .ref (ad 5 t)), (6, .int (1 <<< ((nI (m + 1) - 1) &&& 31)))]) rfl ?_
            exact ihR (c + 1) (nI c) (1 + (v_bitCount σ (nI c))) (v_worthOf σ b (m + 1) (nI c) t) (by have q := zloop_in (i := c) (N := 2 ^ m) (zsh_pow hm12) (zpow_b hm12) hfR h44_0; omega) (by have q := zloop_in (i := c) (N := 2 ^ m) (zsh_pow hm12) (zpow_b hm12) hfR h44_0; omega) (by rw [hV]; simp only [lv_bestOfAll, if_neg h44_0, if_neg h69_1, if_pos h77_2, if_neg h84_3])
end
section
/-! ArrayList.add in the midst -/
/-- list q's elements from place i on go up by one -/
def uSh (σ : zSt) (q i : Nat) : zSt := (σ.1, σ.2.1, (fun a j => if a = q ∧ i + 1 ≤ j ∧ j < i + 1 + (σ.2.2.2.1 q - i) then σ.2.2.1 q (i + (j - (i + 1))) else σ.2.2.1 a j), σ.2.2.2)
def s_insE (σ : zSt) (q i x : Nat) : zSt := uZ (uE (uSh σ q i) q i (some x)) q (sZ σ q + 1)
def s_ins (σ : zSt) (q i x : Nat) : zSt := s_insE (if sZ σ q = sC σ q then uC (uM σ q (sM σ q + 1)) q (zgC (sC σ q)) else uM σ q (sM σ q + 1)) q i x
theorem zP0.setSh {G : zG} {ad : Nat → Nat → Nat} {aa : Nat → Nat} {σ : zSt} {H H1 : Heap} (h : zP0 G ad aa σ H) {q i : Nat} (hq : q < 13 ∧ 0 < sC σ q) (hn : va_at G.2.2.1 zCl (aa q, .inl (G.2.2.2.1 3, sC σ q, .inr (.inr (.inr (.inr (va_cpy (fun j => (sE σ q j).map (ad (zeK q))) (fun j => (sE σ q j).map (ad (zeK q))) i (i + 1) (sZ σ q - i))))))) H1) (oq : ∀ x, x ≠ aa q → H1[x]? = H[x]?) : zP0 G ad aa (uSh σ q i) H1 := by
  refine h.upd (kd := 29) (ix := q) hq (fun k x => ?_) (fun k x hne _ => ?_) ?_ oq
  · by_cases e : k = 29
    · subst e; exact Iff.rfl
    · exact zlv_lists e rfl
  · rcases Nat.lt_or_ge k 28 with e | e
    · exact zct_lists e rfl rfl rfl
    · match k, e with
      | 28, _ => rfl
      | 29, _ =>
        have hx : ¬ x = q := fun z => hne ⟨rfl, z⟩
        show zqLARR G ad (uSh σ q i) x = zqLARR G ad σ x
        unfold zqLARR
        rw [show (fun j => (sE (uSh σ q i) x j).map (ad (zeK x))) = (fun j => (sE σ x j).map (ad (zeK x))) from funext fun j => by
          rw [show sE (uSh σ q i) x j = sE σ x j from if_neg (fun z => hx z.1)]]
        rfl
      | y + 30, _ => rfl
  · show va_at G.2.2.1 zCl (aa q, zqLARR G ad (uSh σ q i) q) H1
    unfold zqLARR
    rw [show sC (uSh σ q i) q = sC σ q from rfl]
    rw [show (fun j => (sE (uSh σ q i) q j).map (ad (zeK q))) = va_cpy (fun j => (sE σ q j).map (ad (zeK q))) (fun j => (sE σ q j).map (ad (zeK q))) i (i + 1) (sZ σ q - i) from funext fun j => by
      unfold va_cpy
      by_cases e : i + 1 ≤ j ∧ j < i + 1 + (sZ σ q - i)
      · rw [if_pos e, show sE (uSh σ q i) q j = sE σ q (i + (j - (i + 1))) from if_pos ⟨rfl, e.1, e.2⟩]
      · rw [if_neg e, show sE (uSh σ q i) q j = sE σ q j from if_neg (fun z => e z.2)]]
    exact hn
set_option maxRecDepth 100000 in
set_option maxHeartbeats 4000000 in
theorem c_rangeAdd {G : zG} {ad : Nat → Nat → Nat} {aa : Nat → Nat} {σ : zSt} (q i : Nat) (hq : zLok σ q) (hi : i ≤ sZ σ q) : zC G yJx4a65c_rangeCheckForAdd_d00df cJx4a65c_rangeCheckForAdd_d00df 2 none 0 0 0 0 [.ref (ad 28 q), .int (nI i)] (zP0 G ad aa σ) none (zP0 G ad aa σ) := by
  refine zC_of (by decide) (Nat.le_of_ble_eq_true rfl) (fun X K E hnm => ?_)
  show zV G X 2 (zP0 G ad aa σ) 0 0 0 [(0, .ref (ad 28 q)), (1, .int (nI i))] []
  have h1 := hq.2.1
  have h2 := hq.2.2.1
  refine zi_iload_n K (dJx4a65c_rangeCheckForAdd_d00df 0 rfl) 1 rfl ?_
  refine zi_aload_n K (dJx4a65c_rangeCheckForAdd_d00df 1 rfl) 0 rfl ?_
  refine zg0_size K hq.1 w_83 (dJx4a65c_rangeCheckForAdd_d00df 2 rfl) ?_
  refine zi_icmp_gt K 12 (dJx4a65c_rangeCheckForAdd_d00df 3 rfl) rfl (fun h => absurd h (nI_nlt hi (by omega))) (fun _ => ?_)
  refine zi_iload_n K (dJx4a65c_rangeCheckForAdd_d00df 4 rfl) 1 rfl ?_
  refine zi_if_ge K 25 (dJx4a65c_rangeCheckForAdd_d00df 5 rfl) rfl (fun _ => ?_) (fun h => absurd (nI_pos' (n := i) (by omega)) h)
  exact zi_vret K E (dJx4a65c_rangeCheckForAdd_d00df 13 rfl) (Nat.le_refl _) (Nat.le_refl _) rfl (fun _ h => h)
set_option maxRecDepth 100000 in
set_option maxHeartbeats 4000000 in
theorem c_insR {G : zG} {ad : Nat → Nat → Nat} {σ : zSt} (q i x : Nat) (hq : zLok σ q) (hi : i ≤ sZ σ q) (hf : sZ σ q < sC σ q) (hx : zlv σ (zeK q) x) : zC G yJx4a65c_add_7a177 cJx4a65c_add_7a177 5 none 1 56 0 0 [.ref (ad 28 q), .int (nI i), .ref (ad (zeK q) x)] (zP G ad σ) none (zP G ad (s_ins σ q i x)) := by
  refine zC_of (by decide) (Nat.le_of_ble_eq_true rfl) (fun X K E hnm => ?_)
  show zV G X 5 (zP G ad σ) 0 0 0 [(0, .ref (ad 28 q)), (1, .int (nI i)), (2, .ref (ad (zeK q) x))] []
  have hz := hq.2.1
  have hc3 := hq.2.2.1
  refine zV.opn (fun aa => ?_)
  refine zi_aload_n K (dJx4a65c_add_7a177 0 rfl) 0 rfl ?_
  refine zi_iload_n K (dJx4a65c_add_7a177 1 rfl) 1 rfl ?_
  refine zi_callV K (na := 1) [] [] (c_rangeAdd (ad := ad) (aa := aa) (σ := σ) q i hq hi) (dJx4a65c_add_7a177 2 rfl) w_820 w_822 w_18 w_28 w_823 (by decide +kernel) rfl (fun H h => zi_recv K (zr0_LST h hq.1).1 rfl) (fun H h => h) ⟨Nat.le_of_ble_eq_true rfl, Nat.le_of_ble_eq_true rfl⟩ ⟨Nat.zero_le _, Nat.zero_le _⟩ (Nat.le_of_ble_eq_true rfl) rfl rfl ?_
  refine zi_aload_n K (dJx4a65c_add_7a177 3 rfl) 0 rfl ?_
  refine zi_dup K (dJx4a65c_add_7a177 4 rfl) rfl ?_
  refine zg0_mod K hq.1 w_85 (dJx4a65c_add_7a177 5 rfl) ?_
  refine zi_iconst K (dJx4a65c_add_7a177 6 rfl) zk_i1 ?_
  refine zi_iadd K (dJx4a65c_add_7a177 7 rfl) ?_
  refine zp0_mod K hq.1 w_85 (dJx4a65c_add_7a177 8 rfl) ?_
  refine zi_aload_n K (dJx4a65c_add_7a177 9 rfl) 0 rfl ?_
  refine zg0_size K hq.1 w_83 (dJx4a65c_add_7a177 10 rfl) ?_
  refine zi_dup K (dJx4a65c_add_7a177 11 rfl) rfl ?_
  refine zi_istore_n K [(3, .int (nI (sZ σ q))), (0, .ref (ad 28 q)), (1, .int (nI i)), (2, .ref (ad (zeK q) x))] (dJx4a65c_add_7a177 12 rfl) (by decide) rfl ?_
  refine zi_aload_n K (dJx4a65c_add_7a177 13 rfl) 1 rfl ?_
  refine zg0_data K hq.1 w_82 (dJx4a65c_add_7a177 14 rfl) ?_
  show zV G X 5 (zP0 G ad aa (uM σ q (sM σ q + 1))) _ _ _ _ [.ref (if sC σ q = 0 then G.2.2.2.2 0 else aa q), _]
  rw [if_neg (show ¬ sC σ q = 0 by omega)]
  have hqS : q < 13 ∧ 0 < sC (uM σ q (sM σ q + 1)) q := ⟨hq.1, show 0 < sC σ q by omega⟩
  have hCS : sC (uM σ q (sM σ q + 1)) q = sC σ q := rfl
  refine zi_dup K (dJx4a65c_add_7a177 15 rfl) rfl ?_
  refine zi_astore K [(4, .ref (aa q)), (3, .int (nI (sZ σ q))), (0, .ref (ad 28 q)), (1, .int (nI i)), (2, .ref (ad (zeK q) x))] (dJx4a65c_add_7a177 16 rfl) (by decide) rfl ?_
  refine zi_alen (t0 := 3) (N := sC σ q) K rfl (fun H h => (zr0_LARR h hqS).1) (dJx4a65c_add_7a177 17 rfl) ?_
  refine zi_icmp_ne K 38 (dJx4a65c_add_7a177 18 rfl) rfl (fun _ => ?_) (fun h => absurd ((nI_eq (a := sZ σ q) (b := sC σ q) (by omega) (by omega)).mp h) (by omega))
  refine zi_aload K (dJx4a65c_add_7a177 22 rfl) 0 rfl ?_
  refine zi_iload_n K (dJx4a65c_add_7a177 23 rfl) 3 rfl ?_
  refine zi_aload K (dJx4a65c_add_7a177 24 rfl) 0 rfl ?_
  refine zi_iload_n K (dJx4a65c_add_7a177 25 rfl) 3 rfl ?_
  refine zi_iconst K (dJx4a65c_add_7a177 26 rfl) zk_i1 ?_
  refine zi_iadd K (dJx4a65c_add_7a177 27 rfl) ?_
  refine zi_iload_n K (dJx4a65c_add_7a177 28 rfl) 1 rfl ?_
  refine zi_iload_n K (dJx4a65c_add_7a177 29 rfl) 3 rfl ?_
  refine zi_isub K (dJx4a65c_add_7a177 30 rfl) ?_
  rw [nI_1, pk_sub hi]
  refine zi_acopy (sp := i) (dp := i + 1) (m := sZ σ q - i) (n0 := sC (uM σ q (sM σ q + 1)) q) (n1 := sC (uM σ q (sM σ q + 1)) q) (f := fun j => (sE σ q j).map (ad (zeK q))) (g := fun j => (sE σ q j).map (ad (zeK q))) (P' := zP0 G ad aa (uSh (uM σ q (sM σ q + 1)) q i)) K [] w_1056 (fun H h => (zr0_LARR h hqS).1) (fun H h => zr0_LARR h hqS) (by omega) (by omega) (by omega) (by omega) (fun H h y hy z hz => by
    cases hx0 : sE σ q (i + y) with
    | none => rw [hx0] at hz; cases hz
    | some x0 =>
      rw [hx0] at hz
      cases hz
      exact zeK_obj h (zlv_u (σ := σ) (σ' := (uM σ q (sM σ q + 1))) rfl (hq.2.2.2.2 (i + y) x0 hx0))) ⟨Nat.le_of_ble_eq_true rfl, Nat.le_of_ble_eq_true rfl⟩ (dJx4a65c_add_7a177 31 rfl) (fun H H1 h ha _ oq => h.setSh hqS ha oq) ?_
  refine zi_aload K (dJx4a65c_add_7a177 32 rfl) 0 rfl ?_
  refine zi_iload_n K (dJx4a65c_add_7a177 33 rfl) 3 rfl ?_
  refine zi_aload_n K (dJx4a65c_add_7a177 34 rfl) 4 rfl ?_
  refine zs0_arr (σ := uSh (uM σ q (sM σ q + 1)) q i) K hqS (show i < sC (uM σ q (sM σ q + 1)) q by omega) (show sC (uM σ q (sM σ q + 1)) q < 2 ^ 31 by omega) (zlv_u (σ := σ) (σ' := uSh (uM σ q (sM σ q + 1)) q i) rfl hx) (dJx4a65c_add_7a177 35 rfl) ?_
  refine zi_aload_n K (dJx4a65c_add_7a177 36 rfl) 2 rfl ?_
  refine zi_iload_n K (dJx4a65c_add_7a177 37 rfl) 1 rfl ?_
  refine zi_iconst K (dJx4a65c_add_7a177 38 rfl) zk_i1 ?_
  refine zi_iadd K (dJx4a65c_add_7a177 39 rfl) ?_
  refine zp0_size K (m := sZ σ q + 1) (nI_1 _) hq.1 w_83 (dJx4a65c_add_7a177 40 rfl) ?_
  exact zi_vret K E (dJx4a65c_add_7a177 41 rfl) (Nat.le_refl _) (Nat.le_refl _) rfl (fun H h => ⟨aa, by unfold s_ins; rw [if_neg (by omega)]; exact h⟩)
set_option maxRecDepth 100000 in
set_option maxHeartbeats 4000000 in
theorem c_insG {G : zG} {ad : Nat → Nat → Nat} {σ : zSt} (q i x : Nat) (hq : zLok σ q) (hi : i ≤ sZ σ q) (hf : sZ σ q = sC σ q) (h2 : sC σ q = 0 ∨ 2 ≤ sC σ q) (hx : zlv σ (zeK q) x) : zC G yJx4a65c_add_7a177 cJx4a65c_add_7a177 5 none 5 129 1 (zgC (sC σ q)) [.ref (ad 28 q), .int (nI i), .ref (ad (zeK q) x)] (zP G ad σ) none (zP G ad (s_ins σ q i x)) := by
  refine zC_of (by decide) (Nat.le_of_ble_eq_true rfl) (fun X K E hnm => ?_)
  show zV G X 5 (zP G ad σ) 0 0 0 [(0, .ref (ad 28 q)), (1, .int (nI i)), (2, .ref (ad (zeK q) x))] []
  have hz := hq.2.1
  have hc3 := hq.2.2.1
  refine zV.opn (fun aa => ?_)
  refine zi_aload_n K (dJx4a65c_add_7a177 0 rfl) 0 rfl ?_
  refine zi_iload_n K (dJx4a65c_add_7a177 1 rfl) 1 rfl ?_
  refine zi_callV K (na := 1) [] [] (c_rangeAdd (ad := ad) (aa := aa) (σ := σ) q i hq hi) (dJx4a65c_add_7a177 2 rfl) w_820 w_822 w_18 w_28 w_823 (by decide +kernel) rfl (fun H h => zi_recv K (zr0_LST h hq.1).1 rfl) (fun H h => h) ⟨Nat.le_of_ble_eq_true rfl, Nat.le_of_ble_eq_true rfl⟩ ⟨Nat.zero_le _, Nat.zero_le _⟩ (Nat.le_of_ble_eq_true rfl) rfl rfl ?_
  refine zi_aload_n K (dJx4a65c_add_7a177 3 rfl) 0 rfl ?_
  refine zi_dup K (dJx4a65c_add_7a177 4 rfl) rfl ?_
  refine zg0_mod K hq.1 w_85 (dJx4a65c_add_7a177 5 rfl) ?_
  refine zi_iconst K (dJx4a65c_add_7a177 6 rfl) zk_i1 ?_
  refine zi_iadd K (dJx4a65c_add_7a177 7 rfl) ?_
  refine zp0_mod K hq.1 w_85 (dJx4a65c_add_7a177 8 rfl) ?_
  refine zi_aload_n K (dJx4a65c_add_7a177 9 rfl) 0 rfl ?_
  refine zg0_size K hq.1 w_83 (dJx4a65c_add_7a177 10 rfl) ?_
  refine zi_dup K (dJx4a65c_add_7a177 11 rfl) rfl ?_
  refine zi_istore_n K [(3, .int (nI (sZ σ q))), (0, .ref (ad 28 q)), (1, .int (nI i)), (2, .ref (ad (zeK q) x))] (dJx4a65c_add_7a177 12 rfl) (by decide) rfl ?_
  refine zi_aload_n K (dJx4a65c_add_7a177 13 rfl) 1 rfl ?_
  refine zg0_data K hq.1 w_82 (dJx4a65c_add_7a177 14 rfl) ?_
  show zV G X 5 (zP0 G ad aa (uM σ q (sM σ q + 1))) _ _ _ _ [.ref (if sC σ q = 0 then G.2.2.2.2 0 else aa q), _]
  have hg : sZ σ q < zgC (sC σ q) := by unfold zgC; split <;> omega
  have hg2 : zgC (sC σ q) < 2000 := by unfold zgC; split <;> omega
  have hCS : sC (uC (uM σ q (sM σ q + 1)) q (zgC (sC σ q))) q = zgC (sC σ q) := if_pos rfl
  have hqS : q < 13 ∧ 0 < sC (uC (uM σ q (sM σ q + 1)) q (zgC (sC σ q))) q := ⟨hq.1, by rw [hCS]; omega⟩
  refine zi_dup K (dJx4a65c_add_7a177 15 rfl) rfl ?_
  refine zi_astore K [(4, .ref (if sC σ q = 0 then G.2.2.2.2 0 else aa q)), (3, .int (nI (sZ σ q))), (0, .ref (ad 28 q)), (1, .int (nI i)), (2, .ref (ad (zeK q) x))] (dJx4a65c_add_7a177 16 rfl) (by decide) rfl ?_
  have key : zV G X 5 (zP0 G ad aa (uM σ q (sM σ q + 1))) (0 + 0) (0 + 0) 29 [(4, .ref (if sC σ q = 0 then G.2.2.2.2 0 else aa q)), (3, .int (nI (sZ σ q))), (0, .ref (ad 28 q)), (1, .int (nI i)), (2, .ref (ad (zeK q) x))] [.int (nI (sC σ q)), .int (nI (sZ σ q))] := by
    refine zi_icmp_ne K 38 (dJx4a65c_add_7a177 18 rfl) rfl (fun h => absurd (by rw [hf]) h) (fun _ => ?_)
    refine zi_aload_n K (dJx4a65c_add_7a177 19 rfl) 2 rfl ?_
    refine zi_callaV K (na := 0) [] (c_grow (ad := ad) (aa := aa) (σ := (uM σ q (sM σ q + 1))) q hq hf h2) (dJx4a65c_add_7a177 20 rfl) w_443 w_445 w_5 w_28 w_446 (by decide +kernel) rfl (fun H h => zi_recv K (zr0_LST h hq.1).1 rfl) (fun H h => h) ⟨Nat.le_of_ble_eq_true rfl, Nat.le_of_ble_eq_true rfl⟩ ⟨by show 0 + 0 + 1 ≤ 1; omega, by show 0 + 0 + zgC (sC σ q) ≤ zgC (sC σ q); omega⟩ (Nat.le_of_ble_eq_true rfl) rfl (fun a => ?_)
    show zV G X 5 (zP0 G ad (aaU aa q a) (uC (uM σ q (sM σ q + 1)) q (zgC (sC σ q)))) _ _ _ _ _
    have hza : aaU aa q a q = a := if_pos rfl
    rw [show (Value.ref a) = .ref (aaU aa q a q) by rw [hza]]
    refine zi_astore K [(4, .ref (aaU aa q a q)), (3, .int (nI (sZ σ q))), (0, .ref (ad 28 q)), (1, .int (nI i)), (2, .ref (ad (zeK q) x))] (dJx4a65c_add_7a177 21 rfl) (by decide) rfl ?_
    refine zi_aload K (dJx4a65c_add_7a177 22 rfl) 0 rfl ?_
    refine zi_iload_n K (dJx4a65c_add_7a177 23 rfl) 3 rfl ?_
    refine zi_aload K (dJx4a65c_add_7a177 24 rfl) 0 rfl ?_
    refine zi_iload_n K (dJx4a65c_add_7a177 25 rfl) 3 rfl ?_
    refine zi_iconst K (dJx4a65c_add_7a177 26 rfl) zk_i1 ?_
    refine zi_iadd K (dJx4a65c_add_7a177 27 rfl) ?_
    refine zi_iload_n K (dJx4a65c_add_7a177 28 rfl) 1 rfl ?_
    refine zi_iload_n K (dJx4a65c_add_7a177 29 rfl) 3 rfl ?_
    refine zi_isub K (dJx4a65c_add_7a177 30 rfl) ?_
    rw [nI_1, pk_sub hi]
    refine zi_acopy (sp := i) (dp := i + 1) (m := sZ σ q - i) (n0 := sC (uC (uM σ q (sM σ q + 1)) q (zgC (sC σ q))) q) (n1 := sC (uC (uM σ q (sM σ q + 1)) q (zgC (sC σ q))) q) (f := fun j => (sE σ q j).map (ad (zeK q))) (g := fun j => (sE σ q j).map (ad (zeK q))) (P' := zP0 G ad (aaU aa q a) (uSh (uC (uM σ q (sM σ q + 1)) q (zgC (sC σ q))) q i)) K [] w_1056 (fun H h => (zr0_LARR h hqS).1) (fun H h => zr0_LARR h hqS) (by omega) (by omega) (by omega) (by omega) (fun H h y hy z hz => by
      cases hx0 : sE σ q (i + y) with
      | none => rw [hx0] at hz; cases hz
      | some x0 =>
        rw [hx0] at hz
        cases hz
        exact zeK_obj h (zlv_u (σ := σ) (σ' := (uC (uM σ q (sM σ q + 1)) q (zgC (sC σ q)))) rfl (hq.2.2.2.2 (i + y) x0 hx0))) ⟨Nat.le_of_ble_eq_true rfl, Nat.le_of_ble_eq_true rfl⟩ (dJx4a65c_add_7a177 31 rfl) (fun H H1 h ha _ oq => h.setSh hqS ha oq) ?_
    refine zi_aload K (dJx4a65c_add_7a177 32 rfl) 0 rfl ?_
    refine zi_iload_n K (dJx4a65c_add_7a177 33 rfl) 3 rfl ?_
    refine zi_aload_n K (dJx4a65c_add_7a177 34 rfl) 4 rfl ?_
    refine zs0_arr (σ := uSh (uC (uM σ q (sM σ q + 1)) q (zgC (sC σ q))) q i) K hqS (show i < sC (uC (uM σ q (sM σ q + 1)) q (zgC (sC σ q))) q by omega) (show sC (uC (uM σ q (sM σ q + 1)) q (zgC (sC σ q))) q < 2 ^ 31 by omega) (zlv_u (σ := σ) (σ' := uSh (uC (uM σ q (sM σ q + 1)) q (zgC (sC σ q))) q i) rfl hx) (dJx4a65c_add_7a177 35 rfl) ?_
    refine zi_aload_n K (dJx4a65c_add_7a177 36 rfl) 2 rfl ?_
    refine zi_iload_n K (dJx4a65c_add_7a177 37 rfl) 1 rfl ?_
    refine zi_iconst K (dJx4a65c_add_7a177 38 rfl) zk_i1 ?_
    refine zi_iadd K (dJx4a65c_add_7a177 39 rfl) ?_
    refine zp0_size K (m := sZ σ q + 1) (nI_1 _) hq.1 w_83 (dJx4a65c_add_7a177 40 rfl) ?_
    exact zi_vret K E (dJx4a65c_add_7a177 41 rfl) (by show 0 + 0 + 1 ≤ 1; omega) (by show 0 + 0 + zgC (sC σ q) ≤ zgC (sC σ q); omega) rfl (fun H h => ⟨_, by unfold s_ins; rw [if_pos hf]; exact h⟩)
  by_cases h0 : sC σ q = 0
  · rw [if_pos h0] at key ⊢
    refine zi_alenE K (dJx4a65c_add_7a177 17 rfl) ?_
    rw [h0] at key
    exact key
  · rw [if_neg h0] at key ⊢
    refine zi_alen (t0 := 3) (N := sC σ q) K rfl (fun H h => (zr0_LARR h ⟨hq.1, show 0 < sC σ q by omega⟩).1) (dJx4a65c_add_7a177 17 rfl) ?_
    exact key
end
section
/-! Flow.serveLoss: one loss through the treaties for each loss -/
def slI (σ : zSt) (b k : Nat) : Nat → zSt
  | 0 => σ
  | i + 1 => if v_forEach (slI σ b k i) ((lx σ (6 + 4 * b) i) % 8) = 0 then (slI σ b k i) else if v_covers (slI σ b k i) ((lx σ (6 + 4 * b) i) % 8) k = 0 then (slI σ b k i) else s_refill (s_takeFrom (slI σ b k i) (lx σ (6 + 4 * b) i) k (zmnl (v_wantedOf (slI σ b k i) ((lx σ (6 + 4 * b) i) % 8) k) (sL (slI σ b k i) 2 (lx σ (6 + 4 * b) i) 0))) (lx σ (6 + 4 * b) i) (zmnl (v_wantedOf (slI σ b k i) ((lx σ (6 + 4 * b) i) % 8) k) (sL (slI σ b k i) 2 (lx σ (6 + 4 * b) i) 0)) (sI (s_takeFrom (slI σ b k i) (lx σ (6 + 4 * b) i) k (zmnl (v_wantedOf (slI σ b k i) ((lx σ (6 + 4 * b) i) % 8) k) (sL (slI σ b k i) 2 (lx σ (6 + 4 * b) i) 0))) 4 k 0)
theorem s_takeFrom_1 (σ : zSt) (j k : Nat) (x : Int64) : (s_takeFrom σ j k x).1 = σ.1 := rfl
theorem s_refill_1 (σ : zSt) (j : Nat) (x : Int64) (day : Int32) : (s_refill σ j x day).1 = σ.1 := by
  unfold s_refill
  split <;> rfl
theorem slI_1 (σ : zSt) (b k i : Nat) : (slI σ b k i).1 = σ.1 := by
  induction i with
  | zero => rfl
  | succ i ih =>
    simp only [slI]
    split
    · exact ih
    · split
      · exact ih
      · exact (s_refill_1 _ _ _ _).trans ((s_takeFrom_1 _ _ _ _).trans ih)
theorem slI_22 (σ : zSt) (b k i : Nat) : (slI σ b k i).2.2 = σ.2.2 := by
  induction i with
  | zero => rfl
  | succ i ih =>
    simp only [slI]
    split
    · exact ih
    · split
      · exact ih
      · exact (s_refill_22 _ _ _ _).trans ((s_takeFrom_22 _ _ _ _).trans ih)
/-- a treaty's numbers that divide -/
def zTz (σ : zSt) (t : Nat) : Prop := (¬ (sI σ 13 t 0).toInt64 * 100 = 0) ∧ ¬ (sI σ 11 t 0 - sI σ 10 t 0 + 1).toInt64 = 0
def zPz (σ : zSt) (k : Nat) : Prop := ¬ (sI σ 0 (sP σ k) 0).toInt64 = 0
theorem zTz_mv {σ σ' : zSt} (e : σ'.1 = σ.1) {t : Nat} (h : zTz σ t) : zTz σ' t := by
  obtain ⟨a, c⟩ := σ
  obtain ⟨a', c'⟩ := σ'
  cases e
  exact h
theorem zPz_mv {σ σ' : zSt} (e1 : σ'.1 = σ.1) (e : σ'.2.2 = σ.2.2) {k : Nat} (h : zPz σ k) : zPz σ' k := by
  obtain ⟨a, x, c⟩ := σ
  obtain ⟨a', x', c'⟩ := σ'
  cases e1
  cases e
  exact h
def s_serveLoss (σ : zSt) (b k : Nat) : zSt := (slI σ b k (sZ σ (6 + 4 * b)))
theorem s_serveLoss_22 (σ : zSt) (b k : Nat) : (s_serveLoss σ b k).2.2 = σ.2.2 := by
  unfold s_serveLoss
  (repeat' split) <;> first | exact ((slI_22 σ b k (sZ σ (6 + 4 * b))).trans rfl)
set_option maxRecDepth 100000 in
set_option maxHeartbeats 4000000 in
theorem c_serveLoss {G : zG} {ad : Nat → Nat → Nat} {σ : zSt} (b k : Nat) (hb : b < 2) (hk : zlC σ k) (hp : sP σ k < sN σ 0) (hz : zPz σ k) (hT : ∀ t, t < sN σ 2 → zTz σ t) (hcv : ∀ j, zlV σ j → j % 8 < sN σ 2) (h6 : zLW σ (6 + 4 * b)) : zC G yX2_serveLoss cX2_serveLoss 6 none 3 67 0 0 [.ref (ad 11 b), .ref (ad 2 k)] (zP G ad σ) none (zP G ad (s_serveLoss σ b k)) := by
  refine zC_of (by decide) (Nat.le_of_ble_eq_true rfl) (fun X K E hnm => ?_)
  show zV G X 6 (zP G ad σ) 0 0 0 [(0, .ref (ad 11 b)), (1, .ref (ad 2 k))] []
  refine zi_iconst K (dX2_serveLoss 0 rfl) zk_i0 ?_
  refine zi_istore_n K [(2, .int 0), (0, .ref (ad 11 b)), (1, .ref (ad 2 k))] (dX2_serveLoss 1 rfl) (by decide) rfl ?_
  refine zV.pick [1, 2, 0] (lo' := [(0, .ref (ad 11 b)), (1, .ref (ad 2 k)), (2, .int 0)]) rfl ?_
  suffices hloop2 : ∀ (r i : Nat), i ≤ sZ σ (6 + 4 * b) → sZ σ (6 + 4 * b) - i < r → zV G X 6 (zP G ad (slI σ b k i)) (0) (0) 2 [(0, .ref (ad 11 b)), (1, .ref (ad 2 k)), (2, .int (nI i))] [] from hloop2 (sZ σ (6 + 4 * b) + 1) 0 (Nat.zero_le _) (Nat.lt_succ_of_le (Nat.sub_le _ _))
  intro r
  induction r with
  | zero => intro i _ h; exact absurd h (Nat.not_lt_zero _)
  | succ r ih2 =>
    intro i hi2 hr2
    refine zi_iload_n K (dX2_serveLoss 2 rfl) 2 rfl ?_
    refine zi_aload_n K (dX2_serveLoss 3 rfl) 0 rfl ?_
    refine zg_FL_covers K hb w_134 (dX2_serveLoss 4 rfl) ?_
    refine zi_callV K (na := 0) [.int (nI i)] [.int (nI (sZ σ (6 + 4 * b))), .int (nI i)] (c_sizeN (σ := (slI σ b k i)) (6 + 4 * b) (sZ σ (6 + 4 * b)) (zL_ok h6).1 (zZ_mv (slI_22 σ b k i) (6 + 4 * b))) (dX2_serveLoss 5 rfl) w_351 w_231 w_232 w_28 w_233 (by decide +kernel) rfl (fun H h => zrecv_LST K (zL_ok h6).1 h) (fun H h => h) ⟨Nat.le_of_ble_eq_true rfl, Nat.le_of_ble_eq_true rfl⟩ ⟨Nat.le_refl _, Nat.le_refl _⟩ (Nat.le_of_ble_eq_true rfl) rfl rfl ?_
    refine zi_icmp_ge K 86 (dX2_serveLoss 6 rfl) rfl (fun h10_0 => ?_) (fun h10_0 => ?_)
    · skip
      have hN2 := zloop_exit rfl (zL_b h6) hi2 h10_0
      subst hN2
      exact zi_vret K E (dX2_serveLoss 41 rfl) (Nat.le_refl _) (Nat.le_refl _) rfl (fun H h => by exact h)
    · skip
      have hlt2 := zloop_in rfl (zL_b h6) hi2 h10_0
      refine zi_aload_n K (dX2_serveLoss 7 rfl) 0 rfl ?_
      refine zg_FL_covers K hb w_134 (dX2_serveLoss 8 rfl) ?_
      refine zi_iload_n K (dX2_serveLoss 9 rfl) 2 rfl ?_
      refine zi_callV K (na := 1) [] [.ref (ad 7 (lx σ (6 + 4 * b) i))] (c_getK (σ := (slI σ b k i)) (6 + 4 * b) i (lx σ (6 + 4 * b) i) 7 (zeK6 hb) (zL_ok (zLW_mv (slI_22 σ b k i) h6)) ((zZ_mv (slI_22 σ b k i) (6 + 4 * b)).symm ▸ hlt2) ((zE_mv (slI_22 σ b k i) (6 + 4 * b) i).trans (zL_x h6 hlt2))) (dX2_serveLoss 10 rfl) w_352 w_310 w_311 w_28 w_312 (by decide +kernel) rfl (fun H h => zrecv_LST K (zL_ok h6).1 h) (fun H h => h) ⟨Nat.le_of_ble_eq_true rfl, Nat.le_of_ble_eq_true rfl⟩ ⟨Nat.le_refl _, Nat.le_refl _⟩ (Nat.le_of_ble_eq_true rfl) rfl rfl ?_
      refine zi_cast K (fun H h => (zr_COV (σ := (slI σ b k i)) (zlCV_V (slI_22 σ b k i) (zL_lv h6 hlt2 (zeK6 hb))) H h).1) rfl w_364 (dX2_serveLoss 11 rfl) ?_
      refine zi_astore_n K [(3, .ref (ad 7 (lx σ (6 + 4 * b) i))), (0, .ref (ad 11 b)), (1, .ref (ad 2 k)), (2, .int (nI i))] (dX2_serveLoss 12 rfl) (by decide) rfl ?_
      refine zi_aload_n K (dX2_serveLoss 13 rfl) 0 rfl ?_
      refine zg_COV_treaty K (zlCV_V (slI_22 σ b k i) (zL_lv h6 hlt2 (zeK6 hb))) w_1162 (dX2_serveLoss 14 rfl) ?_
      refine zi_callV K (na := 0) [] [.int (v_forEach (slI σ b k i) ((lx σ (6 + 4 * b) i) % 8))] (c_forEach (σ := (slI σ b k i)) ((lx σ (6 + 4 * b) i) % 8) (zlCV_N (slI_22 σ b k i) (hcv _ (zL_lv h6 hlt2 (zeK6 hb))))) (dX2_serveLoss 15 rfl) w_383 w_384 w_385 w_55 w_386 (by decide +kernel) rfl (fun H h => zi_recv K (zr_TR (σ := (slI σ b k i)) (zlCV_N (slI_22 σ b k i) (hcv _ (zL_lv h6 hlt2 (zeK6 hb)))) H h).1 rfl) (fun H h => h) ⟨Nat.le_of_ble_eq_true rfl, Nat.le_of_ble_eq_true rfl⟩ ⟨Nat.le_refl _, Nat.le_refl _⟩ (Nat.le_of_ble_eq_true rfl) rfl rfl ?_
      refine zi_if_eq K 80 (dX2_serveLoss 16 rfl) rfl (fun h32_0 => ?_) (fun h32_0 => ?_)
      · skip
        refine zi_iinc K (v := nI (i + 1)) [(2, .int (nI (i + 1))), (3, .ref (ad 7 (lx σ (6 + 4 * b) i))), (0, .ref (ad 11 b)), (1, .ref (ad 2 k))] (dX2_serveLoss 39 rfl) 3 rfl (zk_inc _) (by decide) rfl ?_
        refine zi_goto K 2 (dX2_serveLoss 40 rfl) rfl ?_
        refine zV.pick [2, 3, 0] (lo' := [(0, .ref (ad 11 b)), (1, .ref (ad 2 k)), (2, .int (nI (i + 1)))]) rfl ?_
        refine zV.st (σ' := slI σ b k (i + 1)) (by simp only [slI, if_pos h32_0]) ?_
        exact ih2 (i + 1) (by omega) (by omega)
      · skip
        refine zi_aload_n K (dX2_serveLoss 17 rfl) 0 rfl ?_
        refine zg_COV_treaty K (zlCV_V (slI_22 σ b k i) (zL_lv h6 hlt2 (zeK6 hb))) w_1162 (dX2_serveLoss 18 rfl) ?_
        refine zi_aload_n K (dX2_serveLoss 19 rfl) 2 rfl ?_
        refine zi_callV K (na := 1) [] [.int (v_covers (slI σ b k i) ((lx σ (6 + 4 * b) i) % 8) k)] (c_covers (σ := (slI σ b k i)) ((lx σ (6 + 4 * b) i) % 8) k (zlCV_N (slI_22 σ b k i) (hcv _ (zL_lv h6 hlt2 (zeK6 hb)))) (zlCV_C (slI_22 σ b k i) hk) (zlCV_P (slI_22 σ b k i) hp)) (dX2_serveLoss 20 rfl) w_387 w_388 w_389 w_55 w_390 (by decide +kernel) rfl (fun H h => zi_recv K (zr_TR (σ := (slI σ b k i)) (zlCV_N (slI_22 σ b k i) (hcv _ (zL_lv h6 hlt2 (zeK6 hb)))) H h).1 rfl) (fun H h => h) ⟨Nat.le_of_ble_eq_true rfl, Nat.le_of_ble_eq_true rfl⟩ ⟨Nat.le_refl _, Nat.le_refl _⟩ (Nat.le_of_ble_eq_true rfl) rfl rfl ?_
        refine zi_if_eq K 80 (dX2_serveLoss 21 rfl) rfl (fun h43_1 => ?_) (fun h43_1 => ?_)
        · skip
          refine zi_iinc K (v := nI (i + 1)) [(2, .int (nI (i + 1))), (3, .ref (ad 7 (lx σ (6 + 4 * b) i))), (0, .ref (ad 11 b)), (1, .ref (ad 2 k))] (dX2_serveLoss 39 rfl) 3 rfl (zk_inc _) (by decide) rfl ?_
          refine zi_goto K 2 (dX2_serveLoss 40 rfl) rfl ?_
          refine zV.pick [2, 3, 0] (lo' := [(0, .ref (ad 11 b)), (1, .ref (ad 2 k)), (2, .int (nI (i + 1)))]) rfl ?_
          refine zV.st (σ' := slI σ b k (i + 1)) (by simp only [slI, if_neg h32_0, if_pos h43_1]) ?_
          exact ih2 (i + 1) (by omega) (by omega)
        · skip
          refine zi_aload_n K (dX2_serveLoss 22 rfl) 0 rfl ?_
          refine zg_COV_treaty K (zlCV_V (slI_22 σ b k i) (zL_lv h6 hlt2 (zeK6 hb))) w_1162 (dX2_serveLoss 23 rfl) ?_
          refine zi_aload_n K (dX2_serveLoss 24 rfl) 2 rfl ?_
          refine zi_callV K (na := 1) [] [.long (v_wantedOf (slI σ b k i) ((lx σ (6 + 4 * b) i) % 8) k)] (c_wantedOf (σ := (slI σ b k i)) ((lx σ (6 + 4 * b) i) % 8) k (zlCV_N (slI_22 σ b k i) (hcv _ (zL_lv h6 hlt2 (zeK6 hb)))) (zlCV_C (slI_22 σ b k i) hk) (zlCV_P (slI_22 σ b k i) hp) (zPz_mv ((slI_1 σ b k i).trans rfl) (slI_22 σ b k i) hz)) (dX2_serveLoss 25 rfl) w_391 w_392 w_393 w_55 w_394 (by decide +kernel) rfl (fun H h => zi_recv K (zr_TR (σ := (slI σ b k i)) (zlCV_N (slI_22 σ b k i) (hcv _ (zL_lv h6 hlt2 (zeK6 hb)))) H h).1 rfl) (fun H h => h) ⟨Nat.le_of_ble_eq_true rfl, Nat.le_of_ble_eq_true rfl⟩ ⟨Nat.le_refl _, Nat.le_refl _⟩ (Nat.le_of_ble_eq_true rfl) rfl rfl ?_
          refine zi_aload_n K (dX2_serveLoss 26 rfl) 0 rfl ?_
          refine zg_COV_limitLeft K (zlCV_V (slI_22 σ b k i) (zL_lv h6 hlt2 (zeK6 hb))) w_1168 (dX2_serveLoss 27 rfl) ?_
          refine zi_minl K [] (dX2_serveLoss 28 rfl) w_409 ⟨Nat.le_of_ble_eq_true rfl, Nat.le_of_ble_eq_true rfl⟩ ⟨Nat.le_refl _, Nat.le_refl _⟩ ?_
          refine zi_lstore K [(4, .long (zmnl (v_wantedOf (slI σ b k i) ((lx σ (6 + 4 * b) i) % 8) k) (sL (slI σ b k i) 2 (lx σ (6 + 4 * b) i) 0))), (3, .ref (ad 7 (lx σ (6 + 4 * b) i))), (0, .ref (ad 11 b)), (1, .ref (ad 2 k)), (2, .int (nI i))] (dX2_serveLoss 29 rfl) (by decide) rfl ?_
          refine zi_aload_n K (dX2_serveLoss 30 rfl) 1 rfl ?_
          refine zi_aload_n K (dX2_serveLoss 31 rfl) 3 rfl ?_
          refine zi_lload K (dX2_serveLoss 32 rfl) 0 rfl ?_
          refine zi_callV K (na := 2) [] [] (c_takeFrom (σ := (slI σ b k i)) (lx σ (6 + 4 * b) i) k (zmnl (v_wantedOf (slI σ b k i) ((lx σ (6 + 4 * b) i) % 8) k) (sL (slI σ b k i) 2 (lx σ (6 + 4 * b) i) 0)) (zlCV_V (slI_22 σ b k i) (zL_lv h6 hlt2 (zeK6 hb))) (zlCV_N (slI_22 σ b k i) (hcv _ (zL_lv h6 hlt2 (zeK6 hb)))) (zlCV_C (slI_22 σ b k i) hk)) (dX2_serveLoss 33 rfl) w_410 w_411 w_412 w_56 w_413 (by decide +kernel) rfl (fun H h => zi_recv K (zr_COV (σ := (slI σ b k i)) (zlCV_V (slI_22 σ b k i) (zL_lv h6 hlt2 (zeK6 hb))) H h).1 rfl) (fun H h => h) ⟨Nat.le_of_ble_eq_true rfl, Nat.le_of_ble_eq_true rfl⟩ ⟨Nat.le_refl _, Nat.le_refl _⟩ (Nat.le_of_ble_eq_true rfl) rfl rfl ?_
          have e1 : (s_takeFrom (slI σ b k i) (lx σ (6 + 4 * b) i) k (zmnl (v_wantedOf (slI σ b k i) ((lx σ (6 + 4 * b) i) % 8) k) (sL (slI σ b k i) 2 (lx σ (6 + 4 * b) i) 0))).2.2 = σ.2.2 := (s_takeFrom_22 (slI σ b k i) (lx σ (6 + 4 * b) i) k (zmnl (v_wantedOf (slI σ b k i) ((lx σ (6 + 4 * b) i) % 8) k) (sL (slI σ b k i) 2 (lx σ (6 + 4 * b) i) 0))).trans (slI_22 σ b k i)
          refine zi_aload_n K (dX2_serveLoss 34 rfl) 1 rfl ?_
          refine zi_lload K (dX2_serveLoss 35 rfl) 0 rfl ?_
          refine zi_aload_n K (dX2_serveLoss 36 rfl) 3 rfl ?_
          refine zg_CL_day K (zlCV_C e1 hk) w_748 (dX2_serveLoss 37 rfl) ?_
          refine zi_callV K (na := 2) [] [] (c_refill (σ := (s_takeFrom (slI σ b k i) (lx σ (6 + 4 * b) i) k (zmnl (v_wantedOf (slI σ b k i) ((lx σ (6 + 4 * b) i) % 8) k) (sL (slI σ b k i) 2 (lx σ (6 + 4 * b) i) 0)))) (lx σ (6 + 4 * b) i) (zmnl (v_wantedOf (slI σ b k i) ((lx σ (6 + 4 * b) i) % 8) k) (sL (slI σ b k i) 2 (lx σ (6 + 4 * b) i) 0)) (sI (s_takeFrom (slI σ b k i) (lx σ (6 + 4 * b) i) k (zmnl (v_wantedOf (slI σ b k i) ((lx σ (6 + 4 * b) i) % 8) k) (sL (slI σ b k i) 2 (lx σ (6 + 4 * b) i) 0))) 4 k 0) (zlCV_V e1 (zL_lv h6 hlt2 (zeK6 hb))) (zlCV_N e1 (hcv _ (zL_lv h6 hlt2 (zeK6 hb)))) (zTz_mv ((s_takeFrom_1 (slI σ b k i) (lx σ (6 + 4 * b) i) k (zmnl (v_wantedOf (slI σ b k i) ((lx σ (6 + 4 * b) i) % 8) k) (sL (slI σ b k i) 2 (lx σ (6 + 4 * b) i) 0))).trans ((slI_1 σ b k i).trans rfl)) (hT _ (hcv _ (zL_lv h6 hlt2 (zeK6 hb))))).1 (zTz_mv ((s_takeFrom_1 (slI σ b k i) (lx σ (6 + 4 * b) i) k (zmnl (v_wantedOf (slI σ b k i) ((lx σ (6 + 4 * b) i) % 8) k) (sL (slI σ b k i) 2 (lx σ (6 + 4 * b) i) 0))).trans ((slI_1 σ b k i).trans rfl)) (hT _ (hcv _ (zL_lv h6 hlt2 (zeK6 hb))))).2) (dX2_serveLoss 38 rfl) w_414 w_415 w_416 w_56 w_417 (by decide +kernel) rfl (fun H h => zi_recv K (zr_COV (σ := (s_takeFrom (slI σ b k i) (lx σ (6 + 4 * b) i) k (zmnl (v_wantedOf (slI σ b k i) ((lx σ (6 + 4 * b) i) % 8) k) (sL (slI σ b k i) 2 (lx σ (6 + 4 * b) i) 0)))) (zlCV_V e1 (zL_lv h6 hlt2 (zeK6 hb))) H h).1 rfl) (fun H h => h) ⟨Nat.le_of_ble_eq_true rfl, Nat.le_of_ble_eq_true rfl⟩ ⟨Nat.le_refl _, Nat.le_refl _⟩ (Nat.le_of_ble_eq_true rfl) rfl rfl ?_
          have e2 : (s_refill (s_takeFrom (slI σ b k i) (lx σ (6 + 4 * b) i) k (zmnl (v_wantedOf (slI σ b k i) ((lx σ (6 + 4 * b) i) % 8) k) (sL (slI σ b k i) 2 (lx σ (6 + 4 * b) i) 0))) (lx σ (6 + 4 * b) i) (zmnl (v_wantedOf (slI σ b k i) ((lx σ (6 + 4 * b) i) % 8) k) (sL (slI σ b k i) 2 (lx σ (6 + 4 * b) i) 0)) (sI (s_takeFrom (slI σ b k i) (lx σ (6 + 4 * b) i) k (zmnl (v_wantedOf (slI σ b k i) ((lx σ (6 + 4 * b) i) % 8) k) (sL (slI σ b k i) 2 (lx σ (6 + 4 * b) i) 0))) 4 k 0)).2.2 = σ.2.2 := (s_refill_22 (s_takeFrom (slI σ b k i) (lx σ (6 + 4 * b) i) k (zmnl (v_wantedOf (slI σ b k i) ((lx σ (6 + 4 * b) i) % 8) k) (sL (slI σ b k i) 2 (lx σ (6 + 4 * b) i) 0))) (lx σ (6 + 4 * b) i) (zmnl (v_wantedOf (slI σ b k i) ((lx σ (6 + 4 * b) i) % 8) k) (sL (slI σ b k i) 2 (lx σ (6 + 4 * b) i) 0)) (sI (s_takeFrom (slI σ b k i) (lx σ (6 + 4 * b) i) k (zmnl (v_wantedOf (slI σ b k i) ((lx σ (6 + 4 * b) i) % 8) k) (sL (slI σ b k i) 2 (lx σ (6 + 4 * b) i) 0))) 4 k 0)).trans e1
          refine zi_iinc K (v := nI (i + 1)) [(2, .int (nI (i + 1))), (4, .long (zmnl (v_wantedOf (slI σ b k i) ((lx σ (6 + 4 * b) i) % 8) k) (sL (slI σ b k i) 2 (lx σ (6 + 4 * b) i) 0))), (3, .ref (ad 7 (lx σ (6 + 4 * b) i))), (0, .ref (ad 11 b)), (1, .ref (ad 2 k))] (dX2_serveLoss 39 rfl) 4 rfl (zk_inc _) (by decide) rfl ?_
          refine zi_goto K 2 (dX2_serveLoss 40 rfl) rfl ?_
          refine zV.pick [3, 4, 0] (lo' := [(0, .ref (ad 11 b)), (1, .ref (ad 2 k)), (2, .int (nI (i + 1)))]) rfl ?_
          refine zV.st (σ' := slI σ b k (i + 1)) (by simp only [slI, if_neg h32_0, if_neg h43_1]) ?_
          exact ih2 (i + 1) (by omega) (by omega)
end
section
/-! Flow.serveGroup: what is taken together -/
def zsubL (a : Int64) (f : Nat → Int64) : Nat → Int64
  | 0 => a
  | i + 1 => zsubL a f i - f i
def sgI (σ : zSt) (b j : Nat) (am rs sm : Int64) : Nat → zSt
  | 0 => σ
  | i + 1 => if (nI i).toInt64 < rs then s_takeFrom (sgI σ b j am rs sm i) j (lx σ (8 + 4 * b) i) (am * sL (sgI σ b j am rs sm i) 0 (lx σ (8 + 4 * b) i) 0 / sm + (1 : Int32).toInt64) else s_takeFrom (sgI σ b j am rs sm i) j (lx σ (8 + 4 * b) i) (am * sL (sgI σ b j am rs sm i) 0 (lx σ (8 + 4 * b) i) 0 / sm + (0 : Int32).toInt64)
theorem sgI_1 (σ : zSt) (b j : Nat) (am rs sm : Int64) (i : Nat) : (sgI σ b j am rs sm i).1 = σ.1 := by
  induction i with
  | zero => rfl
  | succ i ih =>
    simp only [sgI]
    split
    · exact (s_takeFrom_1 _ _ _ _).trans ih
    · exact (s_takeFrom_1 _ _ _ _).trans ih
theorem sgI_22 (σ : zSt) (b j : Nat) (am rs sm : Int64) (i : Nat) : (sgI σ b j am rs sm i).2.2 = σ.2.2 := by
  induction i with
  | zero => rfl
  | succ i ih =>
    simp only [sgI]
    split
    · exact (s_takeFrom_22 _ _ _ _).trans ih
    · exact (s_takeFrom_22 _ _ _ _).trans ih
theorem zpos_ne {x : Int64} (h : 0 < x) : ¬ x = 0 := fun e => by
  subst e
  exact absurd h (by decide)
def v_serveGroup (σ : zSt) (b j : Nat) : Int64 := if 0 < zsumL (fun y => sL σ 0 (lx σ (8 + 4 * b) y) 0) (sZ σ (8 + 4 * b)) then zmnl (v_layerOf σ (j % 8) (zsumL (fun y => sL σ 0 (lx σ (8 + 4 * b) y) 0) (sZ σ (8 + 4 * b)))) (sL σ 2 j 0) else 0
def s_serveGroup (σ : zSt) (b j : Nat) : zSt := if 0 < zsumL (fun y => sL σ 0 (lx σ (8 + 4 * b) y) 0) (sZ σ (8 + 4 * b)) then (sgI σ b j (zmnl (v_layerOf σ (j % 8) (zsumL (fun y => sL σ 0 (lx σ (8 + 4 * b) y) 0) (sZ σ (8 + 4 * b)))) (sL σ 2 j 0)) (zsubL (zmnl (v_layerOf σ (j % 8) (zsumL (fun y => sL σ 0 (lx σ (8 + 4 * b) y) 0) (sZ σ (8 + 4 * b)))) (sL σ 2 j 0)) (fun y => (zmnl (v_layerOf σ (j % 8) (zsumL (fun y => sL σ 0 (lx σ (8 + 4 * b) y) 0) (sZ σ (8 + 4 * b)))) (sL σ 2 j 0)) * (sL σ 0 (lx σ (8 + 4 * b) y) 0) / (zsumL (fun y => sL σ 0 (lx σ (8 + 4 * b) y) 0) (sZ σ (8 + 4 * b)))) (sZ σ (8 + 4 * b))) (zsumL (fun y => sL σ 0 (lx σ (8 + 4 * b) y) 0) (sZ σ (8 + 4 * b))) (sZ σ (8 + 4 * b))) else σ
theorem s_serveGroup_22 (σ : zSt) (b j : Nat) : (s_serveGroup σ b j).2.2 = σ.2.2 := by
  unfold s_serveGroup
  (repeat' split) <;> first | exact ((sgI_22 σ b j (zmnl (v_layerOf σ (j % 8) (zsumL (fun y => sL σ 0 (lx σ (8 + 4 * b) y) 0) (sZ σ (8 + 4 * b)))) (sL σ 2 j 0)) (zsubL (zmnl (v_layerOf σ (j % 8) (zsumL (fun y => sL σ 0 (lx σ (8 + 4 * b) y) 0) (sZ σ (8 + 4 * b)))) (sL σ 2 j 0)) (fun y => (zmnl (v_layerOf σ (j % 8) (zsumL (fun y => sL σ 0 (lx σ (8 + 4 * b) y) 0) (sZ σ (8 + 4 * b)))) (sL σ 2 j 0)) * (sL σ 0 (lx σ (8 + 4 * b) y) 0) / (zsumL (fun y => sL σ 0 (lx σ (8 + 4 * b) y) 0) (sZ σ (8 + 4 * b)))) (sZ σ (8 + 4 * b))) (zsumL (fun y => sL σ 0 (lx σ (8 + 4 * b) y) 0) (sZ σ (8 + 4 * b))) (sZ σ (8 + 4 * b))).trans rfl) | exact rfl
set_option maxRecDepth 100000 in
set_option maxHeartbeats 4000000 in
theorem c_serveGroup {G : zG} {ad : Nat → Nat → Nat} {σ : zSt} (b j : Nat) (hb : b < 2) (hj : zlV σ j) (ht : j % 8 < sN σ 2) (h8 : zLW σ (8 + 4 * b)) : zC G yX2_serveGroup cX2_serveGroup 12 (some FieldType.long) 3 64 0 0 [.ref (ad 11 b), .ref (ad 7 j)] (zP G ad σ) (some (.long (v_serveGroup σ b j))) (zP G ad (s_serveGroup σ b j)) := by
  refine zC_of (by decide) (Nat.le_of_ble_eq_true rfl) (fun X K E hnm => ?_)
  show zV G X 12 (zP G ad σ) 0 0 0 [(0, .ref (ad 11 b)), (1, .ref (ad 7 j))] []
  refine zi_lconst K (dX2_serveGroup_p0 0 rfl) zk_l0 ?_
  refine zi_lstore_n K [(2, .long 0), (0, .ref (ad 11 b)), (1, .ref (ad 7 j))] (dX2_serveGroup_p0 1 rfl) (by decide) rfl ?_
  refine zi_iconst K (dX2_serveGroup_p0 2 rfl) zk_i0 ?_
  refine zi_istore K [(4, .int 0), (2, .long 0), (0, .ref (ad 11 b)), (1, .ref (ad 7 j))] (dX2_serveGroup_p0 3 rfl) (by decide) rfl ?_
  refine zV.pick [2, 3, 1, 0] (lo' := [(0, .ref (ad 11 b)), (1, .ref (ad 7 j)), (2, .long 0), (4, .int 0)]) rfl ?_
  suffices hloop5 : ∀ (r i : Nat), i ≤ sZ σ (8 + 4 * b) → sZ σ (8 + 4 * b) - i < r → zV G X 12 (zP G ad σ) (0) (0) 5 [(0, .ref (ad 11 b)), (1, .ref (ad 7 j)), (2, .long (zsumL (fun y => sL σ 0 (lx σ (8 + 4 * b) y) 0) i)), (4, .int (nI i))] [] from hloop5 (sZ σ (8 + 4 * b) + 1) 0 (Nat.zero_le _) (Nat.lt_succ_of_le (Nat.sub_le _ _))
  intro r
  induction r with
  | zero => intro i _ h; exact absurd h (Nat.not_lt_zero _)
  | succ r ih5 =>
    intro i hi5 hr5
    refine zi_iload K (dX2_serveGroup_p0 4 rfl) 3 rfl ?_
    refine zi_aload_n K (dX2_serveGroup_p0 5 rfl) 0 rfl ?_
    refine zg_FL_group K hb w_137 (dX2_serveGroup_p0 6 rfl) ?_
    refine zi_callV K (na := 0) [.int (nI i)] [.int (nI (sZ σ (8 + 4 * b))), .int (nI i)] (c_sizeN (σ := σ) (8 + 4 * b) (sZ σ (8 + 4 * b)) (zL_ok h8).1 rfl) (dX2_serveGroup_p0 7 rfl) w_351 w_231 w_232 w_28 w_233 (by decide +kernel) rfl (fun H h => zrecv_LST K (zL_ok h8).1 h) (fun H h => h) ⟨Nat.le_of_ble_eq_true rfl, Nat.le_of_ble_eq_true rfl⟩ ⟨Nat.le_refl _, Nat.le_refl _⟩ (Nat.le_of_ble_eq_true rfl) rfl rfl ?_
    refine zi_icmp_ge K 41 (dX2_serveGroup_p0 8 rfl) rfl (fun h14_0 => ?_) (fun h14_0 => ?_)
    · skip
      have hN5 := zloop_exit rfl (zL_b h8) hi5 h14_0
      subst hN5
      refine zi_lload_n K (dX2_serveGroup_p0 20 rfl) 2 rfl ?_
      refine zi_lconst K (dX2_serveGroup_p0 21 rfl) zk_l0 ?_
      refine zi_lif_gt K 49 (dX2_serveGroup_p0 22 rfl) (dX2_serveGroup_p0 23 rfl) rfl (fun h43_0 => ?_) (fun h43_0 => ?_)
      · skip
        refine zi_aload_n K (dX2_serveGroup_p0 26 rfl) 1 rfl ?_
        refine zg_COV_treaty K hj w_1162 (dX2_serveGroup_p0 27 rfl) ?_
        refine zi_lload_n K (dX2_serveGroup_p0 28 rfl) 2 rfl ?_
        refine zi_callV K (na := 1) [] [.long (v_layerOf σ (j % 8) (zsumL (fun y => sL σ 0 (lx σ (8 + 4 * b) y) 0) (sZ σ (8 + 4 * b))))] (c_layerOf  (j % 8) (zsumL (fun y => sL σ 0 (lx σ (8 + 4 * b) y) 0) (sZ σ (8 + 4 * b))) ht) (dX2_serveGroup_p0 29 rfl) w_541 w_400 w_401 w_55 w_402 (by decide +kernel) rfl (fun H h => zi_recv K (zr_TR (σ := σ) ht H h).1 rfl) (fun H h => h) ⟨Nat.le_of_ble_eq_true rfl, Nat.le_of_ble_eq_true rfl⟩ ⟨Nat.le_refl _, Nat.le_refl _⟩ (Nat.le_of_ble_eq_true rfl) rfl rfl ?_
        refine zi_aload_n K (dX2_serveGroup_p0 30 rfl) 1 rfl ?_
        refine zg_COV_limitLeft K hj w_1168 (dX2_serveGroup_p0 31 rfl) ?_
        refine zi_minl K [] (dX2_serveGroup_p0 32 rfl) w_409 ⟨Nat.le_of_ble_eq_true rfl, Nat.le_of_ble_eq_true rfl⟩ ⟨Nat.le_refl _, Nat.le_refl _⟩ ?_
        refine zi_lstore K [(4, .long (zmnl (v_layerOf σ (j % 8) (zsumL (fun y => sL σ 0 (lx σ (8 + 4 * b) y) 0) (sZ σ (8 + 4 * b)))) (sL σ 2 j 0))), (0, .ref (ad 11 b)), (1, .ref (ad 7 j)), (2, .long (zsumL (fun y => sL σ 0 (lx σ (8 + 4 * b) y) 0) (sZ σ (8 + 4 * b))))] (dX2_serveGroup_p0 33 rfl) (by decide) rfl ?_
        refine zi_lload K (dX2_serveGroup_p0 34 rfl) 0 rfl ?_
        refine zi_lstore K [(6, .long (zmnl (v_layerOf σ (j % 8) (zsumL (fun y => sL σ 0 (lx σ (8 + 4 * b) y) 0) (sZ σ (8 + 4 * b)))) (sL σ 2 j 0))), (4, .long (zmnl (v_layerOf σ (j % 8) (zsumL (fun y => sL σ 0 (lx σ (8 + 4 * b) y) 0) (sZ σ (8 + 4 * b)))) (sL σ 2 j 0))), (0, .ref (ad 11 b)), (1, .ref (ad 7 j)), (2, .long (zsumL (fun y => sL σ 0 (lx σ (8 + 4 * b) y) 0) (sZ σ (8 + 4 * b))))] (dX2_serveGroup_p0 35 rfl) (by decide) rfl ?_
        refine zi_iconst K (dX2_serveGroup_p0 36 rfl) zk_i0 ?_
        refine zi_istore K [(8, .int 0), (6, .long (zmnl (v_layerOf σ (j % 8) (zsumL (fun y => sL σ 0 (lx σ (8 + 4 * b) y) 0) (sZ σ (8 + 4 * b)))) (sL σ 2 j 0))), (4, .long (zmnl (v_layerOf σ (j % 8) (zsumL (fun y => sL σ 0 (lx σ (8 + 4 * b) y) 0) (sZ σ (8 + 4 * b)))) (sL σ 2 j 0))), (0, .ref (ad 11 b)), (1, .ref (ad 7 j)), (2, .long (zsumL (fun y => sL σ 0 (lx σ (8 + 4 * b) y) 0) (sZ σ (8 + 4 * b))))] (dX2_serveGroup_p0 37 rfl) (by decide) rfl ?_
        refine zV.pick [3, 4, 5, 2, 1, 0] (lo' := [(0, .ref (ad 11 b)), (1, .ref (ad 7 j)), (2, .long (zsumL (fun y => sL σ 0 (lx σ (8 + 4 * b) y) 0) (sZ σ (8 + 4 * b)))), (4, .long (zmnl (v_layerOf σ (j % 8) (zsumL (fun y => sL σ 0 (lx σ (8 + 4 * b) y) 0) (sZ σ (8 + 4 * b)))) (sL σ 2 j 0))), (6, .long (zmnl (v_layerOf σ (j % 8) (zsumL (fun y => sL σ 0 (lx σ (8 + 4 * b) y) 0) (sZ σ (8 + 4 * b)))) (sL σ 2 j 0))), (8, .int 0)]) rfl ?_
        suffices hloop73 : ∀ (r i : Nat), i ≤ sZ σ (8 + 4 * b) → sZ σ (8 + 4 * b) - i < r → zV G X 12 (zP G ad σ) (0) (0) 73 [(0, .ref (ad 11 b)), (1, .ref (ad 7 j)), (2, .long (zsumL (fun y => sL σ 0 (lx σ (8 + 4 * b) y) 0) (sZ σ (8 + 4 * b)))), (4, .long (zmnl (v_layerOf σ (j % 8) (zsumL (fun y => sL σ 0 (lx σ (8 + 4 * b) y) 0) (sZ σ (8 + 4 * b)))) (sL σ 2 j 0))), (6, .long (zsubL (zmnl (v_layerOf σ (j % 8) (zsumL (fun y => sL σ 0 (lx σ (8 + 4 * b) y) 0) (sZ σ (8 + 4 * b)))) (sL σ 2 j 0)) (fun y => (zmnl (v_layerOf σ (j % 8) (zsumL (fun y => sL σ 0 (lx σ (8 + 4 * b) y) 0) (sZ σ (8 + 4 * b)))) (sL σ 2 j 0)) * (sL σ 0 (lx σ (8 + 4 * b) y) 0) / (zsumL (fun y => sL σ 0 (lx σ (8 + 4 * b) y) 0) (sZ σ (8 + 4 * b)))) i)), (8, .int (nI i))] [] from hloop73 (sZ σ (8 + 4 * b) + 1) 0 (Nat.zero_le _) (Nat.lt_succ_of_le (Nat.sub_le _ _))
        intro r
        induction r with
        | zero => intro i _ h; exact absurd h (Nat.not_lt_zero _)
        | succ r ih73 =>
          intro i hi73 hr73
          refine zi_iload K (dX2_serveGroup_p0 38 rfl) 5 rfl ?_
          refine zi_aload_n K (dX2_serveGroup_p0 39 rfl) 0 rfl ?_
          refine zg_FL_group K hb w_137 (dX2_serveGroup_p0 40 rfl) ?_
          refine zi_callV K (na := 0) [.int (nI i)] [.int (nI (sZ σ (8 + 4 * b))), .int (nI i)] (c_sizeN (σ := σ) (8 + 4 * b) (sZ σ (8 + 4 * b)) (zL_ok h8).1 rfl) (dX2_serveGroup_p0 41 rfl) w_351 w_231 w_232 w_28 w_233 (by decide +kernel) rfl (fun H h => zrecv_LST K (zL_ok h8).1 h) (fun H h => h) ⟨Nat.le_of_ble_eq_true rfl, Nat.le_of_ble_eq_true rfl⟩ ⟨Nat.le_refl _, Nat.le_refl _⟩ (Nat.le_of_ble_eq_true rfl) rfl rfl ?_
          refine zi_icmp_ge K 116 (dX2_serveGroup_p0 42 rfl) rfl (fun h82_1 => ?_) (fun h82_1 => ?_)
          · skip
            have hN73 := zloop_exit rfl (zL_b h8) hi73 h82_1
            subst hN73
            refine zi_iconst K (dX2_serveGroup_p1 8 rfl) zk_i0 ?_
            refine zi_istore K [(8, .int 0), (0, .ref (ad 11 b)), (1, .ref (ad 7 j)), (2, .long (zsumL (fun y => sL σ 0 (lx σ (8 + 4 * b) y) 0) (sZ σ (8 + 4 * b)))), (4, .long (zmnl (v_layerOf σ (j % 8) (zsumL (fun y => sL σ 0 (lx σ (8 + 4 * b) y) 0) (sZ σ (8 + 4 * b)))) (sL σ 2 j 0))), (6, .long (zsubL (zmnl (v_layerOf σ (j % 8) (zsumL (fun y => sL σ 0 (lx σ (8 + 4 * b) y) 0) (sZ σ (8 + 4 * b)))) (sL σ 2 j 0)) (fun y => (zmnl (v_layerOf σ (j % 8) (zsumL (fun y => sL σ 0 (lx σ (8 + 4 * b) y) 0) (sZ σ (8 + 4 * b)))) (sL σ 2 j 0)) * (sL σ 0 (lx σ (8 + 4 * b) y) 0) / (zsumL (fun y => sL σ 0 (lx σ (8 + 4 * b) y) 0) (sZ σ (8 + 4 * b)))) (sZ σ (8 + 4 * b))))] (dX2_serveGroup_p1 9 rfl) (by decide) rfl ?_
            refine zV.pick [1, 2, 3, 4, 5, 0] (lo' := [(0, .ref (ad 11 b)), (1, .ref (ad 7 j)), (2, .long (zsumL (fun y => sL σ 0 (lx σ (8 + 4 * b) y) 0) (sZ σ (8 + 4 * b)))), (4, .long (zmnl (v_layerOf σ (j % 8) (zsumL (fun y => sL σ 0 (lx σ (8 + 4 * b) y) 0) (sZ σ (8 + 4 * b)))) (sL σ 2 j 0))), (6, .long (zsubL (zmnl (v_layerOf σ (j % 8) (zsumL (fun y => sL σ 0 (lx σ (8 + 4 * b) y) 0) (sZ σ (8 + 4 * b)))) (sL σ 2 j 0)) (fun y => (zmnl (v_layerOf σ (j % 8) (zsumL (fun y => sL σ 0 (lx σ (8 + 4 * b) y) 0) (sZ σ (8 + 4 * b)))) (sL σ 2 j 0)) * (sL σ 0 (lx σ (8 + 4 * b) y) 0) / (zsumL (fun y => sL σ 0 (lx σ (8 + 4 * b) y) 0) (sZ σ (8 + 4 * b)))) (sZ σ (8 + 4 * b)))), (8, .int 0)]) rfl ?_
            suffices hloop119 : ∀ (r i : Nat), i ≤ sZ σ (8 + 4 * b) → sZ σ (8 + 4 * b) - i < r → zV G X 12 (zP G ad (sgI σ b j (zmnl (v_layerOf σ (j % 8) (zsumL (fun y => sL σ 0 (lx σ (8 + 4 * b) y) 0) (sZ σ (8 + 4 * b)))) (sL σ 2 j 0)) (zsubL (zmnl (v_layerOf σ (j % 8) (zsumL (fun y => sL σ 0 (lx σ (8 + 4 * b) y) 0) (sZ σ (8 + 4 * b)))) (sL σ 2 j 0)) (fun y => (zmnl (v_layerOf σ (j % 8) (zsumL (fun y => sL σ 0 (lx σ (8 + 4 * b) y) 0) (sZ σ (8 + 4 * b)))) (sL σ 2 j 0)) * (sL σ 0 (lx σ (8 + 4 * b) y) 0) / (zsumL (fun y => sL σ 0 (lx σ (8 + 4 * b) y) 0) (sZ σ (8 + 4 * b)))) (sZ σ (8 + 4 * b))) (zsumL (fun y => sL σ 0 (lx σ (8 + 4 * b) y) 0) (sZ σ (8 + 4 * b))) i)) (0) (0) 119 [(0, .ref (ad 11 b)), (1, .ref (ad 7 j)), (2, .long (zsumL (fun y => sL σ 0 (lx σ (8 + 4 * b) y) 0) (sZ σ (8 + 4 * b)))), (4, .long (zmnl (v_layerOf σ (j % 8) (zsumL (fun y => sL σ 0 (lx σ (8 + 4 * b) y) 0) (sZ σ (8 + 4 * b)))) (sL σ 2 j 0))), (6, .long (zsubL (zmnl (v_layerOf σ (j % 8) (zsumL (fun y => sL σ 0 (lx σ (8 + 4 * b) y) 0) (sZ σ (8 + 4 * b)))) (sL σ 2 j 0)) (fun y => (zmnl (v_layerOf σ (j % 8) (zsumL (fun y => sL σ 0 (lx σ (8 + 4 * b) y) 0) (sZ σ (8 + 4 * b)))) (sL σ 2 j 0)) * (sL σ 0 (lx σ (8 + 4 * b) y) 0) / (zsumL (fun y => sL σ 0 (lx σ (8 + 4 * b) y) 0) (sZ σ (8 + 4 * b)))) (sZ σ (8 + 4 * b)))), (8, .int (nI i))] [] from hloop119 (sZ σ (8 + 4 * b) + 1) 0 (Nat.zero_le _) (Nat.lt_succ_of_le (Nat.sub_le _ _))
            intro r
            induction r with
            | zero => intro i _ h; exact absurd h (Nat.not_lt_zero _)
            | succ r ih119 =>
              intro i hi119 hr119
              refine zi_iload K (dX2_serveGroup_p1 10 rfl) 5 rfl ?_
              refine zi_aload_n K (dX2_serveGroup_p1 11 rfl) 0 rfl ?_
              refine zg_FL_group K hb w_137 (dX2_serveGroup_p1 12 rfl) ?_
              refine zi_callV K (na := 0) [.int (nI i)] [.int (nI (sZ σ (8 + 4 * b))), .int (nI i)] (c_sizeN (σ := (sgI σ b j (zmnl (v_layerOf σ (j % 8) (zsumL (fun y => sL σ 0 (lx σ (8 + 4 * b) y) 0) (sZ σ (8 + 4 * b)))) (sL σ 2 j 0)) (zsubL (zmnl (v_layerOf σ (j % 8) (zsumL (fun y => sL σ 0 (lx σ (8 + 4 * b) y) 0) (sZ σ (8 + 4 * b)))) (sL σ 2 j 0)) (fun y => (zmnl (v_layerOf σ (j % 8) (zsumL (fun y => sL σ 0 (lx σ (8 + 4 * b) y) 0) (sZ σ (8 + 4 * b)))) (sL σ 2 j 0)) * (sL σ 0 (lx σ (8 + 4 * b) y) 0) / (zsumL (fun y => sL σ 0 (lx σ (8 + 4 * b) y) 0) (sZ σ (8 + 4 * b)))) (sZ σ (8 + 4 * b))) (zsumL (fun y => sL σ 0 (lx σ (8 + 4 * b) y) 0) (sZ σ (8 + 4 * b))) i)) (8 + 4 * b) (sZ σ (8 + 4 * b)) (zL_ok h8).1 (zZ_mv (sgI_22 σ b j (zmnl (v_layerOf σ (j % 8) (zsumL (fun y => sL σ 0 (lx σ (8 + 4 * b) y) 0) (sZ σ (8 + 4 * b)))) (sL σ 2 j 0)) (zsubL (zmnl (v_layerOf σ (j % 8) (zsumL (fun y => sL σ 0 (lx σ (8 + 4 * b) y) 0) (sZ σ (8 + 4 * b)))) (sL σ 2 j 0)) (fun y => (zmnl (v_layerOf σ (j % 8) (zsumL (fun y => sL σ 0 (lx σ (8 + 4 * b) y) 0) (sZ σ (8 + 4 * b)))) (sL σ 2 j 0)) * (sL σ 0 (lx σ (8 + 4 * b) y) 0) / (zsumL (fun y => sL σ 0 (lx σ (8 + 4 * b) y) 0) (sZ σ (8 + 4 * b)))) (sZ σ (8 + 4 * b))) (zsumL (fun y => sL σ 0 (lx σ (8 + 4 * b) y) 0) (sZ σ (8 + 4 * b))) i) (8 + 4 * b))) (dX2_serveGroup_p1 13 rfl) w_351 w_231 w_232 w_28 w_233 (by decide +kernel) rfl (fun H h => zrecv_LST K (zL_ok h8).1 h) (fun H h => h) ⟨Nat.le_of_ble_eq_true rfl, Nat.le_of_ble_eq_true rfl⟩ ⟨Nat.le_refl _, Nat.le_refl _⟩ (Nat.le_of_ble_eq_true rfl) rfl rfl ?_
              refine zi_icmp_ge K 187 (dX2_serveGroup_p1 14 rfl) rfl (fun h128_1 => ?_) (fun h128_1 => ?_)
              · skip
                have hN119 := zloop_exit rfl (zL_b h8) hi119 h128_1
                subst hN119
                refine zi_lload K (dX2_serveGroup_p1 44 rfl) 3 rfl ?_
                exact zi_lret K E (dX2_serveGroup_p1 45 rfl) (Nat.le_refl _) (Nat.le_refl _) (by unfold v_serveGroup; rw [if_pos h43_0]) (fun H h => by unfold s_serveGroup; rw [if_pos h43_0]; exact h)
              · skip
                have hlt119 := zloop_in rfl (zL_b h8) hi119 h128_1
                refine zi_aload_n K (dX2_serveGroup_p1 15 rfl) 0 rfl ?_
                refine zg_FL_group K hb w_137 (dX2_serveGroup_p1 16 rfl) ?_
                refine zi_iload K (dX2_serveGroup_p1 17 rfl) 5 rfl ?_
                refine zi_callV K (na := 1) [] [.ref (ad 2 (lx σ (8 + 4 * b) i))] (c_getK (σ := (sgI σ b j (zmnl (v_layerOf σ (j % 8) (zsumL (fun y => sL σ 0 (lx σ (8 + 4 * b) y) 0) (sZ σ (8 + 4 * b)))) (sL σ 2 j 0)) (zsubL (zmnl (v_layerOf σ (j % 8) (zsumL (fun y => sL σ 0 (lx σ (8 + 4 * b) y) 0) (sZ σ (8 + 4 * b)))) (sL σ 2 j 0)) (fun y => (zmnl (v_layerOf σ (j % 8) (zsumL (fun y => sL σ 0 (lx σ (8 + 4 * b) y) 0) (sZ σ (8 + 4 * b)))) (sL σ 2 j 0)) * (sL σ 0 (lx σ (8 + 4 * b) y) 0) / (zsumL (fun y => sL σ 0 (lx σ (8 + 4 * b) y) 0) (sZ σ (8 + 4 * b)))) (sZ σ (8 + 4 * b))) (zsumL (fun y => sL σ 0 (lx σ (8 + 4 * b) y) 0) (sZ σ (8 + 4 * b))) i)) (8 + 4 * b) i (lx σ (8 + 4 * b) i) 2 (zeK8 hb) (zL_ok (zLW_mv (sgI_22 σ b j (zmnl (v_layerOf σ (j % 8) (zsumL (fun y => sL σ 0 (lx σ (8 + 4 * b) y) 0) (sZ σ (8 + 4 * b)))) (sL σ 2 j 0)) (zsubL (zmnl (v_layerOf σ (j % 8) (zsumL (fun y => sL σ 0 (lx σ (8 + 4 * b) y) 0) (sZ σ (8 + 4 * b)))) (sL σ 2 j 0)) (fun y => (zmnl (v_layerOf σ (j % 8) (zsumL (fun y => sL σ 0 (lx σ (8 + 4 * b) y) 0) (sZ σ (8 + 4 * b)))) (sL σ 2 j 0)) * (sL σ 0 (lx σ (8 + 4 * b) y) 0) / (zsumL (fun y => sL σ 0 (lx σ (8 + 4 * b) y) 0) (sZ σ (8 + 4 * b)))) (sZ σ (8 + 4 * b))) (zsumL (fun y => sL σ 0 (lx σ (8 + 4 * b) y) 0) (sZ σ (8 + 4 * b))) i) h8)) ((zZ_mv (sgI_22 σ b j (zmnl (v_layerOf σ (j % 8) (zsumL (fun y => sL σ 0 (lx σ (8 + 4 * b) y) 0) (sZ σ (8 + 4 * b)))) (sL σ 2 j 0)) (zsubL (zmnl (v_layerOf σ (j % 8) (zsumL (fun y => sL σ 0 (lx σ (8 + 4 * b) y) 0) (sZ σ (8 + 4 * b)))) (sL σ 2 j 0)) (fun y => (zmnl (v_layerOf σ (j % 8) (zsumL (fun y => sL σ 0 (lx σ (8 + 4 * b) y) 0) (sZ σ (8 + 4 * b)))) (sL σ 2 j 0)) * (sL σ 0 (lx σ (8 + 4 * b) y) 0) / (zsumL (fun y => sL σ 0 (lx σ (8 + 4 * b) y) 0) (sZ σ (8 + 4 * b)))) (sZ σ (8 + 4 * b))) (zsumL (fun y => sL σ 0 (lx σ (8 + 4 * b) y) 0) (sZ σ (8 + 4 * b))) i) (8 + 4 * b)).symm ▸ hlt119) ((zE_mv (sgI_22 σ b j (zmnl (v_layerOf σ (j % 8) (zsumL (fun y => sL σ 0 (lx σ (8 + 4 * b) y) 0) (sZ σ (8 + 4 * b)))) (sL σ 2 j 0)) (zsubL (zmnl (v_layerOf σ (j % 8) (zsumL (fun y => sL σ 0 (lx σ (8 + 4 * b) y) 0) (sZ σ (8 + 4 * b)))) (sL σ 2 j 0)) (fun y => (zmnl (v_layerOf σ (j % 8) (zsumL (fun y => sL σ 0 (lx σ (8 + 4 * b) y) 0) (sZ σ (8 + 4 * b)))) (sL σ 2 j 0)) * (sL σ 0 (lx σ (8 + 4 * b) y) 0) / (zsumL (fun y => sL σ 0 (lx σ (8 + 4 * b) y) 0) (sZ σ (8 + 4 * b)))) (sZ σ (8 + 4 * b))) (zsumL (fun y => sL σ 0 (lx σ (8 + 4 * b) y) 0) (sZ σ (8 + 4 * b))) i) (8 + 4 * b) i).trans (zL_x h8 hlt119))) (dX2_serveGroup_p1 18 rfl) w_352 w_310 w_311 w_28 w_312 (by decide +kernel) rfl (fun H h => zrecv_LST K (zL_ok h8).1 h) (fun H h => h) ⟨Nat.le_of_ble_eq_true rfl, Nat.le_of_ble_eq_true rfl⟩ ⟨Nat.le_refl _, Nat.le_refl _⟩ (Nat.le_of_ble_eq_true rfl) rfl rfl ?_
                refine zi_cast K (fun H h => (zr_CL (σ := (sgI σ b j (zmnl (v_layerOf σ (j % 8) (zsumL (fun y => sL σ 0 (lx σ (8 + 4 * b) y) 0) (sZ σ (8 + 4 * b)))) (sL σ 2 j 0)) (zsubL (zmnl (v_layerOf σ (j % 8) (zsumL (fun y => sL σ 0 (lx σ (8 + 4 * b) y) 0) (sZ σ (8 + 4 * b)))) (sL σ 2 j 0)) (fun y => (zmnl (v_layerOf σ (j % 8) (zsumL (fun y => sL σ 0 (lx σ (8 + 4 * b) y) 0) (sZ σ (8 + 4 * b)))) (sL σ 2 j 0)) * (sL σ 0 (lx σ (8 + 4 * b) y) 0) / (zsumL (fun y => sL σ 0 (lx σ (8 + 4 * b) y) 0) (sZ σ (8 + 4 * b)))) (sZ σ (8 + 4 * b))) (zsumL (fun y => sL σ 0 (lx σ (8 + 4 * b) y) 0) (sZ σ (8 + 4 * b))) i)) (zlCV_C (sgI_22 σ b j (zmnl (v_layerOf σ (j % 8) (zsumL (fun y => sL σ 0 (lx σ (8 + 4 * b) y) 0) (sZ σ (8 + 4 * b)))) (sL σ 2 j 0)) (zsubL (zmnl (v_layerOf σ (j % 8) (zsumL (fun y => sL σ 0 (lx σ (8 + 4 * b) y) 0) (sZ σ (8 + 4 * b)))) (sL σ 2 j 0)) (fun y => (zmnl (v_layerOf σ (j % 8) (zsumL (fun y => sL σ 0 (lx σ (8 + 4 * b) y) 0) (sZ σ (8 + 4 * b)))) (sL σ 2 j 0)) * (sL σ 0 (lx σ (8 + 4 * b) y) 0) / (zsumL (fun y => sL σ 0 (lx σ (8 + 4 * b) y) 0) (sZ σ (8 + 4 * b)))) (sZ σ (8 + 4 * b))) (zsumL (fun y => sL σ 0 (lx σ (8 + 4 * b) y) 0) (sZ σ (8 + 4 * b))) i) (zL_lv h8 hlt119 (zeK8 hb))) H h).1) rfl w_353 (dX2_serveGroup_p1 19 rfl) ?_
                refine zi_astore K [(9, .ref (ad 2 (lx σ (8 + 4 * b) i))), (0, .ref (ad 11 b)), (1, .ref (ad 7 j)), (2, .long (zsumL (fun y => sL σ 0 (lx σ (8 + 4 * b) y) 0) (sZ σ (8 + 4 * b)))), (4, .long (zmnl (v_layerOf σ (j % 8) (zsumL (fun y => sL σ 0 (lx σ (8 + 4 * b) y) 0) (sZ σ (8 + 4 * b)))) (sL σ 2 j 0))), (6, .long (zsubL (zmnl (v_layerOf σ (j % 8) (zsumL (fun y => sL σ 0 (lx σ (8 + 4 * b) y) 0) (sZ σ (8 + 4 * b)))) (sL σ 2 j 0)) (fun y => (zmnl (v_layerOf σ (j % 8) (zsumL (fun y => sL σ 0 (lx σ (8 + 4 * b) y) 0) (sZ σ (8 + 4 * b)))) (sL σ 2 j 0)) * (sL σ 0 (lx σ (8 + 4 * b) y) 0) / (zsumL (fun y => sL σ 0 (lx σ (8 + 4 * b) y) 0) (sZ σ (8 + 4 * b)))) (sZ σ (8 + 4 * b)))), (8, .int (nI i))] (dX2_serveGroup_p1 20 rfl) (by decide) rfl ?_
                refine zi_lload K (dX2_serveGroup_p1 21 rfl) 4 rfl ?_
                refine zi_aload K (dX2_serveGroup_p1 22 rfl) 0 rfl ?_
                refine zg_CL_left K (zlCV_C (sgI_22 σ b j (zmnl (v_layerOf σ (j % 8) (zsumL (fun y => sL σ 0 (lx σ (8 + 4 * b) y) 0) (sZ σ (8 + 4 * b)))) (sL σ 2 j 0)) (zsubL (zmnl (v_layerOf σ (j % 8) (zsumL (fun y => sL σ 0 (lx σ (8 + 4 * b) y) 0) (sZ σ (8 + 4 * b)))) (sL σ 2 j 0)) (fun y => (zmnl (v_layerOf σ (j % 8) (zsumL (fun y => sL σ 0 (lx σ (8 + 4 * b) y) 0) (sZ σ (8 + 4 * b)))) (sL σ 2 j 0)) * (sL σ 0 (lx σ (8 + 4 * b) y) 0) / (zsumL (fun y => sL σ 0 (lx σ (8 + 4 * b) y) 0) (sZ σ (8 + 4 * b)))) (sZ σ (8 + 4 * b))) (zsumL (fun y => sL σ 0 (lx σ (8 + 4 * b) y) 0) (sZ σ (8 + 4 * b))) i) (zL_lv h8 hlt119 (zeK8 hb))) w_759 (dX2_serveGroup_p1 23 rfl) ?_
                refine zi_lmul K (dX2_serveGroup_p1 24 rfl) ?_
                refine zi_lload_n K (dX2_serveGroup_p1 25 rfl) 3 rfl ?_
                refine zi_ldiv K (dX2_serveGroup_p1 26 rfl) (zpos_ne h43_0) ?_
                refine zi_iload K (dX2_serveGroup_p1 27 rfl) 6 rfl ?_
                refine zi_i2l K (dX2_serveGroup_p1 28 rfl) ?_
                refine zi_lload K (dX2_serveGroup_p1 29 rfl) 5 rfl ?_
                refine zi_lif_ge K 168 (dX2_serveGroup_p1 30 rfl) (dX2_serveGroup_p1 31 rfl) rfl (fun h160_1 => ?_) (fun h160_1 => ?_)
                · skip
                  refine zi_iconst K (dX2_serveGroup_p1 34 rfl) zk_i0 ?_
                  refine zi_i2l K (dX2_serveGroup_p1 35 rfl) ?_
                  refine zi_ladd K (dX2_serveGroup_p1 36 rfl) ?_
                  refine zi_lstore K [(10, .long ((((zmnl (v_layerOf σ (j % 8) (zsumL (fun y => sL σ 0 (lx σ (8 + 4 * b) y) 0) (sZ σ (8 + 4 * b)))) (sL σ 2 j 0)) * (sL (sgI σ b j (zmnl (v_layerOf σ (j % 8) (zsumL (fun y => sL σ 0 (lx σ (8 + 4 * b) y) 0) (sZ σ (8 + 4 * b)))) (sL σ 2 j 0)) (zsubL (zmnl (v_layerOf σ (j % 8) (zsumL (fun y => sL σ 0 (lx σ (8 + 4 * b) y) 0) (sZ σ (8 + 4 * b)))) (sL σ 2 j 0)) (fun y => (zmnl (v_layerOf σ (j % 8) (zsumL (fun y => sL σ 0 (lx σ (8 + 4 * b) y) 0) (sZ σ (8 + 4 * b)))) (sL σ 2 j 0)) * (sL σ 0 (lx σ (8 + 4 * b) y) 0) / (zsumL (fun y => sL σ 0 (lx σ (8 + 4 * b) y) 0) (sZ σ (8 + 4 * b)))) (sZ σ (8 + 4 * b))) (zsumL (fun y => sL σ 0 (lx σ (8 + 4 * b) y) 0) (sZ σ (8 + 4 * b))) i) 0 (lx σ (8 + 4 * b) i) 0)) / (zsumL (fun y => sL σ 0 (lx σ (8 + 4 * b) y) 0) (sZ σ (8 + 4 * b)))) + ((0 : Int32).toInt64))), (9, .ref (ad 2 (lx σ (8 + 4 * b) i))), (0, .ref (ad 11 b)), (1, .ref (ad 7 j)), (2, .long (zsumL (fun y => sL σ 0 (lx σ (8 + 4 * b) y) 0) (sZ σ (8 + 4 * b)))), (4, .long (zmnl (v_layerOf σ (j % 8) (zsumL (fun y => sL σ 0 (lx σ (8 + 4 * b) y) 0) (sZ σ (8 + 4 * b)))) (sL σ 2 j 0))), (6, .long (zsubL (zmnl (v_layerOf σ (j % 8) (zsumL (fun y => sL σ 0 (lx σ (8 + 4 * b) y) 0) (sZ σ (8 + 4 * b)))) (sL σ 2 j 0)) (fun y => (zmnl (v_layerOf σ (j % 8) (zsumL (fun y => sL σ 0 (lx σ (8 + 4 * b) y) 0) (sZ σ (8 + 4 * b)))) (sL σ 2 j 0)) * (sL σ 0 (lx σ (8 + 4 * b) y) 0) / (zsumL (fun y => sL σ 0 (lx σ (8 + 4 * b) y) 0) (sZ σ (8 + 4 * b)))) (sZ σ (8 + 4 * b)))), (8, .int (nI i))] (dX2_serveGroup_p1 37 rfl) (by decide) rfl ?_
                  refine zi_aload_n K (dX2_serveGroup_p1 38 rfl) 3 rfl ?_
                  refine zi_aload K (dX2_serveGroup_p1 39 rfl) 1 rfl ?_
                  refine zi_lload K (dX2_serveGroup_p1 40 rfl) 0 rfl ?_
                  refine zi_callV K (na := 2) [] [] (c_takeFrom (σ := (sgI σ b j (zmnl (v_layerOf σ (j % 8) (zsumL (fun y => sL σ 0 (lx σ (8 + 4 * b) y) 0) (sZ σ (8 + 4 * b)))) (sL σ 2 j 0)) (zsubL (zmnl (v_layerOf σ (j % 8) (zsumL (fun y => sL σ 0 (lx σ (8 + 4 * b) y) 0) (sZ σ (8 + 4 * b)))) (sL σ 2 j 0)) (fun y => (zmnl (v_layerOf σ (j % 8) (zsumL (fun y => sL σ 0 (lx σ (8 + 4 * b) y) 0) (sZ σ (8 + 4 * b)))) (sL σ 2 j 0)) * (sL σ 0 (lx σ (8 + 4 * b) y) 0) / (zsumL (fun y => sL σ 0 (lx σ (8 + 4 * b) y) 0) (sZ σ (8 + 4 * b)))) (sZ σ (8 + 4 * b))) (zsumL (fun y => sL σ 0 (lx σ (8 + 4 * b) y) 0) (sZ σ (8 + 4 * b))) i)) j (lx σ (8 + 4 * b) i) ((((zmnl (v_layerOf σ (j % 8) (zsumL (fun y => sL σ 0 (lx σ (8 + 4 * b) y) 0) (sZ σ (8 + 4 * b)))) (sL σ 2 j 0)) * (sL (sgI σ b j (zmnl (v_layerOf σ (j % 8) (zsumL (fun y => sL σ 0 (lx σ (8 + 4 * b) y) 0) (sZ σ (8 + 4 * b)))) (sL σ 2 j 0)) (zsubL (zmnl (v_layerOf σ (j % 8) (zsumL (fun y => sL σ 0 (lx σ (8 + 4 * b) y) 0) (sZ σ (8 + 4 * b)))) (sL σ 2 j 0)) (fun y => (zmnl (v_layerOf σ (j % 8) (zsumL (fun y => sL σ 0 (lx σ (8 + 4 * b) y) 0) (sZ σ (8 + 4 * b)))) (sL σ 2 j 0)) * (sL σ 0 (lx σ (8 + 4 * b) y) 0) / (zsumL (fun y => sL σ 0 (lx σ (8 + 4 * b) y) 0) (sZ σ (8 + 4 * b)))) (sZ σ (8 + 4 * b))) (zsumL (fun y => sL σ 0 (lx σ (8 + 4 * b) y) 0) (sZ σ (8 + 4 * b))) i) 0 (lx σ (8 + 4 * b) i) 0)) / (zsumL (fun y => sL σ 0 (lx σ (8 + 4 * b) y) 0) (sZ σ (8 + 4 * b)))) + ((0 : Int32).toInt64)) (zlCV_V (sgI_22 σ b j (zmnl (v_layerOf σ (j % 8) (zsumL (fun y => sL σ 0 (lx σ (8 + 4 * b) y) 0) (sZ σ (8 + 4 * b)))) (sL σ 2 j 0)) (zsubL (zmnl (v_layerOf σ (j % 8) (zsumL (fun y => sL σ 0 (lx σ (8 + 4 * b) y) 0) (sZ σ (8 + 4 * b)))) (sL σ 2 j 0)) (fun y => (zmnl (v_layerOf σ (j % 8) (zsumL (fun y => sL σ 0 (lx σ (8 + 4 * b) y) 0) (sZ σ (8 + 4 * b)))) (sL σ 2 j 0)) * (sL σ 0 (lx σ (8 + 4 * b) y) 0) / (zsumL (fun y => sL σ 0 (lx σ (8 + 4 * b) y) 0) (sZ σ (8 + 4 * b)))) (sZ σ (8 + 4 * b))) (zsumL (fun y => sL σ 0 (lx σ (8 + 4 * b) y) 0) (sZ σ (8 + 4 * b))) i) hj) (zlCV_N (sgI_22 σ b j (zmnl (v_layerOf σ (j % 8) (zsumL (fun y => sL σ 0 (lx σ (8 + 4 * b) y) 0) (sZ σ (8 + 4 * b)))) (sL σ 2 j 0)) (zsubL (zmnl (v_layerOf σ (j % 8) (zsumL (fun y => sL σ 0 (lx σ (8 + 4 * b) y) 0) (sZ σ (8 + 4 * b)))) (sL σ 2 j 0)) (fun y => (zmnl (v_layerOf σ (j % 8) (zsumL (fun y => sL σ 0 (lx σ (8 + 4 * b) y) 0) (sZ σ (8 + 4 * b)))) (sL σ 2 j 0)) * (sL σ 0 (lx σ (8 + 4 * b) y) 0) / (zsumL (fun y => sL σ 0 (lx σ (8 + 4 * b) y) 0) (sZ σ (8 + 4 * b)))) (sZ σ (8 + 4 * b))) (zsumL (fun y => sL σ 0 (lx σ (8 + 4 * b) y) 0) (sZ σ (8 + 4 * b))) i) ht) (zlCV_C (sgI_22 σ b j (zmnl (v_layerOf σ (j % 8) (zsumL (fun y => sL σ 0 (lx σ (8 + 4 * b) y) 0) (sZ σ (8 + 4 * b)))) (sL σ 2 j 0)) (zsubL (zmnl (v_layerOf σ (j % 8) (zsumL (fun y => sL σ 0 (lx σ (8 + 4 * b) y) 0) (sZ σ (8 + 4 * b)))) (sL σ 2 j 0)) (fun y => (zmnl (v_layerOf σ (j % 8) (zsumL (fun y => sL σ 0 (lx σ (8 + 4 * b) y) 0) (sZ σ (8 + 4 * b)))) (sL σ 2 j 0)) * (sL σ 0 (lx σ (8 + 4 * b) y) 0) / (zsumL (fun y => sL σ 0 (lx σ (8 + 4 * b) y) 0) (sZ σ (8 + 4 * b)))) (sZ σ (8 + 4 * b))) (zsumL (fun y => sL σ 0 (lx σ (8 + 4 * b) y) 0) (sZ σ (8 + 4 * b))) i) (zL_lv h8 hlt119 (zeK8 hb)))) (dX2_serveGroup_p1 41 rfl) w_410 w_411 w_412 w_56 w_413 (by decide +kernel) rfl (fun H h => zi_recv K (zr_COV (σ := (sgI σ b j (zmnl (v_layerOf σ (j % 8) (zsumL (fun y => sL σ 0 (lx σ (8 + 4 * b) y) 0) (sZ σ (8 + 4 * b)))) (sL σ 2 j 0)) (zsubL (zmnl (v_layerOf σ (j % 8) (zsumL (fun y => sL σ 0 (lx σ (8 + 4 * b) y) 0) (sZ σ (8 + 4 * b)))) (sL σ 2 j 0)) (fun y => (zmnl (v_layerOf σ (j % 8) (zsumL (fun y => sL σ 0 (lx σ (8 + 4 * b) y) 0) (sZ σ (8 + 4 * b)))) (sL σ 2 j 0)) * (sL σ 0 (lx σ (8 + 4 * b) y) 0) / (zsumL (fun y => sL σ 0 (lx σ (8 + 4 * b) y) 0) (sZ σ (8 + 4 * b)))) (sZ σ (8 + 4 * b))) (zsumL (fun y => sL σ 0 (lx σ (8 + 4 * b) y) 0) (sZ σ (8 + 4 * b))) i)) (zlCV_V (sgI_22 σ b j (zmnl (v_layerOf σ (j % 8) (zsumL (fun y => sL σ 0 (lx σ (8 + 4 * b) y) 0) (sZ σ (8 + 4 * b)))) (sL σ 2 j 0)) (zsubL (zmnl (v_layerOf σ (j % 8) (zsumL (fun y => sL σ 0 (lx σ (8 + 4 * b) y) 0) (sZ σ (8 + 4 * b)))) (sL σ 2 j 0)) (fun y => (zmnl (v_layerOf σ (j % 8) (zsumL (fun y => sL σ 0 (lx σ (8 + 4 * b) y) 0) (sZ σ (8 + 4 * b)))) (sL σ 2 j 0)) * (sL σ 0 (lx σ (8 + 4 * b) y) 0) / (zsumL (fun y => sL σ 0 (lx σ (8 + 4 * b) y) 0) (sZ σ (8 + 4 * b)))) (sZ σ (8 + 4 * b))) (zsumL (fun y => sL σ 0 (lx σ (8 + 4 * b) y) 0) (sZ σ (8 + 4 * b))) i) hj) H h).1 rfl) (fun H h => h) ⟨Nat.le_of_ble_eq_true rfl, Nat.le_of_ble_eq_true rfl⟩ ⟨Nat.le_refl _, Nat.le_refl _⟩ (Nat.le_of_ble_eq_true rfl) rfl rfl ?_
                  have e1 : (s_takeFrom (sgI σ b j (zmnl (v_layerOf σ (j % 8) (zsumL (fun y => sL σ 0 (lx σ (8 + 4 * b) y) 0) (sZ σ (8 + 4 * b)))) (sL σ 2 j 0)) (zsubL (zmnl (v_layerOf σ (j % 8) (zsumL (fun y => sL σ 0 (lx σ (8 + 4 * b) y) 0) (sZ σ (8 + 4 * b)))) (sL σ 2 j 0)) (fun y => (zmnl (v_layerOf σ (j % 8) (zsumL (fun y => sL σ 0 (lx σ (8 + 4 * b) y) 0) (sZ σ (8 + 4 * b)))) (sL σ 2 j 0)) * (sL σ 0 (lx σ (8 + 4 * b) y) 0) / (zsumL (fun y => sL σ 0 (lx σ (8 + 4 * b) y) 0) (sZ σ (8 + 4 * b)))) (sZ σ (8 + 4 * b))) (zsumL (fun y => sL σ 0 (lx σ (8 + 4 * b) y) 0) (sZ σ (8 + 4 * b))) i) j (lx σ (8 + 4 * b) i) ((((zmnl (v_layerOf σ (j % 8) (zsumL (fun y => sL σ 0 (lx σ (8 + 4 * b) y) 0) (sZ σ (8 + 4 * b)))) (sL σ 2 j 0)) * (sL (sgI σ b j (zmnl (v_layerOf σ (j % 8) (zsumL (fun y => sL σ 0 (lx σ (8 + 4 * b) y) 0) (sZ σ (8 + 4 * b)))) (sL σ 2 j 0)) (zsubL (zmnl (v_layerOf σ (j % 8) (zsumL (fun y => sL σ 0 (lx σ (8 + 4 * b) y) 0) (sZ σ (8 + 4 * b)))) (sL σ 2 j 0)) (fun y => (zmnl (v_layerOf σ (j % 8) (zsumL (fun y => sL σ 0 (lx σ (8 + 4 * b) y) 0) (sZ σ (8 + 4 * b)))) (sL σ 2 j 0)) * (sL σ 0 (lx σ (8 + 4 * b) y) 0) / (zsumL (fun y => sL σ 0 (lx σ (8 + 4 * b) y) 0) (sZ σ (8 + 4 * b)))) (sZ σ (8 + 4 * b))) (zsumL (fun y => sL σ 0 (lx σ (8 + 4 * b) y) 0) (sZ σ (8 + 4 * b))) i) 0 (lx σ (8 + 4 * b) i) 0)) / (zsumL (fun y => sL σ 0 (lx σ (8 + 4 * b) y) 0) (sZ σ (8 + 4 * b)))) + ((0 : Int32).toInt64))).2.2 = σ.2.2 := (s_takeFrom_22 (sgI σ b j (zmnl (v_layerOf σ (j % 8) (zsumL (fun y => sL σ 0 (lx σ (8 + 4 * b) y) 0) (sZ σ (8 + 4 * b)))) (sL σ 2 j 0)) (zsubL (zmnl (v_layerOf σ (j % 8) (zsumL (fun y => sL σ 0 (lx σ (8 + 4 * b) y) 0) (sZ σ (8 + 4 * b)))) (sL σ 2 j 0)) (fun y => (zmnl (v_layerOf σ (j % 8) (zsumL (fun y => sL σ 0 (lx σ (8 + 4 * b) y) 0) (sZ σ (8 + 4 * b)))) (sL σ 2 j 0)) * (sL σ 0 (lx σ (8 + 4 * b) y) 0) / (zsumL (fun y => sL σ 0 (lx σ (8 + 4 * b) y) 0) (sZ σ (8 + 4 * b)))) (sZ σ (8 + 4 * b))) (zsumL (fun y => sL σ 0 (lx σ (8 + 4 * b) y) 0) (sZ σ (8 + 4 * b))) i) j (lx σ (8 + 4 * b) i) ((((zmnl (v_layerOf σ (j % 8) (zsumL (fun y => sL σ 0 (lx σ (8 + 4 * b) y) 0) (sZ σ (8 + 4 * b)))) (sL σ 2 j 0)) * (sL (sgI σ b j (zmnl (v_layerOf σ (j % 8) (zsumL (fun y => sL σ 0 (lx σ (8 + 4 * b) y) 0) (sZ σ (8 + 4 * b)))) (sL σ 2 j 0)) (zsubL (zmnl (v_layerOf σ (j % 8) (zsumL (fun y => sL σ 0 (lx σ (8 + 4 * b) y) 0) (sZ σ (8 + 4 * b)))) (sL σ 2 j 0)) (fun y => (zmnl (v_layerOf σ (j % 8) (zsumL (fun y => sL σ 0 (lx σ (8 + 4 * b) y) 0) (sZ σ (8 + 4 * b)))) (sL σ 2 j 0)) * (sL σ 0 (lx σ (8 + 4 * b) y) 0) / (zsumL (fun y => sL σ 0 (lx σ (8 + 4 * b) y) 0) (sZ σ (8 + 4 * b)))) (sZ σ (8 + 4 * b))) (zsumL (fun y => sL σ 0 (lx σ (8 + 4 * b) y) 0) (sZ σ (8 + 4 * b))) i) 0 (lx σ (8 + 4 * b) i) 0)) / (zsumL (fun y => sL σ 0 (lx σ (8 + 4 * b) y) 0) (sZ σ (8 + 4 * b)))) + ((0 : Int32).toInt64))).trans (sgI_22 σ b j (zmnl (v_layerOf σ (j % 8) (zsumL (fun y => sL σ 0 (lx σ (8 + 4 * b) y) 0) (sZ σ (8 + 4 * b)))) (sL σ 2 j 0)) (zsubL (zmnl (v_layerOf σ (j % 8) (zsumL (fun y => sL σ 0 (lx σ (8 + 4 * b) y) 0) (sZ σ (8 + 4 * b)))) (sL σ 2 j 0)) (fun y => (zmnl (v_layerOf σ (j % 8) (zsumL (fun y => sL σ 0 (lx σ (8 + 4 * b) y) 0) (sZ σ (8 + 4 * b)))) (sL σ 2 j 0)) * (sL σ 0 (lx σ (8 + 4 * b) y) 0) / (zsumL (fun y => sL σ 0 (lx σ (8 + 4 * b) y) 0) (sZ σ (8 + 4 * b)))) (sZ σ (8 + 4 * b))) (zsumL (fun y => sL σ 0 (lx σ (8 + 4 * b) y) 0) (sZ σ (8 + 4 * b))) i)
                  refine zi_iinc K (v := nI (i + 1)) [(8, .int (nI (i + 1))), (10, .long ((((zmnl (v_layerOf σ (j % 8) (zsumL (fun y => sL σ 0 (lx σ (8 + 4 * b) y) 0) (sZ σ (8 + 4 * b)))) (sL σ 2 j 0)) * (sL (sgI σ b j (zmnl (v_layerOf σ (j % 8) (zsumL (fun y => sL σ 0 (lx σ (8 + 4 * b) y) 0) (sZ σ (8 + 4 * b)))) (sL σ 2 j 0)) (zsubL (zmnl (v_layerOf σ (j % 8) (zsumL (fun y => sL σ 0 (lx σ (8 + 4 * b) y) 0) (sZ σ (8 + 4 * b)))) (sL σ 2 j 0)) (fun y => (zmnl (v_layerOf σ (j % 8) (zsumL (fun y => sL σ 0 (lx σ (8 + 4 * b) y) 0) (sZ σ (8 + 4 * b)))) (sL σ 2 j 0)) * (sL σ 0 (lx σ (8 + 4 * b) y) 0) / (zsumL (fun y => sL σ 0 (lx σ (8 + 4 * b) y) 0) (sZ σ (8 + 4 * b)))) (sZ σ (8 + 4 * b))) (zsumL (fun y => sL σ 0 (lx σ (8 + 4 * b) y) 0) (sZ σ (8 + 4 * b))) i) 0 (lx σ (8 + 4 * b) i) 0)) / (zsumL (fun y => sL σ 0 (lx σ (8 + 4 * b) y) 0) (sZ σ (8 + 4 * b)))) + ((0 : Int32).toInt64))), (9, .ref (ad 2 (lx σ (8 + 4 * b) i))), (0, .ref (ad 11 b)), (1, .ref (ad 7 j)), (2, .long (zsumL (fun y => sL σ 0 (lx σ (8 + 4 * b) y) 0) (sZ σ (8 + 4 * b)))), (4, .long (zmnl (v_layerOf σ (j % 8) (zsumL (fun y => sL σ 0 (lx σ (8 + 4 * b) y) 0) (sZ σ (8 + 4 * b)))) (sL σ 2 j 0))), (6, .long (zsubL (zmnl (v_layerOf σ (j % 8) (zsumL (fun y => sL σ 0 (lx σ (8 + 4 * b) y) 0) (sZ σ (8 + 4 * b)))) (sL σ 2 j 0)) (fun y => (zmnl (v_layerOf σ (j % 8) (zsumL (fun y => sL σ 0 (lx σ (8 + 4 * b) y) 0) (sZ σ (8 + 4 * b)))) (sL σ 2 j 0)) * (sL σ 0 (lx σ (8 + 4 * b) y) 0) / (zsumL (fun y => sL σ 0 (lx σ (8 + 4 * b) y) 0) (sZ σ (8 + 4 * b)))) (sZ σ (8 + 4 * b))))] (dX2_serveGroup_p1 42 rfl) 7 rfl (zk_inc _) (by decide) rfl ?_
                  refine zi_goto K 119 (dX2_serveGroup_p1 43 rfl) rfl ?_
                  refine zV.pick [3, 4, 5, 6, 7, 0] (lo' := [(0, .ref (ad 11 b)), (1, .ref (ad 7 j)), (2, .long (zsumL (fun y => sL σ 0 (lx σ (8 + 4 * b) y) 0) (sZ σ (8 + 4 * b)))), (4, .long (zmnl (v_layerOf σ (j % 8) (zsumL (fun y => sL σ 0 (lx σ (8 + 4 * b) y) 0) (sZ σ (8 + 4 * b)))) (sL σ 2 j 0))), (6, .long (zsubL (zmnl (v_layerOf σ (j % 8) (zsumL (fun y => sL σ 0 (lx σ (8 + 4 * b) y) 0) (sZ σ (8 + 4 * b)))) (sL σ 2 j 0)) (fun y => (zmnl (v_layerOf σ (j % 8) (zsumL (fun y => sL σ 0 (lx σ (8 + 4 * b) y) 0) (sZ σ (8 + 4 * b)))) (sL σ 2 j 0)) * (sL σ 0 (lx σ (8 + 4 * b) y) 0) / (zsumL (fun y => sL σ 0 (lx σ (8 + 4 * b) y) 0) (sZ σ (8 + 4 * b)))) (sZ σ (8 + 4 * b)))), (8, .int (nI (i + 1)))]) rfl ?_
                  refine zV.st (σ' := sgI σ b j (zmnl (v_layerOf σ (j % 8) (zsumL (fun y => sL σ 0 (lx σ (8 + 4 * b) y) 0) (sZ σ (8 + 4 * b)))) (sL σ 2 j 0)) (zsubL (zmnl (v_layerOf σ (j % 8) (zsumL (fun y => sL σ 0 (lx σ (8 + 4 * b) y) 0) (sZ σ (8 + 4 * b)))) (sL σ 2 j 0)) (fun y => (zmnl (v_layerOf σ (j % 8) (zsumL (fun y => sL σ 0 (lx σ (8 + 4 * b) y) 0) (sZ σ (8 + 4 * b)))) (sL σ 2 j 0)) * (sL σ 0 (lx σ (8 + 4 * b) y) 0) / (zsumL (fun y => sL σ 0 (lx σ (8 + 4 * b) y) 0) (sZ σ (8 + 4 * b)))) (sZ σ (8 + 4 * b))) (zsumL (fun y => sL σ 0 (lx σ (8 + 4 * b) y) 0) (sZ σ (8 + 4 * b))) (i + 1)) (by simp only [sgI, if_neg h160_1]) ?_
                  exact ih119 (i + 1) (by omega) (by omega)
                · skip
                  refine zi_iconst K (dX2_serveGroup_p1 32 rfl) zk_i1 ?_
                  refine zi_goto K 169 (dX2_serveGroup_p1 33 rfl) rfl ?_
                  refine zi_i2l K (dX2_serveGroup_p1 35 rfl) ?_
                  refine zi_ladd K (dX2_serveGroup_p1 36 rfl) ?_
                  refine zi_lstore K [(10, .long ((((zmnl (v_layerOf σ (j % 8) (zsumL (fun y => sL σ 0 (lx σ (8 + 4 * b) y) 0) (sZ σ (8 + 4 * b)))) (sL σ 2 j 0)) * (sL (sgI σ b j (zmnl (v_layerOf σ (j % 8) (zsumL (fun y => sL σ 0 (lx σ (8 + 4 * b) y) 0) (sZ σ (8 + 4 * b)))) (sL σ 2 j 0)) (zsubL (zmnl (v_layerOf σ (j % 8) (zsumL (fun y => sL σ 0 (lx σ (8 + 4 * b) y) 0) (sZ σ (8 + 4 * b)))) (sL σ 2 j 0)) (fun y => (zmnl (v_layerOf σ (j % 8) (zsumL (fun y => sL σ 0 (lx σ (8 + 4 * b) y) 0) (sZ σ (8 + 4 * b)))) (sL σ 2 j 0)) * (sL σ 0 (lx σ (8 + 4 * b) y) 0) / (zsumL (fun y => sL σ 0 (lx σ (8 + 4 * b) y) 0) (sZ σ (8 + 4 * b)))) (sZ σ (8 + 4 * b))) (zsumL (fun y => sL σ 0 (lx σ (8 + 4 * b) y) 0) (sZ σ (8 + 4 * b))) i) 0 (lx σ (8 + 4 * b) i) 0)) / (zsumL (fun y => sL σ 0 (lx σ (8 + 4 * b) y) 0) (sZ σ (8 + 4 * b)))) + ((1 : Int32).toInt64))), (9, .ref (ad 2 (lx σ (8 + 4 * b) i))), (0, .ref (ad 11 b)), (1, .ref (ad 7 j)), (2, .long (zsumL (fun y => sL σ 0 (lx σ (8 + 4 * b) y) 0) (sZ σ (8 + 4 * b)))), (4, .long (zmnl (v_layerOf σ (j % 8) (zsumL (fun y => sL σ 0 (lx σ (8 + 4 * b) y) 0) (sZ σ (8 + 4 * b)))) (sL σ 2 j 0))), (6, .long (zsubL (zmnl (v_layerOf σ (j % 8) (zsumL (fun y => sL σ 0 (lx σ (8 + 4 * b) y) 0) (sZ σ (8 + 4 * b)))) (sL σ 2 j 0)) (fun y => (zmnl (v_layerOf σ (j % 8) (zsumL (fun y => sL σ 0 (lx σ (8 + 4 * b) y) 0) (sZ σ (8 + 4 * b)))) (sL σ 2 j 0)) * (sL σ 0 (lx σ (8 + 4 * b) y) 0) / (zsumL (fun y => sL σ 0 (lx σ (8 + 4 * b) y) 0) (sZ σ (8 + 4 * b)))) (sZ σ (8 + 4 * b)))), (8, .int (nI i))] (dX2_serveGroup_p1 37 rfl) (by decide) rfl ?_
                  refine zi_aload_n K (dX2_serveGroup_p1 38 rfl) 3 rfl ?_
                  refine zi_aload K (dX2_serveGroup_p1 39 rfl) 1 rfl ?_
                  refine zi_lload K (dX2_serveGroup_p1 40 rfl) 0 rfl ?_
                  refine zi_callV K (na := 2) [] [] (c_takeFrom (σ := (sgI σ b j (zmnl (v_layerOf σ (j % 8) (zsumL (fun y => sL σ 0 (lx σ (8 + 4 * b) y) 0) (sZ σ (8 + 4 * b)))) (sL σ 2 j 0)) (zsubL (zmnl (v_layerOf σ (j % 8) (zsumL (fun y => sL σ 0 (lx σ (8 + 4 * b) y) 0) (sZ σ (8 + 4 * b)))) (sL σ 2 j 0)) (fun y => (zmnl (v_layerOf σ (j % 8) (zsumL (fun y => sL σ 0 (lx σ (8 + 4 * b) y) 0) (sZ σ (8 + 4 * b)))) (sL σ 2 j 0)) * (sL σ 0 (lx σ (8 + 4 * b) y) 0) / (zsumL (fun y => sL σ 0 (lx σ (8 + 4 * b) y) 0) (sZ σ (8 + 4 * b)))) (sZ σ (8 + 4 * b))) (zsumL (fun y => sL σ 0 (lx σ (8 + 4 * b) y) 0) (sZ σ (8 + 4 * b))) i)) j (lx σ (8 + 4 * b) i) ((((zmnl (v_layerOf σ (j % 8) (zsumL (fun y => sL σ 0 (lx σ (8 + 4 * b) y) 0) (sZ σ (8 + 4 * b)))) (sL σ 2 j 0)) * (sL (sgI σ b j (zmnl (v_layerOf σ (j % 8) (zsumL (fun y => sL σ 0 (lx σ (8 + 4 * b) y) 0) (sZ σ (8 + 4 * b)))) (sL σ 2 j 0)) (zsubL (zmnl (v_layerOf σ (j % 8) (zsumL (fun y => sL σ 0 (lx σ (8 + 4 * b) y) 0) (sZ σ (8 + 4 * b)))) (sL σ 2 j 0)) (fun y => (zmnl (v_layerOf σ (j % 8) (zsumL (fun y => sL σ 0 (lx σ (8 + 4 * b) y) 0) (sZ σ (8 + 4 * b)))) (sL σ 2 j 0)) * (sL σ 0 (lx σ (8 + 4 * b) y) 0) / (zsumL (fun y => sL σ 0 (lx σ (8 + 4 * b) y) 0) (sZ σ (8 + 4 * b)))) (sZ σ (8 + 4 * b))) (zsumL (fun y => sL σ 0 (lx σ (8 + 4 * b) y) 0) (sZ σ (8 + 4 * b))) i) 0 (lx σ (8 + 4 * b) i) 0)) / (zsumL (fun y => sL σ 0 (lx σ (8 + 4 * b) y) 0) (sZ σ (8 + 4 * b)))) + ((1 : Int32).toInt64)) (zlCV_V (sgI_22 σ b j (zmnl (v_layerOf σ (j % 8) (zsumL (fun y => sL σ 0 (lx σ (8 + 4 * b) y) 0) (sZ σ (8 + 4 * b)))) (sL σ 2 j 0)) (zsubL (zmnl (v_layerOf σ (j % 8) (zsumL (fun y => sL σ 0 (lx σ (8 + 4 * b) y) 0) (sZ σ (8 + 4 * b)))) (sL σ 2 j 0)) (fun y => (zmnl (v_layerOf σ (j % 8) (zsumL (fun y => sL σ 0 (lx σ (8 + 4 * b) y) 0) (sZ σ (8 + 4 * b)))) (sL σ 2 j 0)) * (sL σ 0 (lx σ (8 + 4 * b) y) 0) / (zsumL (fun y => sL σ 0 (lx σ (8 + 4 * b) y) 0) (sZ σ (8 + 4 * b)))) (sZ σ (8 + 4 * b))) (zsumL (fun y => sL σ 0 (lx σ (8 + 4 * b) y) 0) (sZ σ (8 + 4 * b))) i) hj) (zlCV_N (sgI_22 σ b j (zmnl (v_layerOf σ (j % 8) (zsumL (fun y => sL σ 0 (lx σ (8 + 4 * b) y) 0) (sZ σ (8 + 4 * b)))) (sL σ 2 j 0)) (zsubL (zmnl (v_layerOf σ (j % 8) (zsumL (fun y => sL σ 0 (lx σ (8 + 4 * b) y) 0) (sZ σ (8 + 4 * b)))) (sL σ 2 j 0)) (fun y => (zmnl (v_layerOf σ (j % 8) (zsumL (fun y => sL σ 0 (lx σ (8 + 4 * b) y) 0) (sZ σ (8 + 4 * b)))) (sL σ 2 j 0)) * (sL σ 0 (lx σ (8 + 4 * b) y) 0) / (zsumL (fun y => sL σ 0 (lx σ (8 + 4 * b) y) 0) (sZ σ (8 + 4 * b)))) (sZ σ (8 + 4 * b))) (zsumL (fun y => sL σ 0 (lx σ (8 + 4 * b) y) 0) (sZ σ (8 + 4 * b))) i) ht) (zlCV_C (sgI_22 σ b j (zmnl (v_layerOf σ (j % 8) (zsumL (fun y => sL σ 0 (lx σ (8 + 4 * b) y) 0) (sZ σ (8 + 4 * b)))) (sL σ 2 j 0)) (zsubL (zmnl (v_layerOf σ (j % 8) (zsumL (fun y => sL σ 0 (lx σ (8 + 4 * b) y) 0) (sZ σ (8 + 4 * b)))) (sL σ 2 j 0)) (fun y => (zmnl (v_layerOf σ (j % 8) (zsumL (fun y => sL σ 0 (lx σ (8 + 4 * b) y) 0) (sZ σ (8 + 4 * b)))) (sL σ 2 j 0)) * (sL σ 0 (lx σ (8 + 4 * b) y) 0) / (zsumL (fun y => sL σ 0 (lx σ (8 + 4 * b) y) 0) (sZ σ (8 + 4 * b)))) (sZ σ (8 + 4 * b))) (zsumL (fun y => sL σ 0 (lx σ (8 + 4 * b) y) 0) (sZ σ (8 + 4 * b))) i) (zL_lv h8 hlt119 (zeK8 hb)))) (dX2_serveGroup_p1 41 rfl) w_410 w_411 w_412 w_56 w_413 (by decide +kernel) rfl (fun H h => zi_recv K (zr_COV (σ := (sgI σ b j (zmnl (v_layerOf σ (j % 8) (zsumL (fun y => sL σ 0 (lx σ (8 + 4 * b) y) 0) (sZ σ (8 + 4 * b)))) (sL σ 2 j 0)) (zsubL (zmnl (v_layerOf σ (j % 8) (zsumL (fun y => sL σ 0 (lx σ (8 + 4 * b) y) 0) (sZ σ (8 + 4 * b)))) (sL σ 2 j 0)) (fun y => (zmnl (v_layerOf σ (j % 8) (zsumL (fun y => sL σ 0 (lx σ (8 + 4 * b) y) 0) (sZ σ (8 + 4 * b)))) (sL σ 2 j 0)) * (sL σ 0 (lx σ (8 + 4 * b) y) 0) / (zsumL (fun y => sL σ 0 (lx σ (8 + 4 * b) y) 0) (sZ σ (8 + 4 * b)))) (sZ σ (8 + 4 * b))) (zsumL (fun y => sL σ 0 (lx σ (8 + 4 * b) y) 0) (sZ σ (8 + 4 * b))) i)) (zlCV_V (sgI_22 σ b j (zmnl (v_layerOf σ (j % 8) (zsumL (fun y => sL σ 0 (lx σ (8 + 4 * b) y) 0) (sZ σ (8 + 4 * b)))) (sL σ 2 j 0)) (zsubL (zmnl (v_layerOf σ (j % 8) (zsumL (fun y => sL σ 0 (lx σ (8 + 4 * b) y) 0) (sZ σ (8 + 4 * b)))) (sL σ 2 j 0)) (fun y => (zmnl (v_layerOf σ (j % 8) (zsumL (fun y => sL σ 0 (lx σ (8 + 4 * b) y) 0) (sZ σ (8 + 4 * b)))) (sL σ 2 j 0)) * (sL σ 0 (lx σ (8 + 4 * b) y) 0) / (zsumL (fun y => sL σ 0 (lx σ (8 + 4 * b) y) 0) (sZ σ (8 + 4 * b)))) (sZ σ (8 + 4 * b))) (zsumL (fun y => sL σ 0 (lx σ (8 + 4 * b) y) 0) (sZ σ (8 + 4 * b))) i) hj) H h).1 rfl) (fun H h => h) ⟨Nat.le_of_ble_eq_true rfl, Nat.le_of_ble_eq_true rfl⟩ ⟨Nat.le_refl _, Nat.le_refl _⟩ (Nat.le_of_ble_eq_true rfl) rfl rfl ?_
                  have e2 : (s_takeFrom (sgI σ b j (zmnl (v_layerOf σ (j % 8) (zsumL (fun y => sL σ 0 (lx σ (8 + 4 * b) y) 0) (sZ σ (8 + 4 * b)))) (sL σ 2 j 0)) (zsubL (zmnl (v_layerOf σ (j % 8) (zsumL (fun y => sL σ 0 (lx σ (8 + 4 * b) y) 0) (sZ σ (8 + 4 * b)))) (sL σ 2 j 0)) (fun y => (zmnl (v_layerOf σ (j % 8) (zsumL (fun y => sL σ 0 (lx σ (8 + 4 * b) y) 0) (sZ σ (8 + 4 * b)))) (sL σ 2 j 0)) * (sL σ 0 (lx σ (8 + 4 * b) y) 0) / (zsumL (fun y => sL σ 0 (lx σ (8 + 4 * b) y) 0) (sZ σ (8 + 4 * b)))) (sZ σ (8 + 4 * b))) (zsumL (fun y => sL σ 0 (lx σ (8 + 4 * b) y) 0) (sZ σ (8 + 4 * b))) i) j (lx σ (8 + 4 * b) i) ((((zmnl (v_layerOf σ (j % 8) (zsumL (fun y => sL σ 0 (lx σ (8 + 4 * b) y) 0) (sZ σ (8 + 4 * b)))) (sL σ 2 j 0)) * (sL (sgI σ b j (zmnl (v_layerOf σ (j % 8) (zsumL (fun y => sL σ 0 (lx σ (8 + 4 * b) y) 0) (sZ σ (8 + 4 * b)))) (sL σ 2 j 0)) (zsubL (zmnl (v_layerOf σ (j % 8) (zsumL (fun y => sL σ 0 (lx σ (8 + 4 * b) y) 0) (sZ σ (8 + 4 * b)))) (sL σ 2 j 0)) (fun y => (zmnl (v_layerOf σ (j % 8) (zsumL (fun y => sL σ 0 (lx σ (8 + 4 * b) y) 0) (sZ σ (8 + 4 * b)))) (sL σ 2 j 0)) * (sL σ 0 (lx σ (8 + 4 * b) y) 0) / (zsumL (fun y => sL σ 0 (lx σ (8 + 4 * b) y) 0) (sZ σ (8 + 4 * b)))) (sZ σ (8 + 4 * b))) (zsumL (fun y => sL σ 0 (lx σ (8 + 4 * b) y) 0) (sZ σ (8 + 4 * b))) i) 0 (lx σ (8 + 4 * b) i) 0)) / (zsumL (fun y => sL σ 0 (lx σ (8 + 4 * b) y) 0) (sZ σ (8 + 4 * b)))) + ((1 : Int32).toInt64))).2.2 = σ.2.2 := (s_takeFrom_22 (sgI σ b j (zmnl (v_layerOf σ (j % 8) (zsumL (fun y => sL σ 0 (lx σ (8 + 4 * b) y) 0) (sZ σ (8 + 4 * b)))) (sL σ 2 j 0)) (zsubL (zmnl (v_layerOf σ (j % 8) (zsumL (fun y => sL σ 0 (lx σ (8 + 4 * b) y) 0) (sZ σ (8 + 4 * b)))) (sL σ 2 j 0)) (fun y => (zmnl (v_layerOf σ (j % 8) (zsumL (fun y => sL σ 0 (lx σ (8 + 4 * b) y) 0) (sZ σ (8 + 4 * b)))) (sL σ 2 j 0)) * (sL σ 0 (lx σ (8 + 4 * b) y) 0) / (zsumL (fun y => sL σ 0 (lx σ (8 + 4 * b) y) 0) (sZ σ (8 + 4 * b)))) (sZ σ (8 + 4 * b))) (zsumL (fun y => sL σ 0 (lx σ (8 + 4 * b) y) 0) (sZ σ (8 + 4 * b))) i) j (lx σ (8 + 4 * b) i) ((((zmnl (v_layerOf σ (j % 8) (zsumL (fun y => sL σ 0 (lx σ (8 + 4 * b) y) 0) (sZ σ (8 + 4 * b)))) (sL σ 2 j 0)) * (sL (sgI σ b j (zmnl (v_layerOf σ (j % 8) (zsumL (fun y => sL σ 0 (lx σ (8 + 4 * b) y) 0) (sZ σ (8 + 4 * b)))) (sL σ 2 j 0)) (zsubL (zmnl (v_layerOf σ (j % 8) (zsumL (fun y => sL σ 0 (lx σ (8 + 4 * b) y) 0) (sZ σ (8 + 4 * b)))) (sL σ 2 j 0)) (fun y => (zmnl (v_layerOf σ (j % 8) (zsumL (fun y => sL σ 0 (lx σ (8 + 4 * b) y) 0) (sZ σ (8 + 4 * b)))) (sL σ 2 j 0)) * (sL σ 0 (lx σ (8 + 4 * b) y) 0) / (zsumL (fun y => sL σ 0 (lx σ (8 + 4 * b) y) 0) (sZ σ (8 + 4 * b)))) (sZ σ (8 + 4 * b))) (zsumL (fun y => sL σ 0 (lx σ (8 + 4 * b) y) 0) (sZ σ (8 + 4 * b))) i) 0 (lx σ (8 + 4 * b) i) 0)) / (zsumL (fun y => sL σ 0 (lx σ (8 + 4 * b) y) 0) (sZ σ (8 + 4 * b)))) + ((1 : Int32).toInt64))).trans (sgI_22 σ b j (zmnl (v_layerOf σ (j % 8) (zsumL (fun y => sL σ 0 (lx σ (8 + 4 * b) y) 0) (sZ σ (8 + 4 * b)))) (sL σ 2 j 0)) (zsubL (zmnl (v_layerOf σ (j % 8) (zsumL (fun y => sL σ 0 (lx σ (8 + 4 * b) y) 0) (sZ σ (8 + 4 * b)))) (sL σ 2 j 0)) (fun y => (zmnl (v_layerOf σ (j % 8) (zsumL (fun y => sL σ 0 (lx σ (8 + 4 * b) y) 0) (sZ σ (8 + 4 * b)))) (sL σ 2 j 0)) * (sL σ 0 (lx σ (8 + 4 * b) y) 0) / (zsumL (fun y => sL σ 0 (lx σ (8 + 4 * b) y) 0) (sZ σ (8 + 4 * b)))) (sZ σ (8 + 4 * b))) (zsumL (fun y => sL σ 0 (lx σ (8 + 4 * b) y) 0) (sZ σ (8 + 4 * b))) i)
                  refine zi_iinc K (v := nI (i + 1)) [(8, .int (nI (i + 1))), (10, .long ((((zmnl (v_layerOf σ (j % 8) (zsumL (fun y => sL σ 0 (lx σ (8 + 4 * b) y) 0) (sZ σ (8 + 4 * b)))) (sL σ 2 j 0)) * (sL (sgI σ b j (zmnl (v_layerOf σ (j % 8) (zsumL (fun y => sL σ 0 (lx σ (8 + 4 * b) y) 0) (sZ σ (8 + 4 * b)))) (sL σ 2 j 0)) (zsubL (zmnl (v_layerOf σ (j % 8) (zsumL (fun y => sL σ 0 (lx σ (8 + 4 * b) y) 0) (sZ σ (8 + 4 * b)))) (sL σ 2 j 0)) (fun y => (zmnl (v_layerOf σ (j % 8) (zsumL (fun y => sL σ 0 (lx σ (8 + 4 * b) y) 0) (sZ σ (8 + 4 * b)))) (sL σ 2 j 0)) * (sL σ 0 (lx σ (8 + 4 * b) y) 0) / (zsumL (fun y => sL σ 0 (lx σ (8 + 4 * b) y) 0) (sZ σ (8 + 4 * b)))) (sZ σ (8 + 4 * b))) (zsumL (fun y => sL σ 0 (lx σ (8 + 4 * b) y) 0) (sZ σ (8 + 4 * b))) i) 0 (lx σ (8 + 4 * b) i) 0)) / (zsumL (fun y => sL σ 0 (lx σ (8 + 4 * b) y) 0) (sZ σ (8 + 4 * b)))) + ((1 : Int32).toInt64))), (9, .ref (ad 2 (lx σ (8 + 4 * b) i))), (0, .ref (ad 11 b)), (1, .ref (ad 7 j)), (2, .long (zsumL (fun y => sL σ 0 (lx σ (8 + 4 * b) y) 0) (sZ σ (8 + 4 * b)))), (4, .long (zmnl (v_layerOf σ (j % 8) (zsumL (fun y => sL σ 0 (lx σ (8 + 4 * b) y) 0) (sZ σ (8 + 4 * b)))) (sL σ 2 j 0))), (6, .long (zsubL (zmnl (v_layerOf σ (j % 8) (zsumL (fun y => sL σ 0 (lx σ (8 + 4 * b) y) 0) (sZ σ (8 + 4 * b)))) (sL σ 2 j 0)) (fun y => (zmnl (v_layerOf σ (j % 8) (zsumL (fun y => sL σ 0 (lx σ (8 + 4 * b) y) 0) (sZ σ (8 + 4 * b)))) (sL σ 2 j 0)) * (sL σ 0 (lx σ (8 + 4 * b) y) 0) / (zsumL (fun y => sL σ 0 (lx σ (8 + 4 * b) y) 0) (sZ σ (8 + 4 * b)))) (sZ σ (8 + 4 * b))))] (dX2_serveGroup_p1 42 rfl) 7 rfl (zk_inc _) (by decide) rfl ?_
                  refine zi_goto K 119 (dX2_serveGroup_p1 43 rfl) rfl ?_
                  refine zV.pick [3, 4, 5, 6, 7, 0] (lo' := [(0, .ref (ad 11 b)), (1, .ref (ad 7 j)), (2, .long (zsumL (fun y => sL σ 0 (lx σ (8 + 4 * b) y) 0) (sZ σ (8 + 4 * b)))), (4, .long (zmnl (v_layerOf σ (j % 8) (zsumL (fun y => sL σ 0 (lx σ (8 + 4 * b) y) 0) (sZ σ (8 + 4 * b)))) (sL σ 2 j 0))), (6, .long (zsubL (zmnl (v_layerOf σ (j % 8) (zsumL (fun y => sL σ 0 (lx σ (8 + 4 * b) y) 0) (sZ σ (8 + 4 * b)))) (sL σ 2 j 0)) (fun y => (zmnl (v_layerOf σ (j % 8) (zsumL (fun y => sL σ 0 (lx σ (8 + 4 * b) y) 0) (sZ σ (8 + 4 * b)))) (sL σ 2 j 0)) * (sL σ 0 (lx σ (8 + 4 * b) y) 0) / (zsumL (fun y => sL σ 0 (lx σ (8 + 4 * b) y) 0) (sZ σ (8 + 4 * b)))) (sZ σ (8 + 4 * b)))), (8, .int (nI (i + 1)))]) rfl ?_
                  refine zV.st (σ' := sgI σ b j (zmnl (v_layerOf σ (j % 8) (zsumL (fun y => sL σ 0 (lx σ (8 + 4 * b) y) 0) (sZ σ (8 + 4 * b)))) (sL σ 2 j 0)) (zsubL (zmnl (v_layerOf σ (j % 8) (zsumL (fun y => sL σ 0 (lx σ (8 + 4 * b) y) 0) (sZ σ (8 + 4 * b)))) (sL σ 2 j 0)) (fun y => (zmnl (v_layerOf σ (j % 8) (zsumL (fun y => sL σ 0 (lx σ (8 + 4 * b) y) 0) (sZ σ (8 + 4 * b)))) (sL σ 2 j 0)) * (sL σ 0 (lx σ (8 + 4 * b) y) 0) / (zsumL (fun y => sL σ 0 (lx σ (8 + 4 * b) y) 0) (sZ σ (8 + 4 * b)))) (sZ σ (8 + 4 * b))) (zsumL (fun y => sL σ 0 (lx σ (8 + 4 * b) y) 0) (sZ σ (8 + 4 * b))) (i + 1)) (by simp only [sgI, if_pos h160_1]) ?_
                  exact ih119 (i + 1) (by omega) (by omega)
          · skip
            have hlt73 := zloop_in rfl (zL_b h8) hi73 h82_1
            refine zi_lload K (dX2_serveGroup_p0 43 rfl) 4 rfl ?_
            refine zi_lload K (dX2_serveGroup_p0 44 rfl) 3 rfl ?_
            refine zi_aload_n K (dX2_serveGroup_p0 45 rfl) 0 rfl ?_
            refine zg_FL_group K hb w_137 (dX2_serveGroup_p0 46 rfl) ?_
            refine zi_iload K (dX2_serveGroup_p0 47 rfl) 5 rfl ?_
            refine zi_callV K (na := 1) [.long (zmnl (v_layerOf σ (j % 8) (zsumL (fun y => sL σ 0 (lx σ (8 + 4 * b) y) 0) (sZ σ (8 + 4 * b)))) (sL σ 2 j 0)), .long (zsubL (zmnl (v_layerOf σ (j % 8) (zsumL (fun y => sL σ 0 (lx σ (8 + 4 * b) y) 0) (sZ σ (8 + 4 * b)))) (sL σ 2 j 0)) (fun y => (zmnl (v_layerOf σ (j % 8) (zsumL (fun y => sL σ 0 (lx σ (8 + 4 * b) y) 0) (sZ σ (8 + 4 * b)))) (sL σ 2 j 0)) * (sL σ 0 (lx σ (8 + 4 * b) y) 0) / (zsumL (fun y => sL σ 0 (lx σ (8 + 4 * b) y) 0) (sZ σ (8 + 4 * b)))) i)] [.ref (ad 2 (lx σ (8 + 4 * b) i)), .long (zmnl (v_layerOf σ (j % 8) (zsumL (fun y => sL σ 0 (lx σ (8 + 4 * b) y) 0) (sZ σ (8 + 4 * b)))) (sL σ 2 j 0)), .long (zsubL (zmnl (v_layerOf σ (j % 8) (zsumL (fun y => sL σ 0 (lx σ (8 + 4 * b) y) 0) (sZ σ (8 + 4 * b)))) (sL σ 2 j 0)) (fun y => (zmnl (v_layerOf σ (j % 8) (zsumL (fun y => sL σ 0 (lx σ (8 + 4 * b) y) 0) (sZ σ (8 + 4 * b)))) (sL σ 2 j 0)) * (sL σ 0 (lx σ (8 + 4 * b) y) 0) / (zsumL (fun y => sL σ 0 (lx σ (8 + 4 * b) y) 0) (sZ σ (8 + 4 * b)))) i)] (c_getK (σ := σ) (8 + 4 * b) i (lx σ (8 + 4 * b) i) 2 (zeK8 hb) (zL_ok h8) hlt73 (zL_x h8 hlt73)) (dX2_serveGroup_p0 48 rfl) w_352 w_310 w_311 w_28 w_312 (by decide +kernel) rfl (fun H h => zrecv_LST K (zL_ok h8).1 h) (fun H h => h) ⟨Nat.le_of_ble_eq_true rfl, Nat.le_of_ble_eq_true rfl⟩ ⟨Nat.le_refl _, Nat.le_refl _⟩ (Nat.le_of_ble_eq_true rfl) rfl rfl ?_
            refine zi_cast K (fun H h => (zr_CL (σ := σ) (zL_lv h8 hlt73 (zeK8 hb)) H h).1) rfl w_353 (dX2_serveGroup_p0 49 rfl) ?_
            refine zg_CL_left K (zL_lv h8 hlt73 (zeK8 hb)) w_759 (dX2_serveGroup_p1 0 rfl) ?_
            refine zi_lmul K (dX2_serveGroup_p1 1 rfl) ?_
            refine zi_lload_n K (dX2_serveGroup_p1 2 rfl) 2 rfl ?_
            refine zi_ldiv K (dX2_serveGroup_p1 3 rfl) (zpos_ne h43_0) ?_
            refine zi_lsub K (dX2_serveGroup_p1 4 rfl) ?_
            refine zi_lstore K [(6, .long ((zsubL (zmnl (v_layerOf σ (j % 8) (zsumL (fun y => sL σ 0 (lx σ (8 + 4 * b) y) 0) (sZ σ (8 + 4 * b)))) (sL σ 2 j 0)) (fun y => (zmnl (v_layerOf σ (j % 8) (zsumL (fun y => sL σ 0 (lx σ (8 + 4 * b) y) 0) (sZ σ (8 + 4 * b)))) (sL σ 2 j 0)) * (sL σ 0 (lx σ (8 + 4 * b) y) 0) / (zsumL (fun y => sL σ 0 (lx σ (8 + 4 * b) y) 0) (sZ σ (8 + 4 * b)))) i) - (((zmnl (v_layerOf σ (j % 8) (zsumL (fun y => sL σ 0 (lx σ (8 + 4 * b) y) 0) (sZ σ (8 + 4 * b)))) (sL σ 2 j 0)) * (sL σ 0 (lx σ (8 + 4 * b) i) 0)) / (zsumL (fun y => sL σ 0 (lx σ (8 + 4 * b) y) 0) (sZ σ (8 + 4 * b)))))), (0, .ref (ad 11 b)), (1, .ref (ad 7 j)), (2, .long (zsumL (fun y => sL σ 0 (lx σ (8 + 4 * b) y) 0) (sZ σ (8 + 4 * b)))), (4, .long (zmnl (v_layerOf σ (j % 8) (zsumL (fun y => sL σ 0 (lx σ (8 + 4 * b) y) 0) (sZ σ (8 + 4 * b)))) (sL σ 2 j 0))), (8, .int (nI i))] (dX2_serveGroup_p1 5 rfl) (by decide) rfl ?_
            refine zi_iinc K (v := nI (i + 1)) [(8, .int (nI (i + 1))), (6, .long ((zsubL (zmnl (v_layerOf σ (j % 8) (zsumL (fun y => sL σ 0 (lx σ (8 + 4 * b) y) 0) (sZ σ (8 + 4 * b)))) (sL σ 2 j 0)) (fun y => (zmnl (v_layerOf σ (j % 8) (zsumL (fun y => sL σ 0 (lx σ (8 + 4 * b) y) 0) (sZ σ (8 + 4 * b)))) (sL σ 2 j 0)) * (sL σ 0 (lx σ (8 + 4 * b) y) 0) / (zsumL (fun y => sL σ 0 (lx σ (8 + 4 * b) y) 0) (sZ σ (8 + 4 * b)))) i) - (((zmnl (v_layerOf σ (j % 8) (zsumL (fun y => sL σ 0 (lx σ (8 + 4 * b) y) 0) (sZ σ (8 + 4 * b)))) (sL σ 2 j 0)) * (sL σ 0 (lx σ (8 + 4 * b) i) 0)) / (zsumL (fun y => sL σ 0 (lx σ (8 + 4 * b) y) 0) (sZ σ (8 + 4 * b)))))), (0, .ref (ad 11 b)), (1, .ref (ad 7 j)), (2, .long (zsumL (fun y => sL σ 0 (lx σ (8 + 4 * b) y) 0) (sZ σ (8 + 4 * b)))), (4, .long (zmnl (v_layerOf σ (j % 8) (zsumL (fun y => sL σ 0 (lx σ (8 + 4 * b) y) 0) (sZ σ (8 + 4 * b)))) (sL σ 2 j 0)))] (dX2_serveGroup_p1 6 rfl) 5 rfl (zk_inc _) (by decide) rfl ?_
            refine zi_goto K 73 (dX2_serveGroup_p1 7 rfl) rfl ?_
            refine zV.pick [2, 3, 4, 5, 1, 0] (lo' := [(0, .ref (ad 11 b)), (1, .ref (ad 7 j)), (2, .long (zsumL (fun y => sL σ 0 (lx σ (8 + 4 * b) y) 0) (sZ σ (8 + 4 * b)))), (4, .long (zmnl (v_layerOf σ (j % 8) (zsumL (fun y => sL σ 0 (lx σ (8 + 4 * b) y) 0) (sZ σ (8 + 4 * b)))) (sL σ 2 j 0))), (6, .long ((zsubL (zmnl (v_layerOf σ (j % 8) (zsumL (fun y => sL σ 0 (lx σ (8 + 4 * b) y) 0) (sZ σ (8 + 4 * b)))) (sL σ 2 j 0)) (fun y => (zmnl (v_layerOf σ (j % 8) (zsumL (fun y => sL σ 0 (lx σ (8 + 4 * b) y) 0) (sZ σ (8 + 4 * b)))) (sL σ 2 j 0)) * (sL σ 0 (lx σ (8 + 4 * b) y) 0) / (zsumL (fun y => sL σ 0 (lx σ (8 + 4 * b) y) 0) (sZ σ (8 + 4 * b)))) i) - (((zmnl (v_layerOf σ (j % 8) (zsumL (fun y => sL σ 0 (lx σ (8 + 4 * b) y) 0) (sZ σ (8 + 4 * b)))) (sL σ 2 j 0)) * (sL σ 0 (lx σ (8 + 4 * b) i) 0)) / (zsumL (fun y => sL σ 0 (lx σ (8 + 4 * b) y) 0) (sZ σ (8 + 4 * b)))))), (8, .int (nI (i + 1)))]) rfl ?_
            refine zV.lov (lo' := [(0, .ref (ad 11 b)), (1, .ref (ad 7 j)), (2, .long (zsumL (fun y => sL σ 0 (lx σ (8 + 4 * b) y) 0) (sZ σ (8 + 4 * b)))), (4, .long (zmnl (v_layerOf σ (j % 8) (zsumL (fun y => sL σ 0 (lx σ (8 + 4 * b) y) 0) (sZ σ (8 + 4 * b)))) (sL σ 2 j 0))), (6, .long (zsubL (zmnl (v_layerOf σ (j % 8) (zsumL (fun y => sL σ 0 (lx σ (8 + 4 * b) y) 0) (sZ σ (8 + 4 * b)))) (sL σ 2 j 0)) (fun y => (zmnl (v_layerOf σ (j % 8) (zsumL (fun y => sL σ 0 (lx σ (8 + 4 * b) y) 0) (sZ σ (8 + 4 * b)))) (sL σ 2 j 0)) * (sL σ 0 (lx σ (8 + 4 * b) y) 0) / (zsumL (fun y => sL σ 0 (lx σ (8 + 4 * b) y) 0) (sZ σ (8 + 4 * b)))) (i + 1))), (8, .int (nI (i + 1)))]) (by first | rfl | (simp only [zsubL])) ?_
            exact ih73 (i + 1) (by omega) (by omega)
      · skip
        refine zi_lconst K (dX2_serveGroup_p0 24 rfl) zk_l0 ?_
        exact zi_lret K E (dX2_serveGroup_p0 25 rfl) (Nat.le_refl _) (Nat.le_refl _) (by unfold v_serveGroup; rw [if_neg h43_0]) (fun H h => by unfold s_serveGroup; rw [if_neg h43_0]; exact h)
    · skip
      have hlt5 := zloop_in rfl (zL_b h8) hi5 h14_0
      refine zi_lload_n K (dX2_serveGroup_p0 9 rfl) 2 rfl ?_
      refine zi_aload_n K (dX2_serveGroup_p0 10 rfl) 0 rfl ?_
      refine zg_FL_group K hb w_137 (dX2_serveGroup_p0 11 rfl) ?_
      refine zi_iload K (dX2_serveGroup_p0 12 rfl) 3 rfl ?_
      refine zi_callV K (na := 1) [.long (zsumL (fun y => sL σ 0 (lx σ (8 + 4 * b) y) 0) i)] [.ref (ad 2 (lx σ (8 + 4 * b) i)), .long (zsumL (fun y => sL σ 0 (lx σ (8 + 4 * b) y) 0) i)] (c_getK (σ := σ) (8 + 4 * b) i (lx σ (8 + 4 * b) i) 2 (zeK8 hb) (zL_ok h8) hlt5 (zL_x h8 hlt5)) (dX2_serveGroup_p0 13 rfl) w_352 w_310 w_311 w_28 w_312 (by decide +kernel) rfl (fun H h => zrecv_LST K (zL_ok h8).1 h) (fun H h => h) ⟨Nat.le_of_ble_eq_true rfl, Nat.le_of_ble_eq_true rfl⟩ ⟨Nat.le_refl _, Nat.le_refl _⟩ (Nat.le_of_ble_eq_true rfl) rfl rfl ?_
      refine zi_cast K (fun H h => (zr_CL (σ := σ) (zL_lv h8 hlt5 (zeK8 hb)) H h).1) rfl w_353 (dX2_serveGroup_p0 14 rfl) ?_
      refine zg_CL_left K (zL_lv h8 hlt5 (zeK8 hb)) w_759 (dX2_serveGroup_p0 15 rfl) ?_
      refine zi_ladd K (dX2_serveGroup_p0 16 rfl) ?_
      refine zi_lstore_n K [(2, .long ((zsumL (fun y => sL σ 0 (lx σ (8 + 4 * b) y) 0) i) + (sL σ 0 (lx σ (8 + 4 * b) i) 0))), (0, .ref (ad 11 b)), (1, .ref (ad 7 j)), (4, .int (nI i))] (dX2_serveGroup_p0 17 rfl) (by decide) rfl ?_
      refine zi_iinc K (v := nI (i + 1)) [(4, .int (nI (i + 1))), (2, .long ((zsumL (fun y => sL σ 0 (lx σ (8 + 4 * b) y) 0) i) + (sL σ 0 (lx σ (8 + 4 * b) i) 0))), (0, .ref (ad 11 b)), (1, .ref (ad 7 j))] (dX2_serveGroup_p0 18 rfl) 3 rfl (zk_inc _) (by decide) rfl ?_
      refine zi_goto K 5 (dX2_serveGroup_p0 19 rfl) rfl ?_
      refine zV.pick [2, 3, 1, 0] (lo' := [(0, .ref (ad 11 b)), (1, .ref (ad 7 j)), (2, .long ((zsumL (fun y => sL σ 0 (lx σ (8 + 4 * b) y) 0) i) + (sL σ 0 (lx σ (8 + 4 * b) i) 0))), (4, .int (nI (i + 1)))]) rfl ?_
      refine zV.lov (lo' := [(0, .ref (ad 11 b)), (1, .ref (ad 7 j)), (2, .long (zsumL (fun y => sL σ 0 (lx σ (8 + 4 * b) y) 0) (i + 1))), (4, .int (nI (i + 1)))]) (by first | rfl | (simp only [zsumL])) ?_
      exact ih5 (i + 1) (by omega) (by omega)
end
section
/-! Layertreaty: setters, where nothing is refused -/
def v_setAmount (σ : zSt) (i : Nat) (a : Int32) : Int32 := sI σ 6 (lx σ 1 i) 0
def s_setAmount (σ : zSt) (i : Nat) (a : Int32) : zSt := (uI (uI σ 6 (lx σ 1 i) 0 a) 35 0 0 0)
theorem s_setAmount_22 (σ : zSt) (i : Nat) (a : Int32) : (s_setAmount σ i a).2.2 = σ.2.2 := by
  unfold s_setAmount
  (repeat' split) <;> first | exact ((uI_22 (uI σ 6 (lx σ 1 i) 0 a) 35 0 0 0).trans ((uI_22 σ 6 (lx σ 1 i) 0 a).trans rfl))
set_option maxRecDepth 100000 in
set_option maxHeartbeats 4000000 in
theorem c_setAmount {G : zG} {ad : Nat → Nat → Nat} {σ : zSt} (i : Nat) (a : Int32) (h1 : zLW σ 1) (hi : i < sZ σ 1) (ha : v_isOut σ a 0 1000000 = 0) : zC G yX8_setAmount cX8_setAmount 5 (some FieldType.int) 4 85 0 0 [.ref (ad 0 0), .int (nI i), .int a] (zP G ad σ) (some (.int (v_setAmount σ i a))) (zP G ad (s_setAmount σ i a)) := by
  refine zC_of (by decide) (Nat.le_of_ble_eq_true rfl) (fun X K E hnm => ?_)
  show zV G X 5 (zP G ad σ) 0 0 0 [(0, .ref (ad 0 0)), (1, .int (nI i)), (2, .int a)] []
  refine zi_aload_n K (dX8_setAmount 0 rfl) 0 rfl ?_
  refine zi_iload_n K (dX8_setAmount 1 rfl) 1 rfl ?_
  refine zi_callV K (na := 1) [] [.ref (ad 2 (lx σ 1 i))] (c_claimAt (σ := σ) i h1 hi) (dX8_setAmount 2 rfl) w_1066 w_1068 w_20 w_25 w_1069 (by decide +kernel) rfl (fun H h => zi_recv K (zr_O (σ := σ) rfl H h).1 rfl) (fun H h => h) ⟨Nat.le_of_ble_eq_true rfl, Nat.le_of_ble_eq_true rfl⟩ ⟨Nat.le_refl _, Nat.le_refl _⟩ (Nat.le_of_ble_eq_true rfl) rfl rfl ?_
  refine zi_astore_n K [(3, .ref (ad 2 (lx σ 1 i))), (0, .ref (ad 0 0)), (1, .int (nI i)), (2, .int a)] (dX8_setAmount 3 rfl) (by decide) rfl ?_
  refine zi_iload_n K (dX8_setAmount 4 rfl) 3 rfl ?_
  refine zi_iconst K (dX8_setAmount 5 rfl) zk_i0 ?_
  refine zi_ldc K (dX8_setAmount 6 rfl) w_671 ?_
  refine zi_callS K (na := 3) (As := [.int a, .int 0, .int 1000000]) [] [.int (v_isOut σ a 0 1000000)] (c_isOut  a 0 1000000) (dX8_setAmount 7 rfl) w_234 w_235 w_25 w_236 (by decide +kernel) rfl (fun H h => h) ⟨Nat.le_of_ble_eq_true rfl, Nat.le_of_ble_eq_true rfl⟩ ⟨Nat.le_refl _, Nat.le_refl _⟩ (Nat.le_of_ble_eq_true rfl) rfl rfl ?_
  refine zi_if_eq K 26 (dX8_setAmount 8 rfl) rfl (fun h13_0 => ?_) (fun h13_0 => ?_)
  rotate_left
  · exact absurd ha h13_0
  refine zi_aload_n K (dX8_setAmount 14 rfl) 0 rfl ?_
  refine zg_CL_amount K (zL_lv h1 hi rfl) w_753 (dX8_setAmount 15 rfl) ?_
  refine zi_istore K [(4, .int (sI σ 6 (lx σ 1 i) 0)), (3, .ref (ad 2 (lx σ 1 i))), (0, .ref (ad 0 0)), (1, .int (nI i)), (2, .int a)] (dX8_setAmount 16 rfl) (by decide) rfl ?_
  refine zi_aload_n K (dX8_setAmount 17 rfl) 1 rfl ?_
  refine zi_iload_n K (dX8_setAmount 18 rfl) 4 rfl ?_
  refine zp_CL_amount K (zL_lv h1 hi rfl) w_753 (dX8_setAmount 19 rfl) ?_
  refine zi_aload_n K (dX8_setAmount 20 rfl) 2 rfl ?_
  refine zi_iconst K (dX8_setAmount 21 rfl) zk_i0 ?_
  refine zp_O_isSettled K rfl w_202 ⟨rfl, rfl⟩ (dX8_setAmount 22 rfl) ?_
  refine zi_iload K (dX8_setAmount 23 rfl) 0 rfl ?_
  exact zi_iret K E (dX8_setAmount 24 rfl) (Nat.le_refl _) (Nat.le_refl _) rfl (fun H h => by exact h)
def v_setDays (σ : zSt) (i : Nat) (a : Int32) : Int32 := sI σ 14 (lx σ 2 i) 0
def s_setDays (σ : zSt) (i : Nat) (a : Int32) : zSt := (uI (uI σ 14 (lx σ 2 i) 0 a) 35 0 0 0)
theorem s_setDays_22 (σ : zSt) (i : Nat) (a : Int32) : (s_setDays σ i a).2.2 = σ.2.2 := by
  unfold s_setDays
  (repeat' split) <;> first | exact ((uI_22 (uI σ 14 (lx σ 2 i) 0 a) 35 0 0 0).trans ((uI_22 σ 14 (lx σ 2 i) 0 a).trans rfl))
set_option maxRecDepth 100000 in
set_option maxHeartbeats 4000000 in
theorem c_setDays {G : zG} {ad : Nat → Nat → Nat} {σ : zSt} (i : Nat) (a : Int32) (h2 : zLW σ 2) (hi : i < sZ σ 2) (ha : v_isOut σ a 1 9 = 0) : zC G yX8_setDays cX8_setDays 5 (some FieldType.int) 4 85 0 0 [.ref (ad 0 0), .int (nI i), .int a] (zP G ad σ) (some (.int (v_setDays σ i a))) (zP G ad (s_setDays σ i a)) := by
  refine zC_of (by decide) (Nat.le_of_ble_eq_true rfl) (fun X K E hnm => ?_)
  show zV G X 5 (zP G ad σ) 0 0 0 [(0, .ref (ad 0 0)), (1, .int (nI i)), (2, .int a)] []
  refine zi_aload_n K (dX8_setDays 0 rfl) 0 rfl ?_
  refine zi_iload_n K (dX8_setDays 1 rfl) 1 rfl ?_
  refine zi_callV K (na := 1) [] [.ref (ad 5 (lx σ 2 i))] (c_treatyAt (σ := σ) i h2 hi) (dX8_setDays 2 rfl) w_226 w_228 w_0 w_25 w_229 (by decide +kernel) rfl (fun H h => zi_recv K (zr_O (σ := σ) rfl H h).1 rfl) (fun H h => h) ⟨Nat.le_of_ble_eq_true rfl, Nat.le_of_ble_eq_true rfl⟩ ⟨Nat.le_refl _, Nat.le_refl _⟩ (Nat.le_of_ble_eq_true rfl) rfl rfl ?_
  refine zi_astore_n K [(3, .ref (ad 5 (lx σ 2 i))), (0, .ref (ad 0 0)), (1, .int (nI i)), (2, .int a)] (dX8_setDays 3 rfl) (by decide) rfl ?_
  refine zi_iload_n K (dX8_setDays 4 rfl) 3 rfl ?_
  refine zi_iconst K (dX8_setDays 5 rfl) zk_i1 ?_
  refine zi_bipush K (dX8_setDays 6 rfl) zk_b9 ?_
  refine zi_callS K (na := 3) (As := [.int a, .int 1, .int 9]) [] [.int (v_isOut σ a 1 9)] (c_isOut  a 1 9) (dX8_setDays 7 rfl) w_234 w_235 w_25 w_236 (by decide +kernel) rfl (fun H h => h) ⟨Nat.le_of_ble_eq_true rfl, Nat.le_of_ble_eq_true rfl⟩ ⟨Nat.le_refl _, Nat.le_refl _⟩ (Nat.le_of_ble_eq_true rfl) rfl rfl ?_
  refine zi_if_eq K 26 (dX8_setDays 8 rfl) rfl (fun h13_0 => ?_) (fun h13_0 => ?_)
  rotate_left
  · exact absurd ha h13_0
  refine zi_aload_n K (dX8_setDays 14 rfl) 0 rfl ?_
  refine zg_TR_days K (zL_lv h2 hi rfl) w_1109 (dX8_setDays 15 rfl) ?_
  refine zi_istore K [(4, .int (sI σ 14 (lx σ 2 i) 0)), (3, .ref (ad 5 (lx σ 2 i))), (0, .ref (ad 0 0)), (1, .int (nI i)), (2, .int a)] (dX8_setDays 16 rfl) (by decide) rfl ?_
  refine zi_aload_n K (dX8_setDays 17 rfl) 1 rfl ?_
  refine zi_iload_n K (dX8_setDays 18 rfl) 4 rfl ?_
  refine zp_TR_days K (zL_lv h2 hi rfl) w_1109 (dX8_setDays 19 rfl) ?_
  refine zi_aload_n K (dX8_setDays 20 rfl) 2 rfl ?_
  refine zi_iconst K (dX8_setDays 21 rfl) zk_i0 ?_
  refine zp_O_isSettled K rfl w_202 ⟨rfl, rfl⟩ (dX8_setDays 22 rfl) ?_
  refine zi_iload K (dX8_setDays 23 rfl) 0 rfl ?_
  exact zi_iret K E (dX8_setDays 24 rfl) (Nat.le_refl _) (Nat.le_refl _) rfl (fun H h => by exact h)
def v_setPremium (σ : zSt) (i : Nat) (a : Int32) : Int32 := sI σ 18 (lx σ 2 i) 0
def s_setPremium (σ : zSt) (i : Nat) (a : Int32) : zSt := (uI (uI σ 18 (lx σ 2 i) 0 a) 35 0 0 0)
theorem s_setPremium_22 (σ : zSt) (i : Nat) (a : Int32) : (s_setPremium σ i a).2.2 = σ.2.2 := by
  unfold s_setPremium
  (repeat' split) <;> first | exact ((uI_22 (uI σ 18 (lx σ 2 i) 0 a) 35 0 0 0).trans ((uI_22 σ 18 (lx σ 2 i) 0 a).trans rfl))
set_option maxRecDepth 100000 in
set_option maxHeartbeats 4000000 in
theorem c_setPremium {G : zG} {ad : Nat → Nat → Nat} {σ : zSt} (i : Nat) (a : Int32) (h2 : zLW σ 2) (hi : i < sZ σ 2) (ha : v_isOut σ a 0 1000000 = 0) : zC G yX8_setPremium cX8_setPremium 5 (some FieldType.int) 4 85 0 0 [.ref (ad 0 0), .int (nI i), .int a] (zP G ad σ) (some (.int (v_setPremium σ i a))) (zP G ad (s_setPremium σ i a)) := by
  refine zC_of (by decide) (Nat.le_of_ble_eq_true rfl) (fun X K E hnm => ?_)
  show zV G X 5 (zP G ad σ) 0 0 0 [(0, .ref (ad 0 0)), (1, .int (nI i)), (2, .int a)] []
  refine zi_aload_n K (dX8_setPremium 0 rfl) 0 rfl ?_
  refine zi_iload_n K (dX8_setPremium 1 rfl) 1 rfl ?_
  refine zi_callV K (na := 1) [] [.ref (ad 5 (lx σ 2 i))] (c_treatyAt (σ := σ) i h2 hi) (dX8_setPremium 2 rfl) w_226 w_228 w_0 w_25 w_229 (by decide +kernel) rfl (fun H h => zi_recv K (zr_O (σ := σ) rfl H h).1 rfl) (fun H h => h) ⟨Nat.le_of_ble_eq_true rfl, Nat.le_of_ble_eq_true rfl⟩ ⟨Nat.le_refl _, Nat.le_refl _⟩ (Nat.le_of_ble_eq_true rfl) rfl rfl ?_
  refine zi_astore_n K [(3, .ref (ad 5 (lx σ 2 i))), (0, .ref (ad 0 0)), (1, .int (nI i)), (2, .int a)] (dX8_setPremium 3 rfl) (by decide) rfl ?_
  refine zi_iload_n K (dX8_setPremium 4 rfl) 3 rfl ?_
  refine zi_iconst K (dX8_setPremium 5 rfl) zk_i0 ?_
  refine zi_ldc K (dX8_setPremium 6 rfl) w_671 ?_
  refine zi_callS K (na := 3) (As := [.int a, .int 0, .int 1000000]) [] [.int (v_isOut σ a 0 1000000)] (c_isOut  a 0 1000000) (dX8_setPremium 7 rfl) w_234 w_235 w_25 w_236 (by decide +kernel) rfl (fun H h => h) ⟨Nat.le_of_ble_eq_true rfl, Nat.le_of_ble_eq_true rfl⟩ ⟨Nat.le_refl _, Nat.le_refl _⟩ (Nat.le_of_ble_eq_true rfl) rfl rfl ?_
  refine zi_if_eq K 26 (dX8_setPremium 8 rfl) rfl (fun h13_0 => ?_) (fun h13_0 => ?_)
  rotate_left
  · exact absurd ha h13_0
  refine zi_aload_n K (dX8_setPremium 14 rfl) 0 rfl ?_
  refine zg_TR_premium K (zL_lv h2 hi rfl) w_1118 (dX8_setPremium 15 rfl) ?_
  refine zi_istore K [(4, .int (sI σ 18 (lx σ 2 i) 0)), (3, .ref (ad 5 (lx σ 2 i))), (0, .ref (ad 0 0)), (1, .int (nI i)), (2, .int a)] (dX8_setPremium 16 rfl) (by decide) rfl ?_
  refine zi_aload_n K (dX8_setPremium 17 rfl) 1 rfl ?_
  refine zi_iload_n K (dX8_setPremium 18 rfl) 4 rfl ?_
  refine zp_TR_premium K (zL_lv h2 hi rfl) w_1118 (dX8_setPremium 19 rfl) ?_
  refine zi_aload_n K (dX8_setPremium 20 rfl) 2 rfl ?_
  refine zi_iconst K (dX8_setPremium 21 rfl) zk_i0 ?_
  refine zp_O_isSettled K rfl w_202 ⟨rfl, rfl⟩ (dX8_setPremium 22 rfl) ?_
  refine zi_iload K (dX8_setPremium 23 rfl) 0 rfl ?_
  exact zi_iret K E (dX8_setPremium 24 rfl) (Nat.le_refl _) (Nat.le_refl _) rfl (fun H h => by exact h)
def v_fail (σ : zSt) (i : Nat) (z : Int32) : Int32 := sI σ 31 0 i
def s_fail (σ : zSt) (i : Nat) (z : Int32) : zSt := (uI σ 31 0 i z)
theorem s_fail_22 (σ : zSt) (i : Nat) (z : Int32) : (s_fail σ i z).2.2 = σ.2.2 := by
  unfold s_fail
  (repeat' split) <;> first | exact ((uI_22 σ 31 0 i z).trans rfl)
set_option maxRecDepth 100000 in
set_option maxHeartbeats 4000000 in
theorem c_fail {G : zG} {ad : Nat → Nat → Nat} {σ : zSt} (i : Nat) (z : Int32) (hi : i < 5) (hz : (narrow .boolean (.int z) = .int z ∧ fits .boolean (.int z) = true)) (hf : (narrow .boolean (.int (sI σ 31 0 i)) = .int (sI σ 31 0 i) ∧ fits .boolean (.int (sI σ 31 0 i)) = true)) : zC G yX8_fail cX8_fail 4 (some FieldType.boolean) 2 42 0 0 [.ref (ad 0 0), .int (nI i), .int z] (zP G ad σ) (some (.int (v_fail σ i z))) (zP G ad (s_fail σ i z)) := by
  refine zC_of (by decide) (Nat.le_of_ble_eq_true rfl) (fun X K E hnm => ?_)
  show zV G X 4 (zP G ad σ) 0 0 0 [(0, .ref (ad 0 0)), (1, .int (nI i)), (2, .int z)] []
  refine zi_iload_n K (dX8_fail 0 rfl) 1 rfl ?_
  refine zi_callS K (na := 1) (As := [.int (nI i)]) [] [] (c_checkRe (σ := σ) i hi) (dX8_fail 1 rfl) w_1223 w_1224 w_25 w_1225 (by decide +kernel) rfl (fun H h => h) ⟨Nat.le_of_ble_eq_true rfl, Nat.le_of_ble_eq_true rfl⟩ ⟨Nat.le_refl _, Nat.le_refl _⟩ (Nat.le_of_ble_eq_true rfl) rfl rfl ?_
  refine zi_aload_n K (dX8_fail 2 rfl) 0 rfl ?_
  refine zg_O_pool K rfl w_201 (dX8_fail 3 rfl) ?_
  refine zg_POOL_isFailed K rfl w_160 (dX8_fail 4 rfl) ?_
  refine zi_iload_n K (dX8_fail 5 rfl) 1 rfl ?_
  refine zl_PFAIL K rfl i rfl (by omega) (dX8_fail 6 rfl) ?_
  refine zi_istore_n K [(3, .int (sI σ 31 0 i)), (0, .ref (ad 0 0)), (1, .int (nI i)), (2, .int z)] (dX8_fail 7 rfl) (by decide) rfl ?_
  refine zi_aload_n K (dX8_fail 8 rfl) 1 rfl ?_
  refine zg_O_pool K rfl w_201 (dX8_fail 9 rfl) ?_
  refine zg_POOL_isFailed K rfl w_160 (dX8_fail 10 rfl) ?_
  refine zi_iload_n K (dX8_fail 11 rfl) 2 rfl ?_
  refine zi_iload_n K (dX8_fail 12 rfl) 3 rfl ?_
  refine zs_PFAIL K rfl i rfl (by omega) hz.1 (dX8_fail 13 rfl) ?_
  refine zi_iload_n K (dX8_fail 14 rfl) 0 rfl ?_
  exact zi_zret K E (dX8_fail 15 rfl) (Nat.le_refl _) (Nat.le_refl _) rfl hf.1 (fun H h => by exact h)
def v_handOn (σ : zSt) (i j : Nat) (x y : Int32) : Int32 := if sI σ 34 0 i ≤ 0 then 0 else 1
def s_handOn (σ : zSt) (i j : Nat) (x y : Int32) : zSt := if sI σ 34 0 i ≤ 0 then (uI (uI (uI σ 32 0 i (nI j)) 33 0 i x) 34 0 i y) else (uI (uI (uI σ 32 0 i (nI j)) 33 0 i x) 34 0 i y)
theorem s_handOn_22 (σ : zSt) (i j : Nat) (x y : Int32) : (s_handOn σ i j x y).2.2 = σ.2.2 := by
  unfold s_handOn
  (repeat' split) <;> first | exact ((uI_22 (uI (uI σ 32 0 i (nI j)) 33 0 i x) 34 0 i y).trans ((uI_22 (uI σ 32 0 i (nI j)) 33 0 i x).trans ((uI_22 σ 32 0 i (nI j)).trans rfl)))
set_option maxRecDepth 100000 in
set_option maxHeartbeats 4000000 in
theorem c_handOn {G : zG} {ad : Nat → Nat → Nat} {σ : zSt} (i j : Nat) (x y : Int32) (hi : i < 5) (hj : j < 5) (hne : ¬ nI i = nI j) (hx : v_isOut σ x 0 1000000 = 0) (hy : v_isOut σ y 0 1000000 = 0) : zC G yX8_handOn cX8_handOn 6 (some FieldType.boolean) 2 42 0 0 [.ref (ad 0 0), .int (nI i), .int (nI j), .int x, .int y] (zP G ad σ) (some (.int (v_handOn σ i j x y))) (zP G ad (s_handOn σ i j x y)) := by
  refine zC_of (by decide) (Nat.le_of_ble_eq_true rfl) (fun X K E hnm => ?_)
  show zV G X 6 (zP G ad σ) 0 0 0 [(0, .ref (ad 0 0)), (1, .int (nI i)), (2, .int (nI j)), (3, .int x), (4, .int y)] []
  refine zi_iload_n K (dX8_handOn 0 rfl) 1 rfl ?_
  refine zi_callS K (na := 1) (As := [.int (nI i)]) [] [] (c_checkRe (σ := σ) i hi) (dX8_handOn 1 rfl) w_1223 w_1224 w_25 w_1225 (by decide +kernel) rfl (fun H h => h) ⟨Nat.le_of_ble_eq_true rfl, Nat.le_of_ble_eq_true rfl⟩ ⟨Nat.le_refl _, Nat.le_refl _⟩ (Nat.le_of_ble_eq_true rfl) rfl rfl ?_
  refine zi_iload_n K (dX8_handOn 2 rfl) 2 rfl ?_
  refine zi_callS K (na := 1) (As := [.int (nI j)]) [] [] (c_checkRe (σ := σ) j hj) (dX8_handOn 3 rfl) w_1223 w_1224 w_25 w_1225 (by decide +kernel) rfl (fun H h => h) ⟨Nat.le_of_ble_eq_true rfl, Nat.le_of_ble_eq_true rfl⟩ ⟨Nat.le_refl _, Nat.le_refl _⟩ (Nat.le_of_ble_eq_true rfl) rfl rfl ?_
  refine zi_iload_n K (dX8_handOn 4 rfl) 1 rfl ?_
  refine zi_iload_n K (dX8_handOn 5 rfl) 2 rfl ?_
  refine zi_icmp_eq K 34 (dX8_handOn 6 rfl) rfl (fun h10_0 => ?_) (fun h10_0 => ?_)
  · exact absurd h10_0 hne
  refine zi_iload_n K (dX8_handOn 7 rfl) 3 rfl ?_
  refine zi_iconst K (dX8_handOn 8 rfl) zk_i0 ?_
  refine zi_ldc K (dX8_handOn 9 rfl) w_671 ?_
  refine zi_callS K (na := 3) (As := [.int x, .int 0, .int 1000000]) [] [.int (v_isOut σ x 0 1000000)] (c_isOut  x 0 1000000) (dX8_handOn 10 rfl) w_234 w_235 w_25 w_236 (by decide +kernel) rfl (fun H h => h) ⟨Nat.le_of_ble_eq_true rfl, Nat.le_of_ble_eq_true rfl⟩ ⟨Nat.le_refl _, Nat.le_refl _⟩ (Nat.le_of_ble_eq_true rfl) rfl rfl ?_
  refine zi_if_ne K 34 (dX8_handOn 11 rfl) rfl (fun h20_0 => ?_) (fun h20_0 => ?_)
  · exact absurd hx h20_0
  refine zi_iload K (dX8_handOn 12 rfl) 4 rfl ?_
  refine zi_iconst K (dX8_handOn 13 rfl) zk_i0 ?_
  refine zi_ldc K (dX8_handOn 14 rfl) w_671 ?_
  refine zi_callS K (na := 3) (As := [.int y, .int 0, .int 1000000]) [] [.int (v_isOut σ y 0 1000000)] (c_isOut  y 0 1000000) (dX8_handOn 15 rfl) w_234 w_235 w_25 w_236 (by decide +kernel) rfl (fun H h => h) ⟨Nat.le_of_ble_eq_true rfl, Nat.le_of_ble_eq_true rfl⟩ ⟨Nat.le_refl _, Nat.le_refl _⟩ (Nat.le_of_ble_eq_true rfl) rfl rfl ?_
  refine zi_if_eq K 44 (dX8_handOn 16 rfl) rfl (fun h31_0 => ?_) (fun h31_0 => ?_)
  rotate_left
  · exact absurd hy h31_0
  refine zi_aload_n K (dX8_handOn 22 rfl) 0 rfl ?_
  refine zg_O_pool K rfl w_201 (dX8_handOn 23 rfl) ?_
  refine zg_POOL_limits K rfl w_166 (dX8_handOn 24 rfl) ?_
  refine zi_iload_n K (dX8_handOn 25 rfl) 1 rfl ?_
  refine zl_PLIM K rfl i rfl (by omega) (dX8_handOn 26 rfl) ?_
  refine zi_if_le K 60 (dX8_handOn 27 rfl) rfl (fun h53_0 => ?_) (fun h53_0 => ?_)
  · skip
    refine zi_iconst K (dX8_handOn 30 rfl) zk_i0 ?_
    refine zi_istore K [(5, .int 0), (0, .ref (ad 0 0)), (1, .int (nI i)), (2, .int (nI j)), (3, .int x), (4, .int y)] (dX8_handOn 31 rfl) (by decide) rfl ?_
    refine zi_aload_n K (dX8_handOn 32 rfl) 1 rfl ?_
    refine zg_O_pool K rfl w_201 (dX8_handOn 33 rfl) ?_
    refine zg_POOL_receivers K rfl w_162 (dX8_handOn 34 rfl) ?_
    refine zi_iload_n K (dX8_handOn 35 rfl) 2 rfl ?_
    refine zi_iload_n K (dX8_handOn 36 rfl) 3 rfl ?_
    refine zs_PREC K rfl i rfl (by omega) (dX8_handOn 37 rfl) ?_
    refine zi_aload_n K (dX8_handOn 38 rfl) 1 rfl ?_
    refine zg_O_pool K rfl w_201 (dX8_handOn 39 rfl) ?_
    refine zg_POOL_bounds K rfl w_164 (dX8_handOn 40 rfl) ?_
    refine zi_iload_n K (dX8_handOn 41 rfl) 2 rfl ?_
    refine zi_iload_n K (dX8_handOn 42 rfl) 4 rfl ?_
    refine zs_PBND K rfl i rfl (by omega) (dX8_handOn 43 rfl) ?_
    refine zi_aload_n K (dX8_handOn 44 rfl) 1 rfl ?_
    refine zg_O_pool K rfl w_201 (dX8_handOn 45 rfl) ?_
    refine zg_POOL_limits K rfl w_166 (dX8_handOn 46 rfl) ?_
    refine zi_iload_n K (dX8_handOn 47 rfl) 2 rfl ?_
    refine zi_iload K (dX8_handOn 48 rfl) 5 rfl ?_
    refine zs_PLIM K rfl i rfl (by omega) (dX8_handOn 49 rfl) ?_
    refine zi_iload K (dX8_handOn 50 rfl) 0 rfl ?_
    exact zi_zret K E (dX8_handOn 51 rfl) (Nat.le_refl _) (Nat.le_refl _) (by unfold v_handOn; rw [if_pos h53_0]) rfl (fun H h => by unfold s_handOn; rw [if_pos h53_0]; exact h)
  · skip
    refine zi_iconst K (dX8_handOn 28 rfl) zk_i1 ?_
    refine zi_goto K 61 (dX8_handOn 29 rfl) rfl ?_
    refine zi_istore K [(5, .int 1), (0, .ref (ad 0 0)), (1, .int (nI i)), (2, .int (nI j)), (3, .int x), (4, .int y)] (dX8_handOn 31 rfl) (by decide) rfl ?_
    refine zi_aload_n K (dX8_handOn 32 rfl) 1 rfl ?_
    refine zg_O_pool K rfl w_201 (dX8_handOn 33 rfl) ?_
    refine zg_POOL_receivers K rfl w_162 (dX8_handOn 34 rfl) ?_
    refine zi_iload_n K (dX8_handOn 35 rfl) 2 rfl ?_
    refine zi_iload_n K (dX8_handOn 36 rfl) 3 rfl ?_
    refine zs_PREC K rfl i rfl (by omega) (dX8_handOn 37 rfl) ?_
    refine zi_aload_n K (dX8_handOn 38 rfl) 1 rfl ?_
    refine zg_O_pool K rfl w_201 (dX8_handOn 39 rfl) ?_
    refine zg_POOL_bounds K rfl w_164 (dX8_handOn 40 rfl) ?_
    refine zi_iload_n K (dX8_handOn 41 rfl) 2 rfl ?_
    refine zi_iload_n K (dX8_handOn 42 rfl) 4 rfl ?_
    refine zs_PBND K rfl i rfl (by omega) (dX8_handOn 43 rfl) ?_
    refine zi_aload_n K (dX8_handOn 44 rfl) 1 rfl ?_
    refine zg_O_pool K rfl w_201 (dX8_handOn 45 rfl) ?_
    refine zg_POOL_limits K rfl w_166 (dX8_handOn 46 rfl) ?_
    refine zi_iload_n K (dX8_handOn 47 rfl) 2 rfl ?_
    refine zi_iload K (dX8_handOn 48 rfl) 5 rfl ?_
    refine zs_PLIM K rfl i rfl (by omega) (dX8_handOn 49 rfl) ?_
    refine zi_iload K (dX8_handOn 50 rfl) 0 rfl ?_
    exact zi_zret K E (dX8_handOn 51 rfl) (Nat.le_refl _) (Nat.le_refl _) (by unfold v_handOn; rw [if_neg h53_0]) rfl (fun H h => by unfold s_handOn; rw [if_neg h53_0]; exact h)
def v_reinstate (σ : zSt) (i : Nat) (m p z : Int32) : Int32 := sI σ 15 (lx σ 2 i) 0
def s_reinstate (σ : zSt) (i : Nat) (m p z : Int32) : zSt := (uI (uI (uI (uI σ 15 (lx σ 2 i) 0 m) 16 (lx σ 2 i) 0 p) 17 (lx σ 2 i) 0 z) 35 0 0 0)
theorem s_reinstate_22 (σ : zSt) (i : Nat) (m p z : Int32) : (s_reinstate σ i m p z).2.2 = σ.2.2 := by
  unfold s_reinstate
  (repeat' split) <;> first | exact ((uI_22 (uI (uI (uI σ 15 (lx σ 2 i) 0 m) 16 (lx σ 2 i) 0 p) 17 (lx σ 2 i) 0 z) 35 0 0 0).trans ((uI_22 (uI (uI σ 15 (lx σ 2 i) 0 m) 16 (lx σ 2 i) 0 p) 17 (lx σ 2 i) 0 z).trans ((uI_22 (uI σ 15 (lx σ 2 i) 0 m) 16 (lx σ 2 i) 0 p).trans ((uI_22 σ 15 (lx σ 2 i) 0 m).trans rfl))))
set_option maxRecDepth 100000 in
set_option maxHeartbeats 4000000 in
theorem c_reinstate {G : zG} {ad : Nat → Nat → Nat} {σ : zSt} (i : Nat) (m p z : Int32) (h2 : zLW σ 2) (hi : i < sZ σ 2) (hm : v_isOut σ m 0 5 = 0) (hp : v_isOut σ p 0 200 = 0) (hz : (narrow .boolean (.int z) = .int z ∧ fits .boolean (.int z) = true)) (hl : ¬ v_isLimited σ (lx σ 2 i) = 0) : zC G yX8_reinstate cX8_reinstate 7 (some FieldType.int) 4 85 0 0 [.ref (ad 0 0), .int (nI i), .int m, .int p, .int z] (zP G ad σ) (some (.int (v_reinstate σ i m p z))) (zP G ad (s_reinstate σ i m p z)) := by
  refine zC_of (by decide) (Nat.le_of_ble_eq_true rfl) (fun X K E hnm => ?_)
  show zV G X 7 (zP G ad σ) 0 0 0 [(0, .ref (ad 0 0)), (1, .int (nI i)), (2, .int m), (3, .int p), (4, .int z)] []
  refine zi_aload_n K (dX8_reinstate 0 rfl) 0 rfl ?_
  refine zi_iload_n K (dX8_reinstate 1 rfl) 1 rfl ?_
  refine zi_callV K (na := 1) [] [.ref (ad 5 (lx σ 2 i))] (c_treatyAt (σ := σ) i h2 hi) (dX8_reinstate 2 rfl) w_226 w_228 w_0 w_25 w_229 (by decide +kernel) rfl (fun H h => zi_recv K (zr_O (σ := σ) rfl H h).1 rfl) (fun H h => h) ⟨Nat.le_of_ble_eq_true rfl, Nat.le_of_ble_eq_true rfl⟩ ⟨Nat.le_refl _, Nat.le_refl _⟩ (Nat.le_of_ble_eq_true rfl) rfl rfl ?_
  refine zi_astore K [(5, .ref (ad 5 (lx σ 2 i))), (0, .ref (ad 0 0)), (1, .int (nI i)), (2, .int m), (3, .int p), (4, .int z)] (dX8_reinstate 3 rfl) (by decide) rfl ?_
  refine zi_iload_n K (dX8_reinstate 4 rfl) 3 rfl ?_
  refine zi_iconst K (dX8_reinstate 5 rfl) zk_i0 ?_
  refine zi_iconst K (dX8_reinstate 6 rfl) zk_i5 ?_
  refine zi_callS K (na := 3) (As := [.int m, .int 0, .int 5]) [] [.int (v_isOut σ m 0 5)] (c_isOut  m 0 5) (dX8_reinstate 7 rfl) w_234 w_235 w_25 w_236 (by decide +kernel) rfl (fun H h => h) ⟨Nat.le_of_ble_eq_true rfl, Nat.le_of_ble_eq_true rfl⟩ ⟨Nat.le_refl _, Nat.le_refl _⟩ (Nat.le_of_ble_eq_true rfl) rfl rfl ?_
  refine zi_if_ne K 27 (dX8_reinstate 8 rfl) rfl (fun h13_0 => ?_) (fun h13_0 => ?_)
  · exact absurd hm h13_0
  refine zi_iload_n K (dX8_reinstate 9 rfl) 4 rfl ?_
  refine zi_iconst K (dX8_reinstate 10 rfl) zk_i0 ?_
  refine zi_sipush K (dX8_reinstate 11 rfl) zk_s200 ?_
  refine zi_callS K (na := 3) (As := [.int p, .int 0, .int 200]) [] [.int (v_isOut σ p 0 200)] (c_isOut  p 0 200) (dX8_reinstate 12 rfl) w_234 w_235 w_25 w_236 (by decide +kernel) rfl (fun H h => h) ⟨Nat.le_of_ble_eq_true rfl, Nat.le_of_ble_eq_true rfl⟩ ⟨Nat.le_refl _, Nat.le_refl _⟩ (Nat.le_of_ble_eq_true rfl) rfl rfl ?_
  refine zi_if_eq K 37 (dX8_reinstate 13 rfl) rfl (fun h24_0 => ?_) (fun h24_0 => ?_)
  rotate_left
  · exact absurd hp h24_0
  refine zi_aload K (dX8_reinstate 19 rfl) 0 rfl ?_
  refine zi_callV K (na := 0) [] [.int (v_isLimited σ (lx σ 2 i))] (c_isLimited  (lx σ 2 i) (zL_lv h2 hi rfl)) (dX8_reinstate 20 rfl) w_1206 w_375 w_376 w_55 w_377 (by decide +kernel) rfl (fun H h => zi_recv K (zr_TR (σ := σ) (zL_lv h2 hi rfl) H h).1 rfl) (fun H h => h) ⟨Nat.le_of_ble_eq_true rfl, Nat.le_of_ble_eq_true rfl⟩ ⟨Nat.le_refl _, Nat.le_refl _⟩ (Nat.le_of_ble_eq_true rfl) rfl rfl ?_
  refine zi_if_ne K 55 (dX8_reinstate 21 rfl) rfl (fun h42_0 => ?_) (fun h42_0 => ?_)
  rotate_left
  · exact absurd h42_0 hl
  refine zi_aload K (dX8_reinstate 27 rfl) 0 rfl ?_
  refine zg_TR_many K (zL_lv h2 hi rfl) w_1112 (dX8_reinstate 28 rfl) ?_
  refine zi_istore K [(6, .int (sI σ 15 (lx σ 2 i) 0)), (5, .ref (ad 5 (lx σ 2 i))), (0, .ref (ad 0 0)), (1, .int (nI i)), (2, .int m), (3, .int p), (4, .int z)] (dX8_reinstate 29 rfl) (by decide) rfl ?_
  refine zi_aload K (dX8_reinstate 30 rfl) 1 rfl ?_
  refine zi_iload_n K (dX8_reinstate 31 rfl) 4 rfl ?_
  refine zp_TR_many K (zL_lv h2 hi rfl) w_1112 (dX8_reinstate 32 rfl) ?_
  refine zi_aload K (dX8_reinstate 33 rfl) 1 rfl ?_
  refine zi_iload_n K (dX8_reinstate 34 rfl) 5 rfl ?_
  refine zp_TR_price K (zL_lv h2 hi rfl) w_1114 (dX8_reinstate 35 rfl) ?_
  refine zi_aload K (dX8_reinstate 36 rfl) 1 rfl ?_
  refine zi_iload K (dX8_reinstate 37 rfl) 6 rfl ?_
  refine zp_TR_isByTime K (zL_lv h2 hi rfl) w_1116 hz (dX8_reinstate 38 rfl) ?_
  refine zi_aload_n K (dX8_reinstate 39 rfl) 2 rfl ?_
  refine zi_iconst K (dX8_reinstate 40 rfl) zk_i0 ?_
  refine zp_O_isSettled K rfl w_202 ⟨rfl, rfl⟩ (dX8_reinstate 41 rfl) ?_
  refine zi_iload K (dX8_reinstate 42 rfl) 0 rfl ?_
  exact zi_iret K E (dX8_reinstate 43 rfl) (Nat.le_refl _) (Nat.le_refl _) rfl (fun H h => by exact h)
def v_share (σ : zSt) (i j : Nat) (s : Int32) : Int32 := sI σ 21 (lx σ 2 i) j
def s_share (σ : zSt) (i j : Nat) (s : Int32) : zSt := (uI σ 21 (lx σ 2 i) j s)
theorem s_share_22 (σ : zSt) (i j : Nat) (s : Int32) : (s_share σ i j s).2.2 = σ.2.2 := by
  unfold s_share
  (repeat' split) <;> first | exact ((uI_22 σ 21 (lx σ 2 i) j s).trans rfl)
set_option maxRecDepth 100000 in
set_option maxHeartbeats 4000000 in
theorem c_share {G : zG} {ad : Nat → Nat → Nat} {σ : zSt} (i j : Nat) (s : Int32) (h2 : zLW σ 2) (hi : i < sZ σ 2) (hj : j < 5) (hs : v_isOut σ s 0 100 = 0) (ha : v_allShares σ (lx σ 2 i) - sI σ 21 (lx σ 2 i) j + s ≤ 100) : zC G yX8_share cX8_share 6 (some FieldType.int) 4 85 0 0 [.ref (ad 0 0), .int (nI i), .int (nI j), .int s] (zP G ad σ) (some (.int (v_share σ i j s))) (zP G ad (s_share σ i j s)) := by
  refine zC_of (by decide) (Nat.le_of_ble_eq_true rfl) (fun X K E hnm => ?_)
  show zV G X 6 (zP G ad σ) 0 0 0 [(0, .ref (ad 0 0)), (1, .int (nI i)), (2, .int (nI j)), (3, .int s)] []
  refine zi_aload_n K (dX8_share 0 rfl) 0 rfl ?_
  refine zi_iload_n K (dX8_share 1 rfl) 1 rfl ?_
  refine zi_callV K (na := 1) [] [.ref (ad 5 (lx σ 2 i))] (c_treatyAt (σ := σ) i h2 hi) (dX8_share 2 rfl) w_226 w_228 w_0 w_25 w_229 (by decide +kernel) rfl (fun H h => zi_recv K (zr_O (σ := σ) rfl H h).1 rfl) (fun H h => h) ⟨Nat.le_of_ble_eq_true rfl, Nat.le_of_ble_eq_true rfl⟩ ⟨Nat.le_refl _, Nat.le_refl _⟩ (Nat.le_of_ble_eq_true rfl) rfl rfl ?_
  refine zi_astore K [(4, .ref (ad 5 (lx σ 2 i))), (0, .ref (ad 0 0)), (1, .int (nI i)), (2, .int (nI j)), (3, .int s)] (dX8_share 3 rfl) (by decide) rfl ?_
  refine zi_iload_n K (dX8_share 4 rfl) 3 rfl ?_
  refine zi_callS K (na := 1) (As := [.int (nI j)]) [] [] (c_checkRe (σ := σ) j hj) (dX8_share 5 rfl) w_1223 w_1224 w_25 w_1225 (by decide +kernel) rfl (fun H h => h) ⟨Nat.le_of_ble_eq_true rfl, Nat.le_of_ble_eq_true rfl⟩ ⟨Nat.le_refl _, Nat.le_refl _⟩ (Nat.le_of_ble_eq_true rfl) rfl rfl ?_
  refine zi_iload_n K (dX8_share 6 rfl) 4 rfl ?_
  refine zi_iconst K (dX8_share 7 rfl) zk_i0 ?_
  refine zi_bipush K (dX8_share 8 rfl) zk_b100 ?_
  refine zi_callS K (na := 3) (As := [.int s, .int 0, .int 100]) [] [.int (v_isOut σ s 0 100)] (c_isOut  s 0 100) (dX8_share 9 rfl) w_234 w_235 w_25 w_236 (by decide +kernel) rfl (fun H h => h) ⟨Nat.le_of_ble_eq_true rfl, Nat.le_of_ble_eq_true rfl⟩ ⟨Nat.le_refl _, Nat.le_refl _⟩ (Nat.le_of_ble_eq_true rfl) rfl rfl ?_
  refine zi_if_eq K 31 (dX8_share 10 rfl) rfl (fun h18_0 => ?_) (fun h18_0 => ?_)
  rotate_left
  · exact absurd hs h18_0
  refine zi_aload K (dX8_share 16 rfl) 0 rfl ?_
  refine zg_TR_shares K (zL_lv h2 hi rfl) w_1105 (dX8_share 17 rfl) ?_
  refine zi_iload_n K (dX8_share 18 rfl) 3 rfl ?_
  refine zl_SHR K (zL_lv h2 hi rfl) j rfl (by omega) (dX8_share 19 rfl) ?_
  refine zi_istore K [(5, .int (sI σ 21 (lx σ 2 i) j)), (4, .ref (ad 5 (lx σ 2 i))), (0, .ref (ad 0 0)), (1, .int (nI i)), (2, .int (nI j)), (3, .int s)] (dX8_share 20 rfl) (by decide) rfl ?_
  refine zi_aload K (dX8_share 21 rfl) 1 rfl ?_
  refine zi_callV K (na := 0) [] [.int (v_allShares σ (lx σ 2 i))] (c_allShares  (lx σ 2 i) (zL_lv h2 hi rfl)) (dX8_share 22 rfl) w_1228 w_1229 w_1230 w_55 w_1231 (by decide +kernel) rfl (fun H h => zi_recv K (zr_TR (σ := σ) (zL_lv h2 hi rfl) H h).1 rfl) (fun H h => h) ⟨Nat.le_of_ble_eq_true rfl, Nat.le_of_ble_eq_true rfl⟩ ⟨Nat.le_refl _, Nat.le_refl _⟩ (Nat.le_of_ble_eq_true rfl) rfl rfl ?_
  refine zi_iload K (dX8_share 23 rfl) 0 rfl ?_
  refine zi_isub K (dX8_share 24 rfl) ?_
  refine zi_iload_n K (dX8_share 25 rfl) 5 rfl ?_
  refine zi_iadd K (dX8_share 26 rfl) ?_
  refine zi_bipush K (dX8_share 27 rfl) zk_b100 ?_
  refine zi_icmp_le K 65 (dX8_share 28 rfl) rfl (fun h52_0 => ?_) (fun h52_0 => ?_)
  rotate_left
  · exact absurd ha h52_0
  refine zi_aload K (dX8_share 34 rfl) 1 rfl ?_
  refine zg_TR_shares K (zL_lv h2 hi rfl) w_1105 (dX8_share 35 rfl) ?_
  refine zi_iload_n K (dX8_share 36 rfl) 4 rfl ?_
  refine zi_iload_n K (dX8_share 37 rfl) 5 rfl ?_
  refine zs_SHR K (zL_lv h2 hi rfl) j rfl (by omega) (dX8_share 38 rfl) ?_
  refine zi_iload K (dX8_share 39 rfl) 0 rfl ?_
  exact zi_iret K E (dX8_share 40 rfl) (Nat.le_refl _) (Nat.le_refl _) rfl (fun H h => by exact h)
def v_damage (σ : zSt) (i z : Nat) (x : Int32) : Int32 := sI σ 25 (lx σ 3 i) z
def s_damage (σ : zSt) (i z : Nat) (x : Int32) : zSt := (uI σ 25 (lx σ 3 i) z x)
theorem s_damage_22 (σ : zSt) (i z : Nat) (x : Int32) : (s_damage σ i z x).2.2 = σ.2.2 := by
  unfold s_damage
  (repeat' split) <;> first | exact ((uI_22 σ 25 (lx σ 3 i) z x).trans rfl)
set_option maxRecDepth 100000 in
set_option maxHeartbeats 4000000 in
theorem c_damage {G : zG} {ad : Nat → Nat → Nat} {σ : zSt} (i z : Nat) (x : Int32) (h3 : zLW σ 3) (hi : i < sZ σ 3) (hz4 : z < 4) (hz : v_isOut σ (nI z) 0 3 = 0) (hx : v_isOut σ x 0 100 = 0) : zC G yX8_damage cX8_damage 6 (some FieldType.int) 4 85 0 0 [.ref (ad 0 0), .int (nI i), .int (nI z), .int x] (zP G ad σ) (some (.int (v_damage σ i z x))) (zP G ad (s_damage σ i z x)) := by
  refine zC_of (by decide) (Nat.le_of_ble_eq_true rfl) (fun X K E hnm => ?_)
  show zV G X 6 (zP G ad σ) 0 0 0 [(0, .ref (ad 0 0)), (1, .int (nI i)), (2, .int (nI z)), (3, .int x)] []
  refine zi_aload_n K (dX8_damage 0 rfl) 0 rfl ?_
  refine zi_iload_n K (dX8_damage 1 rfl) 1 rfl ?_
  refine zi_callV K (na := 1) [] [.ref (ad 9 (lx σ 3 i))] (c_scenarioAt (σ := σ) i h3 hi) (dX8_damage 2 rfl) w_1338 w_1340 w_22 w_25 w_1341 (by decide +kernel) rfl (fun H h => zi_recv K (zr_O (σ := σ) rfl H h).1 rfl) (fun H h => h) ⟨Nat.le_of_ble_eq_true rfl, Nat.le_of_ble_eq_true rfl⟩ ⟨Nat.le_refl _, Nat.le_refl _⟩ (Nat.le_of_ble_eq_true rfl) rfl rfl ?_
  refine zi_astore K [(4, .ref (ad 9 (lx σ 3 i))), (0, .ref (ad 0 0)), (1, .int (nI i)), (2, .int (nI z)), (3, .int x)] (dX8_damage 3 rfl) (by decide) rfl ?_
  refine zi_iload_n K (dX8_damage 4 rfl) 3 rfl ?_
  refine zi_iconst K (dX8_damage 5 rfl) zk_i0 ?_
  refine zi_iconst K (dX8_damage 6 rfl) zk_i3 ?_
  refine zi_callS K (na := 3) (As := [.int (nI z), .int 0, .int 3]) [] [.int (v_isOut σ (nI z) 0 3)] (c_isOut  (nI z) 0 3) (dX8_damage 7 rfl) w_234 w_235 w_25 w_236 (by decide +kernel) rfl (fun H h => h) ⟨Nat.le_of_ble_eq_true rfl, Nat.le_of_ble_eq_true rfl⟩ ⟨Nat.le_refl _, Nat.le_refl _⟩ (Nat.le_of_ble_eq_true rfl) rfl rfl ?_
  refine zi_if_ne K 26 (dX8_damage 8 rfl) rfl (fun h13_0 => ?_) (fun h13_0 => ?_)
  · exact absurd hz h13_0
  refine zi_iload_n K (dX8_damage 9 rfl) 4 rfl ?_
  refine zi_iconst K (dX8_damage 10 rfl) zk_i0 ?_
  refine zi_bipush K (dX8_damage 11 rfl) zk_b100 ?_
  refine zi_callS K (na := 3) (As := [.int x, .int 0, .int 100]) [] [.int (v_isOut σ x 0 100)] (c_isOut  x 0 100) (dX8_damage 12 rfl) w_234 w_235 w_25 w_236 (by decide +kernel) rfl (fun H h => h) ⟨Nat.le_of_ble_eq_true rfl, Nat.le_of_ble_eq_true rfl⟩ ⟨Nat.le_refl _, Nat.le_refl _⟩ (Nat.le_of_ble_eq_true rfl) rfl rfl ?_
  refine zi_if_eq K 37 (dX8_damage 13 rfl) rfl (fun h23_0 => ?_) (fun h23_0 => ?_)
  rotate_left
  · exact absurd hx h23_0
  refine zi_aload K (dX8_damage 19 rfl) 0 rfl ?_
  refine zg_SC_damages K (zL_lv h3 hi rfl) w_1319 (dX8_damage 20 rfl) ?_
  refine zi_iload_n K (dX8_damage 21 rfl) 3 rfl ?_
  refine zl_DMG K (zL_lv h3 hi rfl) z rfl (by omega) (dX8_damage 22 rfl) ?_
  refine zi_istore K [(5, .int (sI σ 25 (lx σ 3 i) z)), (4, .ref (ad 9 (lx σ 3 i))), (0, .ref (ad 0 0)), (1, .int (nI i)), (2, .int (nI z)), (3, .int x)] (dX8_damage 23 rfl) (by decide) rfl ?_
  refine zi_aload K (dX8_damage 24 rfl) 1 rfl ?_
  refine zg_SC_damages K (zL_lv h3 hi rfl) w_1319 (dX8_damage 25 rfl) ?_
  refine zi_iload_n K (dX8_damage 26 rfl) 4 rfl ?_
  refine zi_iload_n K (dX8_damage 27 rfl) 5 rfl ?_
  refine zs_DMG K (zL_lv h3 hi rfl) z rfl (by omega) (dX8_damage 28 rfl) ?_
  refine zi_iload K (dX8_damage 29 rfl) 0 rfl ?_
  exact zi_iret K E (dX8_damage 30 rfl) (Nat.le_refl _) (Nat.le_refl _) rfl (fun H h => by exact h)
end
