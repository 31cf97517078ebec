/-! the law's texts: charAt -/
def zStb (G : zG) (F : State → Prop) : Prop := (∀ u U : State, u.vm = U.vm → U.heap = u.heap → F u → F U) ∧ ∀ s U : State, s.WarmedH U.vm → (∀ a : Nat, a < s.heap.size → ¬ gA G a → U.heap[a]? = s.heap[a]?) → F s → F U
def zCF (G : zG) (F : State → Prop) (y : MethodName) (cc : ByteArray) (maxL : Nat) (ret : Option FieldType) (fr lc mc ms : Nat) (av : List Value) (P : Heap → Prop) (rv : Option Value) (Qp : Heap → Prop) : Prop :=
  Met G.1 y (.code y cc maxL ret :: zB) { frames := fr, cells := mc, slots := ms, locals := lc } (va_Pc av (fun U => P U.heap ∧ (zN G U ∧ F U) ∧ ∀ q, U.heap.size ≤ q → gA G q)) (fun _ st o t => (o = .returned rv ∧ Qp t.heap) ∧ va_F (gA G) st t) mc ms (gA G)
section ZTX
variable {G : zG} {X : zX} {cc : ByteArray} {own : String} {nL : Nat} {ret : Option FieldType} {rm : Room} {P : Heap → Prop} {k n pc : Nat} {lo : List (Nat × Value)} {st : List Value} {F : State → Prop}
theorem zCF_of {y : MethodName} {maxL fr lc mc ms : Nat} {av : List Value} {rv : Option Value} {Qp : Heap → Prop} (hy : plainName y.cls = true) (hlen : (lg_sl av).length ≤ maxL)
    (body : ∀ X : zX, zK G X cc y.cls maxL ret { frames := fr, cells := mc, slots := ms, locals := lc } → zE G X mc ms rv Qp → F (xs X) → zV G X maxL P 0 0 0 (lv_args 0 av) []) : zCF G F y cc maxL ret fr lc mc ms av P rv Qp := by
  refine Met.ofW (cc := cc) (maxL := maxL) (ret := ret) hy rfl ?_
  intro p e s m args below meth c s₁ B hml hv
  obtain ⟨rfl, hP, ⟨hN, hY⟩, hA⟩ := hv
  have hts := atoms_spec (ws := .code y cc maxL ret :: zB) B.pre
  have hl := lv_entry av (n := maxL) hlen
  rw [lg_entry_eq]
  exact body (p, G.1, e, { frames := fr, cells := mc, slots := ms, locals := lc }, s, m, av.toArray, below, meth, c, MQ below (fun _ st o t => (o = .returned rv ∧ Qp t.heap) ∧ va_F (gA G) st t) av.toArray s mc ms (gA G))
    ⟨B.exec, B.bytes, hml, findClass_of_methodNamed B.named, fun w hw => hts w (List.mem_cons_of_mem _ hw), hN, B.notSynchronized, B.returns, hA, rfl, rfl⟩ (fun _ _ _ h => h) hY s.heap [] _ hP va_S.rf hl
theorem zi_callVF (K : zK G X cc own nL ret rm) {y : MethodName} {bytes : ByteArray} {maxL fr lc mc ms idx : Nat} {r' : Option FieldType} {As : List Value} {b : Nat} {P' : Heap → Prop} {rv : Option Value} {Qp : Heap → Prop} {stk : List Value} {na : Nat} (st nst : List Value)
    (hF : zStb G F) (Y : F (xs X)) (hM : zCF G F y bytes maxL r' fr lc mc ms (.ref b :: As) P' rv Qp) (hd : decode cc pc = .ok (.invokevirtual idx, 3)) (w1 : Cond.methodLink own idx y ∈ zB) (w2 : Cond.instanceMethod y ∈ zB) (w3 : Cond.selects y.cls y y ∈ zB) (w4 : Cond.initialized y.cls ∈ zB) (w5 : Cond.code y bytes maxL r' ∈ zB)
    (hy : y.cls ≠ "java/lang/invoke/MethodHandle" ∧ y.cls ≠ "java/lang/invoke/VarHandle" ∧ (parseMethodDescriptor y.desc).map (fun d => d.parameters.length) = some na) (hna : As.length = na) (hrv : ∀ H, P H → ∃ cell : Cell, H[b]? = some cell ∧ cell.vm.isStatics = false ∧ (xs X).vm.findClass y.cls = some cell.cls) (hP' : ∀ H, P H → P' H)
    (hR : fr + 1 ≤ rm.frames ∧ 8 + (maxL + 11) + lc ≤ rm.locals) (hc : k + mc ≤ rm.cells ∧ n + ms ≤ rm.slots) (hst : (st.map fun v => v.category).sum ≤ 8) (hs : stk = As.reverse ++ .ref b :: st) (hns : rv.toList ++ st = nst)
    (kk : zV G X nL Qp (k + mc) (n + ms) (pc + 3) lo nst) : zV G X nL P k n pc lo stk := fun H locs ls hP hS hL => by
  obtain ⟨h1, h2, h3, h4, h5, h6, h7, h8, h9, h10, h11⟩ := K
  subst hs
  subst hns
  subst hna
  rw [← h10] at hR hc
  unfold zCF at hM
  rw [← h11] at hM
  have hcb : CallB (xR X) (xs X) (xa X) own idx y bytes maxL r' (.code y bytes maxL r' :: zB) { frames := fr, cells := mc, slots := ms, locals := lc } mc ms As.length := callB_of As.length h5 (zb_goodIn w5) rfl rfl rfl (h5 _ w4) (h5 _ w1) hy hR
  have hbl : FrameBlind (va_Pc (.ref b :: As) (fun U => P' U.heap ∧ (zN G U ∧ F U) ∧ ∀ q, U.heap.size ≤ q → gA G q)) := fun a U g mk q => ⟨q.1, q.2.1, ⟨zN.same (U := U.calling g mk a) rfl rfl q.2.2.1.1, hF.1 U (U.calling g mk a) rfl rfl q.2.2.1.2⟩, q.2.2.2⟩
  have hpre : ∀ U : State, U.heap = H → (xs X).WarmedH U.vm → va_Pc (.ref b :: As) (fun U => P' U.heap ∧ (zN G U ∧ F U) ∧ ∀ q, U.heap.size ≤ q → gA G q) (.ref b :: As).toArray U := fun U hU hW => ⟨rfl, by rw [hU]; exact hP' H hP, ⟨zN.warm hW (fun a g1 g2 => by rw [hU]; exact hS.2.1 a g1 g2) h6, hF.2 _ U hW (fun a g1 g2 => by rw [hU]; exact hS.2.1 a g1 g2) Y⟩, fun q hq => h9 q (Nat.le_trans hS.1 (by rw [hU] at hq; exact hq))⟩
  have hr := va_runV (C := y.cls) (b := b) (As := As) (rest := st) (g := F0 (xm X) pc ls (As.reverse ++ .ref b :: st)) (H := H) (locs := locs) (cells := k) (slots := n) (p := xp X) (l := xl X) (e := xe X) (below := xb X) (meth := xh X) ⟨h1, h2, h3, h4, h5⟩ hM ⟨hcb, h5 _ w2, h5 _ w3⟩ ⟨hbl, hrv H hP, hpre⟩ rfl rfl (hL.1.trans rfl) rfl (lv_room hst) hd hc
  intro T hT Y9
  obtain ⟨v, st₀, t, T', L, h0, X', hL', e1, e2, ⟨⟨hv, hq⟩, hz, hk⟩, stp⟩ := hr T hT Y9
  cases hv
  rw [h0] at hz hk
  obtain ⟨t2, a1, b1⟩ := kk T'.heap (locs ++ L) ls (by rw [e1]; exact hq)
    ⟨Nat.le_trans hS.1 (by rw [e1]; exact hz), fun q g1 g2 => by rw [e1, hk q (Nat.lt_of_lt_of_le g1 hS.1) g2]; exact hS.2.1 q g1 g2, fun q hq => by
      rcases List.mem_append.mp hq with h | h
      · exact hS.2.2 q h
      · exact hL' q h⟩ hL T' rfl X'
  exact ⟨t2, stp t2 a1, b1⟩
theorem zi_callSF (K : zK G X cc own nL ret rm) {y : MethodName} {bytes : ByteArray} {maxL fr lc mc ms idx : Nat} {r' : Option FieldType} {As : List Value} {P' : Heap → Prop} {rv : Option Value} {Qp : Heap → Prop} {stk : List Value} {na : Nat} (st nst : List Value)
    (hF : zStb G F) (Y : F (xs X)) (hM : zCF G F y bytes maxL r' fr lc mc ms As P' rv Qp) (hd : decode cc pc = .ok (.invokestatic idx, 3)) (w1 : Cond.methodLink own idx y ∈ zB) (w2 : Cond.static y ∈ zB) (w4 : Cond.initialized y.cls ∈ zB) (w5 : Cond.code y bytes maxL r' ∈ zB)
    (hy : y.cls ≠ "java/lang/invoke/MethodHandle" ∧ y.cls ≠ "java/lang/invoke/VarHandle" ∧ (parseMethodDescriptor y.desc).map (fun d => d.parameters.length) = some na) (hna : As.length = na) (hP' : ∀ H, P H → P' H)
    (hR : fr + 1 ≤ rm.frames ∧ 8 + (maxL + 11) + lc ≤ rm.locals) (hc : k + mc ≤ rm.cells ∧ n + ms ≤ rm.slots) (hst : (st.map fun v => v.category).sum ≤ 8) (hs : stk = As.reverse ++ st) (hns : rv.toList ++ st = nst)
    (kk : zV G X nL Qp (k + mc) (n + ms) (pc + 3) lo nst) : zV G X nL P k n pc lo stk := fun H locs ls hP hS hL => by
  obtain ⟨h1, h2, h3, h4, h5, h6, h7, h8, h9, h10, h11⟩ := K
  subst hs
  subst hns
  subst hna
  rw [← h10] at hR hc
  unfold zCF at hM
  rw [← h11] at hM
  have hcb : CallB (xR X) (xs X) (xa X) own idx y bytes maxL r' (.code y bytes maxL r' :: zB) { frames := fr, cells := mc, slots := ms, locals := lc } mc ms As.length := callB_of As.length h5 (zb_goodIn w5) rfl rfl rfl (h5 _ w4) (h5 _ w1) hy hR
  have hbl : FrameBlind (va_Pc As (fun U => P' U.heap ∧ (zN G U ∧ F U) ∧ ∀ q, U.heap.size ≤ q → gA G q)) := fun a U g mk q => ⟨q.1, q.2.1, ⟨zN.same (U := U.calling g mk a) rfl rfl q.2.2.1.1, hF.1 U (U.calling g mk a) rfl rfl q.2.2.1.2⟩, q.2.2.2⟩
  have hpre : ∀ U : State, U.heap = H → (xs X).WarmedH U.vm → va_Pc As (fun U => P' U.heap ∧ (zN G U ∧ F U) ∧ ∀ q, U.heap.size ≤ q → gA G q) As.toArray U := fun U hU hW => ⟨rfl, by rw [hU]; exact hP' H hP, ⟨zN.warm hW (fun a g1 g2 => by rw [hU]; exact hS.2.1 a g1 g2) h6, hF.2 _ U hW (fun a g1 g2 => by rw [hU]; exact hS.2.1 a g1 g2) Y⟩, fun q hq => h9 q (Nat.le_trans hS.1 (by rw [hU] at hq; exact hq))⟩
  have hr := va_runS (As := As) (rest := st) (g := F0 (xm X) pc ls (As.reverse ++ st)) (H := H) (locs := locs) (cells := k) (slots := n) (p := xp X) (l := xl X) (e := xe X) (below := xb X) (meth := xh X) ⟨h1, h2, h3, h4, h5⟩ hM ⟨hcb, h5 _ w2⟩ ⟨hbl, hpre⟩ rfl rfl (hL.1.trans rfl) rfl (lv_room hst) hd hc
  intro T hT Y9
  obtain ⟨v, st₀, t, T', L, h0, X', hL', e1, e2, ⟨⟨hv, hq⟩, hz, hk⟩, stp⟩ := hr T hT Y9
  cases hv
  rw [h0] at hz hk
  obtain ⟨t2, a1, b1⟩ := kk T'.heap (locs ++ L) ls (by rw [e1]; exact hq)
    ⟨Nat.le_trans hS.1 (by rw [e1]; exact hz), fun q g1 g2 => by rw [e1, hk q (Nat.lt_of_lt_of_le g1 hS.1) g2]; exact hS.2.1 q g1 g2, fun q hq => by
      rcases List.mem_append.mp hq with h | h
      · exact hS.2.2 q h
      · exact hL' q h⟩ hL T' rfl X'
  exact ⟨t2, stp t2 a1, b1⟩
theorem zi_getsF (K : zK G X cc own nL ret rm) {C nm d : String} {v : Value} {idx : Nat} (hZ : va_Z C nm d v (gA G) (xs X) (xs X).heap) (hw : Cond.fieldLink own idx C nm d ∈ zB) (hd : decode cc pc = .ok (.getstatic idx, 3)) (kk : zV G X nL P k n (pc + 3) lo (v :: st)) : zV G X nL P k n pc lo st := fun H locs ls hP hS hL =>
  va_gets K.1 K.2.1 hZ hS K.2.2.2.1 (K.2.2.2.2.1 _ hw) (fun _ h => h) hd (kk H locs ls hP hS hL)
theorem zi_getfF (K : zK G X cc own nL ret rm) {o nm d : String} {v : Value} {q idx : Nat} (hE : va_OF o nm d v q (gA G) (xs X) (xs X).heap) (hw : Cond.fieldLink own idx o nm d ∈ zB) (hd : decode cc pc = .ok (.getfield idx, 3)) (kk : zV G X nL P k n (pc + 3) lo (v :: st)) : zV G X nL P k n pc lo (.ref q :: st) := fun H locs ls hP hS hL =>
  vk_getf K.1 K.2.1 hE hS K.2.2.2.1 (K.2.2.2.2.1 _ hw) (fun _ h => h) hd (kk H locs ls hP hS hL)
theorem zi_tbF (K : zK G X cc own nL ret rm) {t N : Nat} {f : Nat → Value} {i : Int32} {v : Value} (hT : va_T .byte t N f (gA G) (xs X) (xs X).heap) (hin : vp_in i N) (hv : f i.toNatClampNeg = v) (hd : decode cc pc = .ok (.baload, 1)) (kk : zV G X nL P k n (pc + 1) lo (v :: st)) : zV G X nL P k n pc lo (.int i :: .ref t :: st) := fun H locs ls hP hS hL =>
  va_tb K.1 K.2.1 hT hS hin hv hd (kk H locs ls hP hS hL)
theorem zi_tlenF (K : zK G X cc own nL ret rm) {t N : Nat} {f : Nat → Value} {ty : FieldType} (hT : va_T ty t N f (gA G) (xs X) (xs X).heap) (hd : decode cc pc = .ok (.arraylength, 1)) (kk : zV G X nL P k n (pc + 1) lo (.int (nI N) :: st)) : zV G X nL P k n pc lo (.ref t :: st) := fun H locs ls hP hS hL =>
  va_tlen K.1 K.2.1 hT hS rfl hd (kk H locs ls hP hS hL)
theorem zi_i2c (K : zK G X cc own nL ret rm) {x v : Int32} (hv : (x.toUInt32 % 65536).toInt32 = v) (hd : decode cc pc = .ok (.i2c, 1)) (kk : zV G X nL P k n (pc + 1) lo (.int v :: st)) : zV G X nL P k n pc lo (.int x :: st) := fun H locs ls hP hS hL =>
  lv_i2c K.1 K.2.1 hd hv (kk H locs ls hP hS hL)
theorem zi_ldcS (K : zK G X cc own nL ret rm) {tx : String} {idx q : Nat} (hZ : vk_R own idx tx q (xs X)) (hd : decode cc pc = .ok (.ldc idx, 2)) (kk : zV G X nL P k n (pc + 2) lo (.ref q :: st)) : zV G X nL P k n pc lo st := fun H locs ls hP hS hL =>
  va_ldcS K.1 K.2.1 K.2.2.2.1 hZ hd (kk H locs ls hP hS hL)
end ZTX
/-- the two texts: qsrea, oac -/
def zTb : List (List Int32) := [[113, 115, 114, 101, 97], [111, 97, 99]]
def zTl : List Nat := [5, 3]
def zqc (i j : Nat) : Int32 := (zTb.getD i []).getD j 0
def zTxt (G : zG) (adK adV : Nat → Nat) (fm : Nat) (U : State) : Prop := vk_S 2 zTl zTb adK adV (gA G) U U.heap ∧ va_Z "java/lang/String" "COMPACT_STRINGS" "Z" (.int 1) (gA G) U U.heap ∧ va_Zq "jdk/internal/util/Preconditions" "SIOOBE_FORMATTER" "Ljava/util/function/BiFunction;" (gA G) U U.heap
theorem zTxt.stb {G : zG} {adK adV : Nat → Nat} {fm : Nat} : zStb G (zTxt G adK adV fm) := by
  refine ⟨fun u U hv hh h => ?_, fun s U hW hq h => ?_⟩
  · obtain ⟨h1, h2, h3⟩ := h
    have hA : u.vm.Alike U.vm := by rw [hv]; exact Vm.Alike.refl _
    exact ⟨by rw [hh]; exact vk_S.moved hA h1, by rw [hh]; exact va_Z.moved hA h2, by rw [hh]; exact va_Zq.moved hA h3⟩
  · obtain ⟨h1, h2, h3⟩ := h
    exact ⟨(vk_S.moved hW.alike h1).kept hq, (va_Z.moved hW.alike h2).kept hq, (va_Zq.moved hW.alike h3).kept hq⟩
theorem w9_1443 : (.code yJ0_isLatin1_aae02 cJ0_isLatin1_aae02 1 (some FieldType.boolean) : Cond) ∈ zB := (zb_m6 (w := Cond.code yJ0_isLatin1_aae02 cJ0_isLatin1_aae02 1 (some FieldType.boolean)) (List.mem_of_getElem? (i := 219) rfl) rfl)
theorem w9_1441 : (.instanceMethod yJ0_isLatin1_aae02 : Cond) ∈ zB := (zb_m6 (w := Cond.instanceMethod yJ0_isLatin1_aae02) (List.mem_of_getElem? (i := 217) rfl) rfl)
theorem w9_1442 : (.selects "java/lang/String" yJ0_isLatin1_aae02 yJ0_isLatin1_aae02 : Cond) ∈ zB := (zb_m6 (w := Cond.selects "java/lang/String" yJ0_isLatin1_aae02 yJ0_isLatin1_aae02) (List.mem_of_getElem? (i := 218) rfl) rfl)
theorem w9_45 : (.initialized "java/lang/String" : Cond) ∈ zB := (zb_m1 (w := Cond.initialized "java/lang/String") (List.mem_of_getElem? (i := 21) rfl) rfl)
theorem w9_1446 : (.code yJ1_charAt_3b067 cJ1_charAt_3b067 2 (some FieldType.char) : Cond) ∈ zB := (zb_m6 (w := Cond.code yJ1_charAt_3b067 cJ1_charAt_3b067 2 (some FieldType.char)) (List.mem_of_getElem? (i := 222) rfl) rfl)
theorem w9_1445 : (.static yJ1_charAt_3b067 : Cond) ∈ zB := (zb_m6 (w := Cond.static yJ1_charAt_3b067) (List.mem_of_getElem? (i := 221) rfl) rfl)
theorem w9_52 : (.initialized "java/lang/StringLatin1" : Cond) ∈ zB := (zb_m1 (w := Cond.initialized "java/lang/StringLatin1") (List.mem_of_getElem? (i := 28) rfl) rfl)
theorem w9_1449 : (.code yJ0_checkIndex_df160 cJ0_checkIndex_df160 2 none : Cond) ∈ zB := (zb_m6 (w := Cond.code yJ0_checkIndex_df160 cJ0_checkIndex_df160 2 none) (List.mem_of_getElem? (i := 225) rfl) rfl)
theorem w9_1448 : (.static yJ0_checkIndex_df160 : Cond) ∈ zB := (zb_m6 (w := Cond.static yJ0_checkIndex_df160) (List.mem_of_getElem? (i := 224) rfl) rfl)
theorem w9_1439 : (.code yJ0_charAt_5068e cJ0_charAt_5068e 2 (some FieldType.char) : Cond) ∈ zB := (zb_m6 (w := Cond.code yJ0_charAt_5068e cJ0_charAt_5068e 2 (some FieldType.char)) (List.mem_of_getElem? (i := 215) rfl) rfl)
theorem w9_1437 : (.instanceMethod yJ0_charAt_5068e : Cond) ∈ zB := (zb_m6 (w := Cond.instanceMethod yJ0_charAt_5068e) (List.mem_of_getElem? (i := 213) rfl) rfl)
theorem w9_1438 : (.selects "java/lang/String" yJ0_charAt_5068e yJ0_charAt_5068e : Cond) ∈ zB := (zb_m6 (w := Cond.selects "java/lang/String" yJ0_charAt_5068e yJ0_charAt_5068e) (List.mem_of_getElem? (i := 214) rfl) rfl)
theorem w9_1440 : (.methodLink "java/lang/String" 492 yJ0_isLatin1_aae02 : Cond) ∈ zB := (zb_m6 (w := Cond.methodLink "java/lang/String" 492 yJ0_isLatin1_aae02) (List.mem_of_getElem? (i := 216) rfl) rfl)
theorem w9_1444 : (.methodLink "java/lang/String" 495 yJ1_charAt_3b067 : Cond) ∈ zB := (zb_m6 (w := Cond.methodLink "java/lang/String" 495 yJ1_charAt_3b067) (List.mem_of_getElem? (i := 220) rfl) rfl)
theorem w9_1447 : (.methodLink "java/lang/StringLatin1" 9 yJ0_checkIndex_df160 : Cond) ∈ zB := (zb_m6 (w := Cond.methodLink "java/lang/StringLatin1" 9 yJ0_checkIndex_df160) (List.mem_of_getElem? (i := 223) rfl) rfl)
theorem w9_1450 : (.methodLink "java/lang/String" 1059 yJ3_checkIndex_8e157 : Cond) ∈ zB := (zb_m6 (w := Cond.methodLink "java/lang/String" 1059 yJ3_checkIndex_8e157) (List.mem_of_getElem? (i := 226) rfl) rfl)
theorem w9_931 : (.fieldLink "java/lang/String" 38 "java/lang/String" "COMPACT_STRINGS" "Z" : Cond) ∈ zB := (zb_m4 (w := Cond.fieldLink "java/lang/String" 38 "java/lang/String" "COMPACT_STRINGS" "Z") (List.mem_of_getElem? (i := 187) rfl) rfl)
theorem w9_1049 : (.fieldLink "java/lang/String" 15 "java/lang/String" "coder" "B" : Cond) ∈ zB := (zb_m5 (w := Cond.fieldLink "java/lang/String" 15 "java/lang/String" "coder" "B") (List.mem_of_getElem? (i := 65) rfl) rfl)
theorem w9_1048 : (.fieldLink "java/lang/String" 9 "java/lang/String" "value" "[B" : Cond) ∈ zB := (zb_m5 (w := Cond.fieldLink "java/lang/String" 9 "java/lang/String" "value" "[B") (List.mem_of_getElem? (i := 64) rfl) rfl)
theorem w9_909 : (.fieldLink "java/lang/String" 1053 "jdk/internal/util/Preconditions" "SIOOBE_FORMATTER" "Ljava/util/function/BiFunction;" : Cond) ∈ zB := (zb_m4 (w := Cond.fieldLink "java/lang/String" 1053 "jdk/internal/util/Preconditions" "SIOOBE_FORMATTER" "Ljava/util/function/BiFunction;") (List.mem_of_getElem? (i := 165) rfl) rfl)
theorem c_isLatin1 {G : zG} {adK adV : Nat → Nat} {fm : Nat} {P : Heap → Prop} (i : Nat) (hi : i < 2) : zCF G (zTxt G adK adV fm) yJ0_isLatin1_aae02 cJ0_isLatin1_aae02 1 (some FieldType.boolean) 0 0 0 0 [.ref (adK i)] P (some (.int 1)) P := by
  refine zCF_of (by decide) (Nat.le_of_ble_eq_true rfl) (fun X K E Y => ?_)
  show zV G X 1 P 0 0 0 [(0, .ref (adK i))] []
  refine zi_getsF K Y.2.1 w9_931 (dJ0_isLatin1_aae02 0 rfl) ?_
  refine zi_if_eq K 17 (dJ0_isLatin1_aae02 1 rfl) rfl (fun h => absurd h (by decide)) (fun _ => ?_)
  refine zi_aload_n K (dJ0_isLatin1_aae02 2 rfl) 0 rfl ?_
  refine zi_getfF K (Y.1.1 i hi).2.1 w9_1049 (dJ0_isLatin1_aae02 3 rfl) ?_
  refine zi_if_ne K 17 (dJ0_isLatin1_aae02 4 rfl) rfl (fun h => absurd rfl h) (fun _ => ?_)
  refine zi_iconst K (dJ0_isLatin1_aae02 5 rfl) zk_i1 ?_
  refine zi_goto K 18 (dJ0_isLatin1_aae02 6 rfl) rfl ?_
  exact zi_zret K E (dJ0_isLatin1_aae02 8 rfl) (Nat.le_refl _) (Nat.le_refl _) rfl rfl (fun _ h => h)
theorem c_pcheckR {G : zG} {P : Heap → Prop} (i N f0 : Nat) (hi : i < N) (hN : N < 2 ^ 31) : zC G yJ3_checkIndex_8e157 cJ3_checkIndex_8e157 3 (some FieldType.int) 0 0 0 0 [.int (nI i), .int (nI N), .ref f0] P (some (.int (nI i))) P := by
  refine zC_of (by decide) (Nat.le_of_ble_eq_true rfl) (fun X K E hnm => ?_)
  show zV G X 3 P 0 0 0 [(0, .int (nI i)), (1, .int (nI N)), (2, .ref f0)] []
  refine zi_iload_n K (dJ3_checkIndex_8e157 0 rfl) 0 rfl ?_
  refine zi_if_lt K 9 (dJ3_checkIndex_8e157 1 rfl) rfl (fun h => absurd h (nI_pos (Nat.lt_trans hi hN))) (fun _ => ?_)
  refine zi_iload_n K (dJ3_checkIndex_8e157 2 rfl) 0 rfl ?_
  refine zi_iload_n K (dJ3_checkIndex_8e157 3 rfl) 1 rfl ?_
  refine zi_icmp_lt K 16 (dJ3_checkIndex_8e157 4 rfl) rfl (fun _ => ?_) (fun h => absurd (nI_lt hi hN) h)
  refine zi_iload_n K (dJ3_checkIndex_8e157 10 rfl) 0 rfl ?_
  exact zi_iret K E (dJ3_checkIndex_8e157 11 rfl) (Nat.le_refl _) (Nat.le_refl _) rfl (fun _ h => h)
theorem c_pcheckN {G : zG} {P : Heap → Prop} (i N : Nat) (hi : i < N) (hN : N < 2 ^ 31) : zC G yJ3_checkIndex_8e157 cJ3_checkIndex_8e157 3 (some FieldType.int) 0 0 0 0 [.int (nI i), .int (nI N), .null] P (some (.int (nI i))) P := by
  refine zC_of (by decide) (Nat.le_of_ble_eq_true rfl) (fun X K E hnm => ?_)
  show zV G X 3 P 0 0 0 [(0, .int (nI i)), (1, .int (nI N)), (2, .null)] []
  refine zi_iload_n K (dJ3_checkIndex_8e157 0 rfl) 0 rfl ?_
  refine zi_if_lt K 9 (dJ3_checkIndex_8e157 1 rfl) rfl (fun h => absurd h (nI_pos (Nat.lt_trans hi hN))) (fun _ => ?_)
  refine zi_iload_n K (dJ3_checkIndex_8e157 2 rfl) 0 rfl ?_
  refine zi_iload_n K (dJ3_checkIndex_8e157 3 rfl) 1 rfl ?_
  refine zi_icmp_lt K 16 (dJ3_checkIndex_8e157 4 rfl) rfl (fun _ => ?_) (fun h => absurd (nI_lt hi hN) h)
  refine zi_iload_n K (dJ3_checkIndex_8e157 10 rfl) 0 rfl ?_
  exact zi_iret K E (dJ3_checkIndex_8e157 11 rfl) (Nat.le_refl _) (Nat.le_refl _) rfl (fun _ h => h)
theorem c_scheck {G : zG} {adK adV : Nat → Nat} {fm : Nat} {P : Heap → Prop} (i N : Nat) (hi : i < N) (hN : N < 2 ^ 31) : zCF G (zTxt G adK adV fm) yJ0_checkIndex_df160 cJ0_checkIndex_df160 2 none 1 22 0 0 [.int (nI i), .int (nI N)] P none P := by
  refine zCF_of (by decide) (Nat.le_of_ble_eq_true rfl) (fun X K E Y => ?_)
  show zV G X 2 P 0 0 0 [(0, .int (nI i)), (1, .int (nI N))] []
  refine zi_iload_n K (dJ0_checkIndex_df160 0 rfl) 0 rfl ?_
  refine zi_iload_n K (dJ0_checkIndex_df160 1 rfl) 1 rfl ?_
  rcases Y.2.2 with hY | ⟨fm9, hY⟩
  · refine zi_getsF K hY w9_909 (dJ0_checkIndex_df160 2 rfl) ?_
    refine zi_callS K (na := 3) (As := [.int (nI i), .int (nI N), .null]) [] [.int (nI i)] (c_pcheckN (P := P) i N hi hN) (dJ0_checkIndex_df160 3 rfl) w9_1450 w_317 w_47 w_318 (by decide +kernel) rfl (fun H h => h) ⟨Nat.le_of_ble_eq_true rfl, Nat.le_of_ble_eq_true rfl⟩ ⟨Nat.le_refl _, Nat.le_refl _⟩ (Nat.le_of_ble_eq_true rfl) rfl rfl ?_
    refine zi_pop K (dJ0_checkIndex_df160 4 rfl) rfl ?_
    exact zi_vret K E (dJ0_checkIndex_df160 5 rfl) (Nat.le_refl _) (Nat.le_refl _) rfl (fun _ h => h)
  · refine zi_getsF K hY w9_909 (dJ0_checkIndex_df160 2 rfl) ?_
    refine zi_callS K (na := 3) (As := [.int (nI i), .int (nI N), .ref fm9]) [] [.int (nI i)] (c_pcheckR (P := P) i N fm9 hi hN) (dJ0_checkIndex_df160 3 rfl) w9_1450 w_317 w_47 w_318 (by decide +kernel) rfl (fun H h => h) ⟨Nat.le_of_ble_eq_true rfl, Nat.le_of_ble_eq_true rfl⟩ ⟨Nat.le_refl _, Nat.le_refl _⟩ (Nat.le_of_ble_eq_true rfl) rfl rfl ?_
    refine zi_pop K (dJ0_checkIndex_df160 4 rfl) rfl ?_
    exact zi_vret K E (dJ0_checkIndex_df160 5 rfl) (Nat.le_refl _) (Nat.le_refl _) rfl (fun _ h => h)
theorem zTl_lt : ∀ i, i < 2 → zTl.getD i 0 < 2 ^ 31 := by decide
theorem zqc_ok : ∀ i, i < 2 → ∀ j, j < zTl.getD i 0 → ((zqc i j &&& 255).toUInt32 % 65536).toInt32 = zqc i j ∧ narrow .char (.int (zqc i j)) = .int (zqc i j) := by decide +kernel
theorem c_lcharAt {G : zG} {adK adV : Nat → Nat} {fm : Nat} {P : Heap → Prop} (i j : Nat) (hi : i < 2) (hj : j < zTl.getD i 0) : zCF G (zTxt G adK adV fm) yJ1_charAt_3b067 cJ1_charAt_3b067 2 (some FieldType.char) 2 43 0 0 [.ref (adV i), .int (nI j)] P (some (.int (zqc i j))) P := by
  refine zCF_of (by decide) (Nat.le_of_ble_eq_true rfl) (fun X K E Y => ?_)
  show zV G X 2 P 0 0 0 [(0, .ref (adV i)), (1, .int (nI j))] []
  have hN := zTl_lt i hi
  refine zi_iload_n K (dJ1_charAt_3b067 0 rfl) 1 rfl ?_
  refine zi_aload_n K (dJ1_charAt_3b067 1 rfl) 0 rfl ?_
  refine zi_tlenF K (Y.1.1 i hi).2.2.2 (dJ1_charAt_3b067 2 rfl) ?_
  refine zi_callSF K (na := 2) (As := [.int (nI j), .int (nI (zTl.getD i 0))]) [] [] zTxt.stb Y (c_scheck (P := P) j (zTl.getD i 0) hj hN) (dJ1_charAt_3b067 3 rfl) w9_1447 w9_1448 w9_45 w9_1449 (by decide +kernel) rfl (fun H h => h) ⟨Nat.le_of_ble_eq_true rfl, Nat.le_of_ble_eq_true rfl⟩ ⟨Nat.le_refl _, Nat.le_refl _⟩ (Nat.le_of_ble_eq_true rfl) rfl rfl ?_
  refine zi_aload_n K (dJ1_charAt_3b067 4 rfl) 0 rfl ?_
  refine zi_iload_n K (dJ1_charAt_3b067 5 rfl) 1 rfl ?_
  refine zi_tbF K (v := .int (zqc i j)) (Y.1.1 i hi).2.2.2 (nI_in hj hN) (by rw [nI_clamp (by omega)]; rfl) (dJ1_charAt_3b067 6 rfl) ?_
  refine zi_sipush K (dJ1_charAt_3b067 7 rfl) (x := 255) (by decide) ?_
  refine zi_iand K (dJ1_charAt_3b067 8 rfl) ?_
  refine zi_i2c K (zqc_ok i hi j hj).1 (dJ1_charAt_3b067 9 rfl) ?_
  exact zi_zret K E (dJ1_charAt_3b067 10 rfl) (Nat.le_refl _) (Nat.le_refl _) rfl (zqc_ok i hi j hj).2 (fun _ h => h)
theorem c_charAt {G : zG} {adK adV : Nat → Nat} {fm : Nat} {P : Heap → Prop} (i j : Nat) (hi : i < 2) (hj : j < zTl.getD i 0) : zCF G (zTxt G adK adV fm) yJ0_charAt_5068e cJ0_charAt_5068e 2 (some FieldType.char) 3 64 0 0 [.ref (adK i), .int (nI j)] P (some (.int (zqc i j))) P := by
  refine zCF_of (by decide) (Nat.le_of_ble_eq_true rfl) (fun X K E Y => ?_)
  show zV G X 2 P 0 0 0 [(0, .ref (adK i)), (1, .int (nI j))] []
  refine zi_aload_n K (dJ0_charAt_5068e 0 rfl) 0 rfl ?_
  refine (fun H locs ls hP hS hL => zi_callVF K (na := 0) (b := adK i) [] [.int 1] zTxt.stb Y (c_isLatin1 (P := fun H9 => H9 = H ∧ P H) i hi) (dJ0_charAt_5068e 1 rfl) w9_1440 w9_1441 w9_1442 w9_45 w9_1443 (by decide +kernel) rfl (fun H9 (h : H9 = H ∧ P H) => h.1 ▸ vk_recv Y.1 hi hS) (fun H h => h) ⟨Nat.le_of_ble_eq_true rfl, Nat.le_of_ble_eq_true rfl⟩ ⟨Nat.le_refl _, Nat.le_refl _⟩ (Nat.le_of_ble_eq_true rfl) rfl rfl (zV.imp (fun H9 (h : H9 = H ∧ P H) => h.1 ▸ h.2) ?_) H locs ls ⟨rfl, hP⟩ hS hL)
  refine zi_if_eq K 16 (dJ0_charAt_5068e 2 rfl) rfl (fun h => absurd h (by decide)) (fun _ => ?_)
  refine zi_aload_n K (dJ0_charAt_5068e 3 rfl) 0 rfl ?_
  refine zi_getfF K (Y.1.1 i hi).2.2.1 w9_1048 (dJ0_charAt_5068e 4 rfl) ?_
  refine zi_iload_n K (dJ0_charAt_5068e 5 rfl) 1 rfl ?_
  refine zi_callSF K (na := 2) (As := [.ref (adV i), .int (nI j)]) [] [.int (zqc i j)] zTxt.stb Y (c_lcharAt (P := P) i j hi hj) (dJ0_charAt_5068e 6 rfl) w9_1444 w9_1445 w9_52 w9_1446 (by decide +kernel) rfl (fun H h => h) ⟨Nat.le_of_ble_eq_true rfl, Nat.le_of_ble_eq_true rfl⟩ ⟨Nat.le_refl _, Nat.le_refl _⟩ (Nat.le_of_ble_eq_true rfl) rfl rfl ?_
  exact zi_zret K E (dJ0_charAt_5068e 7 rfl) (Nat.le_refl _) (Nat.le_refl _) rfl (zqc_ok i hi j hj).2 (fun _ h => h)
