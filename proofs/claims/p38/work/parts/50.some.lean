/-! the law's script: its cells, some of them -/
def zY (G : zG) (b L : Nat) (ys : Nat → Int32) (U : State) : Prop := va_X b L ys U U.heap ∧ b < U.heap.size ∧ ¬ gA G b
theorem zY.same {G : zG} {b L : Nat} {ys : Nat → Int32} {u U : State} (hv : u.vm = U.vm) (hh : U.heap = u.heap) (h : zY G b L ys u) : zY G b L ys U := by
  obtain ⟨h1, h2, h3⟩ := h
  have hA : u.vm.Alike U.vm := by rw [hv]; exact Vm.Alike.refl _
  exact ⟨by rw [hh]; exact va_X.moved hA h1, by rw [hh]; exact h2, h3⟩
theorem zY.warm {G : zG} {b L : Nat} {ys : Nat → Int32} {s U : State} (hW : s.WarmedH U.vm) (hz : s.heap.size ≤ U.heap.size) (hq : ∀ a : Nat, a < s.heap.size → ¬ gA G a → U.heap[a]? = s.heap[a]?) (h : zY G b L ys s) : zY G b L ys U := by
  obtain ⟨h1, h2, h3⟩ := h
  exact ⟨(va_X.moved hW.alike h1).kept (hq b h2 h3), Nat.lt_of_lt_of_le h2 hz, h3⟩
def zCS (G : zG) (bs Ls : Nat) (ys : Nat → Int32) (y : MethodName) (cc : ByteArray) (maxL : Nat) (ret : Option FieldType) (fr lc mc ms : Nat) (av : List Value) (P : Heap → Prop) (rv : Option Value) (Qp : Heap → Prop) : Prop :=
  Met G.1 y (.code y cc maxL ret :: zB) { frames := fr, cells := mc, slots := ms, locals := lc } (va_Pc av (fun U => P U.heap ∧ (zN G U ∧ zY G bs Ls ys U) ∧ ∀ q, U.heap.size ≤ q → gA G q)) (fun _ st o t => (o = .returned rv ∧ Qp t.heap) ∧ va_F (gA G) st t) mc ms (gA G)
section ZSC
variable {G : zG} {X : zX} {cc : ByteArray} {own : String} {nL : Nat} {ret : Option FieldType} {rm : Room} {P : Heap → Prop} {k n pc : Nat} {lo : List (Nat × Value)} {st : List Value} {bs Ls : Nat} {ys : Nat → Int32}
theorem zCS_of {y : MethodName} {maxL fr lc mc ms : Nat} {av : List Value} {rv : Option Value} {Qp : Heap → Prop} (hy : plainName y.cls = true) (hlen : (lg_sl av).length ≤ maxL)
    (body : ∀ X : zX, zK G X cc y.cls maxL ret { frames := fr, cells := mc, slots := ms, locals := lc } → zE G X mc ms rv Qp → zY G bs Ls ys (xs X) → zV G X maxL P 0 0 0 (lv_args 0 av) []) : zCS G bs Ls ys y cc maxL ret fr lc mc ms av P rv Qp := by
  refine Met.ofW (cc := cc) (maxL := maxL) (ret := ret) hy rfl ?_
  intro p e s m args below meth c s₁ B hml hv
  obtain ⟨rfl, hP, ⟨hN, hY⟩, hA⟩ := hv
  have hts := atoms_spec (ws := .code y cc maxL ret :: zB) B.pre
  have hl := lv_entry av (n := maxL) hlen
  rw [lg_entry_eq]
  exact body (p, G.1, e, { frames := fr, cells := mc, slots := ms, locals := lc }, s, m, av.toArray, below, meth, c, MQ below (fun _ st o t => (o = .returned rv ∧ Qp t.heap) ∧ va_F (gA G) st t) av.toArray s mc ms (gA G))
    ⟨B.exec, B.bytes, hml, findClass_of_methodNamed B.named, fun w hw => hts w (List.mem_cons_of_mem _ hw), hN, B.notSynchronized, B.returns, hA, rfl, rfl⟩ (fun _ _ _ h => h) hY s.heap [] _ hP va_S.rf hl
theorem zi_callSS (K : zK G X cc own nL ret rm) {y : MethodName} {bytes : ByteArray} {maxL fr lc mc ms idx : Nat} {r' : Option FieldType} {As : List Value} {P' : Heap → Prop} {rv : Option Value} {Qp : Heap → Prop} {stk : List Value} {na : Nat} (st nst : List Value)
    (Y : zY G bs Ls ys (xs X)) (hM : zCS G bs Ls ys y bytes maxL r' fr lc mc ms As P' rv Qp) (hd : decode cc pc = .ok (.invokestatic idx, 3)) (w1 : Cond.methodLink own idx y ∈ zB) (w2 : Cond.static y ∈ zB) (w4 : Cond.initialized y.cls ∈ zB) (w5 : Cond.code y bytes maxL r' ∈ zB)
    (hy : y.cls ≠ "java/lang/invoke/MethodHandle" ∧ y.cls ≠ "java/lang/invoke/VarHandle" ∧ (parseMethodDescriptor y.desc).map (fun d => d.parameters.length) = some na) (hna : As.length = na) (hP' : ∀ H, P H → P' H)
    (hR : fr + 1 ≤ rm.frames ∧ 8 + (maxL + 11) + lc ≤ rm.locals) (hc : k + mc ≤ rm.cells ∧ n + ms ≤ rm.slots) (hst : (st.map fun v => v.category).sum ≤ 8) (hs : stk = As.reverse ++ st) (hns : rv.toList ++ st = nst)
    (kk : zV G X nL Qp (k + mc) (n + ms) (pc + 3) lo nst) : zV G X nL P k n pc lo stk := fun H locs ls hP hS hL => by
  obtain ⟨h1, h2, h3, h4, h5, h6, h7, h8, h9, h10, h11⟩ := K
  subst hs
  subst hns
  subst hna
  rw [← h10] at hR hc
  unfold zCS at hM
  rw [← h11] at hM
  have hcb : CallB (xR X) (xs X) (xa X) own idx y bytes maxL r' (.code y bytes maxL r' :: zB) { frames := fr, cells := mc, slots := ms, locals := lc } mc ms As.length := callB_of As.length h5 (zb_goodIn w5) rfl rfl rfl (h5 _ w4) (h5 _ w1) hy hR
  have hbl : FrameBlind (va_Pc As (fun U => P' U.heap ∧ (zN G U ∧ zY G bs Ls ys U) ∧ ∀ q, U.heap.size ≤ q → gA G q)) := fun a U g mk q => ⟨q.1, q.2.1, ⟨zN.same (U := U.calling g mk a) rfl rfl q.2.2.1.1, zY.same (U := U.calling g mk a) rfl rfl q.2.2.1.2⟩, q.2.2.2⟩
  have hpre : ∀ U : State, U.heap = H → (xs X).WarmedH U.vm → va_Pc As (fun U => P' U.heap ∧ (zN G U ∧ zY G bs Ls ys U) ∧ ∀ q, U.heap.size ≤ q → gA G q) As.toArray U := fun U hU hW => ⟨rfl, by rw [hU]; exact hP' H hP, ⟨zN.warm hW (fun a g1 g2 => by rw [hU]; exact hS.2.1 a g1 g2) h6, zY.warm hW (by rw [hU]; exact hS.1) (fun a g1 g2 => by rw [hU]; exact hS.2.1 a g1 g2) Y⟩, fun q hq => h9 q (Nat.le_trans hS.1 (by rw [hU] at hq; exact hq))⟩
  have hr := va_runS (As := As) (rest := st) (g := F0 (xm X) pc ls (As.reverse ++ st)) (H := H) (locs := locs) (cells := k) (slots := n) (p := xp X) (l := xl X) (e := xe X) (below := xb X) (meth := xh X) ⟨h1, h2, h3, h4, h5⟩ hM ⟨hcb, h5 _ w2⟩ ⟨hbl, hpre⟩ rfl rfl (hL.1.trans rfl) rfl (lv_room hst) hd hc
  intro T hT Y9
  obtain ⟨v, st₀, t, T', L, h0, X', hL', e1, e2, ⟨⟨hv, hq⟩, hz, hk⟩, stp⟩ := hr T hT Y9
  cases hv
  rw [h0] at hz hk
  obtain ⟨t2, a1, b1⟩ := kk T'.heap (locs ++ L) ls (by rw [e1]; exact hq)
    ⟨Nat.le_trans hS.1 (by rw [e1]; exact hz), fun q g1 g2 => by rw [e1, hk q (Nat.lt_of_lt_of_le g1 hS.1) g2]; exact hS.2.1 q g1 g2, fun q hq => by
      rcases List.mem_append.mp hq with h | h
      · exact hS.2.2 q h
      · exact hL' q h⟩ hL T' rfl X'
  exact ⟨t2, stp t2 a1, b1⟩
theorem zi_sld (K : zK G X cc own nL ret rm) (Y : zY G bs Ls ys (xs X)) {i : Nat} (hi : i < Ls) (h31 : Ls < 2 ^ 30) (hd : decode cc pc = .ok (.iaload, 1)) (kk : zV G X nL P k n (pc + 1) lo (.int (ys i) :: st)) : zV G X nL P k n pc lo (.int (nI i) :: .ref bs :: st) := fun H locs ls hP hS hL => by
  have hc : (nI i).toNatClampNeg = i := nI_clamp (by omega)
  refine va_sld K.1 K.2.1 Y.1 Y.2.1 Y.2.2 hS ?_ hd ?_
  · intro h
    rcases h with h | h
    · exact absurd h (nI_pos (by omega))
    · rw [hc] at h
      omega
  · rw [hc]
    exact kk H locs ls hP hS hL
theorem zi_slen (K : zK G X cc own nL ret rm) (Y : zY G bs Ls ys (xs X)) (hd : decode cc pc = .ok (.arraylength, 1)) (kk : zV G X nL P k n (pc + 1) lo (.int (nI Ls) :: st)) : zV G X nL P k n pc lo (.ref bs :: st) := fun H locs ls hP hS hL => va_slen K.1 K.2.1 Y.1 Y.2.1 Y.2.2 hS hd (kk H locs ls hP hS hL)
end ZSC
def zcl (Ls : Nat) (ys : Nat → Int32) (i : Nat) : Int32 := if i < Ls then ys i else 7919 * nI i + 12
def zsm (Ls : Nat) (ys : Nat → Int32) (i m : Nat) : Nat := ((zcl Ls ys i).toUInt32 >>> 3).toNat % m
theorem zsm_lt {Ls : Nat} {ys : Nat → Int32} {i m : Nat} (h : 0 < m) : zsm Ls ys i m < m := Nat.mod_lt _ h
theorem zsm_eq (c : Int32) {m : Nat} (hm : 0 < m) (h31 : m < 2 ^ 31) : (c.toUInt32 >>> ((3 : Int32).toUInt32 &&& Int32.toUInt32 31)).toInt32 - (c.toUInt32 >>> ((3 : Int32).toUInt32 &&& Int32.toUInt32 31)).toInt32 / nI m * nI m = nI ((c.toUInt32 >>> 3).toNat % m) := by
  have e3 : (3 : Int32).toUInt32 &&& Int32.toUInt32 31 = 3 := by decide
  rw [e3]
  have hlt : (c.toUInt32 >>> 3).toNat < 2 ^ 29 := by
    rw [UInt32.toNat_shiftRight]
    have := c.toUInt32.toNat_lt
    show _ >>> 3 < _
    rw [Nat.shiftRight_eq_div_pow]
    omega
  have hx : (c.toUInt32 >>> 3).toInt32 = nI (c.toUInt32 >>> 3).toNat := by
    apply Int32.toBitVec_inj.mp
    apply BitVec.eq_of_toNat_eq
    show (c.toUInt32 >>> 3).toNat = (BitVec.ofNat 32 (c.toUInt32 >>> 3).toNat).toNat
    rw [BitVec.toNat_ofNat]
    exact (Nat.mod_eq_of_lt (by omega)).symm
  rw [hx]
  generalize (c.toUInt32 >>> 3).toNat = w at hlt
  have hw : (nI w).toInt = w := nI_toInt (by omega)
  have hmI : (nI m).toInt = m := nI_toInt h31
  have hdm := Nat.div_add_mod w m
  have hq : (nI w / nI m) = nI (w / m) := by
    apply Int32.toInt_inj.mp
    rw [Int32.toInt_div, hw, hmI, nI_toInt (Nat.lt_of_le_of_lt (Nat.div_le_self _ _) (by omega))]
    have : ((w : Int).tdiv (m : Int)) = ((w / m : Nat) : Int) := rfl
    rw [this]
    have h1 := Nat.div_le_self w m
    generalize w / m = z9 at h1 ⊢
    exact Int.bmod_eq_of_le (by omega) (by omega)
  rw [hq]
  have hmul : nI (w / m) * nI m = nI (w / m * m) := (Int32.ofNat_mul _ _).symm
  rw [hmul]
  have hle : w / m * m ≤ w := Nat.div_mul_le_self w m
  have hsub : nI w = nI (w % m) + nI (w / m * m) := by
    have : nI (w % m) + nI (w / m * m) = nI (w % m + w / m * m) := (Int32.ofNat_add _ _).symm
    rw [this]
    congr 1
    rw [Nat.mul_comm] 
    omega
  rw [hsub, Int32.add_sub_cancel]
theorem c_cell {G : zG} {bs Ls : Nat} {ys : Nat → Int32} {P : Heap → Prop} (hL : Ls ≤ 260) (i : Nat) (hi : i < 2 ^ 30) : zCS G bs Ls ys yL_cell cL_cell 2 (some .int) 0 0 0 0 [.ref bs, .int (nI i)] P (some (.int (zcl Ls ys i))) P := by
  refine zCS_of (by decide) (Nat.le_of_ble_eq_true rfl) (fun X K E Y => ?_)
  show zV G X 2 P 0 0 0 [(0, .ref bs), (1, .int (nI i))] []
  refine zi_iload_n K (dL_cell 0 rfl) 1 rfl ?_
  refine zi_aload_n K (dL_cell 1 rfl) 0 rfl ?_
  refine zi_slen K Y (dL_cell 2 rfl) ?_
  refine zi_icmp_ge K 12 (dL_cell 3 rfl) rfl (fun h => ?_) (fun h => ?_)
  · have hn : ¬ i < Ls := fun h9 => absurd ((nI_leI (by omega) (by omega)).mp h) (by omega)
    refine zi_sipush K (dL_cell 8 rfl) (x := 7919) (by decide) ?_
    refine zi_iload_n K (dL_cell 9 rfl) 1 rfl ?_
    refine zi_imul K (dL_cell 10 rfl) ?_
    refine zi_bipush K (dL_cell 11 rfl) (x := 12) (by decide) ?_
    refine zi_iadd K (dL_cell 12 rfl) ?_
    exact zi_iret K E (dL_cell 13 rfl) (Nat.le_refl _) (Nat.le_refl _) (by unfold zcl; rw [if_neg hn]) (fun _ h => h)
  · have hn : i < Ls := Nat.not_le.mp fun h9 => h ((nI_leI (by omega) (by omega)).mpr h9)
    refine zi_aload_n K (dL_cell 4 rfl) 0 rfl ?_
    refine zi_iload_n K (dL_cell 5 rfl) 1 rfl ?_
    refine zi_sld K Y hn (by omega) (dL_cell 6 rfl) ?_
    refine zi_goto K 20 (dL_cell 7 rfl) rfl ?_
    exact zi_iret K E (dL_cell 13 rfl) (Nat.le_refl _) (Nat.le_refl _) (by unfold zcl; rw [if_pos hn]) (fun _ h => h)
theorem c_some {G : zG} {bs Ls : Nat} {ys : Nat → Int32} {P : Heap → Prop} (hL : Ls ≤ 260) (i m : Nat) (hi : i < 2 ^ 30) (hm : 0 < m) (h31 : m < 2 ^ 31) : zCS G bs Ls ys yL_some cL_some 3 (some .int) 1 21 0 0 [.ref bs, .int (nI i), .int (nI m)] P (some (.int (nI (zsm Ls ys i m)))) P := by
  refine zCS_of (by decide) (Nat.le_of_ble_eq_true rfl) (fun X K E Y => ?_)
  show zV G X 3 P 0 0 0 [(0, .ref bs), (1, .int (nI i)), (2, .int (nI m))] []
  refine zi_aload_n K (dL_some 0 rfl) 0 rfl ?_
  refine zi_iload_n K (dL_some 1 rfl) 1 rfl ?_
  refine zi_callSS K (na := 2) (As := [.ref bs, .int (nI i)]) [] [.int (zcl Ls ys i)] Y (c_cell hL i hi) (dL_some 2 rfl) w_659 w_660 w_24 w_661 (by decide +kernel) rfl (fun _ h => h) ⟨Nat.le_of_ble_eq_true rfl, Nat.le_of_ble_eq_true rfl⟩ ⟨Nat.le_refl _, Nat.le_refl _⟩ (Nat.le_of_ble_eq_true rfl) rfl rfl ?_
  refine zi_iconst K (dL_some 3 rfl) zk_i3 ?_
  refine zi_iushr K (dL_some 4 rfl) rfl ?_
  refine zi_iload_n K (dL_some 5 rfl) 2 rfl ?_
  refine zi_irem K (dL_some 6 rfl) (fun h => by have := congrArg Int32.toInt h; rw [nI_toInt h31] at this; have e0 : (0 : Int32).toInt = 0 := rfl; omega) ?_
  exact zi_iret K E (dL_some 7 rfl) (Nat.le_refl _) (Nat.le_refl _) (by rw [zsm_eq _ hm h31]; rfl) (fun _ h => h)
