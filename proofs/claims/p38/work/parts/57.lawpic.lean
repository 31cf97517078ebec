/-! the law's own picture: the object's state σ, the array over (cell o, content f), the room used so far (B: throws) -/
def zLo (G : zG) (o a : Nat) (σ : zSt) (f : Nat → Int32) (H : Heap) : Prop := (∃ ad : Nat → Nat → Nat, ad 0 0 = a ∧ zP (zGo G o) ad σ H) ∧ va_at G.2.2.1 zCl (o, .inl (G.2.2.2.1 2, 8, .inl f)) H ∧ gA G o
def zLw (G : zG) (o a : Nat) (σ : zSt) (f : Nat → Int32) (B : Nat) (k n : Nat) (H : Heap) : Prop := (k ≤ sgc σ + B ∧ n ≤ sgs σ + 6 * B) ∧ zLo G o a σ f H
theorem zP_keep {G : zG} {o : Nat} {ad : Nat → Nat → Nat} {σ : zSt} {H H1 : Heap} (h : zP (zGo G o) ad σ H) (hq : ∀ q, q ≠ o → H1[q]? = H[q]?) : zP (zGo G o) ad σ H1 := by
  obtain ⟨aa, h⟩ := h
  exact ⟨aa, bZ_ok.2 aa H H1 h (fun q hq9 => by
    obtain ⟨kd, ix, hl, e⟩ := hq9
    exact hq q (fun z => (h.1 kd ix hl).2.2 (e.trans z)))⟩
/-- what a call does to the law's state -/
def zWd (σ σ' : zSt) (dB mc ms : Nat) : Prop := mc + sgc σ ≤ sgc σ' + dB ∧ ms + sgs σ ≤ sgs σ' + 6 * dB
def zWS (G : zG) (o a : Nat) (σ σ' : zSt) (y : MethodName) (cc : ByteArray) (maxL : Nat) (ret : Option FieldType) (hh : List (Nat × Nat × Nat × Nat)) (fr lc dB : Nat) (av : List Value) (rv : Option Value) : Prop :=
  ∀ ad : Nat → Nat → Nat, ad 0 0 = a → ∃ (Qp : Heap → Prop) (mc ms : Nat), zWd σ σ' dB mc ms ∧ zCW (zGo G o) y cc maxL ret hh fr lc mc ms av (zP (zGo G o) ad σ) rv Qp ∧ ∀ H, Qp H → ∃ ad' : Nat → Nat → Nat, ad' 0 0 = a ∧ zP (zGo G o) ad' σ' H
def zWV (G : zG) (o a : Nat) (σ σ' : zSt) (y : MethodName) (cc : ByteArray) (maxL : Nat) (ret : Option FieldType) (fr lc dB : Nat) (av : List Value) (rv : Option Value) : Prop :=
  ∀ ad : Nat → Nat → Nat, ad 0 0 = a → ∃ (Qp : Heap → Prop) (mc ms : Nat), zWd σ σ' dB mc ms ∧ zC (zGo G o) y cc maxL ret fr lc mc ms (.ref a :: av) (zP (zGo G o) ad σ) rv Qp ∧ ∀ H, Qp H → ∃ ad' : Nat → Nat → Nat, ad' 0 0 = a ∧ zP (zGo G o) ad' σ' H
section ZLW
variable {G : zG} {X : zX} {cc : ByteArray} {own : String} {nL : Nat} {ret : Option FieldType} {rm : Room} {pc : Nat} {lo : List (Nat × Value)} {st : List Value} {o a : Nat} {σ : zSt} {f : Nat → Int32} {B : Nat}
theorem zw_callSW (K : zK G X cc own nL ret rm) {σ' : zSt} {y : MethodName} {bytes : ByteArray} {maxL fr lc dB idx : Nat} {r' : Option FieldType} {hh : List (Nat × Nat × Nat × Nat)} {As : List Value} {rv : Option Value} {stk : List Value} {na : Nat} (st nst : List Value)
    (hM : zWS G o a σ σ' y bytes maxL r' hh fr lc dB As rv) (hd : decode cc pc = .ok (.invokestatic idx, 3)) (w1 : Cond.methodLink own idx y ∈ zB) (w2 : Cond.static y ∈ zB) (w4 : Cond.initialized y.cls ∈ zB) (w5 : Cond.codeWith y bytes maxL r' hh ∈ zB)
    (hy : y.cls ≠ "java/lang/invoke/MethodHandle" ∧ y.cls ≠ "java/lang/invoke/VarHandle" ∧ (parseMethodDescriptor y.desc).map (fun d => d.parameters.length) = some na) (hna : As.length = na)
    (hR : fr + 1 ≤ rm.frames ∧ 8 + (maxL + 11) + lc ≤ rm.locals) (hB : sgc σ' + (B + dB) ≤ rm.cells ∧ sgs σ' + 6 * (B + dB) ≤ rm.slots) (hst : (st.map fun v => v.category).sum ≤ 8) (hs : stk = As.reverse ++ st) (hns : rv.toList ++ st = nst)
    (kk : zVf G X nL (zLw G o a σ' f (B + dB)) (pc + 3) lo nst) : zVf G X nL (zLw G o a σ f B) pc lo stk := fun k n H locs ls hP hS hL => by
  obtain ⟨hk, ⟨ad, ha, hz⟩, hov, hA⟩ := hP
  obtain ⟨Qp, mc, ms, ⟨h1, h2⟩, hM, hQ⟩ := hM ad ha
  refine zi_callSWg (P := fun H9 => H9 = H) K st nst o hM hd w1 w2 w4 w5 hy hna (fun H9 h => ⟨h ▸ hz, h ▸ hov.lt⟩) hR ⟨by omega, by omega⟩ hst hs hns ?_ H locs ls rfl hS hL
  refine zV.imp (fun H1 h => ?_) (kk (k + mc) (n + ms))
  obtain ⟨h3, H9, rfl, h4, -⟩ := h
  exact ⟨⟨by omega, by omega⟩, hQ H1 h3, hov.kept h4, hA⟩
theorem zw_callV (K : zK G X cc own nL ret rm) {σ' : zSt} {y : MethodName} {bytes : ByteArray} {maxL fr lc dB idx : Nat} {r' : Option FieldType} {As : List Value} {rv : Option Value} {stk : List Value} {na : Nat} (st nst : List Value)
    (hM : zWV G o a σ σ' y bytes maxL r' fr lc dB As rv) (hd : decode cc pc = .ok (.invokevirtual idx, 3)) (w1 : Cond.methodLink own idx y ∈ zB) (w2 : Cond.instanceMethod y ∈ zB) (w3 : Cond.selects y.cls y y ∈ zB) (w4 : Cond.initialized y.cls ∈ zB) (w5 : Cond.code y bytes maxL r' ∈ zB)
    (hy : y.cls ≠ "java/lang/invoke/MethodHandle" ∧ y.cls ≠ "java/lang/invoke/VarHandle" ∧ (parseMethodDescriptor y.desc).map (fun d => d.parameters.length) = some na) (hna : As.length = na) (hO : y.cls = RX8)
    (hR : fr + 1 ≤ rm.frames ∧ 8 + (maxL + 11) + lc ≤ rm.locals) (hB : sgc σ' + (B + dB) ≤ rm.cells ∧ sgs σ' + 6 * (B + dB) ≤ rm.slots) (hst : (st.map fun v => v.category).sum ≤ 8) (hs : stk = As.reverse ++ .ref a :: st) (hns : rv.toList ++ st = nst)
    (kk : zVf G X nL (zLw G o a σ' f (B + dB)) (pc + 3) lo nst) : zVf G X nL (zLw G o a σ f B) pc lo stk := fun k n H locs ls hP hS hL => by
  obtain ⟨hk, ⟨ad, ha, hz⟩, hov, hA⟩ := hP
  obtain ⟨Qp, mc, ms, ⟨h1, h2⟩, hM, hQ⟩ := hM ad ha
  refine zi_callVg (P := fun H9 => H9 = H) K st nst o hM hd w1 w2 w3 w4 w5 hy hna (fun H9 h => ?_) (fun H9 h => ⟨h ▸ hz, h ▸ hov.lt⟩) hR ⟨by omega, by omega⟩ hst hs hns ?_ H locs ls rfl hS hL
  · subst h
    have h9 : va_at G.2.2.1 zCl (ad 0 0, zqO ad σ 0) H9 := (zr_O (G := zGo G o) (σ := σ) rfl H9 hz).1
    rw [hO, ← ha]
    exact zi_recv K h9 rfl
  · refine zV.imp (fun H1 h => ?_) (kk (k + mc) (n + ms))
    obtain ⟨h3, H9, rfl, h4, -⟩ := h
    exact ⟨⟨by omega, by omega⟩, hQ H1 h3, hov.kept h4, hA⟩
/-- kept, in the law -/
theorem zw_kept (K : zK G X cc own nL ret rm) {idx L T : Nat} {cmt : Int64} {stk : List Value} (st nst : List Value)
    (hw : zW σ) (hm : zKM (s_settle σ) L T cmt) (hd : decode cc pc = .ok (.invokestatic idx, 3)) (w1 : Cond.methodLink own idx yL_kept ∈ zB)
    (hR : 20 ≤ rm.frames ∧ 571 ≤ rm.locals) (hB : sgc (s_settle σ) + (B + 24) ≤ rm.cells ∧ sgs (s_settle σ) + 6 * (B + 24) ≤ rm.slots) (hst : (st.map fun v => v.category).sum ≤ 8) (hs : stk = .long cmt :: .int (nI T) :: .int (nI L) :: .ref a :: st) (hns : .int 1 :: st = nst)
    (kk : ∀ ρ, zW ρ → zPo ρ (s_settle σ) → zVf G X nL (zLw G o a ρ f (B + 24)) (pc + 3) lo nst) : zVf G X nL (zLw G o a σ f B) pc lo stk := fun k n H locs ls hP hS hL => by
  obtain ⟨hk, hz, hov, hA⟩ := hP
  have hle := (settle_W hw).2.2.1
  refine zi_callSg (P := fun H9 => H9 = H) (na := 4) (As := [.ref a, .int (nI L), .int (nI T), .long cmt]) K st nst o (c_kept (G := zGo G o) (a := a) L T cmt hw rfl hm rfl rfl) hd w1 w_1398 w_24 w_1399 (by decide +kernel) rfl (fun H9 h => ⟨h ▸ hz, h ▸ hov.lt⟩) ⟨by omega, by omega⟩ ⟨by omega, by omega⟩ hst hs hns ?_ H locs ls rfl hS hL
  intro H1 locs1 ls1 hP1 hS1 hL1
  obtain ⟨⟨ad, ρ, ha, hwρ, hρ, hz1⟩, H9, rfl, h4, -⟩ := hP1
  have e1 : sgc ρ = sgc (s_settle σ) := congrArg (fun z => z.2.2.2.2.2.2.1) hρ.2.1
  have e2 : sgs ρ = sgs (s_settle σ) := congrArg (fun z => z.2.2.2.2.2.2.2) hρ.2.1
  exact kk ρ hwρ hρ _ _ H1 locs1 ls1 ⟨⟨by omega, by omega⟩, ⟨ad, ha, hz1⟩, hov.kept h4, hA⟩ hS1 hL1
theorem zw_bald (K : zK G X cc own nL ret rm) (i : Nat) (hi : i < 8) (hd : decode cc pc = .ok (.baload, 1)) (kk : zVf G X nL (zLw G o a σ f B) (pc + 1) lo (.int (f i) :: st)) : zVf G X nL (zLw G o a σ f B) pc lo (.int (nI i) :: .ref o :: st) := fun k n =>
  zi_zald (f := f) K (fun H h => h.2.2.1) i rfl hi (Nat.le_of_ble_eq_true rfl) hd (kk k n)
theorem zw_bast (K : zK G X cc own nL ret rm) (i : Nat) (hi : i < 8) {v : Int32} (hz : narrow .boolean (.int v) = .int v) (hd : decode cc pc = .ok (.bastore, 1)) (kk : zVf G X nL (zLw G o a σ (upd f i v) B) (pc + 1) lo st) : zVf G X nL (zLw G o a σ f B) pc lo (.int v :: .int (nI i) :: .ref o :: st) := fun k n =>
  zi_zast (f := f) K (fun H h => ⟨h.2.2.1, h.2.2.2⟩) i rfl hi (Nat.le_of_ble_eq_true rfl) hz hd (fun H H1 h hat hsz hq => by
    obtain ⟨hk, ⟨ad, ha, hp⟩, -, hA⟩ := h
    exact ⟨hk, ⟨ad, ha, zP_keep hp hq⟩, hat, hA⟩) (kk k n)
end ZLW
