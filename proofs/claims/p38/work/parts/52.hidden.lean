/-! a picture whose state is hidden: what stands is what settling gives -/
def zVf (G : zG) (X : zX) (nL : Nat) (P : Nat → Nat → Heap → Prop) (pc : Nat) (lo : List (Nat × Value)) (st : List Value) : Prop := ∀ k n, zV G X nL (P k n) k n pc lo st
def zT (G : zG) (a : Nat) (τ : zSt) (s B C : Nat) (k n : Nat) (H : Heap) : Prop := ∃ (ad : Nat → Nat → Nat) (ρ : zSt), ad 0 0 = a ∧ zW ρ ∧ zPo (s_settle ρ) τ ∧ (0 < s → zPo ρ τ) ∧ (k + (sgc τ - sgc ρ) ≤ B ∧ n + (sgs τ - sgs ρ) ≤ C) ∧ zP G ad ρ H
/-- a call on the hidden state: from s to s', dB cells more -/
def zKr (ρ ρ' τ : zSt) (s s' dB mc ms : Nat) : Prop := zW ρ' ∧ zPo (s_settle ρ') τ ∧ (0 < s' → zPo ρ' τ) ∧ mc + (sgc τ - sgc ρ') ≤ (sgc τ - sgc ρ) + dB ∧ ms + (sgs τ - sgs ρ') ≤ (sgs τ - sgs ρ) + 6 * dB
def zKS (G : zG) (a : Nat) (τ : zSt) (s s' : Nat) (y : MethodName) (cc : ByteArray) (maxL : Nat) (ret : Option FieldType) (hh : List (Nat × Nat × Nat × Nat)) (fr lc dB : Nat) (av : List Value) (rv : Option Value) : Prop :=
  ∀ (ad : Nat → Nat → Nat) (ρ : zSt), ad 0 0 = a → zW ρ → zPo (s_settle ρ) τ → (0 < s → zPo ρ τ) → ∃ ρ' mc ms, zKr ρ ρ' τ s s' dB mc ms ∧ zCW G y cc maxL ret hh fr lc mc ms av (zP G ad ρ) rv (zP G ad ρ')
def zKV (G : zG) (a : Nat) (τ : zSt) (s s' : Nat) (y : MethodName) (cc : ByteArray) (maxL : Nat) (ret : Option FieldType) (fr lc dB : Nat) (av : List Value) (rv : Option Value) : Prop :=
  ∀ (ad : Nat → Nat → Nat) (ρ : zSt), ad 0 0 = a → zW ρ → zPo (s_settle ρ) τ → (0 < s → zPo ρ τ) → ∃ ρ' mc ms, zKr ρ ρ' τ s s' dB mc ms ∧ zC G y cc maxL ret fr lc mc ms (.ref a :: av) (zP G ad ρ) rv (zP G ad ρ')
section ZKC
variable {G : zG} {X : zX} {cc : ByteArray} {own : String} {nL : Nat} {ret : Option FieldType} {rm : Room} {pc : Nat} {lo : List (Nat × Value)} {st : List Value} {a : Nat} {τ : zSt}
theorem zk_callSW (K : zK G X cc own nL ret rm) {s s' B C : Nat} {y : MethodName} {bytes : ByteArray} {maxL fr lc dB idx : Nat} {r' : Option FieldType} {hh : List (Nat × Nat × Nat × Nat)} {As : List Value} {rv : Option Value} {stk : List Value} {na : Nat} (st nst : List Value)
    (hM : zKS G a τ s s' y bytes maxL r' hh fr lc dB As rv) (hd : decode cc pc = .ok (.invokestatic idx, 3)) (w1 : Cond.methodLink own idx y ∈ zB) (w2 : Cond.static y ∈ zB) (w4 : Cond.initialized y.cls ∈ zB) (w5 : Cond.codeWith y bytes maxL r' hh ∈ zB)
    (hy : y.cls ≠ "java/lang/invoke/MethodHandle" ∧ y.cls ≠ "java/lang/invoke/VarHandle" ∧ (parseMethodDescriptor y.desc).map (fun d => d.parameters.length) = some na) (hna : As.length = na)
    (hR : fr + 1 ≤ rm.frames ∧ 8 + (maxL + 11) + lc ≤ rm.locals) (hB : B + dB ≤ rm.cells ∧ C + 6 * dB ≤ rm.slots) (hst : (st.map fun v => v.category).sum ≤ 8) (hs : stk = As.reverse ++ st) (hns : rv.toList ++ st = nst)
    (kk : zVf G X nL (zT G a τ s' (B + dB) (C + 6 * dB)) (pc + 3) lo nst) : zVf G X nL (zT G a τ s B C) pc lo stk := fun k n H locs ls hP hS hL => by
  obtain ⟨ad, ρ, ha, hw, he, h0, hk, hz⟩ := hP
  obtain ⟨ρ', mc, ms, ⟨hw', he', h0', h1, h2⟩, hM⟩ := hM ad ρ ha hw he h0
  refine zi_callSW K st nst hM hd w1 w2 w4 w5 hy hna (fun _ h => h) hR ⟨by omega, by omega⟩ hst hs hns ?_ H locs ls hz hS hL
  exact zV.imp (fun H h => ⟨ad, ρ', ha, hw', he', h0', ⟨by omega, by omega⟩, h⟩) (kk (k + mc) (n + ms))
theorem zk_callV (K : zK G X cc own nL ret rm) {s s' B C : Nat} {y : MethodName} {bytes : ByteArray} {maxL fr lc dB idx : Nat} {r' : Option FieldType} {As : List Value} {rv : Option Value} {stk : List Value} {na : Nat} (st nst : List Value)
    (hM : zKV G a τ s s' y bytes maxL r' fr lc dB As rv) (hd : decode cc pc = .ok (.invokevirtual idx, 3)) (w1 : Cond.methodLink own idx y ∈ zB) (w2 : Cond.instanceMethod y ∈ zB) (w3 : Cond.selects y.cls y y ∈ zB) (w4 : Cond.initialized y.cls ∈ zB) (w5 : Cond.code y bytes maxL r' ∈ zB)
    (hy : y.cls ≠ "java/lang/invoke/MethodHandle" ∧ y.cls ≠ "java/lang/invoke/VarHandle" ∧ (parseMethodDescriptor y.desc).map (fun d => d.parameters.length) = some na) (hna : As.length = na) (hO : y.cls = RX8)
    (hR : fr + 1 ≤ rm.frames ∧ 8 + (maxL + 11) + lc ≤ rm.locals) (hB : B + dB ≤ rm.cells ∧ C + 6 * dB ≤ rm.slots) (hst : (st.map fun v => v.category).sum ≤ 8) (hs : stk = As.reverse ++ .ref a :: st) (hns : rv.toList ++ st = nst)
    (kk : zVf G X nL (zT G a τ s' (B + dB) (C + 6 * dB)) (pc + 3) lo nst) : zVf G X nL (zT G a τ s B C) pc lo stk := fun k n H locs ls hP hS hL => by
  obtain ⟨ad, ρ, ha, hw, he, h0, hk, hz⟩ := hP
  obtain ⟨ρ', mc, ms, ⟨hw', he', h0', h1, h2⟩, hM⟩ := hM ad ρ ha hw he h0
  refine zi_callV K st nst hM hd w1 w2 w3 w4 w5 hy hna (fun H h => ?_) (fun _ h => h) hR ⟨by omega, by omega⟩ hst hs hns ?_ H locs ls hz hS hL
  · rw [hO, ← ha]
    exact zi_recv K (zr_O (σ := ρ) rfl H h).1 rfl
  · exact zV.imp (fun H h => ⟨ad, ρ', ha, hw', he', h0', ⟨by omega, by omega⟩, h⟩) (kk (k + mc) (n + ms))
theorem zVf.wk {s s' B B' C C' : Nat} (hs : 0 < s → 0 < s') (hB : B' ≤ B ∧ C' ≤ C) (kk : zVf G X nL (zT G a τ s B C) pc lo st) : zVf G X nL (zT G a τ s' B' C') pc lo st := fun k n => zV.imp (fun H h => by
  obtain ⟨ad, ρ, ha, hw, he, h0, hk, hz⟩ := h
  exact ⟨ad, ρ, ha, hw, he, fun q => h0 (hs q), ⟨by omega, by omega⟩, hz⟩) (kk k n)
theorem zVf.pick {P : Nat → Nat → Heap → Prop} (ks : List Nat) {lo' : List (Nat × Value)} (h : lv_pick lo ks = lo') (kk : zVf G X nL P pc lo' st) : zVf G X nL P pc lo st := fun k n => zV.pick ks h (kk k n)
/-- what is left behind: the hidden state, settled -/
def zTe (G : zG) (a : Nat) (τ : zSt) (H : Heap) : Prop := ∃ (ad : Nat → Nat → Nat) (ρ : zSt), ad 0 0 = a ∧ zW ρ ∧ zPo ρ τ ∧ zP G ad ρ H
theorem zk_zret (K : zK G X cc own nL (some .boolean) rm) {s B C mc ms : Nat} {v : Int32} (E : zE G X mc ms (some (.int v)) (zTe G a τ)) (hd : decode cc pc = .ok (.ireturn, 1)) (hB : B ≤ mc ∧ C ≤ ms) (h0 : 0 < s) (hv : narrow .boolean (.int v) = .int v) : zVf G X nL (zT G a τ s B C) pc lo [.int v] := fun k n H locs ls hP hS hL => by
  obtain ⟨ad, ρ, ha, hw, he, h1, hk, hz⟩ := hP
  exact zi_zret (P := zP G ad ρ) K E hd (by omega) (by omega) rfl hv (fun H h => ⟨ad, ρ, ha, hw, h1 h0, h⟩) H locs ls hz hS hL
end ZKC
theorem settle_idem {σ : zSt} (h : ¬ sI σ 35 0 0 = 0) : s_settle σ = σ := by
  unfold s_settle
  rw [if_neg h]
theorem settle_flag (σ : zSt) : ¬ sI (s_settle σ) 35 0 0 = 0 := by
  unfold s_settle
  by_cases h : sI σ 35 0 0 = 0
  · rw [if_pos h]
    show ¬ u3 (s_run σ 0 (-1)).1 35 0 0 1 35 0 0 = 0
    unfold u3
    rw [if_pos ⟨rfl, rfl, rfl⟩]
    decide
  · rw [if_neg h]
    exact h
theorem settle2 (σ : zSt) : s_settle (s_settle σ) = s_settle σ := settle_idem (settle_flag σ)
theorem zPo.settled {ρ τ : zSt} (h : zPo ρ (s_settle τ)) : s_settle ρ = ρ := settle_idem (by rw [show sI ρ = sI (s_settle τ) from h.1]; exact settle_flag τ)
theorem zKr.settle {ρ τ : zSt} (s : Nat) (hw : zW ρ) (he : zPo (s_settle ρ) τ) : zKr ρ (s_settle ρ) τ s 1 0 (sgc (s_settle ρ) - sgc ρ) (sgs (s_settle ρ) - sgs ρ) := by
  have e1 : sgc (s_settle ρ) = sgc τ := congrArg (fun z => z.2.2.2.2.2.2.1) he.2.1
  have e2 : sgs (s_settle ρ) = sgs τ := congrArg (fun z => z.2.2.2.2.2.2.2) he.2.1
  refine ⟨(settle_W hw).1, by rw [settle2]; exact he, fun _ => he, ?_, ?_⟩
  · rw [e1]; omega
  · rw [e2]; omega
theorem settlePool_po (ρ : zSt) : zPo (s_settlePool ρ) (s_settle ρ) := by
  unfold s_settlePool s_spLoop
  exact (rings_po _).trans (spI_po 5)
theorem zKr.pool {ρ τ : zSt} (s : Nat) (hw : zW ρ) (he : zPo (s_settle ρ) τ) : zKr ρ (s_settlePool ρ) τ s 1 0 (sgc (s_settlePool ρ) - sgc ρ) (sgs (s_settlePool ρ) - sgs ρ) := by
  have hp := settlePool_po ρ
  have hf : s_settle (s_settlePool ρ) = s_settlePool ρ := hp.settled
  obtain ⟨g1, g2⟩ := settlePool_gc ρ
  have e1 : sgc (s_settle ρ) = sgc τ := congrArg (fun z => z.2.2.2.2.2.2.1) he.2.1
  have e2 : sgs (s_settle ρ) = sgs τ := congrArg (fun z => z.2.2.2.2.2.2.2) he.2.1
  refine ⟨(settlePool_W hw).1, by rw [hf]; exact hp.trans he, fun _ => hp.trans he, ?_, ?_⟩
  · rw [g1, e1]; omega
  · rw [g2, e2]; omega
theorem zKr.same {ρ τ : zSt} {s dB mc ms : Nat} (hw : zW ρ) (he : zPo (s_settle ρ) τ) (h0 : 0 < s → zPo ρ τ) (h1 : mc ≤ dB) (h2 : ms ≤ 6 * dB) : zKr ρ ρ τ s s dB mc ms := ⟨hw, he, h0, by omega, by omega⟩
theorem zT_N {ρ τ : zSt} (hw : zW ρ) (he : zPo (s_settle ρ) τ) (q : Nat) : sN τ q = sN ρ q := by
  have h1 : sN (s_settle ρ) = sN τ := congrArg (fun z => z.2.2.2.2.1) he.2.1
  rw [← h1, (settle_W hw).2.1.1]
theorem zT_L {ρ τ : zSt} (he : zPo (s_settle ρ) τ) {t : Nat} (ht : ¬ zPool t) : sL (s_settle ρ) t = sL τ t := he.2.2.1 t ht
theorem zT_I {ρ τ : zSt} (hw : zW ρ) (he : zPo (s_settle ρ) τ) {t : Nat} (ht : zsT t) (o e : Nat) : sI τ t o e = sI ρ t o e := by
  have h1 : sI (s_settle ρ) = sI τ := he.1
  rw [← h1]
  exact (settle_W hw).2.2.2.1 t ht o e
theorem zPool_n {t : Nat} (h : t < 9 ∨ 13 < t) : ¬ zPool t := by unfold zPool; omega
/-- the pool, settled anew -/
def zpo (τ : zSt) : zSt := s_rings (s_spLoop τ)
theorem settlePool_v {ρ τ : zSt} (hw : zW ρ) (he : zPo (s_settle ρ) τ) {r : Nat} (hr : r < 5) : sL (s_settlePool ρ) 10 0 r = sL (zpo τ) 10 0 r := by
  have hx : zRx (s_spLoop (s_settle ρ)) := fun i hi => by
    have h1 := (spLoop_W (settle_W hw).1).1.2.2.1.2.2.2.1
    exact (h1 i hi).2
  have h := rings_pr (spLoop_pr he) hx
  have h2 := h.2.2.2 10 (Or.inr (Or.inl rfl)) r hr
  unfold s_settlePool zpo
  exact h2
theorem k_left {G : zG} {a : Nat} {τ : zSt} {s : Nat} (k : Nat) (hk : k < sN τ 1) : zKS G a τ s 1 yL_left cL_left 3 (some FieldType.long) [(0, 5, 6, 28)] 15 425 0 ([.ref a, .int (nI k)] : List Value) (some (.long (sL τ 0 k 0))) := by
  intro ad ρ ha hw he h0
  subst ha
  refine ⟨s_settle ρ, _, _, zKr.settle s hw he, ?_⟩
  have h := l_left (c_left (G := G) (ad := ad) k hw (by rw [← zT_N hw he]; exact hk))
  rw [show v_left ρ k = _ from congrFun (congrFun (zT_L he (t := 0) (zPool_n (by omega))) _) _] at h
  exact h
theorem k_taken {G : zG} {a : Nat} {τ : zSt} {s : Nat} (t : Nat) (ht : t < sN τ 2) : zKS G a τ s 1 yL_taken cL_taken 3 (some FieldType.long) [(0, 5, 6, 28)] 15 424 0 ([.ref a, .int (nI t)] : List Value) (some (.long (sL τ 3 t 0))) := by
  intro ad ρ ha hw he h0
  subst ha
  refine ⟨s_settle ρ, _, _, zKr.settle s hw he, ?_⟩
  have h := l_taken (c_taken (G := G) (ad := ad) t hw (by rw [← zT_N hw he]; exact ht))
  rw [show v_taken ρ t = _ from congrFun (congrFun (zT_L he (t := 3) (zPool_n (by omega))) _) _] at h
  exact h
theorem k_takenFrom {G : zG} {a : Nat} {τ : zSt} {s : Nat} (t k : Nat) (ht : t < sN τ 2) (hk : k < sN τ 1) : zKS G a τ s 1 yL_takenFrom cL_takenFrom 4 (some FieldType.long) [(0, 6, 7, 28)] 15 427 0 ([.ref a, .int (nI t), .int (nI k)] : List Value) (some (.long (sL τ 1 k t))) := by
  intro ad ρ ha hw he h0
  subst ha
  refine ⟨s_settle ρ, _, _, zKr.settle s hw he, ?_⟩
  have h := l_takenFrom (c_takenFrom (G := G) (ad := ad) t k hw (by rw [← zT_N hw he]; exact ht) (by rw [← zT_N hw he]; exact hk))
  rw [show v_takenFrom ρ t k = _ from congrFun (congrFun (zT_L he (t := 1) (zPool_n (by omega))) _) _] at h
  exact h
theorem k_reinstated {G : zG} {a : Nat} {τ : zSt} {s : Nat} (t : Nat) (ht : t < sN τ 2) : zKS G a τ s 1 yL_reinstated cL_reinstated 3 (some FieldType.long) [(0, 5, 6, 28)] 15 424 0 ([.ref a, .int (nI t)] : List Value) (some (.long (sL τ 4 t 0))) := by
  intro ad ρ ha hw he h0
  subst ha
  refine ⟨s_settle ρ, _, _, zKr.settle s hw he, ?_⟩
  have h := l_reinstated (c_reinstated (G := G) (ad := ad) t hw (by rw [← zT_N hw he]; exact ht))
  rw [show v_reinstated ρ t = _ from congrFun (congrFun (zT_L he (t := 4) (zPool_n (by omega))) _) _] at h
  exact h
theorem k_owed {G : zG} {a : Nat} {τ : zSt} {s : Nat} (t : Nat) (ht : t < sN τ 2) : zKS G a τ s 1 yL_owed cL_owed 3 (some FieldType.long) [(0, 5, 6, 28)] 15 424 0 ([.ref a, .int (nI t)] : List Value) (some (.long (sL τ 5 t 0))) := by
  intro ad ρ ha hw he h0
  subst ha
  refine ⟨s_settle ρ, _, _, zKr.settle s hw he, ?_⟩
  have h := l_owed (c_owed (G := G) (ad := ad) t hw (by rw [← zT_N hw he]; exact ht))
  rw [show v_owed ρ t = _ from congrFun (congrFun (zT_L he (t := 5) (zPool_n (by omega))) _) _] at h
  exact h
def zpd (τ : zSt) (t r : Nat) : Int64 := if sI τ 31 0 r = 0 then v_partOf τ 0 t r else 0
def zls (τ : zSt) (r : Nat) : Int64 := if sI τ 31 0 r = 0 then 0 else v_allPartsOf τ 0 r
def zcm (τ : zSt) (r : Nat) : Int64 := sL (zpo τ) 10 0 r
def zsy (τ : zSt) (r : Nat) : Int64 := zcm τ r - v_handedOn τ r (zcm τ r)
theorem paid_eq {ρ τ : zSt} (he : zPo (s_settle ρ) τ) (t r : Nat) : v_paid ρ t r = zpd τ t r := by
  unfold v_paid zpd
  rw [cg_partOf he, show sI (s_settle ρ) = sI τ from he.1]
theorem lost_eq {ρ τ : zSt} (he : zPo (s_settle ρ) τ) (r : Nat) : v_lost ρ r = zls τ r := by
  unfold v_lost zls
  rw [cg_allPartsOf he, show sI (s_settle ρ) = sI τ from he.1]
theorem comes_eq {ρ τ : zSt} (hw : zW ρ) (he : zPo (s_settle ρ) τ) {r : Nat} (hr : r < 5) : v_comes ρ r = zcm τ r := settlePool_v hw he hr
theorem stays_eq {ρ τ : zSt} (hw : zW ρ) (he : zPo (s_settle ρ) τ) {r : Nat} (hr : r < 5) : v_stays ρ r = zsy τ r := by
  unfold v_stays zsy zcm
  rw [settlePool_v hw he hr, cg_handed ((settlePool_po ρ).trans he)]
theorem k_paid {G : zG} {a : Nat} {τ : zSt} {s : Nat} (t r : Nat) (ht : t < sN τ 2) (hr : r < 5) : zKS G a τ s 1 yL_paid cL_paid 4 (some FieldType.long) [(0, 6, 7, 28)] 15 426 0 ([.ref a, .int (nI t), .int (nI r)] : List Value) (some (.long (zpd τ t r))) := by
  intro ad ρ ha hw he h0
  subst ha
  refine ⟨s_settle ρ, _, _, zKr.settle s hw he, ?_⟩
  have h := l_paid (c_paid (G := G) (ad := ad) t r hw (by rw [← zT_N hw he]; exact ht) hr)
  rw [paid_eq he] at h
  exact h
theorem k_lost {G : zG} {a : Nat} {τ : zSt} {s : Nat} (r : Nat) (hr : r < 5) : zKS G a τ s 1 yL_lost cL_lost 3 (some FieldType.long) [(0, 5, 6, 28)] 15 424 0 ([.ref a, .int (nI r)] : List Value) (some (.long (zls τ r))) := by
  intro ad ρ ha hw he h0
  subst ha
  refine ⟨s_settle ρ, _, _, zKr.settle s hw he, ?_⟩
  have h := l_lost (c_lost (G := G) (ad := ad) r hw hr)
  rw [lost_eq he] at h
  exact h
theorem k_comes {G : zG} {a : Nat} {τ : zSt} {s : Nat} (r : Nat) (hr : r < 5) : zKS G a τ s 1 yL_comes cL_comes 3 (some FieldType.long) [(0, 5, 6, 28)] 18 502 0 ([.ref a, .int (nI r)] : List Value) (some (.long (zcm τ r))) := by
  intro ad ρ ha hw he h0
  subst ha
  refine ⟨s_settlePool ρ, _, _, zKr.pool s hw he, ?_⟩
  have h := l_comes (c_comes (G := G) (ad := ad) r hw hr)
  rw [comes_eq hw he hr] at h
  exact h
theorem k_stays {G : zG} {a : Nat} {τ : zSt} {s : Nat} (r : Nat) (hr : r < 5) : zKS G a τ s 1 yL_stays cL_stays 3 (some FieldType.long) [(0, 5, 6, 28)] 18 502 0 ([.ref a, .int (nI r)] : List Value) (some (.long (zsy τ r))) := by
  intro ad ρ ha hw he h0
  subst ha
  refine ⟨s_settlePool ρ, _, _, zKr.pool s hw he, ?_⟩
  have h := l_stays (c_stays (G := G) (ad := ad) r hw hr)
  rw [stays_eq hw he hr] at h
  exact h
