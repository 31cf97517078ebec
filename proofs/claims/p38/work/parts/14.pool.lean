/-! Pool: rows copied, rounds, rings -/
def zcpr (σ : zSt) (td ts : Nat) : zSt := (σ.1, (fun t o e => if t = td ∧ o = 0 ∧ e < 5 then σ.2.1 ts 0 e else σ.2.1 t o e), σ.2.2)
theorem zcpr_22 (σ : zSt) (td ts : Nat) : (zcpr σ td ts).2.2 = σ.2.2 := rfl
theorem zcpr_1 (σ : zSt) (td ts : Nat) : (zcpr σ td ts).1 = σ.1 := rfl
section ZPL
variable {G : zG} {X : zX} {cc : ByteArray} {own : String} {nL : Nat} {ret : Option FieldType} {rm : Room} {P : Heap → Prop} {k n pc : Nat} {lo : List (Nat × Value)}
theorem zi_acopyl (K : zK G X cc own nL ret rm) {idx a0 a : Nat} {f g : Nat → Int64} {P' : Heap → Prop} (st : List Value) (hw : Cond.methodLink own idx arraycopyName ∈ zB) (hP0 : ∀ H, P H → va_at G.2.2.1 zCl (a0, .inl (G.2.2.2.1 1, 5, .inr (.inl f))) H) (hP1 : ∀ H, P H → va_at G.2.2.1 zCl (a, .inl (G.2.2.2.1 1, 5, .inr (.inl g))) H ∧ gA G a)
    (hR : 1 ≤ rm.frames ∧ (st.map fun v => v.category).sum + 40 ≤ rm.locals) (hd : decode cc pc = .ok (.invokestatic idx, 3))
    (hP' : ∀ H H1 : Heap, P H → va_at G.2.2.1 zCl (a, .inl (G.2.2.2.1 1, 5, .inr (.inl (va_cpy f g 0 0 5)))) H1 → H1.size = H.size → (∀ q, q ≠ a → H1[q]? = H[q]?) → P' H1) (kk : zV G X nL P' k n (pc + 3) lo st) : zV G X nL P k n pc lo (.int 5 :: .int 0 :: .ref a :: .int 0 :: .ref a0 :: st) := fun H locs ls hPH hS hL => by
  obtain ⟨k1, k2, k3, k4, k5, k6, k7, k8, k9, k10, k11⟩ := K
  rw [← k10] at hR
  obtain ⟨hat1, hA⟩ := hP1 H hPH
  have hc0 : H[a0]? = some (vp_cell (G.2.2.2.1 1) (5, .inr (.inl f))) := hP0 H hPH
  have hc1 : H[a]? = some (vp_cell (G.2.2.2.1 1) (5, .inr (.inl g))) := hat1
  obtain ⟨-, kq, hk0, cm0, hkk0⟩ := (k6.1.2 1 _ rfl).1 5 (fun j => .long (f j))
  have c0 : (0 : Int32).toNatClampNeg = 0 := by decide
  have c5 : (5 : Int32).toNatClampNeg = 5 := by decide
  have hnw : nativeFrameWords "java/lang/System" "arraycopy" 5 + 11 ≤ 40 := by decide
  intro T hT Y
  obtain ⟨vm', X', step⟩ := Y.arraycopy k1 k4 (k5 _ hw) (k5 _ w_494) (k5 _ w_493) (k5 _ w_41) (src := a0) (dst := a) (cs := vp_cell (G.2.2.2.1 1) (5, .inr (.inl f))) (cd := vp_cell (G.2.2.2.1 1) (5, .inr (.inl g))) (srcPos := 0) (destPos := 0) (n := 5) (by rw [hT]; exact hc0) (by rw [hT]; exact hc1)
    (fun _ h => by cases h) (fun _ h => by cases h) (fun h => by cases h) (fun h => by cases h) hk0 hk0 hkk0 hkk0 (by simp [refKind]) (by decide) (by decide) (by decide)
    (by show ¬ _ > ((arrV _ 5 (fun j => .long (f j))).slots.size : Int); rw [arrV_size]; decide)
    (by show ¬ _ > ((arrV _ 5 (fun j => .long (g j))).slots.size : Int); rw [arrV_size]; decide)
    (fun vm₁ hal i hi => by
      rw [c5] at hi
      rw [c0]
      have e : (vp_cell (G.2.2.2.1 1) (5, .inr (.inl f))).slots.getD (0 + i) .null = .long (f (0 + i)) := by
        show (arrV _ 5 (fun j => .long (f j))).slots.getD _ _ = _
        rw [Array.getD_eq_getD_getElem?, arrV_read _ _ (by omega)]
        rfl
      rw [e]
      exact ⟨rfl, trivial⟩)
    (g := F0 (xm X) pc ls (.int 5 :: .int 0 :: .ref a :: .int 0 :: .ref a0 :: st)) rfl (hL.1.trans k3.symm) (rest := st) rfl (by rw [k2]; exact hd) hR.1 (by show 2 * 0 + _ + _ ≤ _; omega)
  have e1 : copied (vp_cell (G.2.2.2.1 1) (5, .inr (.inl f))) (vp_cell (G.2.2.2.1 1) (5, .inr (.inl g))) 0 0 5 = vp_cell (G.2.2.2.1 1) (5, .inr (.inl (va_cpy f g 0 0 5))) := by
    have h9 := va_copied (fun z => .long z) (G.2.2.2.1 1) (G.2.2.2.1 1) (n0 := 5) (n1 := 5) (sp := 0) (dp := 0) (n := 5) f g (by omega)
    rw [vp_cell_l, vp_cell_l, vp_cell_l]
    unfold copied
    rw [c0, c5]
    exact h9
  rw [e1] at X' step
  have hl : a < H.size := (Array.getElem?_eq_some_iff.mp hc1).1
  have oq : ∀ q : Nat, q ≠ a → (H.setIfInBounds a (vp_cell (G.2.2.2.1 1) (5, .inr (.inl (va_cpy f g 0 0 5)))))[q]? = H[q]? := fun q hq => by simp [Array.getElem?_setIfInBounds, Ne.symm hq]
  obtain ⟨t, a1, b1'⟩ := kk _ _ ls (hP' H _ hPH (show (H.setIfInBounds a _)[a]? = some _ by simp [Array.getElem?_setIfInBounds, hl]) (by simp) oq) ⟨by simp; exact hS.1, fun q g1 g2 => by
      rw [oq q (fun e => g2 (by rw [e]; exact hA))]
      exact hS.2.1 q g1 g2, fun q hq => by
      rcases List.mem_append.mp hq with h | h
      · exact hS.2.2 q h
      · obtain ⟨z, -, hz⟩ := List.mem_map.mp h
        rw [← hz]
        exact hA⟩ hL _ (by rw [← hT]; rfl) X'
  exact ⟨t, step t a1, b1'⟩
theorem zcp_PCOM_PBEF (K : zK G X cc own nL ret rm) {idx : Nat} {ad : Nat → Nat → Nat} {σ : zSt} (st : List Value) (hw : Cond.methodLink own idx arraycopyName ∈ zB) (hR : 1 ≤ rm.frames ∧ (st.map fun v => v.category).sum + 40 ≤ rm.locals) (hd : decode cc pc = .ok (.invokestatic idx, 3)) (kk : zV G X nL (zP G ad (zcpr σ 13 10)) k n (pc + 3) lo st) : zV G X nL (zP G ad σ) k n pc lo (.int 5 :: .int 0 :: .ref (ad 27 0) :: .int 0 :: .ref (ad 24 0) :: st) :=
  zi_acopyl (f := fun j => sL σ 10 0 j) (g := fun j => sL σ 13 0 j) K st hw (fun H h => (zr_PCOM (ix := 0) rfl H h).1) (zr_PBEF (ix := 0) rfl) hR hd (fun H H1 h ha _ oq => by
    obtain ⟨aa, h⟩ := h
    refine ⟨aa, h.upd (kd := 27) (ix := 0) rfl (fun k x => by rw [zlv_congr (σ' := zcpr σ 13 10) (σ := σ) rfl]) (fun k x hne _ => zct_congr rfl (fun _ _ _ => rfl) (fun t' e' h' => ?_)) ?_ oq⟩
    · exact if_neg (fun q => hne ⟨by rw [← h', q.1]; rfl, q.2.1⟩)
    · show va_at G.2.2.1 zCl (ad 27 0, zqPBEF G (zcpr σ 13 10) 0) H1
      unfold zqPBEF
      rw [show (fun j => sL (zcpr σ 13 10) 13 0 j) = va_cpy (fun j => sL σ 10 0 j) (fun j => sL σ 13 0 j) 0 0 5 from funext fun j => by
        unfold va_cpy
        by_cases e : j < 5
        · rw [if_pos ⟨Nat.zero_le _, by omega⟩, show 0 + (j - 0) = j by omega]
          exact if_pos ⟨rfl, rfl, e⟩
        · rw [if_neg (fun z => e (by omega))]
          exact if_neg (fun z => e z.2.2)]
      exact ha) kk
theorem zcp_POWN_PCOM (K : zK G X cc own nL ret rm) {idx : Nat} {ad : Nat → Nat → Nat} {σ : zSt} (st : List Value) (hw : Cond.methodLink own idx arraycopyName ∈ zB) (hR : 1 ≤ rm.frames ∧ (st.map fun v => v.category).sum + 40 ≤ rm.locals) (hd : decode cc pc = .ok (.invokestatic idx, 3)) (kk : zV G X nL (zP G ad (zcpr σ 10 9)) k n (pc + 3) lo st) : zV G X nL (zP G ad σ) k n pc lo (.int 5 :: .int 0 :: .ref (ad 24 0) :: .int 0 :: .ref (ad 23 0) :: st) :=
  zi_acopyl (f := fun j => sL σ 9 0 j) (g := fun j => sL σ 10 0 j) K st hw (fun H h => (zr_POWN (ix := 0) rfl H h).1) (zr_PCOM (ix := 0) rfl) hR hd (fun H H1 h ha _ oq => by
    obtain ⟨aa, h⟩ := h
    refine ⟨aa, h.upd (kd := 24) (ix := 0) rfl (fun k x => by rw [zlv_congr (σ' := zcpr σ 10 9) (σ := σ) rfl]) (fun k x hne _ => zct_congr rfl (fun _ _ _ => rfl) (fun t' e' h' => ?_)) ?_ oq⟩
    · exact if_neg (fun q => hne ⟨by rw [← h', q.1]; rfl, q.2.1⟩)
    · show va_at G.2.2.1 zCl (ad 24 0, zqPCOM G (zcpr σ 10 9) 0) H1
      unfold zqPCOM
      rw [show (fun j => sL (zcpr σ 10 9) 10 0 j) = va_cpy (fun j => sL σ 9 0 j) (fun j => sL σ 10 0 j) 0 0 5 from funext fun j => by
        unfold va_cpy
        by_cases e : j < 5
        · rw [if_pos ⟨Nat.zero_le _, by omega⟩, show 0 + (j - 0) = j by omega]
          exact if_pos ⟨rfl, rfl, e⟩
        · rw [if_neg (fun z => e (by omega))]
          exact if_neg (fun z => e z.2.2)]
      exact ha) kk
theorem zcp_PABV_PBEF (K : zK G X cc own nL ret rm) {idx : Nat} {ad : Nat → Nat → Nat} {σ : zSt} (st : List Value) (hw : Cond.methodLink own idx arraycopyName ∈ zB) (hR : 1 ≤ rm.frames ∧ (st.map fun v => v.category).sum + 40 ≤ rm.locals) (hd : decode cc pc = .ok (.invokestatic idx, 3)) (kk : zV G X nL (zP G ad (zcpr σ 13 12)) k n (pc + 3) lo st) : zV G X nL (zP G ad σ) k n pc lo (.int 5 :: .int 0 :: .ref (ad 27 0) :: .int 0 :: .ref (ad 26 0) :: st) :=
  zi_acopyl (f := fun j => sL σ 12 0 j) (g := fun j => sL σ 13 0 j) K st hw (fun H h => (zr_PABV (ix := 0) rfl H h).1) (zr_PBEF (ix := 0) rfl) hR hd (fun H H1 h ha _ oq => by
    obtain ⟨aa, h⟩ := h
    refine ⟨aa, h.upd (kd := 27) (ix := 0) rfl (fun k x => by rw [zlv_congr (σ' := zcpr σ 13 12) (σ := σ) rfl]) (fun k x hne _ => zct_congr rfl (fun _ _ _ => rfl) (fun t' e' h' => ?_)) ?_ oq⟩
    · exact if_neg (fun q => hne ⟨by rw [← h', q.1]; rfl, q.2.1⟩)
    · show va_at G.2.2.1 zCl (ad 27 0, zqPBEF G (zcpr σ 13 12) 0) H1
      unfold zqPBEF
      rw [show (fun j => sL (zcpr σ 13 12) 13 0 j) = va_cpy (fun j => sL σ 12 0 j) (fun j => sL σ 13 0 j) 0 0 5 from funext fun j => by
        unfold va_cpy
        by_cases e : j < 5
        · rw [if_pos ⟨Nat.zero_le _, by omega⟩, show 0 + (j - 0) = j by omega]
          exact if_pos ⟨rfl, rfl, e⟩
        · rw [if_neg (fun z => e (by omega))]
          exact if_neg (fun z => e z.2.2)]
      exact ha) kk
theorem zcp_POWN_PABV (K : zK G X cc own nL ret rm) {idx : Nat} {ad : Nat → Nat → Nat} {σ : zSt} (st : List Value) (hw : Cond.methodLink own idx arraycopyName ∈ zB) (hR : 1 ≤ rm.frames ∧ (st.map fun v => v.category).sum + 40 ≤ rm.locals) (hd : decode cc pc = .ok (.invokestatic idx, 3)) (kk : zV G X nL (zP G ad (zcpr σ 12 9)) k n (pc + 3) lo st) : zV G X nL (zP G ad σ) k n pc lo (.int 5 :: .int 0 :: .ref (ad 26 0) :: .int 0 :: .ref (ad 23 0) :: st) :=
  zi_acopyl (f := fun j => sL σ 9 0 j) (g := fun j => sL σ 12 0 j) K st hw (fun H h => (zr_POWN (ix := 0) rfl H h).1) (zr_PABV (ix := 0) rfl) hR hd (fun H H1 h ha _ oq => by
    obtain ⟨aa, h⟩ := h
    refine ⟨aa, h.upd (kd := 26) (ix := 0) rfl (fun k x => by rw [zlv_congr (σ' := zcpr σ 12 9) (σ := σ) rfl]) (fun k x hne _ => zct_congr rfl (fun _ _ _ => rfl) (fun t' e' h' => ?_)) ?_ oq⟩
    · exact if_neg (fun q => hne ⟨by rw [← h', q.1]; rfl, q.2.1⟩)
    · show va_at G.2.2.1 zCl (ad 26 0, zqPABV G (zcpr σ 12 9) 0) H1
      unfold zqPABV
      rw [show (fun j => sL (zcpr σ 12 9) 12 0 j) = va_cpy (fun j => sL σ 9 0 j) (fun j => sL σ 12 0 j) 0 0 5 from funext fun j => by
        unfold va_cpy
        by_cases e : j < 5
        · rw [if_pos ⟨Nat.zero_le _, by omega⟩, show 0 + (j - 0) = j by omega]
          exact if_pos ⟨rfl, rfl, e⟩
        · rw [if_neg (fun z => e (by omega))]
          exact if_neg (fun z => e z.2.2)]
      exact ha) kk
theorem zcp_PCOM_PEAR (K : zK G X cc own nL ret rm) {idx : Nat} {ad : Nat → Nat → Nat} {σ : zSt} (st : List Value) (hw : Cond.methodLink own idx arraycopyName ∈ zB) (hR : 1 ≤ rm.frames ∧ (st.map fun v => v.category).sum + 40 ≤ rm.locals) (hd : decode cc pc = .ok (.invokestatic idx, 3)) (kk : zV G X nL (zP G ad (zcpr σ 11 10)) k n (pc + 3) lo st) : zV G X nL (zP G ad σ) k n pc lo (.int 5 :: .int 0 :: .ref (ad 25 0) :: .int 0 :: .ref (ad 24 0) :: st) :=
  zi_acopyl (f := fun j => sL σ 10 0 j) (g := fun j => sL σ 11 0 j) K st hw (fun H h => (zr_PCOM (ix := 0) rfl H h).1) (zr_PEAR (ix := 0) rfl) hR hd (fun H H1 h ha _ oq => by
    obtain ⟨aa, h⟩ := h
    refine ⟨aa, h.upd (kd := 25) (ix := 0) rfl (fun k x => by rw [zlv_congr (σ' := zcpr σ 11 10) (σ := σ) rfl]) (fun k x hne _ => zct_congr rfl (fun _ _ _ => rfl) (fun t' e' h' => ?_)) ?_ oq⟩
    · exact if_neg (fun q => hne ⟨by rw [← h', q.1]; rfl, q.2.1⟩)
    · show va_at G.2.2.1 zCl (ad 25 0, zqPEAR G (zcpr σ 11 10) 0) H1
      unfold zqPEAR
      rw [show (fun j => sL (zcpr σ 11 10) 11 0 j) = va_cpy (fun j => sL σ 10 0 j) (fun j => sL σ 11 0 j) 0 0 5 from funext fun j => by
        unfold va_cpy
        by_cases e : j < 5
        · rw [if_pos ⟨Nat.zero_le _, by omega⟩, show 0 + (j - 0) = j by omega]
          exact if_pos ⟨rfl, rfl, e⟩
        · rw [if_neg (fun z => e (by omega))]
          exact if_neg (fun z => e z.2.2)]
      exact ha) kk
theorem zcp_PCOM_PABV (K : zK G X cc own nL ret rm) {idx : Nat} {ad : Nat → Nat → Nat} {σ : zSt} (st : List Value) (hw : Cond.methodLink own idx arraycopyName ∈ zB) (hR : 1 ≤ rm.frames ∧ (st.map fun v => v.category).sum + 40 ≤ rm.locals) (hd : decode cc pc = .ok (.invokestatic idx, 3)) (kk : zV G X nL (zP G ad (zcpr σ 12 10)) k n (pc + 3) lo st) : zV G X nL (zP G ad σ) k n pc lo (.int 5 :: .int 0 :: .ref (ad 26 0) :: .int 0 :: .ref (ad 24 0) :: st) :=
  zi_acopyl (f := fun j => sL σ 10 0 j) (g := fun j => sL σ 12 0 j) K st hw (fun H h => (zr_PCOM (ix := 0) rfl H h).1) (zr_PABV (ix := 0) rfl) hR hd (fun H H1 h ha _ oq => by
    obtain ⟨aa, h⟩ := h
    refine ⟨aa, h.upd (kd := 26) (ix := 0) rfl (fun k x => by rw [zlv_congr (σ' := zcpr σ 12 10) (σ := σ) rfl]) (fun k x hne _ => zct_congr rfl (fun _ _ _ => rfl) (fun t' e' h' => ?_)) ?_ oq⟩
    · exact if_neg (fun q => hne ⟨by rw [← h', q.1]; rfl, q.2.1⟩)
    · show va_at G.2.2.1 zCl (ad 26 0, zqPABV G (zcpr σ 12 10) 0) H1
      unfold zqPABV
      rw [show (fun j => sL (zcpr σ 12 10) 12 0 j) = va_cpy (fun j => sL σ 10 0 j) (fun j => sL σ 12 0 j) 0 0 5 from funext fun j => by
        unfold va_cpy
        by_cases e : j < 5
        · rw [if_pos ⟨Nat.zero_le _, by omega⟩, show 0 + (j - 0) = j by omega]
          exact if_pos ⟨rfl, rfl, e⟩
        · rw [if_neg (fun z => e (by omega))]
          exact if_neg (fun z => e z.2.2)]
      exact ha) kk
end ZPL
/-- one round's inner steps, all rounds -/
def gI (σ : zSt) (td : Nat) : Nat → zSt
  | 0 => σ
  | i + 1 => uL (gI σ td i) td 0 (sI (gI σ td i) 32 0 i).toNatClampNeg (sL (gI σ td i) td 0 (sI (gI σ td i) 32 0 i).toNatClampNeg + v_handedOn (gI σ td i) i (sL (gI σ td i) 13 0 i))
def gR (σ : zSt) (td : Nat) : Nat → zSt
  | 0 => σ
  | r + 1 => gI (zcpr (zcpr (gR σ td r) 13 td) td 9) td 5
theorem gI_1 (σ : zSt) (td i : Nat) : (gI σ td i).1 = σ.1 := by
  induction i with
  | zero => rfl
  | succ i ih => exact ih
theorem gI_22 (σ : zSt) (td i : Nat) : (gI σ td i).2.2 = σ.2.2 := by
  induction i with
  | zero => rfl
  | succ i ih => exact ih
theorem gR_1 (σ : zSt) (td i : Nat) : (gR σ td i).1 = σ.1 := by
  induction i with
  | zero => rfl
  | succ i ih => exact (gI_1 _ _ _).trans ih
theorem gR_22 (σ : zSt) (td i : Nat) : (gR σ td i).2.2 = σ.2.2 := by
  induction i with
  | zero => rfl
  | succ i ih => exact (gI_22 _ _ _).trans ih
/-- where the reinsurers hand on to -/
def zRc (σ : zSt) : Prop := ∀ i, i < 5 → sI σ 32 0 i = nI (sI σ 32 0 i).toNatClampNeg ∧ (sI σ 32 0 i).toNatClampNeg < 5
theorem zRc_mv {σ σ' : zSt} (e : σ'.1 = σ.1) (h : zRc σ) : zRc σ' := by
  obtain ⟨a, b⟩ := σ
  obtain ⟨a', b'⟩ := σ'
  cases e
  exact h
def s_goR_PCOM (σ : zSt) (n : Nat) : zSt := (gR σ 10 n)
theorem s_goR_PCOM_22 (σ : zSt) (n : Nat) : (s_goR_PCOM σ n).2.2 = σ.2.2 := by
  unfold s_goR_PCOM
  (repeat' split) <;> first | exact ((gR_22 σ 10 n).trans rfl)
set_option maxRecDepth 100000 in
set_option maxHeartbeats 4000000 in
theorem c_goR_PCOM {G : zG} {ad : Nat → Nat → Nat} {σ : zSt} (n : Nat) (hn : n < 1000) (hrc : zRc σ) : zC G yX5_goRounds cX5_goRounds 5 none 2 40 0 0 [.ref (ad 18 0), .ref (ad 24 0), .int (nI n)] (zP G ad σ) none (zP G ad (s_goR_PCOM σ n)) := by
  refine zC_of (by decide) (Nat.le_of_ble_eq_true rfl) (fun X K E hnm => ?_)
  show zV G X 5 (zP G ad σ) 0 0 0 [(0, .ref (ad 18 0)), (1, .ref (ad 24 0)), (2, .int (nI n))] []
  refine zi_iconst K (dX5_goRounds 0 rfl) zk_i0 ?_
  refine zi_istore_n K [(3, .int 0), (0, .ref (ad 18 0)), (1, .ref (ad 24 0)), (2, .int (nI n))] (dX5_goRounds 1 rfl) (by decide) rfl ?_
  refine zV.pick [1, 2, 3, 0] (lo' := [(0, .ref (ad 18 0)), (1, .ref (ad 24 0)), (2, .int (nI n)), (3, .int 0)]) rfl ?_
  suffices hloop2 : ∀ (r r0 : Nat), r0 ≤ n → n - r0 < r → zV G X 5 (zP G ad (gR σ 10 r0)) (0) (0) 2 [(0, .ref (ad 18 0)), (1, .ref (ad 24 0)), (2, .int (nI n)), (3, .int (nI r0))] [] from hloop2 (n + 1) 0 (Nat.zero_le _) (Nat.lt_succ_of_le (Nat.sub_le _ _))
  intro r
  induction r with
  | zero => intro r0 _ h; exact absurd h (Nat.not_lt_zero _)
  | succ r ih2 =>
    intro r0 hi2 hr2
    refine zi_iload_n K (dX5_goRounds 2 rfl) 3 rfl ?_
    refine zi_iload_n K (dX5_goRounds 3 rfl) 2 rfl ?_
    refine zi_icmp_ge K 75 (dX5_goRounds 4 rfl) rfl (fun h4_0 => ?_) (fun h4_0 => ?_)
    · skip
      have hN2 := zloop_exit rfl (by omega) hi2 h4_0
      subst hN2
      exact zi_vret K E (dX5_goRounds 44 rfl) (Nat.le_refl _) (Nat.le_refl _) rfl (fun H h => by exact h)
    · skip
      have hlt2 := zloop_in rfl (by omega) hi2 h4_0
      refine zi_aload_n K (dX5_goRounds 5 rfl) 1 rfl ?_
      refine zi_iconst K (dX5_goRounds 6 rfl) zk_i0 ?_
      refine zi_aload_n K (dX5_goRounds 7 rfl) 0 rfl ?_
      refine zg_POOL_before K rfl w_173 (dX5_goRounds 8 rfl) ?_
      refine zi_iconst K (dX5_goRounds 9 rfl) zk_i0 ?_
      refine zi_iconst K (dX5_goRounds 10 rfl) zk_i5 ?_
      refine zcp_PCOM_PBEF K [] w_635 ⟨Nat.le_of_ble_eq_true rfl, Nat.le_of_ble_eq_true rfl⟩ (dX5_goRounds 11 rfl) ?_
      have e1 : (zcpr (gR σ 10 r0) 13 10).2.2 = σ.2.2 := (zcpr_22 (gR σ 10 r0) 13 10).trans (gR_22 σ 10 r0)
      refine zi_aload_n K (dX5_goRounds 12 rfl) 0 rfl ?_
      refine zg_POOL_own K rfl w_167 (dX5_goRounds 13 rfl) ?_
      refine zi_iconst K (dX5_goRounds 14 rfl) zk_i0 ?_
      refine zi_aload_n K (dX5_goRounds 15 rfl) 1 rfl ?_
      refine zi_iconst K (dX5_goRounds 16 rfl) zk_i0 ?_
      refine zi_iconst K (dX5_goRounds 17 rfl) zk_i5 ?_
      refine zcp_POWN_PCOM K [] w_635 ⟨Nat.le_of_ble_eq_true rfl, Nat.le_of_ble_eq_true rfl⟩ (dX5_goRounds 18 rfl) ?_
      have e2 : (zcpr (zcpr (gR σ 10 r0) 13 10) 10 9).2.2 = σ.2.2 := (zcpr_22 (zcpr (gR σ 10 r0) 13 10) 10 9).trans e1
      refine zi_iconst K (dX5_goRounds 19 rfl) zk_i0 ?_
      refine zi_istore K [(4, .int 0), (0, .ref (ad 18 0)), (1, .ref (ad 24 0)), (2, .int (nI n)), (3, .int (nI r0))] (dX5_goRounds 20 rfl) (by decide) rfl ?_
      refine zV.pick [1, 2, 3, 4, 0] (lo' := [(0, .ref (ad 18 0)), (1, .ref (ad 24 0)), (2, .int (nI n)), (3, .int (nI r0)), (4, .int 0)]) rfl ?_
      suffices hloop32 : ∀ (r i : Nat), i ≤ 5 → 5 - i < r → zV G X 5 (zP G ad (gI (zcpr (zcpr (gR σ 10 r0) 13 10) 10 9) 10 i)) (0) (0) 32 [(0, .ref (ad 18 0)), (1, .ref (ad 24 0)), (2, .int (nI n)), (3, .int (nI r0)), (4, .int (nI i))] [] from hloop32 (5 + 1) 0 (Nat.zero_le _) (Nat.lt_succ_of_le (Nat.sub_le _ _))
      intro r
      induction r with
      | zero => intro i _ h; exact absurd h (Nat.not_lt_zero _)
      | succ r ih32 =>
        intro i hi32 hr32
        refine zi_iload K (dX5_goRounds 21 rfl) 4 rfl ?_
        refine zi_iconst K (dX5_goRounds 22 rfl) zk_i5 ?_
        refine zi_icmp_ge K 69 (dX5_goRounds 23 rfl) rfl (fun h35_0 => ?_) (fun h35_0 => ?_)
        · skip
          have hN32 := zloop_exit (by decide) (Nat.le_of_ble_eq_true rfl) hi32 h35_0
          subst hN32
          refine zi_iinc K (v := nI (r0 + 1)) [(3, .int (nI (r0 + 1))), (0, .ref (ad 18 0)), (1, .ref (ad 24 0)), (2, .int (nI n)), (4, .int (nI 5))] (dX5_goRounds 42 rfl) 3 rfl (zk_inc _) (by decide) rfl ?_
          refine zi_goto K 2 (dX5_goRounds 43 rfl) rfl ?_
          refine zV.pick [1, 2, 3, 0] (lo' := [(0, .ref (ad 18 0)), (1, .ref (ad 24 0)), (2, .int (nI n)), (3, .int (nI (r0 + 1)))]) rfl ?_
          refine zV.st (σ' := gR σ 10 (r0 + 1)) (by first | rfl | (simp only [gR])) ?_
          exact ih2 (r0 + 1) (by omega) (by omega)
        · skip
          have hlt32 := zloop_in (by decide) (Nat.le_of_ble_eq_true rfl) hi32 h35_0
          have hrc2 := zRc_mv (σ := σ) (σ' := (gI (zcpr (zcpr (gR σ 10 r0) 13 10) 10 9) 10 i)) ((gI_1 _ _ _).trans (gR_1 _ _ _)) hrc i hlt32
          refine zi_aload_n K (dX5_goRounds 24 rfl) 1 rfl ?_
          refine zi_aload_n K (dX5_goRounds 25 rfl) 0 rfl ?_
          refine zg_POOL_receivers K rfl w_161 (dX5_goRounds 26 rfl) ?_
          refine zi_iload K (dX5_goRounds 27 rfl) 4 rfl ?_
          refine zl_PREC K rfl i rfl (by omega) (dX5_goRounds 28 rfl) ?_
          refine zi_dup2_11 K (dX5_goRounds 29 rfl) rfl rfl ?_
          refine zl_PCOM K rfl ((sI (gI (zcpr (zcpr (gR σ 10 r0) 13 10) 10 9) 10 i) 32 0 i).toNatClampNeg) hrc2.1 hrc2.2 (dX5_goRounds 30 rfl) ?_
          refine zi_aload_n K (dX5_goRounds 31 rfl) 0 rfl ?_
          refine zi_iload K (dX5_goRounds 32 rfl) 4 rfl ?_
          refine zi_aload_n K (dX5_goRounds 33 rfl) 0 rfl ?_
          refine zg_POOL_before K rfl w_173 (dX5_goRounds 34 rfl) ?_
          refine zi_iload K (dX5_goRounds 35 rfl) 4 rfl ?_
          refine zl_PBEF K rfl i rfl (by omega) (dX5_goRounds 36 rfl) ?_
          refine zi_callV K (na := 2) [.long (sL (gI (zcpr (zcpr (gR σ 10 r0) 13 10) 10 9) 10 i) 10 0 ((sI (gI (zcpr (zcpr (gR σ 10 r0) 13 10) 10 9) 10 i) 32 0 i).toNatClampNeg)), .int (sI (gI (zcpr (zcpr (gR σ 10 r0) 13 10) 10 9) 10 i) 32 0 i), .ref (ad 24 0)] [.long (v_handedOn (gI (zcpr (zcpr (gR σ 10 r0) 13 10) 10 9) 10 i) i (sL (gI (zcpr (zcpr (gR σ 10 r0) 13 10) 10 9) 10 i) 13 0 i)), .long (sL (gI (zcpr (zcpr (gR σ 10 r0) 13 10) 10 9) 10 i) 10 0 ((sI (gI (zcpr (zcpr (gR σ 10 r0) 13 10) 10 9) 10 i) 32 0 i).toNatClampNeg)), .int (sI (gI (zcpr (zcpr (gR σ 10 r0) 13 10) 10 9) 10 i) 32 0 i), .ref (ad 24 0)] (c_handedOn (σ := (gI (zcpr (zcpr (gR σ 10 r0) 13 10) 10 9) 10 i)) i (sL (gI (zcpr (zcpr (gR σ 10 r0) 13 10) 10 9) 10 i) 13 0 i) (by omega)) (dX5_goRounds 37 rfl) w_636 w_637 w_638 w_31 w_639 (by decide +kernel) rfl (fun H h => zi_recv K (zr_POOL (σ := (gI (zcpr (zcpr (gR σ 10 r0) 13 10) 10 9) 10 i)) rfl H h).1 rfl) (fun H h => h) ⟨Nat.le_of_ble_eq_true rfl, Nat.le_of_ble_eq_true rfl⟩ ⟨Nat.le_refl _, Nat.le_refl _⟩ (Nat.le_of_ble_eq_true rfl) rfl rfl ?_
          refine zi_ladd K (dX5_goRounds 38 rfl) ?_
          refine zs_PCOM K rfl ((sI (gI (zcpr (zcpr (gR σ 10 r0) 13 10) 10 9) 10 i) 32 0 i).toNatClampNeg) hrc2.1 hrc2.2 (dX5_goRounds 39 rfl) ?_
          have e3 : (uL (gI (zcpr (zcpr (gR σ 10 r0) 13 10) 10 9) 10 i) 10 0 ((sI (gI (zcpr (zcpr (gR σ 10 r0) 13 10) 10 9) 10 i) 32 0 i).toNatClampNeg) ((sL (gI (zcpr (zcpr (gR σ 10 r0) 13 10) 10 9) 10 i) 10 0 ((sI (gI (zcpr (zcpr (gR σ 10 r0) 13 10) 10 9) 10 i) 32 0 i).toNatClampNeg)) + (v_handedOn (gI (zcpr (zcpr (gR σ 10 r0) 13 10) 10 9) 10 i) i (sL (gI (zcpr (zcpr (gR σ 10 r0) 13 10) 10 9) 10 i) 13 0 i)))).2.2 = σ.2.2 := (uL_22 (gI (zcpr (zcpr (gR σ 10 r0) 13 10) 10 9) 10 i) 10 0 ((sI (gI (zcpr (zcpr (gR σ 10 r0) 13 10) 10 9) 10 i) 32 0 i).toNatClampNeg) ((sL (gI (zcpr (zcpr (gR σ 10 r0) 13 10) 10 9) 10 i) 10 0 ((sI (gI (zcpr (zcpr (gR σ 10 r0) 13 10) 10 9) 10 i) 32 0 i).toNatClampNeg)) + (v_handedOn (gI (zcpr (zcpr (gR σ 10 r0) 13 10) 10 9) 10 i) i (sL (gI (zcpr (zcpr (gR σ 10 r0) 13 10) 10 9) 10 i) 13 0 i)))).trans ((gI_22 _ _ _).trans (gR_22 σ 10 r0))
          refine zi_iinc K (v := nI (i + 1)) [(4, .int (nI (i + 1))), (0, .ref (ad 18 0)), (1, .ref (ad 24 0)), (2, .int (nI n)), (3, .int (nI r0))] (dX5_goRounds 40 rfl) 4 rfl (zk_inc _) (by decide) rfl ?_
          refine zi_goto K 32 (dX5_goRounds 41 rfl) rfl ?_
          refine zV.pick [1, 2, 3, 4, 0] (lo' := [(0, .ref (ad 18 0)), (1, .ref (ad 24 0)), (2, .int (nI n)), (3, .int (nI r0)), (4, .int (nI (i + 1)))]) rfl ?_
          refine zV.st (σ' := gI (zcpr (zcpr (gR σ 10 r0) 13 10) 10 9) 10 (i + 1)) (by first | rfl | (simp only [gI])) ?_
          exact ih32 (i + 1) (by omega) (by omega)
def s_goR_PABV (σ : zSt) (n : Nat) : zSt := (gR σ 12 n)
theorem s_goR_PABV_22 (σ : zSt) (n : Nat) : (s_goR_PABV σ n).2.2 = σ.2.2 := by
  unfold s_goR_PABV
  (repeat' split) <;> first | exact ((gR_22 σ 12 n).trans rfl)
set_option maxRecDepth 100000 in
set_option maxHeartbeats 4000000 in
theorem c_goR_PABV {G : zG} {ad : Nat → Nat → Nat} {σ : zSt} (n : Nat) (hn : n < 1000) (hrc : zRc σ) : zC G yX5_goRounds cX5_goRounds 5 none 2 40 0 0 [.ref (ad 18 0), .ref (ad 26 0), .int (nI n)] (zP G ad σ) none (zP G ad (s_goR_PABV σ n)) := by
  refine zC_of (by decide) (Nat.le_of_ble_eq_true rfl) (fun X K E hnm => ?_)
  show zV G X 5 (zP G ad σ) 0 0 0 [(0, .ref (ad 18 0)), (1, .ref (ad 26 0)), (2, .int (nI n))] []
  refine zi_iconst K (dX5_goRounds 0 rfl) zk_i0 ?_
  refine zi_istore_n K [(3, .int 0), (0, .ref (ad 18 0)), (1, .ref (ad 26 0)), (2, .int (nI n))] (dX5_goRounds 1 rfl) (by decide) rfl ?_
  refine zV.pick [1, 2, 3, 0] (lo' := [(0, .ref (ad 18 0)), (1, .ref (ad 26 0)), (2, .int (nI n)), (3, .int 0)]) rfl ?_
  suffices hloop2 : ∀ (r r0 : Nat), r0 ≤ n → n - r0 < r → zV G X 5 (zP G ad (gR σ 12 r0)) (0) (0) 2 [(0, .ref (ad 18 0)), (1, .ref (ad 26 0)), (2, .int (nI n)), (3, .int (nI r0))] [] from hloop2 (n + 1) 0 (Nat.zero_le _) (Nat.lt_succ_of_le (Nat.sub_le _ _))
  intro r
  induction r with
  | zero => intro r0 _ h; exact absurd h (Nat.not_lt_zero _)
  | succ r ih2 =>
    intro r0 hi2 hr2
    refine zi_iload_n K (dX5_goRounds 2 rfl) 3 rfl ?_
    refine zi_iload_n K (dX5_goRounds 3 rfl) 2 rfl ?_
    refine zi_icmp_ge K 75 (dX5_goRounds 4 rfl) rfl (fun h4_0 => ?_) (fun h4_0 => ?_)
    · skip
      have hN2 := zloop_exit rfl (by omega) hi2 h4_0
      subst hN2
      exact zi_vret K E (dX5_goRounds 44 rfl) (Nat.le_refl _) (Nat.le_refl _) rfl (fun H h => by exact h)
    · skip
      have hlt2 := zloop_in rfl (by omega) hi2 h4_0
      refine zi_aload_n K (dX5_goRounds 5 rfl) 1 rfl ?_
      refine zi_iconst K (dX5_goRounds 6 rfl) zk_i0 ?_
      refine zi_aload_n K (dX5_goRounds 7 rfl) 0 rfl ?_
      refine zg_POOL_before K rfl w_173 (dX5_goRounds 8 rfl) ?_
      refine zi_iconst K (dX5_goRounds 9 rfl) zk_i0 ?_
      refine zi_iconst K (dX5_goRounds 10 rfl) zk_i5 ?_
      refine zcp_PABV_PBEF K [] w_635 ⟨Nat.le_of_ble_eq_true rfl, Nat.le_of_ble_eq_true rfl⟩ (dX5_goRounds 11 rfl) ?_
      have e1 : (zcpr (gR σ 12 r0) 13 12).2.2 = σ.2.2 := (zcpr_22 (gR σ 12 r0) 13 12).trans (gR_22 σ 12 r0)
      refine zi_aload_n K (dX5_goRounds 12 rfl) 0 rfl ?_
      refine zg_POOL_own K rfl w_167 (dX5_goRounds 13 rfl) ?_
      refine zi_iconst K (dX5_goRounds 14 rfl) zk_i0 ?_
      refine zi_aload_n K (dX5_goRounds 15 rfl) 1 rfl ?_
      refine zi_iconst K (dX5_goRounds 16 rfl) zk_i0 ?_
      refine zi_iconst K (dX5_goRounds 17 rfl) zk_i5 ?_
      refine zcp_POWN_PABV K [] w_635 ⟨Nat.le_of_ble_eq_true rfl, Nat.le_of_ble_eq_true rfl⟩ (dX5_goRounds 18 rfl) ?_
      have e2 : (zcpr (zcpr (gR σ 12 r0) 13 12) 12 9).2.2 = σ.2.2 := (zcpr_22 (zcpr (gR σ 12 r0) 13 12) 12 9).trans e1
      refine zi_iconst K (dX5_goRounds 19 rfl) zk_i0 ?_
      refine zi_istore K [(4, .int 0), (0, .ref (ad 18 0)), (1, .ref (ad 26 0)), (2, .int (nI n)), (3, .int (nI r0))] (dX5_goRounds 20 rfl) (by decide) rfl ?_
      refine zV.pick [1, 2, 3, 4, 0] (lo' := [(0, .ref (ad 18 0)), (1, .ref (ad 26 0)), (2, .int (nI n)), (3, .int (nI r0)), (4, .int 0)]) rfl ?_
      suffices hloop32 : ∀ (r i : Nat), i ≤ 5 → 5 - i < r → zV G X 5 (zP G ad (gI (zcpr (zcpr (gR σ 12 r0) 13 12) 12 9) 12 i)) (0) (0) 32 [(0, .ref (ad 18 0)), (1, .ref (ad 26 0)), (2, .int (nI n)), (3, .int (nI r0)), (4, .int (nI i))] [] from hloop32 (5 + 1) 0 (Nat.zero_le _) (Nat.lt_succ_of_le (Nat.sub_le _ _))
      intro r
      induction r with
      | zero => intro i _ h; exact absurd h (Nat.not_lt_zero _)
      | succ r ih32 =>
        intro i hi32 hr32
        refine zi_iload K (dX5_goRounds 21 rfl) 4 rfl ?_
        refine zi_iconst K (dX5_goRounds 22 rfl) zk_i5 ?_
        refine zi_icmp_ge K 69 (dX5_goRounds 23 rfl) rfl (fun h35_0 => ?_) (fun h35_0 => ?_)
        · skip
          have hN32 := zloop_exit (by decide) (Nat.le_of_ble_eq_true rfl) hi32 h35_0
          subst hN32
          refine zi_iinc K (v := nI (r0 + 1)) [(3, .int (nI (r0 + 1))), (0, .ref (ad 18 0)), (1, .ref (ad 26 0)), (2, .int (nI n)), (4, .int (nI 5))] (dX5_goRounds 42 rfl) 3 rfl (zk_inc _) (by decide) rfl ?_
          refine zi_goto K 2 (dX5_goRounds 43 rfl) rfl ?_
          refine zV.pick [1, 2, 3, 0] (lo' := [(0, .ref (ad 18 0)), (1, .ref (ad 26 0)), (2, .int (nI n)), (3, .int (nI (r0 + 1)))]) rfl ?_
          refine zV.st (σ' := gR σ 12 (r0 + 1)) (by first | rfl | (simp only [gR])) ?_
          exact ih2 (r0 + 1) (by omega) (by omega)
        · skip
          have hlt32 := zloop_in (by decide) (Nat.le_of_ble_eq_true rfl) hi32 h35_0
          have hrc2 := zRc_mv (σ := σ) (σ' := (gI (zcpr (zcpr (gR σ 12 r0) 13 12) 12 9) 12 i)) ((gI_1 _ _ _).trans (gR_1 _ _ _)) hrc i hlt32
          refine zi_aload_n K (dX5_goRounds 24 rfl) 1 rfl ?_
          refine zi_aload_n K (dX5_goRounds 25 rfl) 0 rfl ?_
          refine zg_POOL_receivers K rfl w_161 (dX5_goRounds 26 rfl) ?_
          refine zi_iload K (dX5_goRounds 27 rfl) 4 rfl ?_
          refine zl_PREC K rfl i rfl (by omega) (dX5_goRounds 28 rfl) ?_
          refine zi_dup2_11 K (dX5_goRounds 29 rfl) rfl rfl ?_
          refine zl_PABV K rfl ((sI (gI (zcpr (zcpr (gR σ 12 r0) 13 12) 12 9) 12 i) 32 0 i).toNatClampNeg) hrc2.1 hrc2.2 (dX5_goRounds 30 rfl) ?_
          refine zi_aload_n K (dX5_goRounds 31 rfl) 0 rfl ?_
          refine zi_iload K (dX5_goRounds 32 rfl) 4 rfl ?_
          refine zi_aload_n K (dX5_goRounds 33 rfl) 0 rfl ?_
          refine zg_POOL_before K rfl w_173 (dX5_goRounds 34 rfl) ?_
          refine zi_iload K (dX5_goRounds 35 rfl) 4 rfl ?_
          refine zl_PBEF K rfl i rfl (by omega) (dX5_goRounds 36 rfl) ?_
          refine zi_callV K (na := 2) [.long (sL (gI (zcpr (zcpr (gR σ 12 r0) 13 12) 12 9) 12 i) 12 0 ((sI (gI (zcpr (zcpr (gR σ 12 r0) 13 12) 12 9) 12 i) 32 0 i).toNatClampNeg)), .int (sI (gI (zcpr (zcpr (gR σ 12 r0) 13 12) 12 9) 12 i) 32 0 i), .ref (ad 26 0)] [.long (v_handedOn (gI (zcpr (zcpr (gR σ 12 r0) 13 12) 12 9) 12 i) i (sL (gI (zcpr (zcpr (gR σ 12 r0) 13 12) 12 9) 12 i) 13 0 i)), .long (sL (gI (zcpr (zcpr (gR σ 12 r0) 13 12) 12 9) 12 i) 12 0 ((sI (gI (zcpr (zcpr (gR σ 12 r0) 13 12) 12 9) 12 i) 32 0 i).toNatClampNeg)), .int (sI (gI (zcpr (zcpr (gR σ 12 r0) 13 12) 12 9) 12 i) 32 0 i), .ref (ad 26 0)] (c_handedOn (σ := (gI (zcpr (zcpr (gR σ 12 r0) 13 12) 12 9) 12 i)) i (sL (gI (zcpr (zcpr (gR σ 12 r0) 13 12) 12 9) 12 i) 13 0 i) (by omega)) (dX5_goRounds 37 rfl) w_636 w_637 w_638 w_31 w_639 (by decide +kernel) rfl (fun H h => zi_recv K (zr_POOL (σ := (gI (zcpr (zcpr (gR σ 12 r0) 13 12) 12 9) 12 i)) rfl H h).1 rfl) (fun H h => h) ⟨Nat.le_of_ble_eq_true rfl, Nat.le_of_ble_eq_true rfl⟩ ⟨Nat.le_refl _, Nat.le_refl _⟩ (Nat.le_of_ble_eq_true rfl) rfl rfl ?_
          refine zi_ladd K (dX5_goRounds 38 rfl) ?_
          refine zs_PABV K rfl ((sI (gI (zcpr (zcpr (gR σ 12 r0) 13 12) 12 9) 12 i) 32 0 i).toNatClampNeg) hrc2.1 hrc2.2 (dX5_goRounds 39 rfl) ?_
          have e3 : (uL (gI (zcpr (zcpr (gR σ 12 r0) 13 12) 12 9) 12 i) 12 0 ((sI (gI (zcpr (zcpr (gR σ 12 r0) 13 12) 12 9) 12 i) 32 0 i).toNatClampNeg) ((sL (gI (zcpr (zcpr (gR σ 12 r0) 13 12) 12 9) 12 i) 12 0 ((sI (gI (zcpr (zcpr (gR σ 12 r0) 13 12) 12 9) 12 i) 32 0 i).toNatClampNeg)) + (v_handedOn (gI (zcpr (zcpr (gR σ 12 r0) 13 12) 12 9) 12 i) i (sL (gI (zcpr (zcpr (gR σ 12 r0) 13 12) 12 9) 12 i) 13 0 i)))).2.2 = σ.2.2 := (uL_22 (gI (zcpr (zcpr (gR σ 12 r0) 13 12) 12 9) 12 i) 12 0 ((sI (gI (zcpr (zcpr (gR σ 12 r0) 13 12) 12 9) 12 i) 32 0 i).toNatClampNeg) ((sL (gI (zcpr (zcpr (gR σ 12 r0) 13 12) 12 9) 12 i) 12 0 ((sI (gI (zcpr (zcpr (gR σ 12 r0) 13 12) 12 9) 12 i) 32 0 i).toNatClampNeg)) + (v_handedOn (gI (zcpr (zcpr (gR σ 12 r0) 13 12) 12 9) 12 i) i (sL (gI (zcpr (zcpr (gR σ 12 r0) 13 12) 12 9) 12 i) 13 0 i)))).trans ((gI_22 _ _ _).trans (gR_22 σ 12 r0))
          refine zi_iinc K (v := nI (i + 1)) [(4, .int (nI (i + 1))), (0, .ref (ad 18 0)), (1, .ref (ad 26 0)), (2, .int (nI n)), (3, .int (nI r0))] (dX5_goRounds 40 rfl) 4 rfl (zk_inc _) (by decide) rfl ?_
          refine zi_goto K 32 (dX5_goRounds 41 rfl) rfl ?_
          refine zV.pick [1, 2, 3, 4, 0] (lo' := [(0, .ref (ad 18 0)), (1, .ref (ad 26 0)), (2, .int (nI n)), (3, .int (nI r0)), (4, .int (nI (i + 1)))]) rfl ?_
          refine zV.st (σ' := gI (zcpr (zcpr (gR σ 12 r0) 13 12) 12 9) 12 (i + 1)) (by first | rfl | (simp only [gI])) ?_
          exact ih32 (i + 1) (by omega) (by omega)
