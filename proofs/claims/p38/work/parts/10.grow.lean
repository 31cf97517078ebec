/-! growing lists: getClass, class constants, new arrays of references, arraycopy; ArrayList.grow and add -/
theorem w_1491 : (.selects "[Ljava/lang/Object;" ⟨"java/lang/Object", "getClass", "()Ljava/lang/Class;"⟩ ⟨"java/lang/Object", "getClass", "()Ljava/lang/Class;"⟩ : Cond) ∈ zB := zb_m7 (List.mem_of_getElem? (i := 27) rfl) rfl
theorem w_484 : (.native ⟨"java/lang/Object", "getClass", "()Ljava/lang/Class;"⟩ : Cond) ∈ zB := zb_m2 (List.mem_of_getElem? (i := 220) rfl) rfl
theorem w_494 : (.native ⟨"java/lang/System", "arraycopy", "(Ljava/lang/Object;ILjava/lang/Object;II)V"⟩ : Cond) ∈ zB := zb_m2 (List.mem_of_getElem? (i := 230) rfl) rfl
section ZF1
variable {G : zG} {X : zX} {cc : ByteArray} {own : String} {nL : Nat} {ret : Option FieldType} {rm : Room} {P : Heap → Prop} {k n pc : Nat} {lo : List (Nat × Value)}
theorem zi_acmp_eq (K : zK G X cc own nL ret rm) {st : List Value} {a b : Nat} {off : Int} (tgt : Nat) (hd : decode cc pc = .ok (.if_acmp .eq off, 3)) (ht : (pc : Int) + off = (tgt : Int)) (kt : a = b → zV G X nL P k n tgt lo st) (kf : ¬ a = b → zV G X nL P k n (pc + 3) lo st) : zV G X nL P k n pc lo (.ref b :: .ref a :: st) := fun H locs ls hP hS hL =>
  lv_acmp_eq (rx := some a) (ry := some b) K.1 K.2.1 hd ht (fun c => kt (Option.some.inj c) H locs ls hP hS hL) (fun c => kf (fun e => c (by rw [e])) H locs ls hP hS hL)
theorem zi_acmp_ne (K : zK G X cc own nL ret rm) {st : List Value} {a b : Nat} {off : Int} (tgt : Nat) (hd : decode cc pc = .ok (.if_acmp .ne off, 3)) (ht : (pc : Int) + off = (tgt : Int)) (kt : ¬ a = b → zV G X nL P k n tgt lo st) (kf : a = b → zV G X nL P k n (pc + 3) lo st) : zV G X nL P k n pc lo (.ref b :: .ref a :: st) := fun H locs ls hP hS hL =>
  lv_acmp_ne (rx := some a) (ry := some b) K.1 K.2.1 hd ht (fun c => kt (fun e => c (by rw [e])) H locs ls hP hS hL) (fun c => kf (Option.some.inj c) H locs ls hP hS hL)
theorem zi_ldcM (K : zK G X cc own nL ret rm) {st : List Value} {idx : Nat} (hw : Cond.classLink own idx "[Ljava/lang/Object;" ∈ zB) (hd : decode cc pc = .ok (.ldc idx, 2)) (kk : zV G X nL P k n (pc + 2) lo (.ref (G.2.2.2.2 1) :: st)) : zV G X nL P k n pc lo st := fun H locs ls hP hS hL =>
  va_ldcM K.1 K.2.1 K.2.2.2.1 (K.2.2.2.2.1 _ hw) K.2.2.2.2.2.1.2.2.2.2.2.2.2.2.2.2.2.1 hd (kk H locs ls hP hS hL)
theorem zN.arr {U : State} (h : zN G U) : U.vm.findClass "[Ljava/lang/Object;" = some (G.2.2.2.1 3) := va_nmO (h.1.2 3 _ rfl).2 (by decide +kernel)
theorem zi_getC (K : zK G X cc own nL ret rm) {idx a N : Nat} {f : Nat → Option Nat} (st : List Value) (hw : Cond.methodLink own idx ⟨"java/lang/Object", "getClass", "()Ljava/lang/Class;"⟩ ∈ zB) (hP : ∀ H, P H → va_at G.2.2.1 zCl (a, .inl (G.2.2.2.1 3, N, .inr (.inr (.inr (.inr f))))) H) (hR : 1 ≤ rm.frames ∧ (st.map fun v => v.category).sum + 14 ≤ rm.locals) (hd : decode cc pc = .ok (.invokevirtual idx, 3)) (kk : zV G X nL P k n (pc + 3) lo (.ref (G.2.2.2.2 1) :: st)) : zV G X nL P k n pc lo (.ref a :: st) := fun H locs ls hP0 hS hL => by
  obtain ⟨h1, h2, h3, h4, h5, h6, h7, h8, h9, h10, h11⟩ := K
  rw [← h10] at hR
  exact va_getC h1 h2 (h3.trans hL.1.symm) h4 (h5 _ hw) (va_Dc.use h6.2.2.2.2.2.2.2.2.2.2.2.2.1) (h5 _ w_1491) (h5 _ w_463) (h5 _ w_484) h6.2.2.2.2.2.2.2.2.2.2.2.1 ⟨_, hP H hP0, rfl, zN.arr h6⟩ hR.1 hR.2 hd (kk H locs ls hP0 hS hL)
theorem zi_anew (K : zK G X cc own nL ret rm) {st : List Value} {idx N : Nat} {j : Int32} {P' : Nat → Heap → Prop} (hw : Cond.classLink own idx "java/lang/Object" ∈ zB) (hj : j = nI N) (hN : N < 100000000) (hc : k + 1 ≤ rm.cells ∧ n + N ≤ rm.slots) (hd : decode cc pc = .ok (.anewarray idx, 3))
    (hP' : ∀ (H H1 : Heap) (a : Nat), P H → a = H.size → gA G a → va_at G.2.2.1 zCl (a, .inl (G.2.2.2.1 3, N, .inr (.inr (.inr (.inr (fun _ => none)))))) H1 → (∀ q, q < H.size → H1[q]? = H[q]?) → P' a H1) (kk : ∀ a, zV G X nL (P' a) (k + 1) (n + N) (pc + 3) lo (.ref a :: st)) : zV G X nL P k n pc lo (.int j :: st) := fun H locs ls hP0 hS hL => by
  obtain ⟨h1, h2, h3, h4, h5, h6, h7, h8, h9, h10, h11⟩ := K
  rw [← h10] at hc
  subst hj
  have hcl : (nI N).toNatClampNeg = N := nI_clamp (by omega)
  refine W.anew h1 h2 h4 (h5 _ hw) (va_AO.use h6.2.2.2.2.2.1) rfl hd rfl (nI_pos (by omega)) (by rw [hcl]; omega) hc.1 (by rw [hcl]; exact hc.2) fun cA kA comp f1 f2 f3 f4 => ?_
  rw [hcl]
  obtain ⟨_, _, _, _, _, g4⟩ := (h6.1.2 3 _ rfl).2
  cases f1.symm.trans g4
  generalize hH1 : H.push ({ cls := G.2.2.2.1 3, slots := Array.replicate N .null, vm := .none } : Cell) = H1
  have z1 : H1.size = H.size + 1 := by rw [← hH1, Array.size_push]
  have e1 : H1[H.size]? = some (arrV (G.2.2.2.1 3) N (fun _ => .null)) := by rw [← hH1, Array.getElem?_push_size, ← arrV_new]
  have o1 : ∀ q : Nat, q < H.size → H1[q]? = H[q]? := fun q hq => by rw [← hH1, Array.getElem?_push, if_neg (Nat.ne_of_lt hq)]
  refine kk H.size H1 locs ls (hP' H H1 H.size hP0 rfl (h9 _ hS.1) ?_ o1) ⟨Nat.le_trans hS.1 (by omega), fun x g1 g2 => (o1 x (Nat.lt_of_lt_of_le g1 hS.1)).trans (hS.2.1 x g1 g2), hS.2.2⟩ hL
  show H1[H.size]? = some (vp_cell _ _)
  rw [vp_cell_q]
  exact e1
theorem zi_gets (K : zK G X cc RJx4a65c nL ret rm) {st : List Value} {idx : Nat} (hw : Cond.fieldLink RJx4a65c idx RJx4a65c "DEFAULTCAPACITY_EMPTY_ELEMENTDATA" "[Ljava/lang/Object;" ∈ zB) (hd : decode cc pc = .ok (.getstatic idx, 3)) (kk : zV G X nL P k n (pc + 3) lo (.ref (G.2.2.2.2 0) :: st)) : zV G X nL P k n pc lo st := fun H locs ls hP hS hL =>
  va_gets K.1 K.2.1 K.2.2.2.2.2.1.2.2.2.2.2.2.2.2.1 hS K.2.2.2.1 (K.2.2.2.2.1 _ hw) (fun _ h => h) hd (kk H locs ls hP hS hL)
theorem zi_acopy (K : zK G X cc own nL ret rm) {idx a0 a n0 n1 sp dp m : Nat} {f g : Nat → Option Nat} {P' : Heap → Prop} (st : List Value) (hw : Cond.methodLink own idx arraycopyName ∈ zB) (hP0 : ∀ H, P H → va_at G.2.2.1 zCl (a0, .inl (G.2.2.2.1 3, n0, .inr (.inr (.inr (.inr f))))) H) (hP1 : ∀ H, P H → va_at G.2.2.1 zCl (a, .inl (G.2.2.2.1 3, n1, .inr (.inr (.inr (.inr g))))) H ∧ gA G a)
    (h4 : sp + m ≤ n0) (h5 : dp + m ≤ n1) (b0 : n0 < 2 ^ 31) (b1 : n1 < 2 ^ 31) (hel : ∀ H, P H → ∀ i, i < m → ∀ y, f (sp + i) = some y → ∃ (ci : Nat) (fs : List Value) (r : vw_C), va_at G.2.2.1 zCl (y, .inr (ci, fs)) H ∧ zCl[ci]? = some r ∧ r.1 ∈ zF) (hR : 1 ≤ rm.frames ∧ (st.map fun v => v.category).sum + 40 ≤ rm.locals) (hd : decode cc pc = .ok (.invokestatic idx, 3))
    (hP' : ∀ H H1 : Heap, P H → va_at G.2.2.1 zCl (a, .inl (G.2.2.2.1 3, n1, .inr (.inr (.inr (.inr (va_cpy f g sp dp m)))))) H1 → H1.size = H.size → (∀ q, q ≠ a → H1[q]? = H[q]?) → P' H1) (kk : zV G X nL P' k n (pc + 3) lo st) : zV G X nL P k n pc lo (.int (nI m) :: .int (nI dp) :: .ref a :: .int (nI sp) :: .ref a0 :: st) := fun H locs ls hPH hS hL => by
  obtain ⟨k1, k2, k3, k4, k5, k6, k7, k8, k9, k10, k11⟩ := K
  rw [← k10] at hR
  obtain ⟨hat1, hA⟩ := hP1 H hPH
  have hc0 : H[a0]? = some (vp_cell (G.2.2.2.1 3) (n0, .inr (.inr (.inr (.inr f))))) := hP0 H hPH
  have hc1 : H[a]? = some (vp_cell (G.2.2.2.1 3) (n1, .inr (.inr (.inr (.inr g))))) := hat1
  obtain ⟨-, kq, hk0, cm0, hkk0⟩ := (k6.1.2 3 _ rfl).1 n0 (fun j => va_rf (f j))
  have cs : (nI sp).toNatClampNeg = sp := nI_clamp (by omega)
  have cd : (nI dp).toNatClampNeg = dp := nI_clamp (by omega)
  have cm : (nI m).toNatClampNeg = m := nI_clamp (by omega)
  have hnw : nativeFrameWords "java/lang/System" "arraycopy" 5 + 11 ≤ 40 := by decide
  intro T hT Y
  obtain ⟨vm', X', step⟩ := Y.arraycopy k1 k4 (k5 _ hw) (k5 _ w_494) (k5 _ w_493) (k5 _ w_41) (src := a0) (dst := a) (cs := vp_cell (G.2.2.2.1 3) (n0, .inr (.inr (.inr (.inr f))))) (cd := vp_cell (G.2.2.2.1 3) (n1, .inr (.inr (.inr (.inr g))))) (srcPos := nI sp) (destPos := nI dp) (n := nI m) (by rw [hT]; exact hc0) (by rw [hT]; exact hc1)
    (fun _ h => by cases h) (fun _ h => by cases h) (fun h => by cases h) (fun h => by cases h) hk0 hk0 hkk0 hkk0 rfl (nI_pos (by omega)) (nI_pos (by omega)) (nI_pos (by omega))
    (by rw [nI_toInt (by omega), nI_toInt (by omega)]; show ¬ _ > ((arrV _ n0 (fun j => va_rf (f j))).slots.size : Int); rw [arrV_size]; omega)
    (by rw [nI_toInt (by omega), nI_toInt (by omega)]; show ¬ _ > ((arrV _ n1 (fun j => va_rf (g j))).slots.size : Int); rw [arrV_size]; omega)
    (fun vm₁ hal i hi => by
      rw [cm] at hi
      rw [cs]
      have e : (vp_cell (G.2.2.2.1 3) (n0, .inr (.inr (.inr (.inr f))))).slots.getD (sp + i) .null = va_rf (f (sp + i)) := by
        show (arrV _ n0 (fun j => va_rf (f j))).slots.getD _ _ = _
        rw [Array.getD_eq_getD_getElem?, arrV_read _ _ (by omega)]
        rfl
      rw [e]
      cases hy : f (sp + i) with
      | none => exact ⟨rfl, trivial⟩
      | some y =>
        obtain ⟨ci, fs, r, ⟨r', hr', cellV, g1, g2, g3, -⟩, hc, hF⟩ := hel H hPH i hi y hy
        have hcls := (k6.1.1 ci r hc).2
        obtain ⟨kA, comp, r1, r2, r3, -⟩ := (k6.1.2 3 _ rfl).2
        cases hk0.symm.trans r1
        cases hkk0.symm.trans r2
        obtain ⟨c9, t9, f1, f2, f3⟩ := Cond.castable_spec (va_Nw.use (A := xa X) rfl (k6.2.2.2.2.1 r.1 hF))
        cases hcls.1.symm.trans f1
        cases r3.symm.trans f2
        obtain ⟨kC, hkC, -⟩ := hcls.2
        obtain ⟨kE, hkE, -⟩ := Vm.findClass_spec r3
        obtain ⟨kC', hkC', -⟩ := hal.2.2 _ _ hkC
        obtain ⟨kE', hkE', -⟩ := hal.2.2 _ _ hkE
        refine ⟨rfl, cellV, (show T.heap[y]? = some cellV by rw [hT]; exact g1), (fun q h => by rw [g3] at h; cases h), ⟨kC', by rw [g2]; exact hkC'⟩, ?_, ?_⟩
        · exact ⟨kE', hkE'⟩
        · show vm₁.assignable _ _ = true
          rw [hal.assignable, g2]
          exact f3)
    (g := F0 (xm X) pc ls (.int (nI m) :: .int (nI dp) :: .ref a :: .int (nI sp) :: .ref a0 :: st)) rfl (hL.1.trans k3.symm) (rest := st) rfl (by rw [k2]; exact hd) hR.1 (by show 2 * 0 + _ + _ ≤ _; omega)
  have e1 : copied (vp_cell (G.2.2.2.1 3) (n0, .inr (.inr (.inr (.inr f))))) (vp_cell (G.2.2.2.1 3) (n1, .inr (.inr (.inr (.inr g))))) (nI sp) (nI dp) (nI m) = vp_cell (G.2.2.2.1 3) (n1, .inr (.inr (.inr (.inr (va_cpy f g sp dp m))))) := by
    have h9 := va_copied (fun z => va_rf z) (G.2.2.2.1 3) (G.2.2.2.1 3) (n0 := n0) (n1 := n1) (sp := sp) (dp := dp) (n := m) f g h4
    rw [vp_cell_q, vp_cell_q, vp_cell_q]
    unfold copied
    rw [cs, cd, cm]
    exact h9
  rw [e1] at X' step
  have hl : a < H.size := (Array.getElem?_eq_some_iff.mp hc1).1
  have oq : ∀ q : Nat, q ≠ a → (H.setIfInBounds a (vp_cell (G.2.2.2.1 3) (n1, .inr (.inr (.inr (.inr (va_cpy f g sp dp m)))))))[q]? = H[q]? := fun q hq => by simp [Array.getElem?_setIfInBounds, Ne.symm hq]
  obtain ⟨t, a1, b1'⟩ := kk _ _ ls (hP' H _ hPH (show (H.setIfInBounds a _)[a]? = some _ by simp [Array.getElem?_setIfInBounds, hl]) (by simp) oq) ⟨by simp; exact hS.1, fun q g1 g2 => by
      rw [oq q (fun e => g2 (by rw [e]; exact hA))]
      exact hS.2.1 q g1 g2, fun q hq => by
      rcases List.mem_append.mp hq with h | h
      · exact hS.2.2 q h
      · obtain ⟨z, -, hz⟩ := List.mem_map.mp h
        rw [← hz]
        exact hA⟩ hL _ (by rw [← hT]; rfl) X'
  exact ⟨t, step t a1, b1'⟩
end ZF1
