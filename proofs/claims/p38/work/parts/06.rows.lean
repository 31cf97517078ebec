/-! small rows: constants, Math, receivers, casts -/
theorem zk_inc (n : Nat) : nI n + Int32.ofInt 1 = nI (n + 1) := (nI_1 n).symm ▸ rfl
theorem zk_dec (n : Nat) : nI (n + 1) + Int32.ofInt (-1) = nI n := by
  rw [show Int32.ofInt (-1) = -1 by decide]
  exact pk_m1 n
theorem zk_a (x : Int32) {a b : Int32} (h : a = b) : x + a = x + b := by rw [h]
def zmx (x y : Int32) : Int32 := if x < y then y else x
def zmn (x y : Int32) : Int32 := if y < x then y else x
def zmxl (x y : Int64) : Int64 := if y < x then x else y
def zmnl (x y : Int64) : Int64 := if y < x then y else x
theorem zloop_exit {i N : Nat} {x : Int32} (hx : x = nI N) (hN : N < 2 ^ 31) (hi : i ≤ N) (h : x ≤ nI i) : i = N := by
  subst hx
  have h2 := (nI_leI hN (by omega)).mp h
  omega
theorem zloop_in {i N : Nat} {x : Int32} (hx : x = nI N) (hN : N < 2 ^ 31) (hi : i ≤ N) (h : ¬ x ≤ nI i) : i < N := by
  subst hx
  rcases Nat.lt_or_ge i N with q | q
  · exact q
  · exact absurd ((nI_leI hN (by omega)).mpr q) h
theorem zV.st {G : zG} {X : zX} {nL k n pc : Nat} {lo : List (Nat × Value)} {st : List Value} {ad : Nat → Nat → Nat} {σ σ' : zSt} (e : σ' = σ) (kk : zV G X nL (zP G ad σ') k n pc lo st) : zV G X nL (zP G ad σ) k n pc lo st := e ▸ kk
theorem zV.lov {G : zG} {X : zX} {nL k n pc : Nat} {P : Heap → Prop} {lo lo' : List (Nat × Value)} {st : List Value} (e : lo' = lo) (kk : zV G X nL P k n pc lo' st) : zV G X nL P k n pc lo st := e ▸ kk
section ZM
variable {G : zG} {X : zX} {cc : ByteArray} {own : String} {nL : Nat} {ret : Option FieldType} {rm : Room} {P : Heap → Prop} {k n pc : Nat} {lo : List (Nat × Value)}
theorem w_405 : (.code ⟨"java/lang/Math", "min", "(JJ)J"⟩ prog_30_method_70_code 4 (some .long) : Cond) ∈ zB := zb_m2 (List.mem_of_getElem? (i := 141) rfl) rfl
theorem w_408 : (.code ⟨"java/lang/Math", "max", "(JJ)J"⟩ prog_30_method_66_code 4 (some .long) : Cond) ∈ zB := zb_m2 (List.mem_of_getElem? (i := 144) rfl) rfl
theorem w_398 : (.code ⟨"java/lang/Math", "min", "(II)I"⟩ prog_30_method_69_code 2 (some .int) : Cond) ∈ zB := zb_m2 (List.mem_of_getElem? (i := 134) rfl) rfl
theorem w_426 : (.code ⟨"java/lang/Math", "max", "(II)I"⟩ prog_30_method_65_code 2 (some .int) : Cond) ∈ zB := zb_m2 (List.mem_of_getElem? (i := 162) rfl) rfl
theorem zi_maxi (K : zK G X cc own nL ret rm) {idx : Nat} {x y : Int32} (st : List Value) (hd : decode cc pc = .ok (.invokestatic idx, 3)) (hw : Cond.methodLink own idx ⟨"java/lang/Math", "max", "(II)I"⟩ ∈ zB) (hR : 1 ≤ rm.frames ∧ (st.map fun v => v.category).sum + 15 ≤ rm.locals) (hc : k ≤ rm.cells ∧ n ≤ rm.slots) (kk : zV G X nL P k n (pc + 3) lo (.int (zmx x y) :: st)) : zV G X nL P k n pc lo (.int y :: .int x :: st) := fun H locs ls hP hS hL => by
  obtain ⟨h1, h2, h3, h4, h5, h6, h7, h8, h9, h10, h11⟩ := K
  rw [← h10] at hR hc
  exact va_mmax h1 h2 (h3.trans hL.1.symm) h4 (h5 _ hw) (h5 _ w_425) (h5 _ w_39) (h5 _ w_426) hR.1 (by omega) hc.1 hc.2 hd (kk H locs ls hP hS hL)
theorem zi_mini (K : zK G X cc own nL ret rm) {idx : Nat} {x y : Int32} (st : List Value) (hd : decode cc pc = .ok (.invokestatic idx, 3)) (hw : Cond.methodLink own idx ⟨"java/lang/Math", "min", "(II)I"⟩ ∈ zB) (hR : 1 ≤ rm.frames ∧ (st.map fun v => v.category).sum + 15 ≤ rm.locals) (hc : k ≤ rm.cells ∧ n ≤ rm.slots) (kk : zV G X nL P k n (pc + 3) lo (.int (zmn x y) :: st)) : zV G X nL P k n pc lo (.int y :: .int x :: st) := fun H locs ls hP hS hL => by
  obtain ⟨h1, h2, h3, h4, h5, h6, h7, h8, h9, h10, h11⟩ := K
  rw [← h10] at hR hc
  exact va_mmin h1 h2 (h3.trans hL.1.symm) h4 (h5 _ hw) (h5 _ w_397) (h5 _ w_39) (h5 _ w_398) hR.1 (by omega) hc.1 hc.2 hd (kk H locs ls hP hS hL)
theorem zi_maxl (K : zK G X cc own nL ret rm) {idx : Nat} {x y : Int64} (st : List Value) (hd : decode cc pc = .ok (.invokestatic idx, 3)) (hw : Cond.methodLink own idx ⟨"java/lang/Math", "max", "(JJ)J"⟩ ∈ zB) (hR : 1 ≤ rm.frames ∧ (st.map fun v => v.category).sum + 15 ≤ rm.locals) (hc : k ≤ rm.cells ∧ n ≤ rm.slots) (kk : zV G X nL P k n (pc + 3) lo (.long (zmxl x y) :: st)) : zV G X nL P k n pc lo (.long y :: .long x :: st) := fun H locs ls hP hS hL => by
  obtain ⟨h1, h2, h3, h4, h5, h6, h7, h8, h9, h10, h11⟩ := K
  rw [← h10] at hR hc
  exact va_mmax_long h1 h2 (h3.trans hL.1.symm) h4 (h5 _ hw) (h5 _ w_407) (h5 _ w_39) (h5 _ w_408) hR.1 (by omega) hc.1 hc.2 hd (kk H locs ls hP hS hL)
theorem zi_minl (K : zK G X cc own nL ret rm) {idx : Nat} {x y : Int64} (st : List Value) (hd : decode cc pc = .ok (.invokestatic idx, 3)) (hw : Cond.methodLink own idx ⟨"java/lang/Math", "min", "(JJ)J"⟩ ∈ zB) (hR : 1 ≤ rm.frames ∧ (st.map fun v => v.category).sum + 15 ≤ rm.locals) (hc : k ≤ rm.cells ∧ n ≤ rm.slots) (kk : zV G X nL P k n (pc + 3) lo (.long (zmnl x y) :: st)) : zV G X nL P k n pc lo (.long y :: .long x :: st) := fun H locs ls hP hS hL => by
  obtain ⟨h1, h2, h3, h4, h5, h6, h7, h8, h9, h10, h11⟩ := K
  rw [← h10] at hR hc
  exact va_mmin_long h1 h2 (h3.trans hL.1.symm) h4 (h5 _ hw) (h5 _ w_404) (h5 _ w_39) (h5 _ w_405) hR.1 (by omega) hc.1 hc.2 hd (kk H locs ls hP hS hL)
theorem zi_recv (K : zK G X cc own nL ret rm) {H : Heap} {a ci N : Nat} {fs : List Value} {C : String} {T : u_T} (h : va_at G.2.2.1 zCl (a, .inr (ci, fs)) H) (hc : zCl[ci]? = some (C, T, N)) : ∃ cell : Cell, H[a]? = some cell ∧ cell.vm.isStatics = false ∧ (xs X).vm.findClass C = some cell.cls := by
  obtain ⟨q', h1, cell, g1, g2, g3, -⟩ := h
  exact ⟨cell, g1, by rw [g3]; rfl, by rw [g2]; exact (K.2.2.2.2.2.1.1.1 ci _ hc).2.1⟩
theorem zi_cast (K : zK G X cc own nL ret rm) {a ci N idx : Nat} {fs : List Value} {C : String} {T : u_T} {st : List Value} (h : ∀ H, P H → va_at G.2.2.1 zCl (a, .inr (ci, fs)) H) (hc : zCl[ci]? = some (C, T, N)) (hw : Cond.classLink own idx C ∈ zB) (hd : decode cc pc = .ok (.checkcast idx, 3)) (kk : zV G X nL P k n (pc + 3) lo (.ref a :: st)) : zV G X nL P k n pc lo (.ref a :: st) := fun H locs ls hP hS hL =>
  va_castS K.1 K.2.1 K.2.2.2.1 (K.2.2.2.2.1 _ hw) (K.2.2.2.2.2.1.1.1 ci _ hc).2 (zi_recv K (h H hP) hc) hd (kk H locs ls hP hS hL)
end ZM
theorem zk_b6 : (Int8.ofInt 6).toInt32 = 6 := by decide
theorem zk_b7 : (Int8.ofInt 7).toInt32 = 7 := by decide
theorem zk_b8 : (Int8.ofInt 8).toInt32 = 8 := by decide
theorem zk_b9 : (Int8.ofInt 9).toInt32 = 9 := by decide
theorem zk_b10 : (Int8.ofInt 10).toInt32 = 10 := by decide
theorem zk_b11 : (Int8.ofInt 11).toInt32 = 11 := by decide
theorem zk_b12 : (Int8.ofInt 12).toInt32 = 12 := by decide
theorem zk_b16 : (Int8.ofInt 16).toInt32 = 16 := by decide
theorem zk_b20 : (Int8.ofInt 20).toInt32 = 20 := by decide
theorem zk_b30 : (Int8.ofInt 30).toInt32 = 30 := by decide
theorem zk_b31 : (Int8.ofInt 31).toInt32 = 31 := by decide
theorem zk_b40 : (Int8.ofInt 40).toInt32 = 40 := by decide
theorem zk_b50 : (Int8.ofInt 50).toInt32 = 50 := by decide
theorem zk_b63 : (Int8.ofInt 63).toInt32 = 63 := by decide
theorem zk_b70 : (Int8.ofInt 70).toInt32 = 70 := by decide
theorem zk_b97 : (Int8.ofInt 97).toInt32 = 97 := by decide
theorem zk_b99 : (Int8.ofInt 99).toInt32 = 99 := by decide
theorem zk_b100 : (Int8.ofInt 100).toInt32 = 100 := by decide
theorem zk_b101 : (Int8.ofInt 101).toInt32 = 101 := by decide
theorem zk_b111 : (Int8.ofInt 111).toInt32 = 111 := by decide
theorem zk_b113 : (Int8.ofInt 113).toInt32 = 113 := by decide
theorem zk_b114 : (Int8.ofInt 114).toInt32 = 114 := by decide
theorem zk_b115 : (Int8.ofInt 115).toInt32 = 115 := by decide
theorem zk_im1 : Int32.ofInt (-1) = (-1) := by decide
theorem zk_i0 : Int32.ofInt 0 = 0 := by decide
theorem zk_i1 : Int32.ofInt 1 = 1 := by decide
theorem zk_i2 : Int32.ofInt 2 = 2 := by decide
theorem zk_i3 : Int32.ofInt 3 = 3 := by decide
theorem zk_i4 : Int32.ofInt 4 = 4 := by decide
theorem zk_i5 : Int32.ofInt 5 = 5 := by decide
theorem zk_i10 : Int32.ofInt 10 = 10 := by decide
theorem zk_l0 : Int64.ofNat ((0 : Fin 2) : Nat) = 0 := by decide
theorem zk_s200 : (Int16.ofInt 200).toInt32 = 200 := by decide
theorem zk_s201 : (Int16.ofInt 201).toInt32 = 201 := by decide
theorem zk_s255 : (Int16.ofInt 255).toInt32 = 255 := by decide
theorem zk_s300 : (Int16.ofInt 300).toInt32 = 300 := by decide
theorem zk_s500 : (Int16.ofInt 500).toInt32 = 500 := by decide
theorem zk_s600 : (Int16.ofInt 600).toInt32 = 600 := by decide
theorem zk_s700 : (Int16.ofInt 700).toInt32 = 700 := by decide
theorem zk_s900 : (Int16.ofInt 900).toInt32 = 900 := by decide
theorem zk_s999 : (Int16.ofInt 999).toInt32 = 999 := by decide
theorem zk_s3000 : (Int16.ofInt 3000).toInt32 = 3000 := by decide
theorem zk_s5000 : (Int16.ofInt 5000).toInt32 = 5000 := by decide
theorem zk_s7919 : (Int16.ofInt 7919).toInt32 = 7919 := by decide
