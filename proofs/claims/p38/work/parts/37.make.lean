/-! making objects: cells beside a base picture -/
theorem w_obj : (.code objectInit ⟨#[0xb1]⟩ 1 none : Cond) ∈ zB := zb_m1 (List.mem_of_getElem? (i := 43) rfl) rfl
/-- a base: the addresses that it speaks of, what it says -/
abbrev zBs : Type := ((Nat → Nat) → Nat → Prop) × ((Nat → Nat) → Heap → Prop)
def zBo (B : zBs) : Prop := (∀ aa H q, B.2 aa H → B.1 aa q → q < H.size) ∧ ∀ aa (H H1 : Heap), B.2 aa H → (∀ q, B.1 aa q → H1[q]? = H[q]?) → B.2 aa H1
/-- a base and loose cells, all apart -/
def zPx (G : zG) (B : zBs) (ws : List (Nat × va_E)) (H : Heap) : Prop := ∃ aa, B.2 aa H ∧ (∀ w ∈ ws, va_at G.2.2.1 zCl w H ∧ gA G w.1) ∧ (∀ w ∈ ws, ¬ B.1 aa w.1) ∧ ws.Pairwise (fun a b => a.1 ≠ b.1)
section ZX
variable {G : zG} {B : zBs} {ws : List (Nat × va_E)} {H H1 : Heap}
theorem zPx.new (hB : zBo B) (h : zPx G B ws H) {a : Nat} {e : va_E} (ha : a = H.size) (hA : gA G a) (hat : va_at G.2.2.1 zCl (a, e) H1) (hq : ∀ q, q < H.size → H1[q]? = H[q]?) : zPx G B ((a, e) :: ws) H1 := by
  obtain ⟨aa, h1, h2, h3, h4⟩ := h
  refine ⟨aa, hB.2 aa H H1 h1 (fun q hq1 => hq q (hB.1 aa H q h1 hq1)), fun w hw => ?_, fun w hw => ?_, List.pairwise_cons.mpr ⟨fun w hw => ?_, h4⟩⟩
  · rcases List.mem_cons.mp hw with rfl | hw
    · exact ⟨hat, hA⟩
    · exact ⟨(h2 w hw).1.kept (hq _ (h2 w hw).1.lt), (h2 w hw).2⟩
  · rcases List.mem_cons.mp hw with rfl | hw
    · intro hb
      have := hB.1 aa H a h1 hb
      omega
    · exact h3 w hw
  · have := (h2 w hw).1.lt
    show a ≠ w.1
    omega
theorem zPx.upd (hB : zBo B) {a : Nat} {e e' : va_E} (h : zPx G B ((a, e) :: ws) H) (hat : va_at G.2.2.1 zCl (a, e') H1) (oq : ∀ q, q ≠ a → H1[q]? = H[q]?) : zPx G B ((a, e') :: ws) H1 := by
  obtain ⟨aa, h1, h2, h3, h4⟩ := h
  have hp := List.pairwise_cons.mp h4
  have h0 := h2 (a, e) List.mem_cons_self
  refine ⟨aa, hB.2 aa H H1 h1 (fun q hq1 => oq q (fun z => h3 (a, e) List.mem_cons_self (z ▸ hq1))), fun w hw => ?_, fun w hw => ?_, List.pairwise_cons.mpr ⟨fun w hw => hp.1 w hw, hp.2⟩⟩
  · rcases List.mem_cons.mp hw with rfl | hw
    · exact ⟨hat, h0.2⟩
    · have g := h2 w (List.mem_cons_of_mem _ hw)
      exact ⟨g.1.kept (oq _ (fun z => hp.1 w hw z.symm)), g.2⟩
  · rcases List.mem_cons.mp hw with rfl | hw
    · exact h3 (a, e) List.mem_cons_self
    · exact h3 w (List.mem_cons_of_mem _ hw)
theorem zPx.perm {ws' : List (Nat × va_E)} (p : ws.Perm ws') (h : zPx G B ws H) : zPx G B ws' H := by
  obtain ⟨aa, h1, h2, h3, h4⟩ := h
  exact ⟨aa, h1, fun w hw => h2 w (p.mem_iff.mpr hw), fun w hw => h3 w (p.mem_iff.mpr hw), (p.pairwise_iff (fun {_ _} h => Ne.symm h)).mp h4⟩
theorem zPx.front (l1 : List (Nat × va_E)) {w : Nat × va_E} {l2 : List (Nat × va_E)} (h : zPx G B (l1 ++ w :: l2) H) : zPx G B (w :: (l1 ++ l2)) H := h.perm List.perm_middle
theorem zPx.head {a : Nat} {e : va_E} (h : zPx G B ((a, e) :: ws) H) : va_at G.2.2.1 zCl (a, e) H ∧ gA G a := by
  obtain ⟨aa, h1, h2, h3, h4⟩ := h
  exact h2 (a, e) List.mem_cons_self
end ZX
section ZY
variable {G : zG} {X : zX} {cc : ByteArray} {own : String} {nL : Nat} {ret : Option FieldType} {rm : Room} {k n pc : Nat} {lo : List (Nat × Value)} {st : List Value} {B : zBs} {ws : List (Nat × va_E)}
theorem zi_objInit {P : Heap → Prop} (K : zK G X cc own nL ret rm) {idx a : Nat} (hw : Cond.methodLink own idx objectInit ∈ zB) (hd : decode cc pc = .ok (.invokespecial idx, 3)) (hf : 1 ≤ rm.frames) (hl : (st.map fun v => v.category).sum + 12 ≤ rm.locals) (kk : zV G X nL P k n (pc + 3) lo st) : zV G X nL P k n pc lo (.ref a :: st) := fun H locs ls hP hS hL => by
  obtain ⟨h1, h2, h3, h4, h5, h6, h7, h8, h9, h10, h11⟩ := K
  rw [← h10] at hf hl
  refine W.objInit h1 h2 h4 (h5 _ hw) (h5 _ w_66) (h5 _ w_obj) rfl (hL.1.trans h3.symm) rfl hd hf (by show 2 * 0 + _ + 12 ≤ _; omega) ?_
  exact W.eq (g2 := F0 (xm X) (pc + 3) ls st) rfl (kk H locs ls hP hS hL)
theorem zx_new (hB : zBo B) (K : zK G X cc own nL ret rm) {C : String} {T : u_T} {N ci idx : Nat} (hc : zCl[ci]? = some (C, T, N)) (hin : ∀ w ∈ u_ws C T N, w ∈ zB) (ty : Nat → FieldType) (hty : ∀ k, k < N → parseFieldDescriptor (T k).2.2.1 = some (ty k)) (hw : Cond.classLink own idx C ∈ zB) (hi : Cond.instantiable C N ∈ zB) (hini : Cond.initialized C ∈ zB)
    (fs : List Value) (hfs : ∀ j, j < N → defaultValue (ty j) = vp_V fs j) (hr : k + 1 ≤ rm.cells ∧ n + N ≤ rm.slots) (hd : decode cc pc = .ok (.new idx, 3)) (kk : ∀ a, zV G X nL (zPx G B ((a, .inr (ci, fs)) :: ws)) (k + 1) (n + N) (pc + 3) lo (.ref a :: st)) : zV G X nL (zPx G B ws) k n pc lo st := fun H locs ls hP hS hL => by
  obtain ⟨h1, h2, h3, h4, h5, h6, h7, h8, h9, h10, h11⟩ := K
  rw [← h10] at hr
  have hKn := h6.1.1 ci _ hc
  refine W.newcK h1 h2 h4 (h5 _ hw) (h5 _ hi) (h5 _ hini) rfl hd hr.1 hr.2 hKn.2.1 rfl fun H1 kC hkC e1 z1 o1 => ?_
  exact kk H.size H1 locs ls (hP.new hB rfl (h9 _ hS.1) ⟨_, hc, (u_born ty h5 hin hKn hkC e1 hty).to hfs⟩ o1) ⟨Nat.le_trans hS.1 (by omega), fun x g1 g2 => (o1 x (Nat.lt_of_lt_of_le g1 hS.1)).trans (hS.2.1 x g1 g2), hS.2.2⟩ hL
theorem zx_newai (hB : zBo B) (K : zK G X cc own nL ret rm) {j : Int32} {N : Nat} {w : Nat × va_E} (hj : j = nI N) (hN : N < 1000) (hr : k + 1 ≤ rm.cells ∧ n + N ≤ rm.slots) (hd : decode cc pc = .ok (.newarray .int, 2)) (kk : ∀ a, zV G X nL (zPx G B (w :: (a, .inl (G.2.2.2.1 0, N, .inl (fun _ => 0))) :: ws)) (k + 1) (n + N) (pc + 2) lo (.ref a :: st)) : zV G X nL (zPx G B (w :: ws)) k n pc lo (.int j :: st) := fun H locs ls hP hS hL => by
  obtain ⟨h1, h2, h3, h4, h5, h6, h7, h8, h9, h10, h11⟩ := K
  rw [← h10] at hr
  subst hj
  have g4 : (xs X).vm.findClass ("[" ++ (FieldType.int).toString) = some (G.2.2.2.1 0) := (h6.1.2 0 _ rfl).2
  have hb8 : componentBytes (newarray.typeOf .int) ≤ 8 := by decide
  have hb9 := Nat.mul_le_mul (Nat.le_of_lt hN) hb8
  have hby : N * componentBytes (newarray.typeOf .int) ≤ 536870912 := by omega
  refine va_newaK (atype := .int) h1 h2 (h5 _ w_130) rfl hd rfl (nI_pos (by omega)) (nI_clamp (by omega)) hby hr.1 hr.2 rfl fun H1 cA e1 z1 o1 hAr hNm => ?_
  cases hNm.symm.trans g4
  refine kk H.size H1 locs ls ((hP.new hB rfl (h9 _ hS.1) ?_ o1).perm (List.Perm.swap _ _ _)) ⟨Nat.le_trans hS.1 (by omega), fun x g1 g2 => (o1 x (Nat.lt_of_lt_of_le g1 hS.1)).trans (hS.2.1 x g1 g2), hS.2.2⟩ hL
  show H1[H.size]? = some (vp_cell _ _)
  rw [vp_cell_i]
  exact e1
theorem zx_newal (hB : zBo B) (K : zK G X cc own nL ret rm) {j : Int32} {N : Nat} {w : Nat × va_E} (hj : j = nI N) (hN : N < 1000) (hr : k + 1 ≤ rm.cells ∧ n + N ≤ rm.slots) (hd : decode cc pc = .ok (.newarray .long, 2)) (kk : ∀ a, zV G X nL (zPx G B (w :: (a, .inl (G.2.2.2.1 1, N, .inr (.inl (fun _ => 0)))) :: ws)) (k + 1) (n + N) (pc + 2) lo (.ref a :: st)) : zV G X nL (zPx G B (w :: ws)) k n pc lo (.int j :: st) := fun H locs ls hP hS hL => by
  obtain ⟨h1, h2, h3, h4, h5, h6, h7, h8, h9, h10, h11⟩ := K
  rw [← h10] at hr
  subst hj
  have g4 : (xs X).vm.findClass ("[" ++ (FieldType.long).toString) = some (G.2.2.2.1 1) := (h6.1.2 1 _ rfl).2
  have hb8 : componentBytes (newarray.typeOf .long) ≤ 8 := by decide
  have hb9 := Nat.mul_le_mul (Nat.le_of_lt hN) hb8
  have hby : N * componentBytes (newarray.typeOf .long) ≤ 536870912 := by omega
  refine va_newaK (atype := .long) h1 h2 (h5 _ w_131) rfl hd rfl (nI_pos (by omega)) (nI_clamp (by omega)) hby hr.1 hr.2 rfl fun H1 cA e1 z1 o1 hAr hNm => ?_
  cases hNm.symm.trans g4
  refine kk H.size H1 locs ls ((hP.new hB rfl (h9 _ hS.1) ?_ o1).perm (List.Perm.swap _ _ _)) ⟨Nat.le_trans hS.1 (by omega), fun x g1 g2 => (o1 x (Nat.lt_of_lt_of_le g1 hS.1)).trans (hS.2.1 x g1 g2), hS.2.2⟩ hL
  show H1[H.size]? = some (vp_cell _ _)
  rw [vp_cell_l]
  exact e1
theorem zx_newaz (hB : zBo B) (K : zK G X cc own nL ret rm) {j : Int32} {N : Nat} {w : Nat × va_E} (hj : j = nI N) (hN : N < 1000) (hr : k + 1 ≤ rm.cells ∧ n + N ≤ rm.slots) (hd : decode cc pc = .ok (.newarray .boolean, 2)) (kk : ∀ a, zV G X nL (zPx G B (w :: (a, .inl (G.2.2.2.1 2, N, .inl (fun _ => 0))) :: ws)) (k + 1) (n + N) (pc + 2) lo (.ref a :: st)) : zV G X nL (zPx G B (w :: ws)) k n pc lo (.int j :: st) := fun H locs ls hP hS hL => by
  obtain ⟨h1, h2, h3, h4, h5, h6, h7, h8, h9, h10, h11⟩ := K
  rw [← h10] at hr
  subst hj
  have g4 : (xs X).vm.findClass ("[" ++ (FieldType.boolean).toString) = some (G.2.2.2.1 2) := (h6.1.2 2 _ rfl).2
  have hb8 : componentBytes (newarray.typeOf .boolean) ≤ 8 := by decide
  have hb9 := Nat.mul_le_mul (Nat.le_of_lt hN) hb8
  have hby : N * componentBytes (newarray.typeOf .boolean) ≤ 536870912 := by omega
  refine va_newaK (atype := .boolean) h1 h2 (h5 _ w_193) rfl hd rfl (nI_pos (by omega)) (nI_clamp (by omega)) hby hr.1 hr.2 rfl fun H1 cA e1 z1 o1 hAr hNm => ?_
  cases hNm.symm.trans g4
  refine kk H.size H1 locs ls ((hP.new hB rfl (h9 _ hS.1) ?_ o1).perm (List.Perm.swap _ _ _)) ⟨Nat.le_trans hS.1 (by omega), fun x g1 g2 => (o1 x (Nat.lt_of_lt_of_le g1 hS.1)).trans (hS.2.1 x g1 g2), hS.2.2⟩ hL
  show H1[H.size]? = some (vp_cell _ _)
  rw [vp_cell_i]
  exact e1
theorem zx_put (hB : zBo B) (K : zK G X cc own nL ret rm) {C ref : String} {T : u_T} {N ci idx a f : Nat} {fs : List Value} {v : Value} (hc : zCl[ci]? = some (C, T, N)) (hin : ∀ w ∈ u_ws C T N, w ∈ zB) (ty0 : Nat → FieldType) (hty : ∀ k, k < N → parseFieldDescriptor (T k).2.2.1 = some (ty0 k)) (hnm : ∀ a, a < N → ∀ b, b < N → a ≠ b → (T a).2.1 ≠ (T b).2.1)
    (hf : f < N) (hw : Cond.fieldLink own idx ref (T f).2.1 (T f).2.2.1 ∈ zB) (hsame : ∀ x, (xs X).fieldFound? (T f).1 (T f).2.1 (T f).2.2.1 = some x → (xs X).fieldFound? ref (T f).2.1 (T f).2.2.1 = some x) (hfin : (T f).2.2.2 = false) {ty : FieldType} (hd0 : parseFieldDescriptor (T f).2.2.1 = some ty) (hn : narrow ty v = v) (hfit : fits ty v = true) (hl : f < fs.length)
    (hd : decode cc pc = .ok (.putfield idx, 3)) (fs' : List Value) (he : fs.set f v = fs') (kk : zV G X nL (zPx G B ((a, .inr (ci, fs')) :: ws)) k n (pc + 3) lo st) : zV G X nL (zPx G B ((a, .inr (ci, fs)) :: ws)) k n pc lo (v :: .ref a :: st) :=
  zi_put K hc hin ty0 hty hnm (fun H h => h.head) hf hw hsame hfin hd0 hn hfit hl hd (fun H H1 h ha _ oq => h.upd hB (he ▸ ha) oq) kk
theorem zx_putF (hB : zBo B) (K : zK G X cc own nL ret rm) (hnme : (xh X).name = "<init>") {C : String} {T : u_T} {N ci idx a f : Nat} {fs : List Value} {v : Value} (hc : zCl[ci]? = some (C, T, N)) (hin : ∀ w ∈ u_ws C T N, w ∈ zB) (ty0 : Nat → FieldType) (hty : ∀ k, k < N → parseFieldDescriptor (T k).2.2.1 = some (ty0 k)) (hnm : ∀ a, a < N → ∀ b, b < N → a ≠ b → (T a).2.1 ≠ (T b).2.1)
    (hf : f < N) (hw : Cond.fieldLink own idx own (T f).2.1 (T f).2.2.1 ∈ zB) (hdecl : (T f).1 = own) (hfin : (T f).2.2.2 = true) {ty : FieldType} (hd0 : parseFieldDescriptor (T f).2.2.1 = some ty) (hn : narrow ty v = v) (hfit : fits ty v = true) (hl : f < fs.length)
    (hd : decode cc pc = .ok (.putfield idx, 3)) (fs' : List Value) (he : fs.set f v = fs') (kk : zV G X nL (zPx G B ((a, .inr (ci, fs')) :: ws)) k n (pc + 3) lo st) : zV G X nL (zPx G B ((a, .inr (ci, fs)) :: ws)) k n pc lo (v :: .ref a :: st) := fun H locs ls hP0 hS hL => by
  obtain ⟨hat, hA⟩ := hP0.head
  have hK := K.2.2.2.2.2.1.1
  have hts := K.2.2.2.2.1
  have hap := va_apart (own := own) hts hin ty0 hty hnm hK hc
  obtain ⟨r, h1, cell, q1, q2, q3, q4⟩ := hat
  have hr : r = (C, T, N) := Option.some.inj (h1.symm.trans hc)
  subst hr
  obtain ⟨hSl, hfc, kC, hkC, hkind⟩ := hK.1 ci _ hc
  obtain ⟨cf, kf, fi, fd, hi, hsl⟩ := hSl f hf
  have hlay := hts _ (hin _ (u_in_lay hf))
  unfold u_lay at hlay
  rw [if_pos hfin] at hlay
  have hst := (u_facts hfc hkC (u_lays hts hin hf) hi).1
  have hcf : (xm X).cls = cf := by
    obtain ⟨_, _, c', _, _, _, -, -, hf', -, -, -, hown2, -⟩ := Cond.laysFinal_spec hlay
    have e1 : c' = cf := by have := hi.symm.trans hf'; simp at this; exact this.1.symm
    rw [hdecl] at hown2
    rw [← e1]; exact Option.some.inj (K.2.2.2.1.symm.trans hown2)
  have h6 := u_fits hfc hkC hkind (Or.inr hlay) hi hd0 hn hfit
  refine W.putFinK K.1 K.2.1 K.2.2.2.1 (hts _ hw) (by rw [← hdecl]; exact hi) hst hcf hnme (by rw [q2]; exact h6) q1 q3 (by rw [hsl]; exact k2_hasslot (q4 f hf)) rfl rfl hd fun H' e1 e2 e3 => ?_
  rw [hsl] at e1 ⊢
  refine kk H' _ ls (hP0.upd hB ?_ e3) (hS.put e2 e3 hA) hL
  rw [← he]
  exact ⟨_, hc, t_OB.to (V := updV (vp_V fs) f v) ⟨_, e1, q2, q3, t_set q4 hap hf v⟩ (fun j _ => vp_updV_set hl v j)⟩
end ZY
