/-! rows that read and write the heap, over a picture; then over the state -/
section ZH
variable {G : zG} {X : zX} {cc : ByteArray} {own : String} {nL : Nat} {ret : Option FieldType} {rm : Room} {P : Heap → Prop} {k n pc : Nat} {lo : List (Nat × Value)} {st : List Value}
theorem zi_get (K : zK G X cc own nL ret rm) {C ref : String} {T : u_T} {N ci idx a f : Nat} {fs : List Value} {v : Value} (hc : zCl[ci]? = some (C, T, N)) (hin : ∀ w ∈ u_ws C T N, w ∈ zB) (hP : ∀ H, P H → va_at G.2.2.1 zCl (a, .inr (ci, fs)) H) (hf : f < N) (hw : Cond.fieldLink own idx ref (T f).2.1 (T f).2.2.1 ∈ zB)
    (hsame : ∀ x, (xs X).fieldFound? (T f).1 (T f).2.1 (T f).2.2.1 = some x → (xs X).fieldFound? ref (T f).2.1 (T f).2.2.1 = some x) (hd : decode cc pc = .ok (.getfield idx, 3)) (hv : fs[f]? = some v) (kk : zV G X nL P k n (pc + 3) lo (v :: st)) : zV G X nL P k n pc lo (.ref a :: st) := fun H locs ls hP0 hS hL =>
  va_get (D := G.2.2.1) (cl := zCl) (tys := zty G.2.2.2.1) (ws := [(a, .inr (ci, fs))]) K.1 K.2.1 K.2.2.2.2.1 hin K.2.2.2.1 K.2.2.2.2.2.1.1 (fun q x hq => by
    have hz : q < 1 := (List.getElem?_eq_some_iff.mp hq).1
    rw [show q = 0 by omega] at hq
    cases hq
    exact hP H hP0) 0 rfl hc f hf (K.2.2.2.2.1 _ hw) hsame hv hd (kk H locs ls hP0 hS hL)
theorem zi_put (K : zK G X cc own nL ret rm) {C ref : String} {T : u_T} {N ci idx a f : Nat} {fs : List Value} {v : Value} {P' : Heap → Prop} (hc : zCl[ci]? = some (C, T, N)) (hin : ∀ w ∈ u_ws C T N, w ∈ zB) (ty0 : Nat → FieldType) (hty : ∀ k, k < N → parseFieldDescriptor (T k).2.2.1 = some (ty0 k)) (hnm : ∀ a, a < N → ∀ b, b < N → a ≠ b → (T a).2.1 ≠ (T b).2.1)
    (hP : ∀ H, P H → va_at G.2.2.1 zCl (a, .inr (ci, fs)) H ∧ gA G a) (hf : f < N) (hw : Cond.fieldLink own idx ref (T f).2.1 (T f).2.2.1 ∈ zB) (hsame : ∀ x, (xs X).fieldFound? (T f).1 (T f).2.1 (T f).2.2.1 = some x → (xs X).fieldFound? ref (T f).2.1 (T f).2.2.1 = some x) (hfin : (T f).2.2.2 = false) {ty : FieldType} (hd0 : parseFieldDescriptor (T f).2.2.1 = some ty) (hn : narrow ty v = v) (hfit : fits ty v = true) (hl : f < fs.length)
    (hd : decode cc pc = .ok (.putfield idx, 3)) (hP' : ∀ H H1 : Heap, P H → va_at G.2.2.1 zCl (a, .inr (ci, fs.set f v)) H1 → H1.size = H.size → (∀ q, q ≠ a → H1[q]? = H[q]?) → P' H1) (kk : zV G X nL P' k n (pc + 3) lo st) : zV G X nL P k n pc lo (v :: .ref a :: st) := fun H locs ls hP0 hS hL => by
  obtain ⟨hat, hA⟩ := hP H hP0
  have hK := K.2.2.2.2.2.1.1
  have hap := va_apart (own := own) K.2.2.2.2.1 hin ty0 hty hnm hK hc
  obtain ⟨r, h1, cell, q1, q2, q3, q4⟩ := hat
  have hr : r = (C, T, N) := Option.some.inj (h1.symm.trans hc)
  subst hr
  obtain ⟨hSl, hfc, kC, hkC, hkind⟩ := hK.1 ci _ hc
  obtain ⟨cf, kf, fi, fd, hi, hsl⟩ := hSl f hf
  have hlay := K.2.2.2.2.1 _ (hin _ (u_in_lay hf))
  unfold u_lay at hlay
  rw [if_neg (by rw [hfin]; decide)] at hlay
  have hst := (u_facts hfc hkC (u_lays K.2.2.2.2.1 hin hf) hi).1
  have h6 := u_store hfc hkC hkind hlay hi hd0 hn hfit
  refine W.putK K.1 K.2.1 (f := fd) ⟨K.2.2.2.1, K.2.2.2.2.1 _ hw, ⟨_, _, _, hsame _ hi⟩, hst⟩ (by rw [q2]; exact h6) q1 q3 (by rw [hsl]; exact k2_hasslot (q4 f hf)) rfl rfl hd fun H' e1 e2 e3 => ?_
  rw [hsl] at e1 ⊢
  exact kk H' _ ls (hP' H H' hP0 ⟨_, hc, t_OB.to (V := updV (vp_V fs) f v) ⟨_, e1, q2, q3, t_set q4 hap hf v⟩ (fun j _ => vp_updV_set hl v j)⟩ e2 e3) (hS.put e2 e3 hA) hL
theorem zi_iald (K : zK G X cc own nL ret rm) {a N : Nat} {f : Nat → Int32} {j : Int32} (hP : ∀ H, P H → va_at G.2.2.1 zCl (a, .inl (G.2.2.2.1 0, N, .inl f)) H) (i : Nat) (hj : j = nI i) (hi : i < N) (hN : N < 2 ^ 31) (hd : decode cc pc = .ok (.iaload, 1)) (kk : zV G X nL P k n (pc + 1) lo (.int (f i) :: st)) : zV G X nL P k n pc lo (.int j :: .ref a :: st) := fun H locs ls hP0 hS hL => by
  subst hj
  refine va_iald (D := G.2.2.1) (cl := zCl) (tys := zty G.2.2.2.1) (ws := [(a, .inl (G.2.2.2.1 0, N, .inl f))]) K.1 K.2.1 K.2.2.2.2.2.1.1 (fun q x hq => by
    have hz : q < 1 := (List.getElem?_eq_some_iff.mp hq).1
    rw [show q = 0 by omega] at hq
    cases hq
    exact hP H hP0) 0 0 rfl rfl (vp_in_nI hi hN) hd ?_
  rw [nI_clamp (Nat.lt_trans hi hN)]
  exact kk H locs ls hP0 hS hL
theorem zi_lald (K : zK G X cc own nL ret rm) {a N : Nat} {f : Nat → Int64} {j : Int32} (hP : ∀ H, P H → va_at G.2.2.1 zCl (a, .inl (G.2.2.2.1 1, N, .inr (.inl f))) H) (i : Nat) (hj : j = nI i) (hi : i < N) (hN : N < 2 ^ 31) (hd : decode cc pc = .ok (.laload, 1)) (kk : zV G X nL P k n (pc + 1) lo (.long (f i) :: st)) : zV G X nL P k n pc lo (.int j :: .ref a :: st) := fun H locs ls hP0 hS hL => by
  subst hj
  refine va_lald (D := G.2.2.1) (cl := zCl) (tys := zty G.2.2.2.1) (ws := [(a, .inl (G.2.2.2.1 1, N, .inr (.inl f)))]) K.1 K.2.1 K.2.2.2.2.2.1.1 (fun q x hq => by
    have hz : q < 1 := (List.getElem?_eq_some_iff.mp hq).1
    rw [show q = 0 by omega] at hq
    cases hq
    exact hP H hP0) 0 1 rfl rfl (vp_in_nI hi hN) hd ?_
  rw [nI_clamp (Nat.lt_trans hi hN)]
  exact kk H locs ls hP0 hS hL
theorem zi_zald (K : zK G X cc own nL ret rm) {a N : Nat} {f : Nat → Int32} {j : Int32} (hP : ∀ H, P H → va_at G.2.2.1 zCl (a, .inl (G.2.2.2.1 2, N, .inl f)) H) (i : Nat) (hj : j = nI i) (hi : i < N) (hN : N < 2 ^ 31) (hd : decode cc pc = .ok (.baload, 1)) (kk : zV G X nL P k n (pc + 1) lo (.int (f i) :: st)) : zV G X nL P k n pc lo (.int j :: .ref a :: st) := fun H locs ls hP0 hS hL => by
  subst hj
  refine va_zald (D := G.2.2.1) (cl := zCl) (tys := zty G.2.2.2.1) (ws := [(a, .inl (G.2.2.2.1 2, N, .inl f))]) K.1 K.2.1 K.2.2.2.2.2.1.1 (fun q x hq => by
    have hz : q < 1 := (List.getElem?_eq_some_iff.mp hq).1
    rw [show q = 0 by omega] at hq
    cases hq
    exact hP H hP0) 0 2 rfl rfl (vp_in_nI hi hN) hd ?_
  rw [nI_clamp (Nat.lt_trans hi hN)]
  exact kk H locs ls hP0 hS hL
theorem zi_iast (K : zK G X cc own nL ret rm) {a N : Nat} {f : Nat → Int32} {j : Int32} {v : Int32} {P' : Heap → Prop} (hP : ∀ H, P H → va_at G.2.2.1 zCl (a, .inl (G.2.2.2.1 0, N, .inl f)) H ∧ gA G a) (i : Nat) (hj : j = nI i) (hi : i < N) (hN : N < 2 ^ 31) (hd : decode cc pc = .ok (.iastore, 1))
    (hP' : ∀ H H1 : Heap, P H → va_at G.2.2.1 zCl (a, .inl (G.2.2.2.1 0, N, .inl (upd f i v))) H1 → H1.size = H.size → (∀ q, q ≠ a → H1[q]? = H[q]?) → P' H1) (kk : zV G X nL P' k n (pc + 1) lo st) : zV G X nL P k n pc lo (.int v :: .int j :: .ref a :: st) := fun H locs ls hP0 hS hL => by
  subst hj
  obtain ⟨hat, hA⟩ := hP H hP0
  refine W.iast K.1 K.2.1 hat ((K.2.2.2.2.2.1.1.2 0 _ rfl).1 N (fun j => .int (f j))) (fun q => by cases q) (by show ¬ (_ ∨ (arrV _ _ _).slots.size ≤ _); rw [arrV_size]; exact vp_in_nI hi hN) rfl rfl hd fun H1 e z oq => ?_
  rw [nI_clamp (Nat.lt_trans hi hN)] at e ⊢
  refine kk H1 _ ls (hP' H H1 hP0 ?_ z oq) (hS.put z oq hA) hL
  show H1[a]? = some (vp_cell _ _)
  rw [e]
  rw [vp_cell_i, vp_cell_i, arrV_store]
  congr 2
  funext q
  by_cases hq : q = i
  · subst hq
    simp [updV, upd, vp_updL]
  · simp [updV, upd, vp_updL, hq]
theorem zi_last (K : zK G X cc own nL ret rm) {a N : Nat} {f : Nat → Int64} {j : Int32} {v : Int64} {P' : Heap → Prop} (hP : ∀ H, P H → va_at G.2.2.1 zCl (a, .inl (G.2.2.2.1 1, N, .inr (.inl f))) H ∧ gA G a) (i : Nat) (hj : j = nI i) (hi : i < N) (hN : N < 2 ^ 31) (hd : decode cc pc = .ok (.lastore, 1))
    (hP' : ∀ H H1 : Heap, P H → va_at G.2.2.1 zCl (a, .inl (G.2.2.2.1 1, N, .inr (.inl (vp_updL f i v)))) H1 → H1.size = H.size → (∀ q, q ≠ a → H1[q]? = H[q]?) → P' H1) (kk : zV G X nL P' k n (pc + 1) lo st) : zV G X nL P k n pc lo (.long v :: .int j :: .ref a :: st) := fun H locs ls hP0 hS hL => by
  subst hj
  obtain ⟨hat, hA⟩ := hP H hP0
  refine W.last K.1 K.2.1 hat ((K.2.2.2.2.2.1.1.2 1 _ rfl).1 N (fun j => .long (f j))) (fun q => by cases q) (by show ¬ (_ ∨ (arrV _ _ _).slots.size ≤ _); rw [arrV_size]; exact vp_in_nI hi hN) rfl rfl hd fun H1 e z oq => ?_
  rw [nI_clamp (Nat.lt_trans hi hN)] at e ⊢
  refine kk H1 _ ls (hP' H H1 hP0 ?_ z oq) (hS.put z oq hA) hL
  show H1[a]? = some (vp_cell _ _)
  rw [e]
  rw [vp_cell_l, vp_cell_l, arrV_store]
  congr 2
  funext q
  by_cases hq : q = i
  · subst hq
    simp [updV, upd, vp_updL]
  · simp [updV, upd, vp_updL, hq]
theorem zi_zast (K : zK G X cc own nL ret rm) {a N : Nat} {f : Nat → Int32} {j : Int32} {v : Int32} {P' : Heap → Prop} (hP : ∀ H, P H → va_at G.2.2.1 zCl (a, .inl (G.2.2.2.1 2, N, .inl f)) H ∧ gA G a) (i : Nat) (hj : j = nI i) (hi : i < N) (hN : N < 2 ^ 31) (hz : narrow .boolean (.int v) = .int v) (hd : decode cc pc = .ok (.bastore, 1))
    (hP' : ∀ H H1 : Heap, P H → va_at G.2.2.1 zCl (a, .inl (G.2.2.2.1 2, N, .inl (upd f i v))) H1 → H1.size = H.size → (∀ q, q ≠ a → H1[q]? = H[q]?) → P' H1) (kk : zV G X nL P' k n (pc + 1) lo st) : zV G X nL P k n pc lo (.int v :: .int j :: .ref a :: st) := fun H locs ls hP0 hS hL => by
  subst hj
  obtain ⟨hat, hA⟩ := hP H hP0
  refine W.zast K.1 K.2.1 hat ((K.2.2.2.2.2.1.1.2 2 _ rfl).1 N (fun j => .int (f j))) (fun q => by cases q) (by show ¬ (_ ∨ (arrV _ _ _).slots.size ≤ _); rw [arrV_size]; exact vp_in_nI hi hN) rfl rfl hd fun H1 e z oq => ?_
  rw [nI_clamp (Nat.lt_trans hi hN)] at e ⊢
  refine kk H1 _ ls (hP' H H1 hP0 ?_ z oq) (hS.put z oq hA) hL
  show H1[a]? = some (vp_cell _ _)
  rw [e]
  rw [vp_cell_i, vp_cell_i, arrV_store]
  congr 2
  funext q
  by_cases hq : q = i
  · subst hq
    simp [updV, upd, vp_updL, hz]
  · simp [updV, upd, vp_updL, hq]
theorem zi_alen (K : zK G X cc own nL ret rm) {a N t0 : Nat} {cA : ClassId} {s : (Nat → Int32) ⊕ (Nat → Int64) ⊕ (Nat → UInt32) ⊕ (Nat → UInt64) ⊕ (Nat → Option Nat)} {ty : FieldType} (ht : (zty G.2.2.2.1)[t0]? = some (cA, ty)) (hP : ∀ H, P H → va_at G.2.2.1 zCl (a, .inl (cA, N, s)) H) (hd : decode cc pc = .ok (.arraylength, 1)) (kk : zV G X nL P k n (pc + 1) lo (.int (nI N) :: st)) : zV G X nL P k n pc lo (.ref a :: st) := fun H locs ls hP0 hS hL => by
  have hA := (K.2.2.2.2.2.1.1.2 t0 _ ht).1
  have hat := hP H hP0
  have hk := kk H locs ls hP0 hS hL
  rcases s with f | f | f | f | f
  all_goals exact W.alen (ty := ty) K.1 K.2.1 hat (hA N _) (by show (arrV _ _ _).slots.size.toInt32 = _; rw [arrV_size]; rfl) rfl rfl hd hk
end ZH
section ZT
variable {G : zG} {X : zX} {cc : ByteArray} {own : String} {nL : Nat} {ret : Option FieldType} {rm : Room} {k n pc : Nat} {lo : List (Nat × Value)} {st : List Value} {ad : Nat → Nat → Nat} {σ : zSt}
theorem zP.at (kd ix : Nat) (hk : kd ≠ 29) {e : va_E} (he : ∀ aa, zct G ad aa σ kd ix = e) (hl : zlv σ kd ix) : ∀ H, zP G ad σ H → va_at G.2.2.1 zCl (ad kd ix, e) H ∧ gA G (ad kd ix) := fun H hP => by
  obtain ⟨aa, h⟩ := hP
  have h1 := h.1 kd ix hl
  rw [he aa, show zadr ad aa kd ix = ad kd ix from if_neg hk] at h1
  exact h1
theorem zP.setI (kd ix : Nat) (hk : kd ≠ 29) {t e : Nat} {v : Int32} (ht : zoI t = kd) (hl : zlv σ kd ix) {q : va_E} (he : ∀ aa, q = zct G ad aa (uI σ t ix e v) kd ix) : ∀ H H1 : Heap, zP G ad σ H → va_at G.2.2.1 zCl (ad kd ix, q) H1 → H1.size = H.size → (∀ q, q ≠ ad kd ix → H1[q]? = H[q]?) → zP G ad (uI σ t ix e v) H1 := fun H H1 hP ha _ oq => by
  obtain ⟨aa, h⟩ := hP
  have hz : zadr ad aa kd ix = ad kd ix := if_neg hk
  refine ⟨aa, h.setI ht hl ?_ ?_⟩
  · rw [hz, ← he aa]; exact ha
  · rw [hz]; exact oq
theorem zP.setL (kd ix : Nat) (hk : kd ≠ 29) {t e : Nat} {v : Int64} (ht : zoL t = kd) (hl : zlv σ kd ix) {q : va_E} (he : ∀ aa, q = zct G ad aa (uL σ t ix e v) kd ix) : ∀ H H1 : Heap, zP G ad σ H → va_at G.2.2.1 zCl (ad kd ix, q) H1 → H1.size = H.size → (∀ q, q ≠ ad kd ix → H1[q]? = H[q]?) → zP G ad (uL σ t ix e v) H1 := fun H H1 hP ha _ oq => by
  obtain ⟨aa, h⟩ := hP
  have hz : zadr ad aa kd ix = ad kd ix := if_neg hk
  refine ⟨aa, h.setL ht hl ?_ ?_⟩
  · rw [hz, ← he aa]; exact ha
  · rw [hz]; exact oq
theorem zr_O {ix : Nat} (hl : ix = 0) : ∀ H, zP G ad σ H → va_at G.2.2.1 zCl (ad 0 ix, zqO ad σ ix) H ∧ gA G (ad 0 ix) := zP.at 0 ix (by decide) (fun _ => rfl) hl
theorem zg_O_policies (K : zK G X cc own nL ret rm) {ix idx : Nat} (hl : ix = 0) (hw : Cond.fieldLink own idx RX8 "policies" "Ljava/util/ArrayList;" ∈ zB) (hd : decode cc pc = .ok (.getfield idx, 3)) (kk : zV G X nL (zP G ad σ) k n (pc + 3) lo (.ref (ad 28 0) :: st)) : zV G X nL (zP G ad σ) k n pc lo (.ref (ad 0 ix) :: st) := zi_get (ci := 8) (C := RX8) (T := TX8) (N := 9) (f := 0) K rfl inX8 (fun H h => (zr_O hl H h).1) (Nat.le_of_ble_eq_true rfl) hw (fun _ h => h) hd rfl kk
theorem zg_O_claims (K : zK G X cc own nL ret rm) {ix idx : Nat} (hl : ix = 0) (hw : Cond.fieldLink own idx RX8 "claims" "Ljava/util/ArrayList;" ∈ zB) (hd : decode cc pc = .ok (.getfield idx, 3)) (kk : zV G X nL (zP G ad σ) k n (pc + 3) lo (.ref (ad 28 1) :: st)) : zV G X nL (zP G ad σ) k n pc lo (.ref (ad 0 ix) :: st) := zi_get (ci := 8) (C := RX8) (T := TX8) (N := 9) (f := 1) K rfl inX8 (fun H h => (zr_O hl H h).1) (Nat.le_of_ble_eq_true rfl) hw (fun _ h => h) hd rfl kk
theorem zg_O_terms (K : zK G X cc own nL ret rm) {ix idx : Nat} (hl : ix = 0) (hw : Cond.fieldLink own idx RX8 "terms" "Ljava/util/ArrayList;" ∈ zB) (hd : decode cc pc = .ok (.getfield idx, 3)) (kk : zV G X nL (zP G ad σ) k n (pc + 3) lo (.ref (ad 28 2) :: st)) : zV G X nL (zP G ad σ) k n pc lo (.ref (ad 0 ix) :: st) := zi_get (ci := 8) (C := RX8) (T := TX8) (N := 9) (f := 2) K rfl inX8 (fun H h => (zr_O hl H h).1) (Nat.le_of_ble_eq_true rfl) hw (fun _ h => h) hd rfl kk
theorem zg_O_scenarios (K : zK G X cc own nL ret rm) {ix idx : Nat} (hl : ix = 0) (hw : Cond.fieldLink own idx RX8 "scenarios" "Ljava/util/ArrayList;" ∈ zB) (hd : decode cc pc = .ok (.getfield idx, 3)) (kk : zV G X nL (zP G ad σ) k n (pc + 3) lo (.ref (ad 28 3) :: st)) : zV G X nL (zP G ad σ) k n pc lo (.ref (ad 0 ix) :: st) := zi_get (ci := 8) (C := RX8) (T := TX8) (N := 9) (f := 3) K rfl inX8 (fun H h => (zr_O hl H h).1) (Nat.le_of_ble_eq_true rfl) hw (fun _ h => h) hd rfl kk
theorem zg_O_damages (K : zK G X cc own nL ret rm) {ix idx : Nat} (hl : ix = 0) (hw : Cond.fieldLink own idx RX8 "damages" "Ljava/util/ArrayList;" ∈ zB) (hd : decode cc pc = .ok (.getfield idx, 3)) (kk : zV G X nL (zP G ad σ) k n (pc + 3) lo (.ref (ad 28 4) :: st)) : zV G X nL (zP G ad σ) k n pc lo (.ref (ad 0 ix) :: st) := zi_get (ci := 8) (C := RX8) (T := TX8) (N := 9) (f := 4) K rfl inX8 (fun H h => (zr_O hl H h).1) (Nat.le_of_ble_eq_true rfl) hw (fun _ h => h) hd rfl kk
theorem zg_O_real (K : zK G X cc own nL ret rm) {ix idx : Nat} (hl : ix = 0) (hw : Cond.fieldLink own idx RX8 "real" "LLayertreaty$Flow;" ∈ zB) (hd : decode cc pc = .ok (.getfield idx, 3)) (kk : zV G X nL (zP G ad σ) k n (pc + 3) lo (.ref (ad 11 0) :: st)) : zV G X nL (zP G ad σ) k n pc lo (.ref (ad 0 ix) :: st) := zi_get (ci := 8) (C := RX8) (T := TX8) (N := 9) (f := 5) K rfl inX8 (fun H h => (zr_O hl H h).1) (Nat.le_of_ble_eq_true rfl) hw (fun _ h => h) hd rfl kk
theorem zg_O_trial (K : zK G X cc own nL ret rm) {ix idx : Nat} (hl : ix = 0) (hw : Cond.fieldLink own idx RX8 "trial" "LLayertreaty$Flow;" ∈ zB) (hd : decode cc pc = .ok (.getfield idx, 3)) (kk : zV G X nL (zP G ad σ) k n (pc + 3) lo (.ref (ad 11 1) :: st)) : zV G X nL (zP G ad σ) k n pc lo (.ref (ad 0 ix) :: st) := zi_get (ci := 8) (C := RX8) (T := TX8) (N := 9) (f := 6) K rfl inX8 (fun H h => (zr_O hl H h).1) (Nat.le_of_ble_eq_true rfl) hw (fun _ h => h) hd rfl kk
theorem zg_O_pool (K : zK G X cc own nL ret rm) {ix idx : Nat} (hl : ix = 0) (hw : Cond.fieldLink own idx RX8 "pool" "LLayertreaty$Pool;" ∈ zB) (hd : decode cc pc = .ok (.getfield idx, 3)) (kk : zV G X nL (zP G ad σ) k n (pc + 3) lo (.ref (ad 18 0) :: st)) : zV G X nL (zP G ad σ) k n pc lo (.ref (ad 0 ix) :: st) := zi_get (ci := 8) (C := RX8) (T := TX8) (N := 9) (f := 7) K rfl inX8 (fun H h => (zr_O hl H h).1) (Nat.le_of_ble_eq_true rfl) hw (fun _ h => h) hd rfl kk
theorem zg_O_isSettled (K : zK G X cc own nL ret rm) {ix idx : Nat} (hl : ix = 0) (hw : Cond.fieldLink own idx RX8 "isSettled" "Z" ∈ zB) (hd : decode cc pc = .ok (.getfield idx, 3)) (kk : zV G X nL (zP G ad σ) k n (pc + 3) lo (.int (sI σ 35 ix 0) :: st)) : zV G X nL (zP G ad σ) k n pc lo (.ref (ad 0 ix) :: st) := zi_get (ci := 8) (C := RX8) (T := TX8) (N := 9) (f := 8) K rfl inX8 (fun H h => (zr_O hl H h).1) (Nat.le_of_ble_eq_true rfl) hw (fun _ h => h) hd rfl kk
theorem zp_O_isSettled (K : zK G X cc own nL ret rm) {ix idx : Nat} {v : Int32} (hl : ix = 0) (hw : Cond.fieldLink own idx RX8 "isSettled" "Z" ∈ zB) (hz : narrow .boolean (.int v) = .int v ∧ fits .boolean (.int v) = true) (hd : decode cc pc = .ok (.putfield idx, 3)) (kk : zV G X nL (zP G ad (uI σ 35 ix 0 v)) k n (pc + 3) lo st) : zV G X nL (zP G ad σ) k n pc lo (.int v :: .ref (ad 0 ix) :: st) :=
  zi_put (ci := 8) (C := RX8) (T := TX8) (N := 9) (f := 8) (ty := .boolean) K rfl inX8 tyX8 tyX8_ok nmX8 (zr_O hl) (Nat.le_of_ble_eq_true rfl) hw (fun _ h => h) rfl (by decide +kernel) hz.1 hz.2 (Nat.le_of_ble_eq_true rfl) hd (zP.setI 0 ix (by decide) rfl hl (fun _ => by
    show _ = zqO ad (uI σ 35 ix 0 v) ix
    show (.inr (8, [.ref (ad 28 0), .ref (ad 28 1), .ref (ad 28 2), .ref (ad 28 3), .ref (ad 28 4), .ref (ad 11 0), .ref (ad 11 1), .ref (ad 18 0), .int v]) : va_E) = _
    unfold zqO
    rw [show sI (uI σ 35 ix 0 v) 35 ix 0 = v from u3_s _ _ _ _ _]
    all_goals rfl)) kk
theorem zr_POL {ix : Nat} (hl : ix < sN σ 0) : ∀ H, zP G ad σ H → va_at G.2.2.1 zCl (ad 1 ix, zqPOL σ ix) H ∧ gA G (ad 1 ix) := zP.at 1 ix (by decide) (fun _ => rfl) hl
theorem zg_POL_sum (K : zK G X cc own nL ret rm) {ix idx : Nat} (hl : ix < sN σ 0) (hw : Cond.fieldLink own idx RX4 "sum" "I" ∈ zB) (hd : decode cc pc = .ok (.getfield idx, 3)) (kk : zV G X nL (zP G ad σ) k n (pc + 3) lo (.int (sI σ 0 ix 0) :: st)) : zV G X nL (zP G ad σ) k n pc lo (.ref (ad 1 ix) :: st) := zi_get (ci := 4) (C := RX4) (T := TX4) (N := 4) (f := 0) K rfl inX4 (fun H h => (zr_POL hl H h).1) (Nat.le_of_ble_eq_true rfl) hw (fun _ h => h) hd rfl kk
theorem zg_POL_zone (K : zK G X cc own nL ret rm) {ix idx : Nat} (hl : ix < sN σ 0) (hw : Cond.fieldLink own idx RX4 "zone" "I" ∈ zB) (hd : decode cc pc = .ok (.getfield idx, 3)) (kk : zV G X nL (zP G ad σ) k n (pc + 3) lo (.int (sI σ 1 ix 0) :: st)) : zV G X nL (zP G ad σ) k n pc lo (.ref (ad 1 ix) :: st) := zi_get (ci := 4) (C := RX4) (T := TX4) (N := 4) (f := 1) K rfl inX4 (fun H h => (zr_POL hl H h).1) (Nat.le_of_ble_eq_true rfl) hw (fun _ h => h) hd rfl kk
theorem zg_POL_first (K : zK G X cc own nL ret rm) {ix idx : Nat} (hl : ix < sN σ 0) (hw : Cond.fieldLink own idx RX4 "first" "I" ∈ zB) (hd : decode cc pc = .ok (.getfield idx, 3)) (kk : zV G X nL (zP G ad σ) k n (pc + 3) lo (.int (sI σ 2 ix 0) :: st)) : zV G X nL (zP G ad σ) k n pc lo (.ref (ad 1 ix) :: st) := zi_get (ci := 4) (C := RX4) (T := TX4) (N := 4) (f := 2) K rfl inX4 (fun H h => (zr_POL hl H h).1) (Nat.le_of_ble_eq_true rfl) hw (fun _ h => h) hd rfl kk
theorem zg_POL_last (K : zK G X cc own nL ret rm) {ix idx : Nat} (hl : ix < sN σ 0) (hw : Cond.fieldLink own idx RX4 "last" "I" ∈ zB) (hd : decode cc pc = .ok (.getfield idx, 3)) (kk : zV G X nL (zP G ad σ) k n (pc + 3) lo (.int (sI σ 3 ix 0) :: st)) : zV G X nL (zP G ad σ) k n pc lo (.ref (ad 1 ix) :: st) := zi_get (ci := 4) (C := RX4) (T := TX4) (N := 4) (f := 3) K rfl inX4 (fun H h => (zr_POL hl H h).1) (Nat.le_of_ble_eq_true rfl) hw (fun _ h => h) hd rfl kk
theorem zr_CL {ix : Nat} (hl : zlC σ ix) : ∀ H, zP G ad σ H → va_at G.2.2.1 zCl (ad 2 ix, zqCL ad σ ix) H ∧ gA G (ad 2 ix) := zP.at 2 ix (by decide) (fun _ => rfl) hl
theorem zg_CL_policy (K : zK G X cc own nL ret rm) {ix idx : Nat} (hl : zlC σ ix) (hw : Cond.fieldLink own idx RX0 "policy" "LLayertreaty$Policy;" ∈ zB) (hd : decode cc pc = .ok (.getfield idx, 3)) (kk : zV G X nL (zP G ad σ) k n (pc + 3) lo (.ref (ad 1 (sP σ ix)) :: st)) : zV G X nL (zP G ad σ) k n pc lo (.ref (ad 2 ix) :: st) := zi_get (ci := 0) (C := RX0) (T := TX0) (N := 7) (f := 0) K rfl inX0 (fun H h => (zr_CL hl H h).1) (Nat.le_of_ble_eq_true rfl) hw (fun _ h => h) hd rfl kk
theorem zg_CL_took (K : zK G X cc own nL ret rm) {ix idx : Nat} (hl : zlC σ ix) (hw : Cond.fieldLink own idx RX0 "took" "[J" ∈ zB) (hd : decode cc pc = .ok (.getfield idx, 3)) (kk : zV G X nL (zP G ad σ) k n (pc + 3) lo (.ref (ad 3 ix) :: st)) : zV G X nL (zP G ad σ) k n pc lo (.ref (ad 2 ix) :: st) := zi_get (ci := 0) (C := RX0) (T := TX0) (N := 7) (f := 1) K rfl inX0 (fun H h => (zr_CL hl H h).1) (Nat.le_of_ble_eq_true rfl) hw (fun _ h => h) hd rfl kk
theorem zg_CL_events (K : zK G X cc own nL ret rm) {ix idx : Nat} (hl : zlC σ ix) (hw : Cond.fieldLink own idx RX0 "events" "[I" ∈ zB) (hd : decode cc pc = .ok (.getfield idx, 3)) (kk : zV G X nL (zP G ad σ) k n (pc + 3) lo (.ref (ad 4 ix) :: st)) : zV G X nL (zP G ad σ) k n pc lo (.ref (ad 2 ix) :: st) := zi_get (ci := 0) (C := RX0) (T := TX0) (N := 7) (f := 2) K rfl inX0 (fun H h => (zr_CL hl H h).1) (Nat.le_of_ble_eq_true rfl) hw (fun _ h => h) hd rfl kk
theorem zg_CL_day (K : zK G X cc own nL ret rm) {ix idx : Nat} (hl : zlC σ ix) (hw : Cond.fieldLink own idx RX0 "day" "I" ∈ zB) (hd : decode cc pc = .ok (.getfield idx, 3)) (kk : zV G X nL (zP G ad σ) k n (pc + 3) lo (.int (sI σ 4 ix 0) :: st)) : zV G X nL (zP G ad σ) k n pc lo (.ref (ad 2 ix) :: st) := zi_get (ci := 0) (C := RX0) (T := TX0) (N := 7) (f := 3) K rfl inX0 (fun H h => (zr_CL hl H h).1) (Nat.le_of_ble_eq_true rfl) hw (fun _ h => h) hd rfl kk
theorem zp_CL_day (K : zK G X cc own nL ret rm) {ix idx : Nat} {v : Int32} (hl : zlC σ ix) (hw : Cond.fieldLink own idx RX0 "day" "I" ∈ zB) (hd : decode cc pc = .ok (.putfield idx, 3)) (kk : zV G X nL (zP G ad (uI σ 4 ix 0 v)) k n (pc + 3) lo st) : zV G X nL (zP G ad σ) k n pc lo (.int v :: .ref (ad 2 ix) :: st) :=
  zi_put (ci := 0) (C := RX0) (T := TX0) (N := 7) (f := 3) (ty := .int) K rfl inX0 tyX0 tyX0_ok nmX0 (zr_CL hl) (Nat.le_of_ble_eq_true rfl) hw (fun _ h => h) rfl (by decide +kernel) rfl rfl (Nat.le_of_ble_eq_true rfl) hd (zP.setI 2 ix (by decide) rfl hl (fun _ => by
    show _ = zqCL ad (uI σ 4 ix 0 v) ix
    show (.inr (0, [.ref (ad 1 (sP σ ix)), .ref (ad 3 ix), .ref (ad 4 ix), .int v, .int (sI σ 5 ix 0), .int (sI σ 6 ix 0), .long (sL σ 0 ix 0)]) : va_E) = _
    unfold zqCL
    rw [show sI (uI σ 4 ix 0 v) 4 ix 0 = v from u3_s _ _ _ _ _]
    all_goals rfl)) kk
theorem zg_CL_told (K : zK G X cc own nL ret rm) {ix idx : Nat} (hl : zlC σ ix) (hw : Cond.fieldLink own idx RX0 "told" "I" ∈ zB) (hd : decode cc pc = .ok (.getfield idx, 3)) (kk : zV G X nL (zP G ad σ) k n (pc + 3) lo (.int (sI σ 5 ix 0) :: st)) : zV G X nL (zP G ad σ) k n pc lo (.ref (ad 2 ix) :: st) := zi_get (ci := 0) (C := RX0) (T := TX0) (N := 7) (f := 4) K rfl inX0 (fun H h => (zr_CL hl H h).1) (Nat.le_of_ble_eq_true rfl) hw (fun _ h => h) hd rfl kk
theorem zp_CL_told (K : zK G X cc own nL ret rm) {ix idx : Nat} {v : Int32} (hl : zlC σ ix) (hw : Cond.fieldLink own idx RX0 "told" "I" ∈ zB) (hd : decode cc pc = .ok (.putfield idx, 3)) (kk : zV G X nL (zP G ad (uI σ 5 ix 0 v)) k n (pc + 3) lo st) : zV G X nL (zP G ad σ) k n pc lo (.int v :: .ref (ad 2 ix) :: st) :=
  zi_put (ci := 0) (C := RX0) (T := TX0) (N := 7) (f := 4) (ty := .int) K rfl inX0 tyX0 tyX0_ok nmX0 (zr_CL hl) (Nat.le_of_ble_eq_true rfl) hw (fun _ h => h) rfl (by decide +kernel) rfl rfl (Nat.le_of_ble_eq_true rfl) hd (zP.setI 2 ix (by decide) rfl hl (fun _ => by
    show _ = zqCL ad (uI σ 5 ix 0 v) ix
    show (.inr (0, [.ref (ad 1 (sP σ ix)), .ref (ad 3 ix), .ref (ad 4 ix), .int (sI σ 4 ix 0), .int v, .int (sI σ 6 ix 0), .long (sL σ 0 ix 0)]) : va_E) = _
    unfold zqCL
    rw [show sI (uI σ 5 ix 0 v) 5 ix 0 = v from u3_s _ _ _ _ _]
    all_goals rfl)) kk
theorem zg_CL_amount (K : zK G X cc own nL ret rm) {ix idx : Nat} (hl : zlC σ ix) (hw : Cond.fieldLink own idx RX0 "amount" "I" ∈ zB) (hd : decode cc pc = .ok (.getfield idx, 3)) (kk : zV G X nL (zP G ad σ) k n (pc + 3) lo (.int (sI σ 6 ix 0) :: st)) : zV G X nL (zP G ad σ) k n pc lo (.ref (ad 2 ix) :: st) := zi_get (ci := 0) (C := RX0) (T := TX0) (N := 7) (f := 5) K rfl inX0 (fun H h => (zr_CL hl H h).1) (Nat.le_of_ble_eq_true rfl) hw (fun _ h => h) hd rfl kk
theorem zp_CL_amount (K : zK G X cc own nL ret rm) {ix idx : Nat} {v : Int32} (hl : zlC σ ix) (hw : Cond.fieldLink own idx RX0 "amount" "I" ∈ zB) (hd : decode cc pc = .ok (.putfield idx, 3)) (kk : zV G X nL (zP G ad (uI σ 6 ix 0 v)) k n (pc + 3) lo st) : zV G X nL (zP G ad σ) k n pc lo (.int v :: .ref (ad 2 ix) :: st) :=
  zi_put (ci := 0) (C := RX0) (T := TX0) (N := 7) (f := 5) (ty := .int) K rfl inX0 tyX0 tyX0_ok nmX0 (zr_CL hl) (Nat.le_of_ble_eq_true rfl) hw (fun _ h => h) rfl (by decide +kernel) rfl rfl (Nat.le_of_ble_eq_true rfl) hd (zP.setI 2 ix (by decide) rfl hl (fun _ => by
    show _ = zqCL ad (uI σ 6 ix 0 v) ix
    show (.inr (0, [.ref (ad 1 (sP σ ix)), .ref (ad 3 ix), .ref (ad 4 ix), .int (sI σ 4 ix 0), .int (sI σ 5 ix 0), .int v, .long (sL σ 0 ix 0)]) : va_E) = _
    unfold zqCL
    rw [show sI (uI σ 6 ix 0 v) 6 ix 0 = v from u3_s _ _ _ _ _]
    all_goals rfl)) kk
theorem zg_CL_left (K : zK G X cc own nL ret rm) {ix idx : Nat} (hl : zlC σ ix) (hw : Cond.fieldLink own idx RX0 "left" "J" ∈ zB) (hd : decode cc pc = .ok (.getfield idx, 3)) (kk : zV G X nL (zP G ad σ) k n (pc + 3) lo (.long (sL σ 0 ix 0) :: st)) : zV G X nL (zP G ad σ) k n pc lo (.ref (ad 2 ix) :: st) := zi_get (ci := 0) (C := RX0) (T := TX0) (N := 7) (f := 6) K rfl inX0 (fun H h => (zr_CL hl H h).1) (Nat.le_of_ble_eq_true rfl) hw (fun _ h => h) hd rfl kk
theorem zp_CL_left (K : zK G X cc own nL ret rm) {ix idx : Nat} {v : Int64} (hl : zlC σ ix) (hw : Cond.fieldLink own idx RX0 "left" "J" ∈ zB) (hd : decode cc pc = .ok (.putfield idx, 3)) (kk : zV G X nL (zP G ad (uL σ 0 ix 0 v)) k n (pc + 3) lo st) : zV G X nL (zP G ad σ) k n pc lo (.long v :: .ref (ad 2 ix) :: st) :=
  zi_put (ci := 0) (C := RX0) (T := TX0) (N := 7) (f := 6) (ty := .long) K rfl inX0 tyX0 tyX0_ok nmX0 (zr_CL hl) (Nat.le_of_ble_eq_true rfl) hw (fun _ h => h) rfl (by decide +kernel) rfl rfl (Nat.le_of_ble_eq_true rfl) hd (zP.setL 2 ix (by decide) rfl hl (fun _ => by
    show _ = zqCL ad (uL σ 0 ix 0 v) ix
    show (.inr (0, [.ref (ad 1 (sP σ ix)), .ref (ad 3 ix), .ref (ad 4 ix), .int (sI σ 4 ix 0), .int (sI σ 5 ix 0), .int (sI σ 6 ix 0), .long v]) : va_E) = _
    unfold zqCL
    rw [show sL (uL σ 0 ix 0 v) 0 ix 0 = v from u3_s _ _ _ _ _]
    all_goals rfl)) kk
theorem zr_TOOK {ix : Nat} (hl : zlC σ ix) : ∀ H, zP G ad σ H → va_at G.2.2.1 zCl (ad 3 ix, zqTOOK G σ ix) H ∧ gA G (ad 3 ix) := zP.at 3 ix (by decide) (fun _ => rfl) hl
theorem zl_TOOK (K : zK G X cc own nL ret rm) {ix : Nat} {j : Int32} (hl : zlC σ ix) (i : Nat) (hj : j = nI i) (hi : i < 8) (hd : decode cc pc = .ok (.laload, 1)) (kk : zV G X nL (zP G ad σ) k n (pc + 1) lo (.long (sL σ 1 ix i) :: st)) : zV G X nL (zP G ad σ) k n pc lo (.int j :: .ref (ad 3 ix) :: st) := zi_lald (f := fun j => sL σ 1 ix j) K (fun H h => (zr_TOOK hl H h).1) i hj hi (Nat.le_of_ble_eq_true rfl) hd kk
theorem zn_TOOK (K : zK G X cc own nL ret rm) {ix : Nat} (hl : zlC σ ix) (hd : decode cc pc = .ok (.arraylength, 1)) (kk : zV G X nL (zP G ad σ) k n (pc + 1) lo (.int 8 :: st)) : zV G X nL (zP G ad σ) k n pc lo (.ref (ad 3 ix) :: st) := zi_alen (t0 := 1) (N := 8) K rfl (fun H h => (zr_TOOK hl H h).1) hd kk
theorem zs_TOOK (K : zK G X cc own nL ret rm) {ix : Nat} {j : Int32} {v : Int64} (hl : zlC σ ix) (i : Nat) (hj : j = nI i) (hi : i < 8) (hd : decode cc pc = .ok (.lastore, 1)) (kk : zV G X nL (zP G ad (uL σ 1 ix i v)) k n (pc + 1) lo st) : zV G X nL (zP G ad σ) k n pc lo (.long v :: .int j :: .ref (ad 3 ix) :: st) :=
  zi_last (f := fun j => sL σ 1 ix j) K (zr_TOOK hl) i hj hi (Nat.le_of_ble_eq_true rfl) hd (zP.setL 3 ix (by decide) rfl hl (fun _ => by
    show _ = zqTOOK G (uL σ 1 ix i v) ix
    unfold zqTOOK
    rw [show vp_updL (fun j => sL σ 1 ix j) i v = (fun j => sL (uL σ 1 ix i v) 1 ix j) from funext fun q => by
      by_cases hq : q = i
      · subst hq; exact (if_pos rfl).trans (u3_s _ _ _ _ _).symm
      · exact (if_neg hq).trans (u3_n _ _ (fun z => hq z.2.2)).symm])) kk
theorem zr_EVS {ix : Nat} (hl : zlC σ ix) : ∀ H, zP G ad σ H → va_at G.2.2.1 zCl (ad 4 ix, zqEVS G σ ix) H ∧ gA G (ad 4 ix) := zP.at 4 ix (by decide) (fun _ => rfl) hl
theorem zl_EVS (K : zK G X cc own nL ret rm) {ix : Nat} {j : Int32} (hl : zlC σ ix) (i : Nat) (hj : j = nI i) (hi : i < 8) (hd : decode cc pc = .ok (.iaload, 1)) (kk : zV G X nL (zP G ad σ) k n (pc + 1) lo (.int (sI σ 7 ix i) :: st)) : zV G X nL (zP G ad σ) k n pc lo (.int j :: .ref (ad 4 ix) :: st) := zi_iald (f := fun j => sI σ 7 ix j) K (fun H h => (zr_EVS hl H h).1) i hj hi (Nat.le_of_ble_eq_true rfl) hd kk
theorem zn_EVS (K : zK G X cc own nL ret rm) {ix : Nat} (hl : zlC σ ix) (hd : decode cc pc = .ok (.arraylength, 1)) (kk : zV G X nL (zP G ad σ) k n (pc + 1) lo (.int 8 :: st)) : zV G X nL (zP G ad σ) k n pc lo (.ref (ad 4 ix) :: st) := zi_alen (t0 := 0) (N := 8) K rfl (fun H h => (zr_EVS hl H h).1) hd kk
theorem zs_EVS (K : zK G X cc own nL ret rm) {ix : Nat} {j : Int32} {v : Int32} (hl : zlC σ ix) (i : Nat) (hj : j = nI i) (hi : i < 8) (hd : decode cc pc = .ok (.iastore, 1)) (kk : zV G X nL (zP G ad (uI σ 7 ix i v)) k n (pc + 1) lo st) : zV G X nL (zP G ad σ) k n pc lo (.int v :: .int j :: .ref (ad 4 ix) :: st) :=
  zi_iast (f := fun j => sI σ 7 ix j) K (zr_EVS hl) i hj hi (Nat.le_of_ble_eq_true rfl) hd (zP.setI 4 ix (by decide) rfl hl (fun _ => by
    show _ = zqEVS G (uI σ 7 ix i v) ix
    unfold zqEVS
    rw [show upd (fun j => sI σ 7 ix j) i v = (fun j => sI (uI σ 7 ix i v) 7 ix j) from funext fun q => by
      by_cases hq : q = i
      · subst hq; exact (if_pos rfl).trans (u3_s _ _ _ _ _).symm
      · exact (if_neg hq).trans (u3_n _ _ (fun z => hq z.2.2)).symm])) kk
theorem zr_TR {ix : Nat} (hl : ix < sN σ 2) : ∀ H, zP G ad σ H → va_at G.2.2.1 zCl (ad 5 ix, zqTR ad σ ix) H ∧ gA G (ad 5 ix) := zP.at 5 ix (by decide) (fun _ => rfl) hl
theorem zg_TR_number (K : zK G X cc own nL ret rm) {ix idx : Nat} (hl : ix < sN σ 2) (hw : Cond.fieldLink own idx RX7 "number" "I" ∈ zB) (hd : decode cc pc = .ok (.getfield idx, 3)) (kk : zV G X nL (zP G ad σ) k n (pc + 3) lo (.int (nI ix) :: st)) : zV G X nL (zP G ad σ) k n pc lo (.ref (ad 5 ix) :: st) := zi_get (ci := 7) (C := RX7) (T := TX7) (N := 15) (f := 0) K rfl inX7 (fun H h => (zr_TR hl H h).1) (Nat.le_of_ble_eq_true rfl) hw (fun _ h => h) hd rfl kk
theorem zg_TR_kind (K : zK G X cc own nL ret rm) {ix idx : Nat} (hl : ix < sN σ 2) (hw : Cond.fieldLink own idx RX7 "kind" "C" ∈ zB) (hd : decode cc pc = .ok (.getfield idx, 3)) (kk : zV G X nL (zP G ad σ) k n (pc + 3) lo (.int (sI σ 8 ix 0) :: st)) : zV G X nL (zP G ad σ) k n pc lo (.ref (ad 5 ix) :: st) := zi_get (ci := 7) (C := RX7) (T := TX7) (N := 15) (f := 1) K rfl inX7 (fun H h => (zr_TR hl H h).1) (Nat.le_of_ble_eq_true rfl) hw (fun _ h => h) hd rfl kk
theorem zg_TR_basis (K : zK G X cc own nL ret rm) {ix idx : Nat} (hl : ix < sN σ 2) (hw : Cond.fieldLink own idx RX7 "basis" "C" ∈ zB) (hd : decode cc pc = .ok (.getfield idx, 3)) (kk : zV G X nL (zP G ad σ) k n (pc + 3) lo (.int (sI σ 9 ix 0) :: st)) : zV G X nL (zP G ad σ) k n pc lo (.ref (ad 5 ix) :: st) := zi_get (ci := 7) (C := RX7) (T := TX7) (N := 15) (f := 2) K rfl inX7 (fun H h => (zr_TR hl H h).1) (Nat.le_of_ble_eq_true rfl) hw (fun _ h => h) hd rfl kk
theorem zg_TR_first (K : zK G X cc own nL ret rm) {ix idx : Nat} (hl : ix < sN σ 2) (hw : Cond.fieldLink own idx RX7 "first" "I" ∈ zB) (hd : decode cc pc = .ok (.getfield idx, 3)) (kk : zV G X nL (zP G ad σ) k n (pc + 3) lo (.int (sI σ 10 ix 0) :: st)) : zV G X nL (zP G ad σ) k n pc lo (.ref (ad 5 ix) :: st) := zi_get (ci := 7) (C := RX7) (T := TX7) (N := 15) (f := 3) K rfl inX7 (fun H h => (zr_TR hl H h).1) (Nat.le_of_ble_eq_true rfl) hw (fun _ h => h) hd rfl kk
theorem zg_TR_last (K : zK G X cc own nL ret rm) {ix idx : Nat} (hl : ix < sN σ 2) (hw : Cond.fieldLink own idx RX7 "last" "I" ∈ zB) (hd : decode cc pc = .ok (.getfield idx, 3)) (kk : zV G X nL (zP G ad σ) k n (pc + 3) lo (.int (sI σ 11 ix 0) :: st)) : zV G X nL (zP G ad σ) k n pc lo (.ref (ad 5 ix) :: st) := zi_get (ci := 7) (C := RX7) (T := TX7) (N := 15) (f := 4) K rfl inX7 (fun H h => (zr_TR hl H h).1) (Nat.le_of_ble_eq_true rfl) hw (fun _ h => h) hd rfl kk
theorem zg_TR_a (K : zK G X cc own nL ret rm) {ix idx : Nat} (hl : ix < sN σ 2) (hw : Cond.fieldLink own idx RX7 "a" "I" ∈ zB) (hd : decode cc pc = .ok (.getfield idx, 3)) (kk : zV G X nL (zP G ad σ) k n (pc + 3) lo (.int (sI σ 12 ix 0) :: st)) : zV G X nL (zP G ad σ) k n pc lo (.ref (ad 5 ix) :: st) := zi_get (ci := 7) (C := RX7) (T := TX7) (N := 15) (f := 5) K rfl inX7 (fun H h => (zr_TR hl H h).1) (Nat.le_of_ble_eq_true rfl) hw (fun _ h => h) hd rfl kk
theorem zg_TR_b (K : zK G X cc own nL ret rm) {ix idx : Nat} (hl : ix < sN σ 2) (hw : Cond.fieldLink own idx RX7 "b" "I" ∈ zB) (hd : decode cc pc = .ok (.getfield idx, 3)) (kk : zV G X nL (zP G ad σ) k n (pc + 3) lo (.int (sI σ 13 ix 0) :: st)) : zV G X nL (zP G ad σ) k n pc lo (.ref (ad 5 ix) :: st) := zi_get (ci := 7) (C := RX7) (T := TX7) (N := 15) (f := 6) K rfl inX7 (fun H h => (zr_TR hl H h).1) (Nat.le_of_ble_eq_true rfl) hw (fun _ h => h) hd rfl kk
theorem zg_TR_shares (K : zK G X cc own nL ret rm) {ix idx : Nat} (hl : ix < sN σ 2) (hw : Cond.fieldLink own idx RX7 "shares" "[I" ∈ zB) (hd : decode cc pc = .ok (.getfield idx, 3)) (kk : zV G X nL (zP G ad σ) k n (pc + 3) lo (.ref (ad 6 ix) :: st)) : zV G X nL (zP G ad σ) k n pc lo (.ref (ad 5 ix) :: st) := zi_get (ci := 7) (C := RX7) (T := TX7) (N := 15) (f := 7) K rfl inX7 (fun H h => (zr_TR hl H h).1) (Nat.le_of_ble_eq_true rfl) hw (fun _ h => h) hd rfl kk
theorem zg_TR_days (K : zK G X cc own nL ret rm) {ix idx : Nat} (hl : ix < sN σ 2) (hw : Cond.fieldLink own idx RX7 "days" "I" ∈ zB) (hd : decode cc pc = .ok (.getfield idx, 3)) (kk : zV G X nL (zP G ad σ) k n (pc + 3) lo (.int (sI σ 14 ix 0) :: st)) : zV G X nL (zP G ad σ) k n pc lo (.ref (ad 5 ix) :: st) := zi_get (ci := 7) (C := RX7) (T := TX7) (N := 15) (f := 8) K rfl inX7 (fun H h => (zr_TR hl H h).1) (Nat.le_of_ble_eq_true rfl) hw (fun _ h => h) hd rfl kk
theorem zp_TR_days (K : zK G X cc own nL ret rm) {ix idx : Nat} {v : Int32} (hl : ix < sN σ 2) (hw : Cond.fieldLink own idx RX7 "days" "I" ∈ zB) (hd : decode cc pc = .ok (.putfield idx, 3)) (kk : zV G X nL (zP G ad (uI σ 14 ix 0 v)) k n (pc + 3) lo st) : zV G X nL (zP G ad σ) k n pc lo (.int v :: .ref (ad 5 ix) :: st) :=
  zi_put (ci := 7) (C := RX7) (T := TX7) (N := 15) (f := 8) (ty := .int) K rfl inX7 tyX7 tyX7_ok nmX7 (zr_TR hl) (Nat.le_of_ble_eq_true rfl) hw (fun _ h => h) rfl (by decide +kernel) rfl rfl (Nat.le_of_ble_eq_true rfl) hd (zP.setI 5 ix (by decide) rfl hl (fun _ => by
    show _ = zqTR ad (uI σ 14 ix 0 v) ix
    show (.inr (7, [.int (nI ix), .int (sI σ 8 ix 0), .int (sI σ 9 ix 0), .int (sI σ 10 ix 0), .int (sI σ 11 ix 0), .int (sI σ 12 ix 0), .int (sI σ 13 ix 0), .ref (ad 6 ix), .int v, .int (sI σ 15 ix 0), .int (sI σ 16 ix 0), .int (sI σ 17 ix 0), .int (sI σ 18 ix 0), .int (sI σ 19 ix 0), .int (sI σ 20 ix 0)]) : va_E) = _
    unfold zqTR
    rw [show sI (uI σ 14 ix 0 v) 14 ix 0 = v from u3_s _ _ _ _ _]
    all_goals rfl)) kk
theorem zg_TR_many (K : zK G X cc own nL ret rm) {ix idx : Nat} (hl : ix < sN σ 2) (hw : Cond.fieldLink own idx RX7 "many" "I" ∈ zB) (hd : decode cc pc = .ok (.getfield idx, 3)) (kk : zV G X nL (zP G ad σ) k n (pc + 3) lo (.int (sI σ 15 ix 0) :: st)) : zV G X nL (zP G ad σ) k n pc lo (.ref (ad 5 ix) :: st) := zi_get (ci := 7) (C := RX7) (T := TX7) (N := 15) (f := 9) K rfl inX7 (fun H h => (zr_TR hl H h).1) (Nat.le_of_ble_eq_true rfl) hw (fun _ h => h) hd rfl kk
theorem zp_TR_many (K : zK G X cc own nL ret rm) {ix idx : Nat} {v : Int32} (hl : ix < sN σ 2) (hw : Cond.fieldLink own idx RX7 "many" "I" ∈ zB) (hd : decode cc pc = .ok (.putfield idx, 3)) (kk : zV G X nL (zP G ad (uI σ 15 ix 0 v)) k n (pc + 3) lo st) : zV G X nL (zP G ad σ) k n pc lo (.int v :: .ref (ad 5 ix) :: st) :=
  zi_put (ci := 7) (C := RX7) (T := TX7) (N := 15) (f := 9) (ty := .int) K rfl inX7 tyX7 tyX7_ok nmX7 (zr_TR hl) (Nat.le_of_ble_eq_true rfl) hw (fun _ h => h) rfl (by decide +kernel) rfl rfl (Nat.le_of_ble_eq_true rfl) hd (zP.setI 5 ix (by decide) rfl hl (fun _ => by
    show _ = zqTR ad (uI σ 15 ix 0 v) ix
    show (.inr (7, [.int (nI ix), .int (sI σ 8 ix 0), .int (sI σ 9 ix 0), .int (sI σ 10 ix 0), .int (sI σ 11 ix 0), .int (sI σ 12 ix 0), .int (sI σ 13 ix 0), .ref (ad 6 ix), .int (sI σ 14 ix 0), .int v, .int (sI σ 16 ix 0), .int (sI σ 17 ix 0), .int (sI σ 18 ix 0), .int (sI σ 19 ix 0), .int (sI σ 20 ix 0)]) : va_E) = _
    unfold zqTR
    rw [show sI (uI σ 15 ix 0 v) 15 ix 0 = v from u3_s _ _ _ _ _]
    all_goals rfl)) kk
theorem zg_TR_price (K : zK G X cc own nL ret rm) {ix idx : Nat} (hl : ix < sN σ 2) (hw : Cond.fieldLink own idx RX7 "price" "I" ∈ zB) (hd : decode cc pc = .ok (.getfield idx, 3)) (kk : zV G X nL (zP G ad σ) k n (pc + 3) lo (.int (sI σ 16 ix 0) :: st)) : zV G X nL (zP G ad σ) k n pc lo (.ref (ad 5 ix) :: st) := zi_get (ci := 7) (C := RX7) (T := TX7) (N := 15) (f := 10) K rfl inX7 (fun H h => (zr_TR hl H h).1) (Nat.le_of_ble_eq_true rfl) hw (fun _ h => h) hd rfl kk
theorem zp_TR_price (K : zK G X cc own nL ret rm) {ix idx : Nat} {v : Int32} (hl : ix < sN σ 2) (hw : Cond.fieldLink own idx RX7 "price" "I" ∈ zB) (hd : decode cc pc = .ok (.putfield idx, 3)) (kk : zV G X nL (zP G ad (uI σ 16 ix 0 v)) k n (pc + 3) lo st) : zV G X nL (zP G ad σ) k n pc lo (.int v :: .ref (ad 5 ix) :: st) :=
  zi_put (ci := 7) (C := RX7) (T := TX7) (N := 15) (f := 10) (ty := .int) K rfl inX7 tyX7 tyX7_ok nmX7 (zr_TR hl) (Nat.le_of_ble_eq_true rfl) hw (fun _ h => h) rfl (by decide +kernel) rfl rfl (Nat.le_of_ble_eq_true rfl) hd (zP.setI 5 ix (by decide) rfl hl (fun _ => by
    show _ = zqTR ad (uI σ 16 ix 0 v) ix
    show (.inr (7, [.int (nI ix), .int (sI σ 8 ix 0), .int (sI σ 9 ix 0), .int (sI σ 10 ix 0), .int (sI σ 11 ix 0), .int (sI σ 12 ix 0), .int (sI σ 13 ix 0), .ref (ad 6 ix), .int (sI σ 14 ix 0), .int (sI σ 15 ix 0), .int v, .int (sI σ 17 ix 0), .int (sI σ 18 ix 0), .int (sI σ 19 ix 0), .int (sI σ 20 ix 0)]) : va_E) = _
    unfold zqTR
    rw [show sI (uI σ 16 ix 0 v) 16 ix 0 = v from u3_s _ _ _ _ _]
    all_goals rfl)) kk
theorem zg_TR_isByTime (K : zK G X cc own nL ret rm) {ix idx : Nat} (hl : ix < sN σ 2) (hw : Cond.fieldLink own idx RX7 "isByTime" "Z" ∈ zB) (hd : decode cc pc = .ok (.getfield idx, 3)) (kk : zV G X nL (zP G ad σ) k n (pc + 3) lo (.int (sI σ 17 ix 0) :: st)) : zV G X nL (zP G ad σ) k n pc lo (.ref (ad 5 ix) :: st) := zi_get (ci := 7) (C := RX7) (T := TX7) (N := 15) (f := 11) K rfl inX7 (fun H h => (zr_TR hl H h).1) (Nat.le_of_ble_eq_true rfl) hw (fun _ h => h) hd rfl kk
theorem zp_TR_isByTime (K : zK G X cc own nL ret rm) {ix idx : Nat} {v : Int32} (hl : ix < sN σ 2) (hw : Cond.fieldLink own idx RX7 "isByTime" "Z" ∈ zB) (hz : narrow .boolean (.int v) = .int v ∧ fits .boolean (.int v) = true) (hd : decode cc pc = .ok (.putfield idx, 3)) (kk : zV G X nL (zP G ad (uI σ 17 ix 0 v)) k n (pc + 3) lo st) : zV G X nL (zP G ad σ) k n pc lo (.int v :: .ref (ad 5 ix) :: st) :=
  zi_put (ci := 7) (C := RX7) (T := TX7) (N := 15) (f := 11) (ty := .boolean) K rfl inX7 tyX7 tyX7_ok nmX7 (zr_TR hl) (Nat.le_of_ble_eq_true rfl) hw (fun _ h => h) rfl (by decide +kernel) hz.1 hz.2 (Nat.le_of_ble_eq_true rfl) hd (zP.setI 5 ix (by decide) rfl hl (fun _ => by
    show _ = zqTR ad (uI σ 17 ix 0 v) ix
    show (.inr (7, [.int (nI ix), .int (sI σ 8 ix 0), .int (sI σ 9 ix 0), .int (sI σ 10 ix 0), .int (sI σ 11 ix 0), .int (sI σ 12 ix 0), .int (sI σ 13 ix 0), .ref (ad 6 ix), .int (sI σ 14 ix 0), .int (sI σ 15 ix 0), .int (sI σ 16 ix 0), .int v, .int (sI σ 18 ix 0), .int (sI σ 19 ix 0), .int (sI σ 20 ix 0)]) : va_E) = _
    unfold zqTR
    rw [show sI (uI σ 17 ix 0 v) 17 ix 0 = v from u3_s _ _ _ _ _]
    all_goals rfl)) kk
theorem zg_TR_premium (K : zK G X cc own nL ret rm) {ix idx : Nat} (hl : ix < sN σ 2) (hw : Cond.fieldLink own idx RX7 "premium" "I" ∈ zB) (hd : decode cc pc = .ok (.getfield idx, 3)) (kk : zV G X nL (zP G ad σ) k n (pc + 3) lo (.int (sI σ 18 ix 0) :: st)) : zV G X nL (zP G ad σ) k n pc lo (.ref (ad 5 ix) :: st) := zi_get (ci := 7) (C := RX7) (T := TX7) (N := 15) (f := 12) K rfl inX7 (fun H h => (zr_TR hl H h).1) (Nat.le_of_ble_eq_true rfl) hw (fun _ h => h) hd rfl kk
theorem zp_TR_premium (K : zK G X cc own nL ret rm) {ix idx : Nat} {v : Int32} (hl : ix < sN σ 2) (hw : Cond.fieldLink own idx RX7 "premium" "I" ∈ zB) (hd : decode cc pc = .ok (.putfield idx, 3)) (kk : zV G X nL (zP G ad (uI σ 18 ix 0 v)) k n (pc + 3) lo st) : zV G X nL (zP G ad σ) k n pc lo (.int v :: .ref (ad 5 ix) :: st) :=
  zi_put (ci := 7) (C := RX7) (T := TX7) (N := 15) (f := 12) (ty := .int) K rfl inX7 tyX7 tyX7_ok nmX7 (zr_TR hl) (Nat.le_of_ble_eq_true rfl) hw (fun _ h => h) rfl (by decide +kernel) rfl rfl (Nat.le_of_ble_eq_true rfl) hd (zP.setI 5 ix (by decide) rfl hl (fun _ => by
    show _ = zqTR ad (uI σ 18 ix 0 v) ix
    show (.inr (7, [.int (nI ix), .int (sI σ 8 ix 0), .int (sI σ 9 ix 0), .int (sI σ 10 ix 0), .int (sI σ 11 ix 0), .int (sI σ 12 ix 0), .int (sI σ 13 ix 0), .ref (ad 6 ix), .int (sI σ 14 ix 0), .int (sI σ 15 ix 0), .int (sI σ 16 ix 0), .int (sI σ 17 ix 0), .int v, .int (sI σ 19 ix 0), .int (sI σ 20 ix 0)]) : va_E) = _
    unfold zqTR
    rw [show sI (uI σ 18 ix 0 v) 18 ix 0 = v from u3_s _ _ _ _ _]
    all_goals rfl)) kk
theorem zg_TR_isCommuted (K : zK G X cc own nL ret rm) {ix idx : Nat} (hl : ix < sN σ 2) (hw : Cond.fieldLink own idx RX7 "isCommuted" "Z" ∈ zB) (hd : decode cc pc = .ok (.getfield idx, 3)) (kk : zV G X nL (zP G ad σ) k n (pc + 3) lo (.int (sI σ 19 ix 0) :: st)) : zV G X nL (zP G ad σ) k n pc lo (.ref (ad 5 ix) :: st) := zi_get (ci := 7) (C := RX7) (T := TX7) (N := 15) (f := 13) K rfl inX7 (fun H h => (zr_TR hl H h).1) (Nat.le_of_ble_eq_true rfl) hw (fun _ h => h) hd rfl kk
theorem zp_TR_isCommuted (K : zK G X cc own nL ret rm) {ix idx : Nat} {v : Int32} (hl : ix < sN σ 2) (hw : Cond.fieldLink own idx RX7 "isCommuted" "Z" ∈ zB) (hz : narrow .boolean (.int v) = .int v ∧ fits .boolean (.int v) = true) (hd : decode cc pc = .ok (.putfield idx, 3)) (kk : zV G X nL (zP G ad (uI σ 19 ix 0 v)) k n (pc + 3) lo st) : zV G X nL (zP G ad σ) k n pc lo (.int v :: .ref (ad 5 ix) :: st) :=
  zi_put (ci := 7) (C := RX7) (T := TX7) (N := 15) (f := 13) (ty := .boolean) K rfl inX7 tyX7 tyX7_ok nmX7 (zr_TR hl) (Nat.le_of_ble_eq_true rfl) hw (fun _ h => h) rfl (by decide +kernel) hz.1 hz.2 (Nat.le_of_ble_eq_true rfl) hd (zP.setI 5 ix (by decide) rfl hl (fun _ => by
    show _ = zqTR ad (uI σ 19 ix 0 v) ix
    show (.inr (7, [.int (nI ix), .int (sI σ 8 ix 0), .int (sI σ 9 ix 0), .int (sI σ 10 ix 0), .int (sI σ 11 ix 0), .int (sI σ 12 ix 0), .int (sI σ 13 ix 0), .ref (ad 6 ix), .int (sI σ 14 ix 0), .int (sI σ 15 ix 0), .int (sI σ 16 ix 0), .int (sI σ 17 ix 0), .int (sI σ 18 ix 0), .int v, .int (sI σ 20 ix 0)]) : va_E) = _
    unfold zqTR
    rw [show sI (uI σ 19 ix 0 v) 19 ix 0 = v from u3_s _ _ _ _ _]
    all_goals rfl)) kk
theorem zg_TR_commutedFor (K : zK G X cc own nL ret rm) {ix idx : Nat} (hl : ix < sN σ 2) (hw : Cond.fieldLink own idx RX7 "commutedFor" "I" ∈ zB) (hd : decode cc pc = .ok (.getfield idx, 3)) (kk : zV G X nL (zP G ad σ) k n (pc + 3) lo (.int (sI σ 20 ix 0) :: st)) : zV G X nL (zP G ad σ) k n pc lo (.ref (ad 5 ix) :: st) := zi_get (ci := 7) (C := RX7) (T := TX7) (N := 15) (f := 14) K rfl inX7 (fun H h => (zr_TR hl H h).1) (Nat.le_of_ble_eq_true rfl) hw (fun _ h => h) hd rfl kk
theorem zp_TR_commutedFor (K : zK G X cc own nL ret rm) {ix idx : Nat} {v : Int32} (hl : ix < sN σ 2) (hw : Cond.fieldLink own idx RX7 "commutedFor" "I" ∈ zB) (hd : decode cc pc = .ok (.putfield idx, 3)) (kk : zV G X nL (zP G ad (uI σ 20 ix 0 v)) k n (pc + 3) lo st) : zV G X nL (zP G ad σ) k n pc lo (.int v :: .ref (ad 5 ix) :: st) :=
  zi_put (ci := 7) (C := RX7) (T := TX7) (N := 15) (f := 14) (ty := .int) K rfl inX7 tyX7 tyX7_ok nmX7 (zr_TR hl) (Nat.le_of_ble_eq_true rfl) hw (fun _ h => h) rfl (by decide +kernel) rfl rfl (Nat.le_of_ble_eq_true rfl) hd (zP.setI 5 ix (by decide) rfl hl (fun _ => by
    show _ = zqTR ad (uI σ 20 ix 0 v) ix
    show (.inr (7, [.int (nI ix), .int (sI σ 8 ix 0), .int (sI σ 9 ix 0), .int (sI σ 10 ix 0), .int (sI σ 11 ix 0), .int (sI σ 12 ix 0), .int (sI σ 13 ix 0), .ref (ad 6 ix), .int (sI σ 14 ix 0), .int (sI σ 15 ix 0), .int (sI σ 16 ix 0), .int (sI σ 17 ix 0), .int (sI σ 18 ix 0), .int (sI σ 19 ix 0), .int v]) : va_E) = _
    unfold zqTR
    rw [show sI (uI σ 20 ix 0 v) 20 ix 0 = v from u3_s _ _ _ _ _]
    all_goals rfl)) kk
theorem zr_SHR {ix : Nat} (hl : ix < sN σ 2) : ∀ H, zP G ad σ H → va_at G.2.2.1 zCl (ad 6 ix, zqSHR G σ ix) H ∧ gA G (ad 6 ix) := zP.at 6 ix (by decide) (fun _ => rfl) hl
theorem zl_SHR (K : zK G X cc own nL ret rm) {ix : Nat} {j : Int32} (hl : ix < sN σ 2) (i : Nat) (hj : j = nI i) (hi : i < 5) (hd : decode cc pc = .ok (.iaload, 1)) (kk : zV G X nL (zP G ad σ) k n (pc + 1) lo (.int (sI σ 21 ix i) :: st)) : zV G X nL (zP G ad σ) k n pc lo (.int j :: .ref (ad 6 ix) :: st) := zi_iald (f := fun j => sI σ 21 ix j) K (fun H h => (zr_SHR hl H h).1) i hj hi (Nat.le_of_ble_eq_true rfl) hd kk
theorem zn_SHR (K : zK G X cc own nL ret rm) {ix : Nat} (hl : ix < sN σ 2) (hd : decode cc pc = .ok (.arraylength, 1)) (kk : zV G X nL (zP G ad σ) k n (pc + 1) lo (.int 5 :: st)) : zV G X nL (zP G ad σ) k n pc lo (.ref (ad 6 ix) :: st) := zi_alen (t0 := 0) (N := 5) K rfl (fun H h => (zr_SHR hl H h).1) hd kk
theorem zs_SHR (K : zK G X cc own nL ret rm) {ix : Nat} {j : Int32} {v : Int32} (hl : ix < sN σ 2) (i : Nat) (hj : j = nI i) (hi : i < 5) (hd : decode cc pc = .ok (.iastore, 1)) (kk : zV G X nL (zP G ad (uI σ 21 ix i v)) k n (pc + 1) lo st) : zV G X nL (zP G ad σ) k n pc lo (.int v :: .int j :: .ref (ad 6 ix) :: st) :=
  zi_iast (f := fun j => sI σ 21 ix j) K (zr_SHR hl) i hj hi (Nat.le_of_ble_eq_true rfl) hd (zP.setI 6 ix (by decide) rfl hl (fun _ => by
    show _ = zqSHR G (uI σ 21 ix i v) ix
    unfold zqSHR
    rw [show upd (fun j => sI σ 21 ix j) i v = (fun j => sI (uI σ 21 ix i v) 21 ix j) from funext fun q => by
      by_cases hq : q = i
      · subst hq; exact (if_pos rfl).trans (u3_s _ _ _ _ _).symm
      · exact (if_neg hq).trans (u3_n _ _ (fun z => hq z.2.2)).symm])) kk
theorem zr_COV {ix : Nat} (hl : zlV σ ix) : ∀ H, zP G ad σ H → va_at G.2.2.1 zCl (ad 7 ix, zqCOV ad σ ix) H ∧ gA G (ad 7 ix) := zP.at 7 ix (by decide) (fun _ => rfl) hl
theorem zg_COV_treaty (K : zK G X cc own nL ret rm) {ix idx : Nat} (hl : zlV σ ix) (hw : Cond.fieldLink own idx RX1 "treaty" "LLayertreaty$Treaty;" ∈ zB) (hd : decode cc pc = .ok (.getfield idx, 3)) (kk : zV G X nL (zP G ad σ) k n (pc + 3) lo (.ref (ad 5 (ix % 8)) :: st)) : zV G X nL (zP G ad σ) k n pc lo (.ref (ad 7 ix) :: st) := zi_get (ci := 1) (C := RX1) (T := TX1) (N := 6) (f := 0) K rfl inX1 (fun H h => (zr_COV hl H h).1) (Nat.le_of_ble_eq_true rfl) hw (fun _ h => h) hd rfl kk
theorem zg_COV_events (K : zK G X cc own nL ret rm) {ix idx : Nat} (hl : zlV σ ix) (hw : Cond.fieldLink own idx RX1 "events" "[I" ∈ zB) (hd : decode cc pc = .ok (.getfield idx, 3)) (kk : zV G X nL (zP G ad σ) k n (pc + 3) lo (.ref (ad 8 ix) :: st)) : zV G X nL (zP G ad σ) k n pc lo (.ref (ad 7 ix) :: st) := zi_get (ci := 1) (C := RX1) (T := TX1) (N := 6) (f := 1) K rfl inX1 (fun H h => (zr_COV hl H h).1) (Nat.le_of_ble_eq_true rfl) hw (fun _ h => h) hd rfl kk
theorem zg_COV_limitLeft (K : zK G X cc own nL ret rm) {ix idx : Nat} (hl : zlV σ ix) (hw : Cond.fieldLink own idx RX1 "limitLeft" "J" ∈ zB) (hd : decode cc pc = .ok (.getfield idx, 3)) (kk : zV G X nL (zP G ad σ) k n (pc + 3) lo (.long (sL σ 2 ix 0) :: st)) : zV G X nL (zP G ad σ) k n pc lo (.ref (ad 7 ix) :: st) := zi_get (ci := 1) (C := RX1) (T := TX1) (N := 6) (f := 2) K rfl inX1 (fun H h => (zr_COV hl H h).1) (Nat.le_of_ble_eq_true rfl) hw (fun _ h => h) hd rfl kk
theorem zp_COV_limitLeft (K : zK G X cc own nL ret rm) {ix idx : Nat} {v : Int64} (hl : zlV σ ix) (hw : Cond.fieldLink own idx RX1 "limitLeft" "J" ∈ zB) (hd : decode cc pc = .ok (.putfield idx, 3)) (kk : zV G X nL (zP G ad (uL σ 2 ix 0 v)) k n (pc + 3) lo st) : zV G X nL (zP G ad σ) k n pc lo (.long v :: .ref (ad 7 ix) :: st) :=
  zi_put (ci := 1) (C := RX1) (T := TX1) (N := 6) (f := 2) (ty := .long) K rfl inX1 tyX1 tyX1_ok nmX1 (zr_COV hl) (Nat.le_of_ble_eq_true rfl) hw (fun _ h => h) rfl (by decide +kernel) rfl rfl (Nat.le_of_ble_eq_true rfl) hd (zP.setL 7 ix (by decide) rfl hl (fun _ => by
    show _ = zqCOV ad (uL σ 2 ix 0 v) ix
    show (.inr (1, [.ref (ad 5 (ix % 8)), .ref (ad 8 ix), .long v, .long (sL σ 3 ix 0), .long (sL σ 4 ix 0), .long (sL σ 5 ix 0)]) : va_E) = _
    unfold zqCOV
    rw [show sL (uL σ 2 ix 0 v) 2 ix 0 = v from u3_s _ _ _ _ _]
    all_goals rfl)) kk
theorem zg_COV_taken (K : zK G X cc own nL ret rm) {ix idx : Nat} (hl : zlV σ ix) (hw : Cond.fieldLink own idx RX1 "taken" "J" ∈ zB) (hd : decode cc pc = .ok (.getfield idx, 3)) (kk : zV G X nL (zP G ad σ) k n (pc + 3) lo (.long (sL σ 3 ix 0) :: st)) : zV G X nL (zP G ad σ) k n pc lo (.ref (ad 7 ix) :: st) := zi_get (ci := 1) (C := RX1) (T := TX1) (N := 6) (f := 3) K rfl inX1 (fun H h => (zr_COV hl H h).1) (Nat.le_of_ble_eq_true rfl) hw (fun _ h => h) hd rfl kk
theorem zp_COV_taken (K : zK G X cc own nL ret rm) {ix idx : Nat} {v : Int64} (hl : zlV σ ix) (hw : Cond.fieldLink own idx RX1 "taken" "J" ∈ zB) (hd : decode cc pc = .ok (.putfield idx, 3)) (kk : zV G X nL (zP G ad (uL σ 3 ix 0 v)) k n (pc + 3) lo st) : zV G X nL (zP G ad σ) k n pc lo (.long v :: .ref (ad 7 ix) :: st) :=
  zi_put (ci := 1) (C := RX1) (T := TX1) (N := 6) (f := 3) (ty := .long) K rfl inX1 tyX1 tyX1_ok nmX1 (zr_COV hl) (Nat.le_of_ble_eq_true rfl) hw (fun _ h => h) rfl (by decide +kernel) rfl rfl (Nat.le_of_ble_eq_true rfl) hd (zP.setL 7 ix (by decide) rfl hl (fun _ => by
    show _ = zqCOV ad (uL σ 3 ix 0 v) ix
    show (.inr (1, [.ref (ad 5 (ix % 8)), .ref (ad 8 ix), .long (sL σ 2 ix 0), .long v, .long (sL σ 4 ix 0), .long (sL σ 5 ix 0)]) : va_E) = _
    unfold zqCOV
    rw [show sL (uL σ 3 ix 0 v) 3 ix 0 = v from u3_s _ _ _ _ _]
    all_goals rfl)) kk
theorem zg_COV_reinstated (K : zK G X cc own nL ret rm) {ix idx : Nat} (hl : zlV σ ix) (hw : Cond.fieldLink own idx RX1 "reinstated" "J" ∈ zB) (hd : decode cc pc = .ok (.getfield idx, 3)) (kk : zV G X nL (zP G ad σ) k n (pc + 3) lo (.long (sL σ 4 ix 0) :: st)) : zV G X nL (zP G ad σ) k n pc lo (.ref (ad 7 ix) :: st) := zi_get (ci := 1) (C := RX1) (T := TX1) (N := 6) (f := 4) K rfl inX1 (fun H h => (zr_COV hl H h).1) (Nat.le_of_ble_eq_true rfl) hw (fun _ h => h) hd rfl kk
theorem zp_COV_reinstated (K : zK G X cc own nL ret rm) {ix idx : Nat} {v : Int64} (hl : zlV σ ix) (hw : Cond.fieldLink own idx RX1 "reinstated" "J" ∈ zB) (hd : decode cc pc = .ok (.putfield idx, 3)) (kk : zV G X nL (zP G ad (uL σ 4 ix 0 v)) k n (pc + 3) lo st) : zV G X nL (zP G ad σ) k n pc lo (.long v :: .ref (ad 7 ix) :: st) :=
  zi_put (ci := 1) (C := RX1) (T := TX1) (N := 6) (f := 4) (ty := .long) K rfl inX1 tyX1 tyX1_ok nmX1 (zr_COV hl) (Nat.le_of_ble_eq_true rfl) hw (fun _ h => h) rfl (by decide +kernel) rfl rfl (Nat.le_of_ble_eq_true rfl) hd (zP.setL 7 ix (by decide) rfl hl (fun _ => by
    show _ = zqCOV ad (uL σ 4 ix 0 v) ix
    show (.inr (1, [.ref (ad 5 (ix % 8)), .ref (ad 8 ix), .long (sL σ 2 ix 0), .long (sL σ 3 ix 0), .long v, .long (sL σ 5 ix 0)]) : va_E) = _
    unfold zqCOV
    rw [show sL (uL σ 4 ix 0 v) 4 ix 0 = v from u3_s _ _ _ _ _]
    all_goals rfl)) kk
theorem zg_COV_owed (K : zK G X cc own nL ret rm) {ix idx : Nat} (hl : zlV σ ix) (hw : Cond.fieldLink own idx RX1 "owed" "J" ∈ zB) (hd : decode cc pc = .ok (.getfield idx, 3)) (kk : zV G X nL (zP G ad σ) k n (pc + 3) lo (.long (sL σ 5 ix 0) :: st)) : zV G X nL (zP G ad σ) k n pc lo (.ref (ad 7 ix) :: st) := zi_get (ci := 1) (C := RX1) (T := TX1) (N := 6) (f := 5) K rfl inX1 (fun H h => (zr_COV hl H h).1) (Nat.le_of_ble_eq_true rfl) hw (fun _ h => h) hd rfl kk
theorem zp_COV_owed (K : zK G X cc own nL ret rm) {ix idx : Nat} {v : Int64} (hl : zlV σ ix) (hw : Cond.fieldLink own idx RX1 "owed" "J" ∈ zB) (hd : decode cc pc = .ok (.putfield idx, 3)) (kk : zV G X nL (zP G ad (uL σ 5 ix 0 v)) k n (pc + 3) lo st) : zV G X nL (zP G ad σ) k n pc lo (.long v :: .ref (ad 7 ix) :: st) :=
  zi_put (ci := 1) (C := RX1) (T := TX1) (N := 6) (f := 5) (ty := .long) K rfl inX1 tyX1 tyX1_ok nmX1 (zr_COV hl) (Nat.le_of_ble_eq_true rfl) hw (fun _ h => h) rfl (by decide +kernel) rfl rfl (Nat.le_of_ble_eq_true rfl) hd (zP.setL 7 ix (by decide) rfl hl (fun _ => by
    show _ = zqCOV ad (uL σ 5 ix 0 v) ix
    show (.inr (1, [.ref (ad 5 (ix % 8)), .ref (ad 8 ix), .long (sL σ 2 ix 0), .long (sL σ 3 ix 0), .long (sL σ 4 ix 0), .long v]) : va_E) = _
    unfold zqCOV
    rw [show sL (uL σ 5 ix 0 v) 5 ix 0 = v from u3_s _ _ _ _ _]
    all_goals rfl)) kk
theorem zr_CEV {ix : Nat} (hl : zlV σ ix) : ∀ H, zP G ad σ H → va_at G.2.2.1 zCl (ad 8 ix, zqCEV G σ ix) H ∧ gA G (ad 8 ix) := zP.at 8 ix (by decide) (fun _ => rfl) hl
theorem zl_CEV (K : zK G X cc own nL ret rm) {ix : Nat} {j : Int32} (hl : zlV σ ix) (i : Nat) (hj : j = nI i) (hi : i < 4) (hd : decode cc pc = .ok (.iaload, 1)) (kk : zV G X nL (zP G ad σ) k n (pc + 1) lo (.int (sI σ 22 ix i) :: st)) : zV G X nL (zP G ad σ) k n pc lo (.int j :: .ref (ad 8 ix) :: st) := zi_iald (f := fun j => sI σ 22 ix j) K (fun H h => (zr_CEV hl H h).1) i hj hi (Nat.le_of_ble_eq_true rfl) hd kk
theorem zn_CEV (K : zK G X cc own nL ret rm) {ix : Nat} (hl : zlV σ ix) (hd : decode cc pc = .ok (.arraylength, 1)) (kk : zV G X nL (zP G ad σ) k n (pc + 1) lo (.int 4 :: st)) : zV G X nL (zP G ad σ) k n pc lo (.ref (ad 8 ix) :: st) := zi_alen (t0 := 0) (N := 4) K rfl (fun H h => (zr_CEV hl H h).1) hd kk
theorem zs_CEV (K : zK G X cc own nL ret rm) {ix : Nat} {j : Int32} {v : Int32} (hl : zlV σ ix) (i : Nat) (hj : j = nI i) (hi : i < 4) (hd : decode cc pc = .ok (.iastore, 1)) (kk : zV G X nL (zP G ad (uI σ 22 ix i v)) k n (pc + 1) lo st) : zV G X nL (zP G ad σ) k n pc lo (.int v :: .int j :: .ref (ad 8 ix) :: st) :=
  zi_iast (f := fun j => sI σ 22 ix j) K (zr_CEV hl) i hj hi (Nat.le_of_ble_eq_true rfl) hd (zP.setI 8 ix (by decide) rfl hl (fun _ => by
    show _ = zqCEV G (uI σ 22 ix i v) ix
    unfold zqCEV
    rw [show upd (fun j => sI σ 22 ix j) i v = (fun j => sI (uI σ 22 ix i v) 22 ix j) from funext fun q => by
      by_cases hq : q = i
      · subst hq; exact (if_pos rfl).trans (u3_s _ _ _ _ _).symm
      · exact (if_neg hq).trans (u3_n _ _ (fun z => hq z.2.2)).symm])) kk
theorem zr_SC {ix : Nat} (hl : ix < sN σ 3) : ∀ H, zP G ad σ H → va_at G.2.2.1 zCl (ad 9 ix, zqSC ad σ ix) H ∧ gA G (ad 9 ix) := zP.at 9 ix (by decide) (fun _ => rfl) hl
theorem zg_SC_day (K : zK G X cc own nL ret rm) {ix idx : Nat} (hl : ix < sN σ 3) (hw : Cond.fieldLink own idx RX6 "day" "I" ∈ zB) (hd : decode cc pc = .ok (.getfield idx, 3)) (kk : zV G X nL (zP G ad σ) k n (pc + 3) lo (.int (sI σ 23 ix 0) :: st)) : zV G X nL (zP G ad σ) k n pc lo (.ref (ad 9 ix) :: st) := zi_get (ci := 6) (C := RX6) (T := TX6) (N := 4) (f := 0) K rfl inX6 (fun H h => (zr_SC hl H h).1) (Nat.le_of_ble_eq_true rfl) hw (fun _ h => h) hd rfl kk
theorem zg_SC_weight (K : zK G X cc own nL ret rm) {ix idx : Nat} (hl : ix < sN σ 3) (hw : Cond.fieldLink own idx RX6 "weight" "I" ∈ zB) (hd : decode cc pc = .ok (.getfield idx, 3)) (kk : zV G X nL (zP G ad σ) k n (pc + 3) lo (.int (sI σ 24 ix 0) :: st)) : zV G X nL (zP G ad σ) k n pc lo (.ref (ad 9 ix) :: st) := zi_get (ci := 6) (C := RX6) (T := TX6) (N := 4) (f := 1) K rfl inX6 (fun H h => (zr_SC hl H h).1) (Nat.le_of_ble_eq_true rfl) hw (fun _ h => h) hd rfl kk
theorem zg_SC_damages (K : zK G X cc own nL ret rm) {ix idx : Nat} (hl : ix < sN σ 3) (hw : Cond.fieldLink own idx RX6 "damages" "[I" ∈ zB) (hd : decode cc pc = .ok (.getfield idx, 3)) (kk : zV G X nL (zP G ad σ) k n (pc + 3) lo (.ref (ad 10 ix) :: st)) : zV G X nL (zP G ad σ) k n pc lo (.ref (ad 9 ix) :: st) := zi_get (ci := 6) (C := RX6) (T := TX6) (N := 4) (f := 2) K rfl inX6 (fun H h => (zr_SC hl H h).1) (Nat.le_of_ble_eq_true rfl) hw (fun _ h => h) hd rfl kk
theorem zg_SC_net (K : zK G X cc own nL ret rm) {ix idx : Nat} (hl : ix < sN σ 3) (hw : Cond.fieldLink own idx RX6 "net" "J" ∈ zB) (hd : decode cc pc = .ok (.getfield idx, 3)) (kk : zV G X nL (zP G ad σ) k n (pc + 3) lo (.long (sL σ 6 ix 0) :: st)) : zV G X nL (zP G ad σ) k n pc lo (.ref (ad 9 ix) :: st) := zi_get (ci := 6) (C := RX6) (T := TX6) (N := 4) (f := 3) K rfl inX6 (fun H h => (zr_SC hl H h).1) (Nat.le_of_ble_eq_true rfl) hw (fun _ h => h) hd rfl kk
theorem zp_SC_net (K : zK G X cc own nL ret rm) {ix idx : Nat} {v : Int64} (hl : ix < sN σ 3) (hw : Cond.fieldLink own idx RX6 "net" "J" ∈ zB) (hd : decode cc pc = .ok (.putfield idx, 3)) (kk : zV G X nL (zP G ad (uL σ 6 ix 0 v)) k n (pc + 3) lo st) : zV G X nL (zP G ad σ) k n pc lo (.long v :: .ref (ad 9 ix) :: st) :=
  zi_put (ci := 6) (C := RX6) (T := TX6) (N := 4) (f := 3) (ty := .long) K rfl inX6 tyX6 tyX6_ok nmX6 (zr_SC hl) (Nat.le_of_ble_eq_true rfl) hw (fun _ h => h) rfl (by decide +kernel) rfl rfl (Nat.le_of_ble_eq_true rfl) hd (zP.setL 9 ix (by decide) rfl hl (fun _ => by
    show _ = zqSC ad (uL σ 6 ix 0 v) ix
    show (.inr (6, [.int (sI σ 23 ix 0), .int (sI σ 24 ix 0), .ref (ad 10 ix), .long v]) : va_E) = _
    unfold zqSC
    rw [show sL (uL σ 6 ix 0 v) 6 ix 0 = v from u3_s _ _ _ _ _]
    all_goals rfl)) kk
theorem zr_DMG {ix : Nat} (hl : ix < sN σ 3) : ∀ H, zP G ad σ H → va_at G.2.2.1 zCl (ad 10 ix, zqDMG G σ ix) H ∧ gA G (ad 10 ix) := zP.at 10 ix (by decide) (fun _ => rfl) hl
theorem zl_DMG (K : zK G X cc own nL ret rm) {ix : Nat} {j : Int32} (hl : ix < sN σ 3) (i : Nat) (hj : j = nI i) (hi : i < 4) (hd : decode cc pc = .ok (.iaload, 1)) (kk : zV G X nL (zP G ad σ) k n (pc + 1) lo (.int (sI σ 25 ix i) :: st)) : zV G X nL (zP G ad σ) k n pc lo (.int j :: .ref (ad 10 ix) :: st) := zi_iald (f := fun j => sI σ 25 ix j) K (fun H h => (zr_DMG hl H h).1) i hj hi (Nat.le_of_ble_eq_true rfl) hd kk
theorem zn_DMG (K : zK G X cc own nL ret rm) {ix : Nat} (hl : ix < sN σ 3) (hd : decode cc pc = .ok (.arraylength, 1)) (kk : zV G X nL (zP G ad σ) k n (pc + 1) lo (.int 4 :: st)) : zV G X nL (zP G ad σ) k n pc lo (.ref (ad 10 ix) :: st) := zi_alen (t0 := 0) (N := 4) K rfl (fun H h => (zr_DMG hl H h).1) hd kk
theorem zs_DMG (K : zK G X cc own nL ret rm) {ix : Nat} {j : Int32} {v : Int32} (hl : ix < sN σ 3) (i : Nat) (hj : j = nI i) (hi : i < 4) (hd : decode cc pc = .ok (.iastore, 1)) (kk : zV G X nL (zP G ad (uI σ 25 ix i v)) k n (pc + 1) lo st) : zV G X nL (zP G ad σ) k n pc lo (.int v :: .int j :: .ref (ad 10 ix) :: st) :=
  zi_iast (f := fun j => sI σ 25 ix j) K (zr_DMG hl) i hj hi (Nat.le_of_ble_eq_true rfl) hd (zP.setI 10 ix (by decide) rfl hl (fun _ => by
    show _ = zqDMG G (uI σ 25 ix i v) ix
    unfold zqDMG
    rw [show upd (fun j => sI σ 25 ix j) i v = (fun j => sI (uI σ 25 ix i v) 25 ix j) from funext fun q => by
      by_cases hq : q = i
      · subst hq; exact (if_pos rfl).trans (u3_s _ _ _ _ _).symm
      · exact (if_neg hq).trans (u3_n _ _ (fun z => hq z.2.2)).symm])) kk
theorem zr_FL {ix : Nat} (hl : ix < 2) : ∀ H, zP G ad σ H → va_at G.2.2.1 zCl (ad 11 ix, zqFL ad σ ix) H ∧ gA G (ad 11 ix) := zP.at 11 ix (by decide) (fun _ => rfl) hl
theorem zg_FL_claims (K : zK G X cc own nL ret rm) {ix idx : Nat} (hl : ix < 2) (hw : Cond.fieldLink own idx RX2 "claims" "Ljava/util/ArrayList;" ∈ zB) (hd : decode cc pc = .ok (.getfield idx, 3)) (kk : zV G X nL (zP G ad σ) k n (pc + 3) lo (.ref (ad 28 (5 + 4 * ix)) :: st)) : zV G X nL (zP G ad σ) k n pc lo (.ref (ad 11 ix) :: st) := zi_get (ci := 2) (C := RX2) (T := TX2) (N := 6) (f := 0) K rfl inX2 (fun H h => (zr_FL hl H h).1) (Nat.le_of_ble_eq_true rfl) hw (fun _ h => h) hd rfl kk
theorem zg_FL_covers (K : zK G X cc own nL ret rm) {ix idx : Nat} (hl : ix < 2) (hw : Cond.fieldLink own idx RX2 "covers" "Ljava/util/ArrayList;" ∈ zB) (hd : decode cc pc = .ok (.getfield idx, 3)) (kk : zV G X nL (zP G ad σ) k n (pc + 3) lo (.ref (ad 28 (6 + 4 * ix)) :: st)) : zV G X nL (zP G ad σ) k n pc lo (.ref (ad 11 ix) :: st) := zi_get (ci := 2) (C := RX2) (T := TX2) (N := 6) (f := 1) K rfl inX2 (fun H h => (zr_FL hl H h).1) (Nat.le_of_ble_eq_true rfl) hw (fun _ h => h) hd rfl kk
theorem zg_FL_open (K : zK G X cc own nL ret rm) {ix idx : Nat} (hl : ix < 2) (hw : Cond.fieldLink own idx RX2 "open" "Ljava/util/ArrayList;" ∈ zB) (hd : decode cc pc = .ok (.getfield idx, 3)) (kk : zV G X nL (zP G ad σ) k n (pc + 3) lo (.ref (ad 28 (7 + 4 * ix)) :: st)) : zV G X nL (zP G ad σ) k n pc lo (.ref (ad 11 ix) :: st) := zi_get (ci := 2) (C := RX2) (T := TX2) (N := 6) (f := 2) K rfl inX2 (fun H h => (zr_FL hl H h).1) (Nat.le_of_ble_eq_true rfl) hw (fun _ h => h) hd rfl kk
theorem zg_FL_group (K : zK G X cc own nL ret rm) {ix idx : Nat} (hl : ix < 2) (hw : Cond.fieldLink own idx RX2 "group" "Ljava/util/ArrayList;" ∈ zB) (hd : decode cc pc = .ok (.getfield idx, 3)) (kk : zV G X nL (zP G ad σ) k n (pc + 3) lo (.ref (ad 28 (8 + 4 * ix)) :: st)) : zV G X nL (zP G ad σ) k n pc lo (.ref (ad 11 ix) :: st) := zi_get (ci := 2) (C := RX2) (T := TX2) (N := 6) (f := 3) K rfl inX2 (fun H h => (zr_FL hl H h).1) (Nat.le_of_ble_eq_true rfl) hw (fun _ h => h) hd rfl kk
theorem zg_FL_laying (K : zK G X cc own nL ret rm) {ix idx : Nat} (hl : ix < 2) (hw : Cond.fieldLink own idx RX2 "laying" "LLayertreaty$Laying;" ∈ zB) (hd : decode cc pc = .ok (.getfield idx, 3)) (kk : zV G X nL (zP G ad σ) k n (pc + 3) lo (.ref (ad 12 ix) :: st)) : zV G X nL (zP G ad σ) k n pc lo (.ref (ad 11 ix) :: st) := zi_get (ci := 2) (C := RX2) (T := TX2) (N := 6) (f := 4) K rfl inX2 (fun H h => (zr_FL hl H h).1) (Nat.le_of_ble_eq_true rfl) hw (fun _ h => h) hd rfl kk
theorem zg_FL_isBest (K : zK G X cc own nL ret rm) {ix idx : Nat} (hl : ix < 2) (hw : Cond.fieldLink own idx RX2 "isBest" "Z" ∈ zB) (hd : decode cc pc = .ok (.getfield idx, 3)) (kk : zV G X nL (zP G ad σ) k n (pc + 3) lo (.int (sI σ 26 ix 0) :: st)) : zV G X nL (zP G ad σ) k n pc lo (.ref (ad 11 ix) :: st) := zi_get (ci := 2) (C := RX2) (T := TX2) (N := 6) (f := 5) K rfl inX2 (fun H h => (zr_FL hl H h).1) (Nat.le_of_ble_eq_true rfl) hw (fun _ h => h) hd rfl kk
theorem zp_FL_isBest (K : zK G X cc own nL ret rm) {ix idx : Nat} {v : Int32} (hl : ix < 2) (hw : Cond.fieldLink own idx RX2 "isBest" "Z" ∈ zB) (hz : narrow .boolean (.int v) = .int v ∧ fits .boolean (.int v) = true) (hd : decode cc pc = .ok (.putfield idx, 3)) (kk : zV G X nL (zP G ad (uI σ 26 ix 0 v)) k n (pc + 3) lo st) : zV G X nL (zP G ad σ) k n pc lo (.int v :: .ref (ad 11 ix) :: st) :=
  zi_put (ci := 2) (C := RX2) (T := TX2) (N := 6) (f := 5) (ty := .boolean) K rfl inX2 tyX2 tyX2_ok nmX2 (zr_FL hl) (Nat.le_of_ble_eq_true rfl) hw (fun _ h => h) rfl (by decide +kernel) hz.1 hz.2 (Nat.le_of_ble_eq_true rfl) hd (zP.setI 11 ix (by decide) rfl hl (fun _ => by
    show _ = zqFL ad (uI σ 26 ix 0 v) ix
    show (.inr (2, [.ref (ad 28 (5 + 4 * ix)), .ref (ad 28 (6 + 4 * ix)), .ref (ad 28 (7 + 4 * ix)), .ref (ad 28 (8 + 4 * ix)), .ref (ad 12 ix), .int v]) : va_E) = _
    unfold zqFL
    rw [show sI (uI σ 26 ix 0 v) 26 ix 0 = v from u3_s _ _ _ _ _]
    all_goals rfl)) kk
theorem zr_LAY {ix : Nat} (hl : ix < 2) : ∀ H, zP G ad σ H → va_at G.2.2.1 zCl (ad 12 ix, zqLAY ad σ ix) H ∧ gA G (ad 12 ix) := zP.at 12 ix (by decide) (fun _ => rfl) hl
theorem zg_LAY_days (K : zK G X cc own nL ret rm) {ix idx : Nat} (hl : ix < 2) (hw : Cond.fieldLink own idx RX3 "days" "[I" ∈ zB) (hd : decode cc pc = .ok (.getfield idx, 3)) (kk : zV G X nL (zP G ad σ) k n (pc + 3) lo (.ref (ad 13 ix) :: st)) : zV G X nL (zP G ad σ) k n pc lo (.ref (ad 12 ix) :: st) := zi_get (ci := 3) (C := RX3) (T := TX3) (N := 6) (f := 0) K rfl inX3 (fun H h => (zr_LAY hl H h).1) (Nat.le_of_ble_eq_true rfl) hw (fun _ h => h) hd rfl kk
theorem zg_LAY_sums (K : zK G X cc own nL ret rm) {ix idx : Nat} (hl : ix < 2) (hw : Cond.fieldLink own idx RX3 "sums" "[J" ∈ zB) (hd : decode cc pc = .ok (.getfield idx, 3)) (kk : zV G X nL (zP G ad σ) k n (pc + 3) lo (.ref (ad 14 ix) :: st)) : zV G X nL (zP G ad σ) k n pc lo (.ref (ad 12 ix) :: st) := zi_get (ci := 3) (C := RX3) (T := TX3) (N := 6) (f := 1) K rfl inX3 (fun H h => (zr_LAY hl H h).1) (Nat.le_of_ble_eq_true rfl) hw (fun _ h => h) hd rfl kk
theorem zg_LAY_ends (K : zK G X cc own nL ret rm) {ix idx : Nat} (hl : ix < 2) (hw : Cond.fieldLink own idx RX3 "ends" "[I" ∈ zB) (hd : decode cc pc = .ok (.getfield idx, 3)) (kk : zV G X nL (zP G ad σ) k n (pc + 3) lo (.ref (ad 15 ix) :: st)) : zV G X nL (zP G ad σ) k n pc lo (.ref (ad 12 ix) :: st) := zi_get (ci := 3) (C := RX3) (T := TX3) (N := 6) (f := 2) K rfl inX3 (fun H h => (zr_LAY hl H h).1) (Nat.le_of_ble_eq_true rfl) hw (fun _ h => h) hd rfl kk
theorem zg_LAY_brings (K : zK G X cc own nL ret rm) {ix idx : Nat} (hl : ix < 2) (hw : Cond.fieldLink own idx RX3 "brings" "[J" ∈ zB) (hd : decode cc pc = .ok (.getfield idx, 3)) (kk : zV G X nL (zP G ad σ) k n (pc + 3) lo (.ref (ad 16 ix) :: st)) : zV G X nL (zP G ad σ) k n pc lo (.ref (ad 12 ix) :: st) := zi_get (ci := 3) (C := RX3) (T := TX3) (N := 6) (f := 3) K rfl inX3 (fun H h => (zr_LAY hl H h).1) (Nat.le_of_ble_eq_true rfl) hw (fun _ h => h) hd rfl kk
theorem zg_LAY_counts (K : zK G X cc own nL ret rm) {ix idx : Nat} (hl : ix < 2) (hw : Cond.fieldLink own idx RX3 "counts" "[I" ∈ zB) (hd : decode cc pc = .ok (.getfield idx, 3)) (kk : zV G X nL (zP G ad σ) k n (pc + 3) lo (.ref (ad 17 ix) :: st)) : zV G X nL (zP G ad σ) k n pc lo (.ref (ad 12 ix) :: st) := zi_get (ci := 3) (C := RX3) (T := TX3) (N := 6) (f := 4) K rfl inX3 (fun H h => (zr_LAY hl H h).1) (Nat.le_of_ble_eq_true rfl) hw (fun _ h => h) hd rfl kk
theorem zg_LAY_size (K : zK G X cc own nL ret rm) {ix idx : Nat} (hl : ix < 2) (hw : Cond.fieldLink own idx RX3 "size" "I" ∈ zB) (hd : decode cc pc = .ok (.getfield idx, 3)) (kk : zV G X nL (zP G ad σ) k n (pc + 3) lo (.int (sI σ 27 ix 0) :: st)) : zV G X nL (zP G ad σ) k n pc lo (.ref (ad 12 ix) :: st) := zi_get (ci := 3) (C := RX3) (T := TX3) (N := 6) (f := 5) K rfl inX3 (fun H h => (zr_LAY hl H h).1) (Nat.le_of_ble_eq_true rfl) hw (fun _ h => h) hd rfl kk
theorem zp_LAY_size (K : zK G X cc own nL ret rm) {ix idx : Nat} {v : Int32} (hl : ix < 2) (hw : Cond.fieldLink own idx RX3 "size" "I" ∈ zB) (hd : decode cc pc = .ok (.putfield idx, 3)) (kk : zV G X nL (zP G ad (uI σ 27 ix 0 v)) k n (pc + 3) lo st) : zV G X nL (zP G ad σ) k n pc lo (.int v :: .ref (ad 12 ix) :: st) :=
  zi_put (ci := 3) (C := RX3) (T := TX3) (N := 6) (f := 5) (ty := .int) K rfl inX3 tyX3 tyX3_ok nmX3 (zr_LAY hl) (Nat.le_of_ble_eq_true rfl) hw (fun _ h => h) rfl (by decide +kernel) rfl rfl (Nat.le_of_ble_eq_true rfl) hd (zP.setI 12 ix (by decide) rfl hl (fun _ => by
    show _ = zqLAY ad (uI σ 27 ix 0 v) ix
    show (.inr (3, [.ref (ad 13 ix), .ref (ad 14 ix), .ref (ad 15 ix), .ref (ad 16 ix), .ref (ad 17 ix), .int v]) : va_E) = _
    unfold zqLAY
    rw [show sI (uI σ 27 ix 0 v) 27 ix 0 = v from u3_s _ _ _ _ _]
    all_goals rfl)) kk
theorem zr_LDAYS {ix : Nat} (hl : ix < 2) : ∀ H, zP G ad σ H → va_at G.2.2.1 zCl (ad 13 ix, zqLDAYS G σ ix) H ∧ gA G (ad 13 ix) := zP.at 13 ix (by decide) (fun _ => rfl) hl
theorem zl_LDAYS (K : zK G X cc own nL ret rm) {ix : Nat} {j : Int32} (hl : ix < 2) (i : Nat) (hj : j = nI i) (hi : i < 30) (hd : decode cc pc = .ok (.iaload, 1)) (kk : zV G X nL (zP G ad σ) k n (pc + 1) lo (.int (sI σ 28 ix i) :: st)) : zV G X nL (zP G ad σ) k n pc lo (.int j :: .ref (ad 13 ix) :: st) := zi_iald (f := fun j => sI σ 28 ix j) K (fun H h => (zr_LDAYS hl H h).1) i hj hi (Nat.le_of_ble_eq_true rfl) hd kk
theorem zn_LDAYS (K : zK G X cc own nL ret rm) {ix : Nat} (hl : ix < 2) (hd : decode cc pc = .ok (.arraylength, 1)) (kk : zV G X nL (zP G ad σ) k n (pc + 1) lo (.int 30 :: st)) : zV G X nL (zP G ad σ) k n pc lo (.ref (ad 13 ix) :: st) := zi_alen (t0 := 0) (N := 30) K rfl (fun H h => (zr_LDAYS hl H h).1) hd kk
theorem zs_LDAYS (K : zK G X cc own nL ret rm) {ix : Nat} {j : Int32} {v : Int32} (hl : ix < 2) (i : Nat) (hj : j = nI i) (hi : i < 30) (hd : decode cc pc = .ok (.iastore, 1)) (kk : zV G X nL (zP G ad (uI σ 28 ix i v)) k n (pc + 1) lo st) : zV G X nL (zP G ad σ) k n pc lo (.int v :: .int j :: .ref (ad 13 ix) :: st) :=
  zi_iast (f := fun j => sI σ 28 ix j) K (zr_LDAYS hl) i hj hi (Nat.le_of_ble_eq_true rfl) hd (zP.setI 13 ix (by decide) rfl hl (fun _ => by
    show _ = zqLDAYS G (uI σ 28 ix i v) ix
    unfold zqLDAYS
    rw [show upd (fun j => sI σ 28 ix j) i v = (fun j => sI (uI σ 28 ix i v) 28 ix j) from funext fun q => by
      by_cases hq : q = i
      · subst hq; exact (if_pos rfl).trans (u3_s _ _ _ _ _).symm
      · exact (if_neg hq).trans (u3_n _ _ (fun z => hq z.2.2)).symm])) kk
theorem zr_LSUMS {ix : Nat} (hl : ix < 2) : ∀ H, zP G ad σ H → va_at G.2.2.1 zCl (ad 14 ix, zqLSUMS G σ ix) H ∧ gA G (ad 14 ix) := zP.at 14 ix (by decide) (fun _ => rfl) hl
theorem zl_LSUMS (K : zK G X cc own nL ret rm) {ix : Nat} {j : Int32} (hl : ix < 2) (i : Nat) (hj : j = nI i) (hi : i < 30) (hd : decode cc pc = .ok (.laload, 1)) (kk : zV G X nL (zP G ad σ) k n (pc + 1) lo (.long (sL σ 7 ix i) :: st)) : zV G X nL (zP G ad σ) k n pc lo (.int j :: .ref (ad 14 ix) :: st) := zi_lald (f := fun j => sL σ 7 ix j) K (fun H h => (zr_LSUMS hl H h).1) i hj hi (Nat.le_of_ble_eq_true rfl) hd kk
theorem zn_LSUMS (K : zK G X cc own nL ret rm) {ix : Nat} (hl : ix < 2) (hd : decode cc pc = .ok (.arraylength, 1)) (kk : zV G X nL (zP G ad σ) k n (pc + 1) lo (.int 30 :: st)) : zV G X nL (zP G ad σ) k n pc lo (.ref (ad 14 ix) :: st) := zi_alen (t0 := 1) (N := 30) K rfl (fun H h => (zr_LSUMS hl H h).1) hd kk
theorem zs_LSUMS (K : zK G X cc own nL ret rm) {ix : Nat} {j : Int32} {v : Int64} (hl : ix < 2) (i : Nat) (hj : j = nI i) (hi : i < 30) (hd : decode cc pc = .ok (.lastore, 1)) (kk : zV G X nL (zP G ad (uL σ 7 ix i v)) k n (pc + 1) lo st) : zV G X nL (zP G ad σ) k n pc lo (.long v :: .int j :: .ref (ad 14 ix) :: st) :=
  zi_last (f := fun j => sL σ 7 ix j) K (zr_LSUMS hl) i hj hi (Nat.le_of_ble_eq_true rfl) hd (zP.setL 14 ix (by decide) rfl hl (fun _ => by
    show _ = zqLSUMS G (uL σ 7 ix i v) ix
    unfold zqLSUMS
    rw [show vp_updL (fun j => sL σ 7 ix j) i v = (fun j => sL (uL σ 7 ix i v) 7 ix j) from funext fun q => by
      by_cases hq : q = i
      · subst hq; exact (if_pos rfl).trans (u3_s _ _ _ _ _).symm
      · exact (if_neg hq).trans (u3_n _ _ (fun z => hq z.2.2)).symm])) kk
theorem zr_LENDS {ix : Nat} (hl : ix < 2) : ∀ H, zP G ad σ H → va_at G.2.2.1 zCl (ad 15 ix, zqLENDS G σ ix) H ∧ gA G (ad 15 ix) := zP.at 15 ix (by decide) (fun _ => rfl) hl
theorem zl_LENDS (K : zK G X cc own nL ret rm) {ix : Nat} {j : Int32} (hl : ix < 2) (i : Nat) (hj : j = nI i) (hi : i < 30) (hd : decode cc pc = .ok (.iaload, 1)) (kk : zV G X nL (zP G ad σ) k n (pc + 1) lo (.int (sI σ 29 ix i) :: st)) : zV G X nL (zP G ad σ) k n pc lo (.int j :: .ref (ad 15 ix) :: st) := zi_iald (f := fun j => sI σ 29 ix j) K (fun H h => (zr_LENDS hl H h).1) i hj hi (Nat.le_of_ble_eq_true rfl) hd kk
theorem zn_LENDS (K : zK G X cc own nL ret rm) {ix : Nat} (hl : ix < 2) (hd : decode cc pc = .ok (.arraylength, 1)) (kk : zV G X nL (zP G ad σ) k n (pc + 1) lo (.int 30 :: st)) : zV G X nL (zP G ad σ) k n pc lo (.ref (ad 15 ix) :: st) := zi_alen (t0 := 0) (N := 30) K rfl (fun H h => (zr_LENDS hl H h).1) hd kk
theorem zs_LENDS (K : zK G X cc own nL ret rm) {ix : Nat} {j : Int32} {v : Int32} (hl : ix < 2) (i : Nat) (hj : j = nI i) (hi : i < 30) (hd : decode cc pc = .ok (.iastore, 1)) (kk : zV G X nL (zP G ad (uI σ 29 ix i v)) k n (pc + 1) lo st) : zV G X nL (zP G ad σ) k n pc lo (.int v :: .int j :: .ref (ad 15 ix) :: st) :=
  zi_iast (f := fun j => sI σ 29 ix j) K (zr_LENDS hl) i hj hi (Nat.le_of_ble_eq_true rfl) hd (zP.setI 15 ix (by decide) rfl hl (fun _ => by
    show _ = zqLENDS G (uI σ 29 ix i v) ix
    unfold zqLENDS
    rw [show upd (fun j => sI σ 29 ix j) i v = (fun j => sI (uI σ 29 ix i v) 29 ix j) from funext fun q => by
      by_cases hq : q = i
      · subst hq; exact (if_pos rfl).trans (u3_s _ _ _ _ _).symm
      · exact (if_neg hq).trans (u3_n _ _ (fun z => hq z.2.2)).symm])) kk
theorem zr_LBR {ix : Nat} (hl : ix < 2) : ∀ H, zP G ad σ H → va_at G.2.2.1 zCl (ad 16 ix, zqLBR G σ ix) H ∧ gA G (ad 16 ix) := zP.at 16 ix (by decide) (fun _ => rfl) hl
theorem zl_LBR (K : zK G X cc own nL ret rm) {ix : Nat} {j : Int32} (hl : ix < 2) (i : Nat) (hj : j = nI i) (hi : i < 31) (hd : decode cc pc = .ok (.laload, 1)) (kk : zV G X nL (zP G ad σ) k n (pc + 1) lo (.long (sL σ 8 ix i) :: st)) : zV G X nL (zP G ad σ) k n pc lo (.int j :: .ref (ad 16 ix) :: st) := zi_lald (f := fun j => sL σ 8 ix j) K (fun H h => (zr_LBR hl H h).1) i hj hi (Nat.le_of_ble_eq_true rfl) hd kk
theorem zn_LBR (K : zK G X cc own nL ret rm) {ix : Nat} (hl : ix < 2) (hd : decode cc pc = .ok (.arraylength, 1)) (kk : zV G X nL (zP G ad σ) k n (pc + 1) lo (.int 31 :: st)) : zV G X nL (zP G ad σ) k n pc lo (.ref (ad 16 ix) :: st) := zi_alen (t0 := 1) (N := 31) K rfl (fun H h => (zr_LBR hl H h).1) hd kk
theorem zs_LBR (K : zK G X cc own nL ret rm) {ix : Nat} {j : Int32} {v : Int64} (hl : ix < 2) (i : Nat) (hj : j = nI i) (hi : i < 31) (hd : decode cc pc = .ok (.lastore, 1)) (kk : zV G X nL (zP G ad (uL σ 8 ix i v)) k n (pc + 1) lo st) : zV G X nL (zP G ad σ) k n pc lo (.long v :: .int j :: .ref (ad 16 ix) :: st) :=
  zi_last (f := fun j => sL σ 8 ix j) K (zr_LBR hl) i hj hi (Nat.le_of_ble_eq_true rfl) hd (zP.setL 16 ix (by decide) rfl hl (fun _ => by
    show _ = zqLBR G (uL σ 8 ix i v) ix
    unfold zqLBR
    rw [show vp_updL (fun j => sL σ 8 ix j) i v = (fun j => sL (uL σ 8 ix i v) 8 ix j) from funext fun q => by
      by_cases hq : q = i
      · subst hq; exact (if_pos rfl).trans (u3_s _ _ _ _ _).symm
      · exact (if_neg hq).trans (u3_n _ _ (fun z => hq z.2.2)).symm])) kk
theorem zr_LCN {ix : Nat} (hl : ix < 2) : ∀ H, zP G ad σ H → va_at G.2.2.1 zCl (ad 17 ix, zqLCN G σ ix) H ∧ gA G (ad 17 ix) := zP.at 17 ix (by decide) (fun _ => rfl) hl
theorem zl_LCN (K : zK G X cc own nL ret rm) {ix : Nat} {j : Int32} (hl : ix < 2) (i : Nat) (hj : j = nI i) (hi : i < 31) (hd : decode cc pc = .ok (.iaload, 1)) (kk : zV G X nL (zP G ad σ) k n (pc + 1) lo (.int (sI σ 30 ix i) :: st)) : zV G X nL (zP G ad σ) k n pc lo (.int j :: .ref (ad 17 ix) :: st) := zi_iald (f := fun j => sI σ 30 ix j) K (fun H h => (zr_LCN hl H h).1) i hj hi (Nat.le_of_ble_eq_true rfl) hd kk
theorem zn_LCN (K : zK G X cc own nL ret rm) {ix : Nat} (hl : ix < 2) (hd : decode cc pc = .ok (.arraylength, 1)) (kk : zV G X nL (zP G ad σ) k n (pc + 1) lo (.int 31 :: st)) : zV G X nL (zP G ad σ) k n pc lo (.ref (ad 17 ix) :: st) := zi_alen (t0 := 0) (N := 31) K rfl (fun H h => (zr_LCN hl H h).1) hd kk
theorem zs_LCN (K : zK G X cc own nL ret rm) {ix : Nat} {j : Int32} {v : Int32} (hl : ix < 2) (i : Nat) (hj : j = nI i) (hi : i < 31) (hd : decode cc pc = .ok (.iastore, 1)) (kk : zV G X nL (zP G ad (uI σ 30 ix i v)) k n (pc + 1) lo st) : zV G X nL (zP G ad σ) k n pc lo (.int v :: .int j :: .ref (ad 17 ix) :: st) :=
  zi_iast (f := fun j => sI σ 30 ix j) K (zr_LCN hl) i hj hi (Nat.le_of_ble_eq_true rfl) hd (zP.setI 17 ix (by decide) rfl hl (fun _ => by
    show _ = zqLCN G (uI σ 30 ix i v) ix
    unfold zqLCN
    rw [show upd (fun j => sI σ 30 ix j) i v = (fun j => sI (uI σ 30 ix i v) 30 ix j) from funext fun q => by
      by_cases hq : q = i
      · subst hq; exact (if_pos rfl).trans (u3_s _ _ _ _ _).symm
      · exact (if_neg hq).trans (u3_n _ _ (fun z => hq z.2.2)).symm])) kk
theorem zr_POOL {ix : Nat} (hl : ix = 0) : ∀ H, zP G ad σ H → va_at G.2.2.1 zCl (ad 18 ix, zqPOOL ad ix) H ∧ gA G (ad 18 ix) := zP.at 18 ix (by decide) (fun _ => rfl) hl
theorem zg_POOL_isFailed (K : zK G X cc own nL ret rm) {ix idx : Nat} (hl : ix = 0) (hw : Cond.fieldLink own idx RX5 "isFailed" "[Z" ∈ zB) (hd : decode cc pc = .ok (.getfield idx, 3)) (kk : zV G X nL (zP G ad σ) k n (pc + 3) lo (.ref (ad 19 ix) :: st)) : zV G X nL (zP G ad σ) k n pc lo (.ref (ad 18 ix) :: st) := zi_get (ci := 5) (C := RX5) (T := TX5) (N := 9) (f := 0) K rfl inX5 (fun H h => (zr_POOL hl H h).1) (Nat.le_of_ble_eq_true rfl) hw (fun _ h => h) hd rfl kk
theorem zg_POOL_receivers (K : zK G X cc own nL ret rm) {ix idx : Nat} (hl : ix = 0) (hw : Cond.fieldLink own idx RX5 "receivers" "[I" ∈ zB) (hd : decode cc pc = .ok (.getfield idx, 3)) (kk : zV G X nL (zP G ad σ) k n (pc + 3) lo (.ref (ad 20 ix) :: st)) : zV G X nL (zP G ad σ) k n pc lo (.ref (ad 18 ix) :: st) := zi_get (ci := 5) (C := RX5) (T := TX5) (N := 9) (f := 1) K rfl inX5 (fun H h => (zr_POOL hl H h).1) (Nat.le_of_ble_eq_true rfl) hw (fun _ h => h) hd rfl kk
theorem zg_POOL_bounds (K : zK G X cc own nL ret rm) {ix idx : Nat} (hl : ix = 0) (hw : Cond.fieldLink own idx RX5 "bounds" "[I" ∈ zB) (hd : decode cc pc = .ok (.getfield idx, 3)) (kk : zV G X nL (zP G ad σ) k n (pc + 3) lo (.ref (ad 21 ix) :: st)) : zV G X nL (zP G ad σ) k n pc lo (.ref (ad 18 ix) :: st) := zi_get (ci := 5) (C := RX5) (T := TX5) (N := 9) (f := 2) K rfl inX5 (fun H h => (zr_POOL hl H h).1) (Nat.le_of_ble_eq_true rfl) hw (fun _ h => h) hd rfl kk
theorem zg_POOL_limits (K : zK G X cc own nL ret rm) {ix idx : Nat} (hl : ix = 0) (hw : Cond.fieldLink own idx RX5 "limits" "[I" ∈ zB) (hd : decode cc pc = .ok (.getfield idx, 3)) (kk : zV G X nL (zP G ad σ) k n (pc + 3) lo (.ref (ad 22 ix) :: st)) : zV G X nL (zP G ad σ) k n pc lo (.ref (ad 18 ix) :: st) := zi_get (ci := 5) (C := RX5) (T := TX5) (N := 9) (f := 3) K rfl inX5 (fun H h => (zr_POOL hl H h).1) (Nat.le_of_ble_eq_true rfl) hw (fun _ h => h) hd rfl kk
theorem zg_POOL_own (K : zK G X cc own nL ret rm) {ix idx : Nat} (hl : ix = 0) (hw : Cond.fieldLink own idx RX5 "own" "[J" ∈ zB) (hd : decode cc pc = .ok (.getfield idx, 3)) (kk : zV G X nL (zP G ad σ) k n (pc + 3) lo (.ref (ad 23 ix) :: st)) : zV G X nL (zP G ad σ) k n pc lo (.ref (ad 18 ix) :: st) := zi_get (ci := 5) (C := RX5) (T := TX5) (N := 9) (f := 4) K rfl inX5 (fun H h => (zr_POOL hl H h).1) (Nat.le_of_ble_eq_true rfl) hw (fun _ h => h) hd rfl kk
theorem zg_POOL_comes (K : zK G X cc own nL ret rm) {ix idx : Nat} (hl : ix = 0) (hw : Cond.fieldLink own idx RX5 "comes" "[J" ∈ zB) (hd : decode cc pc = .ok (.getfield idx, 3)) (kk : zV G X nL (zP G ad σ) k n (pc + 3) lo (.ref (ad 24 ix) :: st)) : zV G X nL (zP G ad σ) k n pc lo (.ref (ad 18 ix) :: st) := zi_get (ci := 5) (C := RX5) (T := TX5) (N := 9) (f := 5) K rfl inX5 (fun H h => (zr_POOL hl H h).1) (Nat.le_of_ble_eq_true rfl) hw (fun _ h => h) hd rfl kk
theorem zg_POOL_early (K : zK G X cc own nL ret rm) {ix idx : Nat} (hl : ix = 0) (hw : Cond.fieldLink own idx RX5 "early" "[J" ∈ zB) (hd : decode cc pc = .ok (.getfield idx, 3)) (kk : zV G X nL (zP G ad σ) k n (pc + 3) lo (.ref (ad 25 ix) :: st)) : zV G X nL (zP G ad σ) k n pc lo (.ref (ad 18 ix) :: st) := zi_get (ci := 5) (C := RX5) (T := TX5) (N := 9) (f := 6) K rfl inX5 (fun H h => (zr_POOL hl H h).1) (Nat.le_of_ble_eq_true rfl) hw (fun _ h => h) hd rfl kk
theorem zg_POOL_above (K : zK G X cc own nL ret rm) {ix idx : Nat} (hl : ix = 0) (hw : Cond.fieldLink own idx RX5 "above" "[J" ∈ zB) (hd : decode cc pc = .ok (.getfield idx, 3)) (kk : zV G X nL (zP G ad σ) k n (pc + 3) lo (.ref (ad 26 ix) :: st)) : zV G X nL (zP G ad σ) k n pc lo (.ref (ad 18 ix) :: st) := zi_get (ci := 5) (C := RX5) (T := TX5) (N := 9) (f := 7) K rfl inX5 (fun H h => (zr_POOL hl H h).1) (Nat.le_of_ble_eq_true rfl) hw (fun _ h => h) hd rfl kk
theorem zg_POOL_before (K : zK G X cc own nL ret rm) {ix idx : Nat} (hl : ix = 0) (hw : Cond.fieldLink own idx RX5 "before" "[J" ∈ zB) (hd : decode cc pc = .ok (.getfield idx, 3)) (kk : zV G X nL (zP G ad σ) k n (pc + 3) lo (.ref (ad 27 ix) :: st)) : zV G X nL (zP G ad σ) k n pc lo (.ref (ad 18 ix) :: st) := zi_get (ci := 5) (C := RX5) (T := TX5) (N := 9) (f := 8) K rfl inX5 (fun H h => (zr_POOL hl H h).1) (Nat.le_of_ble_eq_true rfl) hw (fun _ h => h) hd rfl kk
theorem zr_PFAIL {ix : Nat} (hl : ix = 0) : ∀ H, zP G ad σ H → va_at G.2.2.1 zCl (ad 19 ix, zqPFAIL G σ ix) H ∧ gA G (ad 19 ix) := zP.at 19 ix (by decide) (fun _ => rfl) hl
theorem zl_PFAIL (K : zK G X cc own nL ret rm) {ix : Nat} {j : Int32} (hl : ix = 0) (i : Nat) (hj : j = nI i) (hi : i < 5) (hd : decode cc pc = .ok (.baload, 1)) (kk : zV G X nL (zP G ad σ) k n (pc + 1) lo (.int (sI σ 31 ix i) :: st)) : zV G X nL (zP G ad σ) k n pc lo (.int j :: .ref (ad 19 ix) :: st) := zi_zald (f := fun j => sI σ 31 ix j) K (fun H h => (zr_PFAIL hl H h).1) i hj hi (Nat.le_of_ble_eq_true rfl) hd kk
theorem zn_PFAIL (K : zK G X cc own nL ret rm) {ix : Nat} (hl : ix = 0) (hd : decode cc pc = .ok (.arraylength, 1)) (kk : zV G X nL (zP G ad σ) k n (pc + 1) lo (.int 5 :: st)) : zV G X nL (zP G ad σ) k n pc lo (.ref (ad 19 ix) :: st) := zi_alen (t0 := 2) (N := 5) K rfl (fun H h => (zr_PFAIL hl H h).1) hd kk
theorem zs_PFAIL (K : zK G X cc own nL ret rm) {ix : Nat} {j : Int32} {v : Int32} (hl : ix = 0) (i : Nat) (hj : j = nI i) (hi : i < 5) (hz : narrow .boolean (.int v) = .int v) (hd : decode cc pc = .ok (.bastore, 1)) (kk : zV G X nL (zP G ad (uI σ 31 ix i v)) k n (pc + 1) lo st) : zV G X nL (zP G ad σ) k n pc lo (.int v :: .int j :: .ref (ad 19 ix) :: st) :=
  zi_zast (f := fun j => sI σ 31 ix j) K (zr_PFAIL hl) i hj hi (Nat.le_of_ble_eq_true rfl) hz hd (zP.setI 19 ix (by decide) rfl hl (fun _ => by
    show _ = zqPFAIL G (uI σ 31 ix i v) ix
    unfold zqPFAIL
    rw [show upd (fun j => sI σ 31 ix j) i v = (fun j => sI (uI σ 31 ix i v) 31 ix j) from funext fun q => by
      by_cases hq : q = i
      · subst hq; exact (if_pos rfl).trans (u3_s _ _ _ _ _).symm
      · exact (if_neg hq).trans (u3_n _ _ (fun z => hq z.2.2)).symm])) kk
theorem zr_PREC {ix : Nat} (hl : ix = 0) : ∀ H, zP G ad σ H → va_at G.2.2.1 zCl (ad 20 ix, zqPREC G σ ix) H ∧ gA G (ad 20 ix) := zP.at 20 ix (by decide) (fun _ => rfl) hl
theorem zl_PREC (K : zK G X cc own nL ret rm) {ix : Nat} {j : Int32} (hl : ix = 0) (i : Nat) (hj : j = nI i) (hi : i < 5) (hd : decode cc pc = .ok (.iaload, 1)) (kk : zV G X nL (zP G ad σ) k n (pc + 1) lo (.int (sI σ 32 ix i) :: st)) : zV G X nL (zP G ad σ) k n pc lo (.int j :: .ref (ad 20 ix) :: st) := zi_iald (f := fun j => sI σ 32 ix j) K (fun H h => (zr_PREC hl H h).1) i hj hi (Nat.le_of_ble_eq_true rfl) hd kk
theorem zn_PREC (K : zK G X cc own nL ret rm) {ix : Nat} (hl : ix = 0) (hd : decode cc pc = .ok (.arraylength, 1)) (kk : zV G X nL (zP G ad σ) k n (pc + 1) lo (.int 5 :: st)) : zV G X nL (zP G ad σ) k n pc lo (.ref (ad 20 ix) :: st) := zi_alen (t0 := 0) (N := 5) K rfl (fun H h => (zr_PREC hl H h).1) hd kk
theorem zs_PREC (K : zK G X cc own nL ret rm) {ix : Nat} {j : Int32} {v : Int32} (hl : ix = 0) (i : Nat) (hj : j = nI i) (hi : i < 5) (hd : decode cc pc = .ok (.iastore, 1)) (kk : zV G X nL (zP G ad (uI σ 32 ix i v)) k n (pc + 1) lo st) : zV G X nL (zP G ad σ) k n pc lo (.int v :: .int j :: .ref (ad 20 ix) :: st) :=
  zi_iast (f := fun j => sI σ 32 ix j) K (zr_PREC hl) i hj hi (Nat.le_of_ble_eq_true rfl) hd (zP.setI 20 ix (by decide) rfl hl (fun _ => by
    show _ = zqPREC G (uI σ 32 ix i v) ix
    unfold zqPREC
    rw [show upd (fun j => sI σ 32 ix j) i v = (fun j => sI (uI σ 32 ix i v) 32 ix j) from funext fun q => by
      by_cases hq : q = i
      · subst hq; exact (if_pos rfl).trans (u3_s _ _ _ _ _).symm
      · exact (if_neg hq).trans (u3_n _ _ (fun z => hq z.2.2)).symm])) kk
theorem zr_PBND {ix : Nat} (hl : ix = 0) : ∀ H, zP G ad σ H → va_at G.2.2.1 zCl (ad 21 ix, zqPBND G σ ix) H ∧ gA G (ad 21 ix) := zP.at 21 ix (by decide) (fun _ => rfl) hl
theorem zl_PBND (K : zK G X cc own nL ret rm) {ix : Nat} {j : Int32} (hl : ix = 0) (i : Nat) (hj : j = nI i) (hi : i < 5) (hd : decode cc pc = .ok (.iaload, 1)) (kk : zV G X nL (zP G ad σ) k n (pc + 1) lo (.int (sI σ 33 ix i) :: st)) : zV G X nL (zP G ad σ) k n pc lo (.int j :: .ref (ad 21 ix) :: st) := zi_iald (f := fun j => sI σ 33 ix j) K (fun H h => (zr_PBND hl H h).1) i hj hi (Nat.le_of_ble_eq_true rfl) hd kk
theorem zn_PBND (K : zK G X cc own nL ret rm) {ix : Nat} (hl : ix = 0) (hd : decode cc pc = .ok (.arraylength, 1)) (kk : zV G X nL (zP G ad σ) k n (pc + 1) lo (.int 5 :: st)) : zV G X nL (zP G ad σ) k n pc lo (.ref (ad 21 ix) :: st) := zi_alen (t0 := 0) (N := 5) K rfl (fun H h => (zr_PBND hl H h).1) hd kk
theorem zs_PBND (K : zK G X cc own nL ret rm) {ix : Nat} {j : Int32} {v : Int32} (hl : ix = 0) (i : Nat) (hj : j = nI i) (hi : i < 5) (hd : decode cc pc = .ok (.iastore, 1)) (kk : zV G X nL (zP G ad (uI σ 33 ix i v)) k n (pc + 1) lo st) : zV G X nL (zP G ad σ) k n pc lo (.int v :: .int j :: .ref (ad 21 ix) :: st) :=
  zi_iast (f := fun j => sI σ 33 ix j) K (zr_PBND hl) i hj hi (Nat.le_of_ble_eq_true rfl) hd (zP.setI 21 ix (by decide) rfl hl (fun _ => by
    show _ = zqPBND G (uI σ 33 ix i v) ix
    unfold zqPBND
    rw [show upd (fun j => sI σ 33 ix j) i v = (fun j => sI (uI σ 33 ix i v) 33 ix j) from funext fun q => by
      by_cases hq : q = i
      · subst hq; exact (if_pos rfl).trans (u3_s _ _ _ _ _).symm
      · exact (if_neg hq).trans (u3_n _ _ (fun z => hq z.2.2)).symm])) kk
theorem zr_PLIM {ix : Nat} (hl : ix = 0) : ∀ H, zP G ad σ H → va_at G.2.2.1 zCl (ad 22 ix, zqPLIM G σ ix) H ∧ gA G (ad 22 ix) := zP.at 22 ix (by decide) (fun _ => rfl) hl
theorem zl_PLIM (K : zK G X cc own nL ret rm) {ix : Nat} {j : Int32} (hl : ix = 0) (i : Nat) (hj : j = nI i) (hi : i < 5) (hd : decode cc pc = .ok (.iaload, 1)) (kk : zV G X nL (zP G ad σ) k n (pc + 1) lo (.int (sI σ 34 ix i) :: st)) : zV G X nL (zP G ad σ) k n pc lo (.int j :: .ref (ad 22 ix) :: st) := zi_iald (f := fun j => sI σ 34 ix j) K (fun H h => (zr_PLIM hl H h).1) i hj hi (Nat.le_of_ble_eq_true rfl) hd kk
theorem zn_PLIM (K : zK G X cc own nL ret rm) {ix : Nat} (hl : ix = 0) (hd : decode cc pc = .ok (.arraylength, 1)) (kk : zV G X nL (zP G ad σ) k n (pc + 1) lo (.int 5 :: st)) : zV G X nL (zP G ad σ) k n pc lo (.ref (ad 22 ix) :: st) := zi_alen (t0 := 0) (N := 5) K rfl (fun H h => (zr_PLIM hl H h).1) hd kk
theorem zs_PLIM (K : zK G X cc own nL ret rm) {ix : Nat} {j : Int32} {v : Int32} (hl : ix = 0) (i : Nat) (hj : j = nI i) (hi : i < 5) (hd : decode cc pc = .ok (.iastore, 1)) (kk : zV G X nL (zP G ad (uI σ 34 ix i v)) k n (pc + 1) lo st) : zV G X nL (zP G ad σ) k n pc lo (.int v :: .int j :: .ref (ad 22 ix) :: st) :=
  zi_iast (f := fun j => sI σ 34 ix j) K (zr_PLIM hl) i hj hi (Nat.le_of_ble_eq_true rfl) hd (zP.setI 22 ix (by decide) rfl hl (fun _ => by
    show _ = zqPLIM G (uI σ 34 ix i v) ix
    unfold zqPLIM
    rw [show upd (fun j => sI σ 34 ix j) i v = (fun j => sI (uI σ 34 ix i v) 34 ix j) from funext fun q => by
      by_cases hq : q = i
      · subst hq; exact (if_pos rfl).trans (u3_s _ _ _ _ _).symm
      · exact (if_neg hq).trans (u3_n _ _ (fun z => hq z.2.2)).symm])) kk
theorem zr_POWN {ix : Nat} (hl : ix = 0) : ∀ H, zP G ad σ H → va_at G.2.2.1 zCl (ad 23 ix, zqPOWN G σ ix) H ∧ gA G (ad 23 ix) := zP.at 23 ix (by decide) (fun _ => rfl) hl
theorem zl_POWN (K : zK G X cc own nL ret rm) {ix : Nat} {j : Int32} (hl : ix = 0) (i : Nat) (hj : j = nI i) (hi : i < 5) (hd : decode cc pc = .ok (.laload, 1)) (kk : zV G X nL (zP G ad σ) k n (pc + 1) lo (.long (sL σ 9 ix i) :: st)) : zV G X nL (zP G ad σ) k n pc lo (.int j :: .ref (ad 23 ix) :: st) := zi_lald (f := fun j => sL σ 9 ix j) K (fun H h => (zr_POWN hl H h).1) i hj hi (Nat.le_of_ble_eq_true rfl) hd kk
theorem zn_POWN (K : zK G X cc own nL ret rm) {ix : Nat} (hl : ix = 0) (hd : decode cc pc = .ok (.arraylength, 1)) (kk : zV G X nL (zP G ad σ) k n (pc + 1) lo (.int 5 :: st)) : zV G X nL (zP G ad σ) k n pc lo (.ref (ad 23 ix) :: st) := zi_alen (t0 := 1) (N := 5) K rfl (fun H h => (zr_POWN hl H h).1) hd kk
theorem zs_POWN (K : zK G X cc own nL ret rm) {ix : Nat} {j : Int32} {v : Int64} (hl : ix = 0) (i : Nat) (hj : j = nI i) (hi : i < 5) (hd : decode cc pc = .ok (.lastore, 1)) (kk : zV G X nL (zP G ad (uL σ 9 ix i v)) k n (pc + 1) lo st) : zV G X nL (zP G ad σ) k n pc lo (.long v :: .int j :: .ref (ad 23 ix) :: st) :=
  zi_last (f := fun j => sL σ 9 ix j) K (zr_POWN hl) i hj hi (Nat.le_of_ble_eq_true rfl) hd (zP.setL 23 ix (by decide) rfl hl (fun _ => by
    show _ = zqPOWN G (uL σ 9 ix i v) ix
    unfold zqPOWN
    rw [show vp_updL (fun j => sL σ 9 ix j) i v = (fun j => sL (uL σ 9 ix i v) 9 ix j) from funext fun q => by
      by_cases hq : q = i
      · subst hq; exact (if_pos rfl).trans (u3_s _ _ _ _ _).symm
      · exact (if_neg hq).trans (u3_n _ _ (fun z => hq z.2.2)).symm])) kk
theorem zr_PCOM {ix : Nat} (hl : ix = 0) : ∀ H, zP G ad σ H → va_at G.2.2.1 zCl (ad 24 ix, zqPCOM G σ ix) H ∧ gA G (ad 24 ix) := zP.at 24 ix (by decide) (fun _ => rfl) hl
theorem zl_PCOM (K : zK G X cc own nL ret rm) {ix : Nat} {j : Int32} (hl : ix = 0) (i : Nat) (hj : j = nI i) (hi : i < 5) (hd : decode cc pc = .ok (.laload, 1)) (kk : zV G X nL (zP G ad σ) k n (pc + 1) lo (.long (sL σ 10 ix i) :: st)) : zV G X nL (zP G ad σ) k n pc lo (.int j :: .ref (ad 24 ix) :: st) := zi_lald (f := fun j => sL σ 10 ix j) K (fun H h => (zr_PCOM hl H h).1) i hj hi (Nat.le_of_ble_eq_true rfl) hd kk
theorem zn_PCOM (K : zK G X cc own nL ret rm) {ix : Nat} (hl : ix = 0) (hd : decode cc pc = .ok (.arraylength, 1)) (kk : zV G X nL (zP G ad σ) k n (pc + 1) lo (.int 5 :: st)) : zV G X nL (zP G ad σ) k n pc lo (.ref (ad 24 ix) :: st) := zi_alen (t0 := 1) (N := 5) K rfl (fun H h => (zr_PCOM hl H h).1) hd kk
theorem zs_PCOM (K : zK G X cc own nL ret rm) {ix : Nat} {j : Int32} {v : Int64} (hl : ix = 0) (i : Nat) (hj : j = nI i) (hi : i < 5) (hd : decode cc pc = .ok (.lastore, 1)) (kk : zV G X nL (zP G ad (uL σ 10 ix i v)) k n (pc + 1) lo st) : zV G X nL (zP G ad σ) k n pc lo (.long v :: .int j :: .ref (ad 24 ix) :: st) :=
  zi_last (f := fun j => sL σ 10 ix j) K (zr_PCOM hl) i hj hi (Nat.le_of_ble_eq_true rfl) hd (zP.setL 24 ix (by decide) rfl hl (fun _ => by
    show _ = zqPCOM G (uL σ 10 ix i v) ix
    unfold zqPCOM
    rw [show vp_updL (fun j => sL σ 10 ix j) i v = (fun j => sL (uL σ 10 ix i v) 10 ix j) from funext fun q => by
      by_cases hq : q = i
      · subst hq; exact (if_pos rfl).trans (u3_s _ _ _ _ _).symm
      · exact (if_neg hq).trans (u3_n _ _ (fun z => hq z.2.2)).symm])) kk
theorem zr_PEAR {ix : Nat} (hl : ix = 0) : ∀ H, zP G ad σ H → va_at G.2.2.1 zCl (ad 25 ix, zqPEAR G σ ix) H ∧ gA G (ad 25 ix) := zP.at 25 ix (by decide) (fun _ => rfl) hl
theorem zl_PEAR (K : zK G X cc own nL ret rm) {ix : Nat} {j : Int32} (hl : ix = 0) (i : Nat) (hj : j = nI i) (hi : i < 5) (hd : decode cc pc = .ok (.laload, 1)) (kk : zV G X nL (zP G ad σ) k n (pc + 1) lo (.long (sL σ 11 ix i) :: st)) : zV G X nL (zP G ad σ) k n pc lo (.int j :: .ref (ad 25 ix) :: st) := zi_lald (f := fun j => sL σ 11 ix j) K (fun H h => (zr_PEAR hl H h).1) i hj hi (Nat.le_of_ble_eq_true rfl) hd kk
theorem zn_PEAR (K : zK G X cc own nL ret rm) {ix : Nat} (hl : ix = 0) (hd : decode cc pc = .ok (.arraylength, 1)) (kk : zV G X nL (zP G ad σ) k n (pc + 1) lo (.int 5 :: st)) : zV G X nL (zP G ad σ) k n pc lo (.ref (ad 25 ix) :: st) := zi_alen (t0 := 1) (N := 5) K rfl (fun H h => (zr_PEAR hl H h).1) hd kk
theorem zs_PEAR (K : zK G X cc own nL ret rm) {ix : Nat} {j : Int32} {v : Int64} (hl : ix = 0) (i : Nat) (hj : j = nI i) (hi : i < 5) (hd : decode cc pc = .ok (.lastore, 1)) (kk : zV G X nL (zP G ad (uL σ 11 ix i v)) k n (pc + 1) lo st) : zV G X nL (zP G ad σ) k n pc lo (.long v :: .int j :: .ref (ad 25 ix) :: st) :=
  zi_last (f := fun j => sL σ 11 ix j) K (zr_PEAR hl) i hj hi (Nat.le_of_ble_eq_true rfl) hd (zP.setL 25 ix (by decide) rfl hl (fun _ => by
    show _ = zqPEAR G (uL σ 11 ix i v) ix
    unfold zqPEAR
    rw [show vp_updL (fun j => sL σ 11 ix j) i v = (fun j => sL (uL σ 11 ix i v) 11 ix j) from funext fun q => by
      by_cases hq : q = i
      · subst hq; exact (if_pos rfl).trans (u3_s _ _ _ _ _).symm
      · exact (if_neg hq).trans (u3_n _ _ (fun z => hq z.2.2)).symm])) kk
theorem zr_PABV {ix : Nat} (hl : ix = 0) : ∀ H, zP G ad σ H → va_at G.2.2.1 zCl (ad 26 ix, zqPABV G σ ix) H ∧ gA G (ad 26 ix) := zP.at 26 ix (by decide) (fun _ => rfl) hl
theorem zl_PABV (K : zK G X cc own nL ret rm) {ix : Nat} {j : Int32} (hl : ix = 0) (i : Nat) (hj : j = nI i) (hi : i < 5) (hd : decode cc pc = .ok (.laload, 1)) (kk : zV G X nL (zP G ad σ) k n (pc + 1) lo (.long (sL σ 12 ix i) :: st)) : zV G X nL (zP G ad σ) k n pc lo (.int j :: .ref (ad 26 ix) :: st) := zi_lald (f := fun j => sL σ 12 ix j) K (fun H h => (zr_PABV hl H h).1) i hj hi (Nat.le_of_ble_eq_true rfl) hd kk
theorem zn_PABV (K : zK G X cc own nL ret rm) {ix : Nat} (hl : ix = 0) (hd : decode cc pc = .ok (.arraylength, 1)) (kk : zV G X nL (zP G ad σ) k n (pc + 1) lo (.int 5 :: st)) : zV G X nL (zP G ad σ) k n pc lo (.ref (ad 26 ix) :: st) := zi_alen (t0 := 1) (N := 5) K rfl (fun H h => (zr_PABV hl H h).1) hd kk
theorem zs_PABV (K : zK G X cc own nL ret rm) {ix : Nat} {j : Int32} {v : Int64} (hl : ix = 0) (i : Nat) (hj : j = nI i) (hi : i < 5) (hd : decode cc pc = .ok (.lastore, 1)) (kk : zV G X nL (zP G ad (uL σ 12 ix i v)) k n (pc + 1) lo st) : zV G X nL (zP G ad σ) k n pc lo (.long v :: .int j :: .ref (ad 26 ix) :: st) :=
  zi_last (f := fun j => sL σ 12 ix j) K (zr_PABV hl) i hj hi (Nat.le_of_ble_eq_true rfl) hd (zP.setL 26 ix (by decide) rfl hl (fun _ => by
    show _ = zqPABV G (uL σ 12 ix i v) ix
    unfold zqPABV
    rw [show vp_updL (fun j => sL σ 12 ix j) i v = (fun j => sL (uL σ 12 ix i v) 12 ix j) from funext fun q => by
      by_cases hq : q = i
      · subst hq; exact (if_pos rfl).trans (u3_s _ _ _ _ _).symm
      · exact (if_neg hq).trans (u3_n _ _ (fun z => hq z.2.2)).symm])) kk
theorem zr_PBEF {ix : Nat} (hl : ix = 0) : ∀ H, zP G ad σ H → va_at G.2.2.1 zCl (ad 27 ix, zqPBEF G σ ix) H ∧ gA G (ad 27 ix) := zP.at 27 ix (by decide) (fun _ => rfl) hl
theorem zl_PBEF (K : zK G X cc own nL ret rm) {ix : Nat} {j : Int32} (hl : ix = 0) (i : Nat) (hj : j = nI i) (hi : i < 5) (hd : decode cc pc = .ok (.laload, 1)) (kk : zV G X nL (zP G ad σ) k n (pc + 1) lo (.long (sL σ 13 ix i) :: st)) : zV G X nL (zP G ad σ) k n pc lo (.int j :: .ref (ad 27 ix) :: st) := zi_lald (f := fun j => sL σ 13 ix j) K (fun H h => (zr_PBEF hl H h).1) i hj hi (Nat.le_of_ble_eq_true rfl) hd kk
theorem zn_PBEF (K : zK G X cc own nL ret rm) {ix : Nat} (hl : ix = 0) (hd : decode cc pc = .ok (.arraylength, 1)) (kk : zV G X nL (zP G ad σ) k n (pc + 1) lo (.int 5 :: st)) : zV G X nL (zP G ad σ) k n pc lo (.ref (ad 27 ix) :: st) := zi_alen (t0 := 1) (N := 5) K rfl (fun H h => (zr_PBEF hl H h).1) hd kk
theorem zs_PBEF (K : zK G X cc own nL ret rm) {ix : Nat} {j : Int32} {v : Int64} (hl : ix = 0) (i : Nat) (hj : j = nI i) (hi : i < 5) (hd : decode cc pc = .ok (.lastore, 1)) (kk : zV G X nL (zP G ad (uL σ 13 ix i v)) k n (pc + 1) lo st) : zV G X nL (zP G ad σ) k n pc lo (.long v :: .int j :: .ref (ad 27 ix) :: st) :=
  zi_last (f := fun j => sL σ 13 ix j) K (zr_PBEF hl) i hj hi (Nat.le_of_ble_eq_true rfl) hd (zP.setL 27 ix (by decide) rfl hl (fun _ => by
    show _ = zqPBEF G (uL σ 13 ix i v) ix
    unfold zqPBEF
    rw [show vp_updL (fun j => sL σ 13 ix j) i v = (fun j => sL (uL σ 13 ix i v) 13 ix j) from funext fun q => by
      by_cases hq : q = i
      · subst hq; exact (if_pos rfl).trans (u3_s _ _ _ _ _).symm
      · exact (if_neg hq).trans (u3_n _ _ (fun z => hq z.2.2)).symm])) kk
end ZT
