/-! lists: rows over arrays of references, the state's lists, ArrayList's methods -/
def uZ (σ : zSt) (q n : Nat) : zSt := (σ.1, σ.2.1, σ.2.2.1, (fun j => if j = q then n else σ.2.2.2.1 j), σ.2.2.2.2)
def uM (σ : zSt) (q : Nat) (m : Int32) : zSt := (σ.1, σ.2.1, σ.2.2.1, σ.2.2.2.1, σ.2.2.2.2.1, (fun j => if j = q then m else σ.2.2.2.2.2.1 j), σ.2.2.2.2.2.2)
def uE (σ : zSt) (q i : Nat) (v : Option Nat) : zSt := (σ.1, σ.2.1, (fun a b => if a = q ∧ b = i then v else σ.2.2.1 a b), σ.2.2.2)
def uC (σ : zSt) (q c : Nat) : zSt := (σ.1, σ.2.1, σ.2.2.1, σ.2.2.2.1, (fun j => if j = q then c else σ.2.2.2.2.1 j), σ.2.2.2.2.2.1, σ.2.2.2.2.2.2.1, σ.2.2.2.2.2.2.2.1, σ.2.2.2.2.2.2.2.2.1 + 1, σ.2.2.2.2.2.2.2.2.2 + c)
section ZA
variable {G : zG} {X : zX} {cc : ByteArray} {own : String} {nL : Nat} {ret : Option FieldType} {rm : Room} {P : Heap → Prop} {k n pc : Nat} {lo : List (Nat × Value)} {st : List Value}
theorem zi_aald (K : zK G X cc own nL ret rm) {a N : Nat} {f : Nat → Option Nat} {j : Int32} (hP : ∀ H, P H → va_at G.2.2.1 zCl (a, .inl (G.2.2.2.1 3, N, .inr (.inr (.inr (.inr f))))) H) (i : Nat) (hj : j = nI i) (hi : i < N) (hN : N < 2 ^ 31) (hd : decode cc pc = .ok (.aaload, 1)) (kk : zV G X nL P k n (pc + 1) lo (va_rf (f i) :: st)) : zV G X nL P k n pc lo (.int j :: .ref a :: st) := fun H locs ls hP0 hS hL => by
  subst hj
  refine va_aldq (D := G.2.2.1) (cl := zCl) (tys := zty G.2.2.2.1) (ws := [(a, .inl (G.2.2.2.1 3, N, .inr (.inr (.inr (.inr f)))))]) (C := "java/lang/Object") K.1 K.2.1 K.2.2.2.2.2.1.1 (fun q x hq => by
    have hz : q < 1 := (List.getElem?_eq_some_iff.mp hq).1
    rw [show q = 0 by omega] at hq
    cases hq
    exact hP H hP0) 0 3 rfl rfl (vp_in_nI hi hN) hd ?_
  rw [nI_clamp (Nat.lt_trans hi hN)]
  exact kk H locs ls hP0 hS hL
theorem zi_aast (K : zK G X cc own nL ret rm) {a N v : Nat} {f : Nat → Option Nat} {j : Int32} {P' : Heap → Prop} (hP : ∀ H, P H → va_at G.2.2.1 zCl (a, .inl (G.2.2.2.1 3, N, .inr (.inr (.inr (.inr f))))) H ∧ gA G a) (hv : ∀ H, P H → ∃ (ci : Nat) (fs : List Value) (r : vw_C), va_at G.2.2.1 zCl (v, .inr (ci, fs)) H ∧ zCl[ci]? = some r ∧ r.1 ∈ zF) (i : Nat) (hj : j = nI i) (hi : i < N) (hN : N < 2 ^ 31) (hd : decode cc pc = .ok (.aastore, 1))
    (hP' : ∀ H H1 : Heap, P H → va_at G.2.2.1 zCl (a, .inl (G.2.2.2.1 3, N, .inr (.inr (.inr (.inr (va_up f i (some v))))))) H1 → H1.size = H.size → (∀ q, q ≠ a → H1[q]? = H[q]?) → P' H1) (kk : zV G X nL P' k n (pc + 1) lo st) : zV G X nL P k n pc lo (.ref v :: .int j :: .ref a :: st) := fun H locs ls hP0 hS hL => by
  subst hj
  obtain ⟨hat, hA⟩ := hP H hP0
  obtain ⟨ci, fs, r, ⟨r', hr', cellV, g1, g2, g3, -⟩, hc, hF⟩ := hv H hP0
  have hK := K.2.2.2.2.2.1.1
  have hcls := (hK.1 ci r hc).2
  obtain ⟨kA, comp, k1, k2, k3, -⟩ := (hK.2 3 _ rfl).2
  obtain ⟨kE, hkE, -⟩ := Vm.findClass_spec k3
  obtain ⟨c0, t1, f1, f2, f3⟩ := Cond.castable_spec (va_Nw.use (A := xa X) rfl (K.2.2.2.2.2.1.2.2.2.2.1 r.1 hF))
  cases hcls.1.symm.trans f1
  cases k3.symm.trans f2
  obtain ⟨kC, hkC, -⟩ := hcls.2
  refine W.aast K.1 K.2.1 hat (fun q h => by cases h) (fun h => by cases h) k1 k2 rfl hkE ⟨nI_pos (Nat.lt_trans hi hN), by show _ < (arrV _ _ _).slots.size; rw [arrV_size, nI_clamp (Nat.lt_trans hi hN)]; exact hi⟩ g1 (fun q h => by rw [g3] at h; cases h) (by rw [g2]; exact hkC) (by rw [g2]; exact f3) rfl rfl hd fun H1 e z oq => ?_
  rw [nI_clamp (Nat.lt_trans hi hN)] at e ⊢
  refine kk H1 _ ls (hP' H H1 hP0 ?_ z oq) (hS.put z oq hA) hL
  show H1[a]? = some (vp_cell _ _)
  rw [e]
  rw [vp_cell_q, vp_cell_q, arrV_store]
  congr 2
  funext q
  by_cases hq : q = i
  · subst hq
    simp [updV, va_up, va_rf]
  · simp [updV, va_up, hq]
theorem zi_aastN (K : zK G X cc own nL ret rm) {a N : Nat} {f : Nat → Option Nat} {j : Int32} {P' : Heap → Prop} (hP : ∀ H, P H → va_at G.2.2.1 zCl (a, .inl (G.2.2.2.1 3, N, .inr (.inr (.inr (.inr f))))) H ∧ gA G a) (i : Nat) (hj : j = nI i) (hi : i < N) (hN : N < 2 ^ 31) (hd : decode cc pc = .ok (.aastore, 1))
    (hP' : ∀ H H1 : Heap, P H → va_at G.2.2.1 zCl (a, .inl (G.2.2.2.1 3, N, .inr (.inr (.inr (.inr (va_up f i none)))))) H1 → H1.size = H.size → (∀ q, q ≠ a → H1[q]? = H[q]?) → P' H1) (kk : zV G X nL P' k n (pc + 1) lo st) : zV G X nL P k n pc lo (.null :: .int j :: .ref a :: st) := fun H locs ls hP0 hS hL => by
  subst hj
  obtain ⟨hat, hA⟩ := hP H hP0
  refine va_WaastN (C := "java/lang/Object") K.1 K.2.1 hat ((K.2.2.2.2.2.1.1.2 3 _ rfl).1 N (fun j => va_rf (f j))) (fun h => by cases h) (by show ¬ (_ ∨ (arrV _ _ _).slots.size ≤ _); rw [arrV_size]; exact vp_in_nI hi hN) rfl rfl hd fun H1 e z oq => ?_
  rw [nI_clamp (Nat.lt_trans hi hN)] at e ⊢
  refine kk H1 _ ls (hP' H H1 hP0 ?_ z oq) (hS.put z oq hA) hL
  show H1[a]? = some (vp_cell _ _)
  rw [e]
  rw [vp_cell_q, vp_cell_q, arrV_store]
  congr 2
  funext q
  by_cases hq : q = i
  · subst hq
    simp [updV, va_up, va_rf]
  · simp [updV, va_up, hq]
end ZA
section ZB
variable {G : zG} {ad : Nat → Nat → Nat} {aa : Nat → Nat} {σ σ' : zSt} {H H1 : Heap}
/-- what of the state the content of a kind other than lists speaks of -/
theorem zct_lists {kd ix : Nat} (h : kd < 28) (h1 : σ'.1 = σ.1) (h2 : σ'.2.1 = σ.2.1) (h8 : sP σ' = sP σ) : zct G ad aa σ' kd ix = zct G ad aa σ kd ix := by
  obtain ⟨a, b, e, z, c, m, n, p, g⟩ := σ
  obtain ⟨a', b', e', z', c', m', n', p', g'⟩ := σ'
  cases h1
  cases h2
  cases h8
  match kd, h with
  | 0, _ => rfl
  | 1, _ => rfl
  | 2, _ => rfl
  | 3, _ => rfl
  | 4, _ => rfl
  | 5, _ => rfl
  | 6, _ => rfl
  | 7, _ => rfl
  | 8, _ => rfl
  | 9, _ => rfl
  | 10, _ => rfl
  | 11, _ => rfl
  | 12, _ => rfl
  | 13, _ => rfl
  | 14, _ => rfl
  | 15, _ => rfl
  | 16, _ => rfl
  | 17, _ => rfl
  | 18, _ => rfl
  | 19, _ => rfl
  | 20, _ => rfl
  | 21, _ => rfl
  | 22, _ => rfl
  | 23, _ => rfl
  | 24, _ => rfl
  | 25, _ => rfl
  | 26, _ => rfl
  | 27, _ => rfl
  | q + 28, h => exact absurd h (by omega)
theorem zlv_lists {kd ix : Nat} (h : kd ≠ 29) (h7 : sN σ' = sN σ) : zlv σ' kd ix ↔ zlv σ kd ix := by
  obtain ⟨a, b, e, z, c, m, n, p, g⟩ := σ
  obtain ⟨a', b', e', z', c', m', n', p', g'⟩ := σ'
  cases h7
  match kd, h with
  | 0, _ => exact Iff.rfl
  | 1, _ => exact Iff.rfl
  | 2, _ => exact Iff.rfl
  | 3, _ => exact Iff.rfl
  | 4, _ => exact Iff.rfl
  | 5, _ => exact Iff.rfl
  | 6, _ => exact Iff.rfl
  | 7, _ => exact Iff.rfl
  | 8, _ => exact Iff.rfl
  | 9, _ => exact Iff.rfl
  | 10, _ => exact Iff.rfl
  | 11, _ => exact Iff.rfl
  | 12, _ => exact Iff.rfl
  | 13, _ => exact Iff.rfl
  | 14, _ => exact Iff.rfl
  | 15, _ => exact Iff.rfl
  | 16, _ => exact Iff.rfl
  | 17, _ => exact Iff.rfl
  | 18, _ => exact Iff.rfl
  | 19, _ => exact Iff.rfl
  | 20, _ => exact Iff.rfl
  | 21, _ => exact Iff.rfl
  | 22, _ => exact Iff.rfl
  | 23, _ => exact Iff.rfl
  | 24, _ => exact Iff.rfl
  | 25, _ => exact Iff.rfl
  | 26, _ => exact Iff.rfl
  | 27, _ => exact Iff.rfl
  | 28, _ => exact Iff.rfl
  | 29, h => exact absurd rfl h
  | q + 30, _ => exact Iff.rfl
theorem zP0.setZ (h : zP0 G ad aa σ H) {q m : Nat} (hq : q < 13) (hn : va_at G.2.2.1 zCl (ad 28 q, zqLST G aa (uZ σ q m) q) H1) (oq : ∀ x, x ≠ ad 28 q → H1[x]? = H[x]?) : zP0 G ad aa (uZ σ q m) H1 := by
  refine h.upd (kd := 28) (ix := q) hq (fun k x => ?_) (fun k x hne _ => ?_) hn oq
  · by_cases e : k = 29
    · subst e; exact Iff.rfl
    · exact zlv_lists e rfl
  · rcases Nat.lt_or_ge k 28 with e | e
    · exact zct_lists e rfl rfl rfl
    · match k, e with
      | 28, _ =>
        have hx : ¬ x = q := fun z => hne ⟨rfl, z⟩
        show zqLST G aa (uZ σ q m) x = zqLST G aa σ x
        unfold zqLST
        rw [show sZ (uZ σ q m) x = sZ σ x from if_neg hx]
        rfl
      | 29, _ => rfl
      | y + 30, _ => rfl
theorem zP0.setM (h : zP0 G ad aa σ H) {q : Nat} {m : Int32} (hq : q < 13) (hn : va_at G.2.2.1 zCl (ad 28 q, zqLST G aa (uM σ q m) q) H1) (oq : ∀ x, x ≠ ad 28 q → H1[x]? = H[x]?) : zP0 G ad aa (uM σ q m) H1 := by
  refine h.upd (kd := 28) (ix := q) hq (fun k x => ?_) (fun k x hne _ => ?_) hn oq
  · by_cases e : k = 29
    · subst e; exact Iff.rfl
    · exact zlv_lists e rfl
  · rcases Nat.lt_or_ge k 28 with e | e
    · exact zct_lists e rfl rfl rfl
    · match k, e with
      | 28, _ =>
        have hx : ¬ x = q := fun z => hne ⟨rfl, z⟩
        show zqLST G aa (uM σ q m) x = zqLST G aa σ x
        unfold zqLST
        rw [show sM (uM σ q m) x = sM σ x from if_neg hx]
        rfl
      | 29, _ => rfl
      | y + 30, _ => rfl
theorem zP0.setE (h : zP0 G ad aa σ H) {q i : Nat} {v : Option Nat} (hq : q < 13 ∧ 0 < sC σ q) (hn : va_at G.2.2.1 zCl (aa q, zqLARR G ad (uE σ q i v) q) H1) (oq : ∀ x, x ≠ aa q → H1[x]? = H[x]?) : zP0 G ad aa (uE σ q i v) H1 := by
  refine h.upd (kd := 29) (ix := q) hq (fun k x => ?_) (fun k x hne _ => ?_) hn oq
  · by_cases e : k = 29
    · subst e; exact Iff.rfl
    · exact zlv_lists e rfl
  · rcases Nat.lt_or_ge k 28 with e | e
    · exact zct_lists e rfl rfl rfl
    · match k, e with
      | 28, _ => rfl
      | 29, _ =>
        have hx : ¬ x = q := fun z => hne ⟨rfl, z⟩
        show zqLARR G ad (uE σ q i v) x = zqLARR G ad σ x
        unfold zqLARR
        rw [show (fun j => (sE (uE σ q i v) x j).map (ad (zeK x))) = (fun j => (sE σ x j).map (ad (zeK x))) from funext fun j => by
          rw [show sE (uE σ q i v) x j = sE σ x j from if_neg (fun z => hx z.1)]]
        rfl
      | y + 30, _ => rfl
theorem zr0_LST (h : zP0 G ad aa σ H) {q : Nat} (hq : q < 13) : va_at G.2.2.1 zCl (ad 28 q, zqLST G aa σ q) H ∧ gA G (ad 28 q) := h.1 28 q hq
theorem zr0_LARR (h : zP0 G ad aa σ H) {q : Nat} (hq : q < 13 ∧ 0 < sC σ q) : va_at G.2.2.1 zCl (aa q, zqLARR G ad σ q) H ∧ gA G (aa q) := h.1 29 q hq
end ZB
section ZD
variable {G : zG} {X : zX} {cc : ByteArray} {nL : Nat} {ret : Option FieldType} {rm : Room} {k n pc : Nat} {lo : List (Nat × Value)} {st : List Value} {ad : Nat → Nat → Nat} {aa : Nat → Nat} {σ : zSt}
theorem zV.opn (kk : ∀ aa, zV G X nL (zP0 G ad aa σ) k n pc lo st) : zV G X nL (zP G ad σ) k n pc lo st := zV.ex (F := fun aa => zP0 G ad aa σ) kk
theorem zg0_size (K : zK G X cc RJx4a65c nL ret rm) {q idx : Nat} (hq : q < 13) (hw : Cond.fieldLink RJx4a65c idx RJx4a65c "size" "I" ∈ zB) (hd : decode cc pc = .ok (.getfield idx, 3)) (kk : zV G X nL (zP0 G ad aa σ) k n (pc + 3) lo (.int (nI (sZ σ q)) :: st)) : zV G X nL (zP0 G ad aa σ) k n pc lo (.ref (ad 28 q) :: st) := zi_get (ci := 9) (C := RJx4a65c) (T := TJx4a65c) (N := 3) (f := 2) K rfl inJx4a65c (fun H h => (zr0_LST h hq).1) (Nat.le_of_ble_eq_true rfl) hw (fun _ h => h) hd rfl kk
theorem zg0_data (K : zK G X cc RJx4a65c nL ret rm) {q idx : Nat} (hq : q < 13) (hw : Cond.fieldLink RJx4a65c idx RJx4a65c "elementData" "[Ljava/lang/Object;" ∈ zB) (hd : decode cc pc = .ok (.getfield idx, 3)) (kk : zV G X nL (zP0 G ad aa σ) k n (pc + 3) lo (.ref (if sC σ q = 0 then G.2.2.2.2 0 else aa q) :: st)) : zV G X nL (zP0 G ad aa σ) k n pc lo (.ref (ad 28 q) :: st) := zi_get (ci := 9) (C := RJx4a65c) (T := TJx4a65c) (N := 3) (f := 1) K rfl inJx4a65c (fun H h => (zr0_LST h hq).1) (Nat.le_of_ble_eq_true rfl) hw (fun _ h => h) hd rfl kk
theorem zg0_mod (K : zK G X cc RJx4a65c nL ret rm) {q idx : Nat} (hq : q < 13) (hw : Cond.fieldLink RJx4a65c idx "java/util/ArrayList" "modCount" "I" ∈ zB) (hd : decode cc pc = .ok (.getfield idx, 3)) (kk : zV G X nL (zP0 G ad aa σ) k n (pc + 3) lo (.int (sM σ q) :: st)) : zV G X nL (zP0 G ad aa σ) k n pc lo (.ref (ad 28 q) :: st) := zi_get (ci := 9) (C := RJx4a65c) (T := TJx4a65c) (N := 3) (f := 0) K rfl inJx4a65c (fun H h => (zr0_LST h hq).1) (Nat.le_of_ble_eq_true rfl) hw (fun x hx => u_same (K.2.2.2.2.1 _ w_86) x hx) hd rfl kk
theorem zp0_mod (K : zK G X cc RJx4a65c nL ret rm) {q idx : Nat} {m : Int32} (hq : q < 13) (hw : Cond.fieldLink RJx4a65c idx "java/util/ArrayList" "modCount" "I" ∈ zB) (hd : decode cc pc = .ok (.putfield idx, 3)) (kk : zV G X nL (zP0 G ad aa (uM σ q m)) k n (pc + 3) lo st) : zV G X nL (zP0 G ad aa σ) k n pc lo (.int m :: .ref (ad 28 q) :: st) :=
  zi_put (ci := 9) (C := RJx4a65c) (T := TJx4a65c) (N := 3) (f := 0) (ty := .int) K rfl inJx4a65c tyJx4a65c tyJx4a65c_ok nmJx4a65c (fun H h => zr0_LST h hq) (Nat.le_of_ble_eq_true rfl) hw (fun x hx => u_same (K.2.2.2.2.1 _ w_86) x hx) rfl (by decide +kernel) rfl rfl (Nat.le_of_ble_eq_true rfl) hd (fun H H1 h ha _ oq => h.setM hq (by
    unfold zqLST
    rw [show sM (uM σ q m) q = m from if_pos rfl]
    exact ha) oq) kk
theorem zp0_size (K : zK G X cc RJx4a65c nL ret rm) {q idx m : Nat} {v : Int32} (hv : v = nI m) (hq : q < 13) (hw : Cond.fieldLink RJx4a65c idx RJx4a65c "size" "I" ∈ zB) (hd : decode cc pc = .ok (.putfield idx, 3)) (kk : zV G X nL (zP0 G ad aa (uZ σ q m)) k n (pc + 3) lo st) : zV G X nL (zP0 G ad aa σ) k n pc lo (.int v :: .ref (ad 28 q) :: st) := by
  subst hv
  exact zi_put (ci := 9) (C := RJx4a65c) (T := TJx4a65c) (N := 3) (f := 2) (ty := .int) K rfl inJx4a65c tyJx4a65c tyJx4a65c_ok nmJx4a65c (fun H h => zr0_LST h hq) (Nat.le_of_ble_eq_true rfl) hw (fun _ h => h) rfl (by decide +kernel) rfl rfl (Nat.le_of_ble_eq_true rfl) hd (fun H H1 h ha _ oq => h.setZ hq (by
    unfold zqLST
    rw [show sZ (uZ σ q m) q = m from if_pos rfl]
    exact ha) oq) kk
end ZD
