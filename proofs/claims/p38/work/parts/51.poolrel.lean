/-! states that differ in the pool's sums only -/
def zPool (t : Nat) : Prop := 9 ≤ t ∧ t ≤ 13
def zPr (A : Nat → Prop) (x y : zSt) : Prop := x.1 = y.1 ∧ x.2.2 = y.2.2 ∧ (∀ t, ¬ zPool t → x.2.1 t = y.2.1 t) ∧ ∀ t, A t → ∀ e, e < 5 → x.2.1 t 0 e = y.2.1 t 0 e
abbrev zPo (x y : zSt) : Prop := zPr (fun _ => False) x y
theorem zPr.rf {A : Nat → Prop} {x : zSt} : zPr A x x := ⟨rfl, rfl, fun _ _ => rfl, fun _ _ _ _ => rfl⟩
theorem zPr.symm {A : Nat → Prop} {x y : zSt} (h : zPr A x y) : zPr A y x := ⟨h.1.symm, h.2.1.symm, fun t g => (h.2.2.1 t g).symm, fun t a e g => (h.2.2.2 t a e g).symm⟩
theorem zPr.trans {A : Nat → Prop} {x y z : zSt} (h : zPr A x y) (k : zPr A y z) : zPr A x z := ⟨h.1.trans k.1, h.2.1.trans k.2.1, fun t g => (h.2.2.1 t g).trans (k.2.2.1 t g), fun t a e g => (h.2.2.2 t a e g).trans (k.2.2.2 t a e g)⟩
theorem zPr.po {A : Nat → Prop} {x y : zSt} (h : zPr A x y) : zPo x y := ⟨h.1, h.2.1, h.2.2.1, fun _ a => a.elim⟩
theorem zPr.wk {A B : Nat → Prop} {x y : zSt} (h : zPr A x y) (hb : ∀ t, B t → A t) : zPr B x y := ⟨h.1, h.2.1, h.2.2.1, fun t a => h.2.2.2 t (hb t a)⟩
theorem pL_o {σ : zSt} {t o e : Nat} {v : Int64} {t' : Nat} (h : t' ≠ t) : (uL σ t o e v).2.1 t' = σ.2.1 t' := funext fun o' => funext fun e' => if_neg (fun q => h q.1)
theorem pL_at {σ : zSt} {t o e : Nat} {v : Int64} {o' e' : Nat} : (uL σ t o e v).2.1 t o' e' = if o' = o ∧ e' = e then v else σ.2.1 t o' e' := by
  show (if t = t ∧ o' = o ∧ e' = e then v else σ.2.1 t o' e') = _
  by_cases h : o' = o ∧ e' = e
  · rw [if_pos h, if_pos ⟨rfl, h⟩]
  · rw [if_neg h, if_neg (fun q => h q.2)]
/-- one sum, written in both -/
theorem zPr.wL {A : Nat → Prop} {x y : zSt} (h : zPr A x y) {t e : Nat} {v : Int64} (ht : zPool t) : zPr A (uL x t 0 e v) (uL y t 0 e v) := by
  refine ⟨h.1, h.2.1, fun t' g => ?_, fun t' a e' g => ?_⟩
  · have hn : t' ≠ t := fun q => g (q ▸ ht)
    rw [pL_o hn, pL_o hn]
    exact h.2.2.1 t' g
  · by_cases q : t' = t
    · subst q
      rw [pL_at, pL_at, h.2.2.2 t' a e' g]
    · rw [pL_o q, pL_o q]
      exact h.2.2.2 t' a e' g
theorem pL_po {x : zSt} {t e : Nat} {v : Int64} (ht : zPool t) : zPo (uL x t 0 e v) x := ⟨rfl, rfl, fun t' g => pL_o (fun q => g (q ▸ ht)), fun _ a => a.elim⟩
theorem zPr.fill {A : Nat → Prop} {x y : zSt} (h : zPr A x y) {t : Nat} {v : Int64} (ht : zPool t) : zPr (fun q => A q ∨ q = t) (zfL x t 0 v 5) (zfL y t 0 v 5) := by
  have key : ∀ i, zPr A (zfL x t 0 v i) (zfL y t 0 v i) ∧ ∀ e, e < i → (zfL x t 0 v i).2.1 t 0 e = v ∧ (zfL y t 0 v i).2.1 t 0 e = v := by
    intro i
    induction i with
    | zero => exact ⟨h, fun e g => absurd g (Nat.not_lt_zero _)⟩
    | succ i ih =>
      refine ⟨ih.1.wL ht, fun e g => ?_⟩
      show (Prod.fst (Prod.snd (uL _ _ _ _ _))) _ _ _ = _ ∧ (Prod.fst (Prod.snd (uL _ _ _ _ _))) _ _ _ = _
      rw [pL_at, pL_at]
      by_cases q : e = i
      · rw [if_pos ⟨rfl, q⟩, if_pos ⟨rfl, q⟩]
        exact ⟨rfl, rfl⟩
      · rw [if_neg (fun z => q z.2), if_neg (fun z => q z.2)]
        exact ih.2 e (by omega)
  obtain ⟨k1, k2⟩ := key 5
  refine ⟨k1.1, k1.2.1, k1.2.2.1, fun t' a e g => ?_⟩
  by_cases q : t' = t
  · subst q
    rw [(k2 e g).1, (k2 e g).2]
  · exact k1.2.2.2 t' (a.elim id (fun z => absurd z q)) e g
theorem zcpr_at {σ : zSt} {td ts t o e : Nat} : (zcpr σ td ts).2.1 t o e = if t = td ∧ o = 0 ∧ e < 5 then σ.2.1 ts 0 e else σ.2.1 t o e := rfl
theorem zPr.cpr {A : Nat → Prop} {x y : zSt} (h : zPr A x y) {td ts : Nat} (hd : zPool td) (hs : A ts) : zPr (fun q => A q ∨ q = td) (zcpr x td ts) (zcpr y td ts) := by
  refine ⟨h.1, h.2.1, fun t g => funext fun o => funext fun e => ?_, fun t a e g => ?_⟩
  · have hn : ¬ (t = td ∧ o = 0 ∧ e < 5) := fun q => g (q.1 ▸ hd)
    rw [zcpr_at, zcpr_at, if_neg hn, if_neg hn, h.2.2.1 t g]
  · rw [zcpr_at, zcpr_at]
    by_cases q : t = td
    · rw [if_pos ⟨q, rfl, g⟩, if_pos ⟨q, rfl, g⟩]
      exact h.2.2.2 ts hs e g
    · rw [if_neg (fun z => q z.1), if_neg (fun z => q z.1)]
      exact h.2.2.2 t (a.elim id (fun z => absurd z q)) e g
theorem cpr_po {x : zSt} {td ts : Nat} (hd : zPool td) : zPo (zcpr x td ts) x := ⟨rfl, rfl, fun t g => funext fun o => funext fun e => by
  have hn : ¬ (t = td ∧ o = 0 ∧ e < 5) := fun q => g (q.1 ▸ hd)
  rw [zcpr_at, if_neg hn], fun _ a => a.elim⟩
theorem fill_po {x : zSt} {t : Nat} {v : Int64} {i : Nat} (ht : zPool t) : zPo (zfL x t 0 v i) x := by
  induction i with
  | zero => exact zPr.rf
  | succ i ih => exact (pL_po ht).trans ih
/-- where to, from a pool whose links are in range -/
def zRx (x : zSt) : Prop := ∀ i, i < 5 → (sI x 32 0 i).toNatClampNeg < 5
theorem cg_handed {A : Nat → Prop} {x y : zSt} (h : zPr A x y) (i : Nat) (v : Int64) : v_handedOn x i v = v_handedOn y i v := by
  unfold v_handedOn sI
  rw [h.1]
theorem zPr.mI {A : Nat → Prop} {x y : zSt} (h : zPr A x y) {td : Nat} (ht : zPool td) (hA : A td) (h13 : A 13) (hx : zRx x) (i : Nat) (hi : i ≤ 5) : zPr A (gI x td i) (gI y td i) := by
  induction i with
  | zero => exact h
  | succ i ih =>
    have ih := ih (by omega)
    unfold gI
    have e1 : sI (gI x td i) 32 0 i = sI (gI y td i) 32 0 i := by unfold sI; rw [ih.1]
    have hr : (sI (gI x td i) 32 0 i).toNatClampNeg < 5 := by unfold sI; rw [gI_1]; exact hx i (by omega)
    have e2 : sL (gI x td i) td 0 (sI (gI x td i) 32 0 i).toNatClampNeg = sL (gI y td i) td 0 (sI (gI x td i) 32 0 i).toNatClampNeg := ih.2.2.2 td hA _ hr
    have e3 : sL (gI x td i) 13 0 i = sL (gI y td i) 13 0 i := ih.2.2.2 13 h13 i (by omega)
    rw [← e1, e2, e3, cg_handed ih]
    exact ih.wL ht
theorem gI_po {x : zSt} {td : Nat} (ht : zPool td) (i : Nat) : zPo (gI x td i) x := by
  induction i with
  | zero => exact zPr.rf
  | succ i ih => exact (pL_po ht).trans ih
theorem zPr.mR {A : Nat → Prop} {x y : zSt} (h : zPr A x y) {td : Nat} (ht : zPool td) (hA : A td) (h9 : A 9) (hx : zRx x) (hn : td ≠ 9) (r : Nat) : zPr A (gR x td r) (gR y td r) := by
  induction r with
  | zero => exact h
  | succ r ih =>
    unfold gR
    have a1 := (ih.cpr (td := 13) (ts := td) ⟨by omega, by omega⟩ hA).cpr (td := td) (ts := 9) ht (Or.inl h9)
    have hx2 : zRx (zcpr (zcpr (gR x td r) 13 td) td 9) := fun i hi => by
      unfold sI
      rw [zcpr_1, zcpr_1, gR_1]
      exact hx i hi
    exact (a1.mI ht (Or.inr rfl) (Or.inl (Or.inr rfl)) hx2 5 (Nat.le_refl _)).wk (fun t a => Or.inl (Or.inl a))
theorem gR_po {x : zSt} {td : Nat} (ht : zPool td) (r : Nat) : zPo (gR x td r) x := by
  induction r with
  | zero => exact zPr.rf
  | succ r ih => exact (gI_po ht 5).trans ((cpr_po ht).trans ((cpr_po ⟨by omega, by omega⟩).trans ih))
theorem zPr.rg {A : Nat → Prop} {x y : zSt} (h : zPr A x y) (h10 : A 10) (h11 : A 11) (h12 : A 12) (i : Nat) (hi : i ≤ 5) : zPr A (rgL x i) (rgL y i) := by
  induction i with
  | zero => exact h
  | succ i ih =>
    have ih := ih (by omega)
    unfold rgL
    have e1 : sL (rgL x i) 10 0 i = sL (rgL y i) 10 0 i := ih.2.2.2 10 h10 i (by omega)
    have e2 : sL (rgL x i) 11 0 i = sL (rgL y i) 11 0 i := ih.2.2.2 11 h11 i (by omega)
    have e3 : sL (rgL x i) 12 0 i = sL (rgL y i) 12 0 i := ih.2.2.2 12 h12 i (by omega)
    rw [e1, e2, e3]
    split
    · exact ih
    · exact ih.wL ⟨by omega, by omega⟩
theorem rg_po {x : zSt} (i : Nat) : zPo (rgL x i) x := by
  induction i with
  | zero => exact zPr.rf
  | succ i ih =>
    unfold rgL
    split
    · exact ih
    · exact (pL_po ⟨by omega, by omega⟩).trans ih
theorem rings_po (x : zSt) : zPo (s_rings x) x := by
  unfold s_rings
  exact (rg_po 5).trans ((gR_po ⟨by omega, by omega⟩ 10).trans ((fill_po ⟨by omega, by omega⟩).trans ((gR_po ⟨by omega, by omega⟩ 5).trans ((cpr_po ⟨by omega, by omega⟩).trans ((gR_po ⟨by omega, by omega⟩ 10).trans (fill_po ⟨by omega, by omega⟩))))))
theorem rings_pr {x y : zSt} (h : zPr (fun t => t = 9) x y) (hx : zRx x) : zPr (fun t => t = 9 ∨ t = 10 ∨ t = 11 ∨ t = 12) (s_rings x) (s_rings y) := by
  have q : ∀ t, 9 ≤ t → t ≤ 13 → zPool t := fun t a b => ⟨a, b⟩
  have rx : ∀ z : zSt, z.1 = x.1 → zRx z := fun z hz i hi => by unfold sI; rw [hz]; exact hx i hi
  have a1 := h.fill (t := 10) (v := 0) (q _ (by omega) (by omega))
  have f1 : (zfL x 10 0 0 5).1 = x.1 := zfL_1 _ _ _ _ _
  have a2 := a1.mR (td := 10) (q _ (by omega) (by omega)) (Or.inr rfl) (Or.inl rfl) (rx _ f1) (by omega) 10
  have f2 := (gR_1 (zfL x 10 0 0 5) 10 10).trans f1
  have a3 := a2.cpr (td := 11) (ts := 10) (q _ (by omega) (by omega)) (Or.inr rfl)
  have a4 := a3.mR (td := 10) (q _ (by omega) (by omega)) (Or.inl (Or.inr rfl)) (Or.inl (Or.inl rfl)) (rx _ ((zcpr_1 _ _ _).trans f2)) (by omega) 5
  have f4 := (gR_1 (zcpr (gR (zfL x 10 0 0 5) 10 10) 11 10) 10 5).trans ((zcpr_1 _ _ _).trans f2)
  have a5 := a4.fill (t := 12) (v := 1000000000000) (q _ (by omega) (by omega))
  have a6 := a5.mR (td := 12) (q _ (by omega) (by omega)) (Or.inr rfl) (Or.inl (Or.inl (Or.inl rfl))) (rx _ ((zfL_1 _ _ _ _ _).trans f4)) (by omega) 10
  exact (a6.rg (Or.inl (Or.inl (Or.inr rfl))) (Or.inl (Or.inr rfl)) (Or.inr rfl) 5 (Nat.le_refl _)).wk (fun t a => by
    rcases a with a | a | a | a
    · exact Or.inl (Or.inl (Or.inl a))
    · exact Or.inl (Or.inl (Or.inr a))
    · exact Or.inl (Or.inr a)
    · exact Or.inr a)
theorem fits_po (x : zSt) : zPo (s_fits x) x := by
  unfold s_fits
  exact (gR_po ⟨by omega, by omega⟩ 1).trans (cpr_po ⟨by omega, by omega⟩)
/-- what the rest answers does not hang on the pool's sums -/
theorem cg_22 {A : Nat → Prop} {x y : zSt} (h : zPr A x y) (q i : Nat) : lx x q i = lx y q i ∧ sZ x q = sZ y q := by
  unfold lx sE sZ
  rw [h.2.1]
  exact ⟨rfl, rfl⟩
theorem cg_allLeft {A : Nat → Prop} {x y : zSt} (h : zPr A x y) (b : Nat) : v_allLeft x b = v_allLeft y b := by
  unfold v_allLeft
  rw [(cg_22 h (5 + 4 * b) 0).2, show (fun k => sL x 0 (lx x (5 + 4 * b) k) 0) = fun k => sL y 0 (lx y (5 + 4 * b) k) 0 from funext fun k => by
    rw [(cg_22 h _ k).1]
    unfold sL
    rw [h.2.2.1 0 (by unfold zPool; omega)]]
theorem cg_partOf {A : Nat → Prop} {x y : zSt} (h : zPr A x y) (b t i : Nat) : v_partOf x b t i = v_partOf y b t i := by
  unfold v_partOf
  rw [(cg_22 h (5 + 4 * b) 0).2, show (fun k => sL x 1 (lx x (5 + 4 * b) k) t * (sI x 21 t i).toInt64 / 100) = fun k => sL y 1 (lx y (5 + 4 * b) k) t * (sI y 21 t i).toInt64 / 100 from funext fun k => by
    rw [(cg_22 h _ k).1]
    unfold sL sI
    rw [h.2.2.1 1 (by unfold zPool; omega), h.1]]
theorem cg_allPartsOf {A : Nat → Prop} {x y : zSt} (h : zPr A x y) (b i : Nat) : v_allPartsOf x b i = v_allPartsOf y b i := by
  unfold v_allPartsOf
  rw [(cg_22 h (6 + 4 * b) 0).2, show (fun k => v_partOf x b (lx x (6 + 4 * b) k % 8) i) = fun k => v_partOf y b (lx y (6 + 4 * b) k % 8) i from funext fun k => by
    rw [(cg_22 h _ k).1, cg_partOf h]]
theorem spI_po {x : zSt} (i : Nat) : zPo (spI x i) x := by
  induction i with
  | zero => exact zPr.rf
  | succ i ih =>
    unfold spI
    split
    · exact (pL_po ⟨by omega, by omega⟩).trans ih
    · exact (pL_po ⟨by omega, by omega⟩).trans ih
/-- what a reinsurer pays -/
def zow (x : zSt) (i : Nat) : Int64 := if sI x 31 0 i = 0 then v_allPartsOf x 0 i else 0
theorem spI_own {x : zSt} (i : Nat) : ∀ e, e < i → sL (spI x i) 9 0 e = zow x e := by
  induction i with
  | zero => intro e h; exact absurd h (Nat.not_lt_zero _)
  | succ i ih =>
    intro e h
    have hI : sI (spI x i) = sI x := (spI_po i).1
    have hP := cg_allPartsOf (spI_po (x := x) i) 0 i
    have hE : spI x (i + 1) = uL (spI x i) 9 0 i (zow x i) := by
      show (if sI (spI x i) 31 0 i = 0 then uL (spI x i) 9 0 i (v_allPartsOf (spI x i) 0 i) else uL (spI x i) 9 0 i 0) = _
      unfold zow
      rw [hI, hP]
      split
      · rfl
      · rfl
    rw [hE]
    show (uL (spI x i) 9 0 i (zow x i)).2.1 9 0 e = _
    rw [pL_at]
    by_cases q : e = i
    · rw [if_pos ⟨rfl, q⟩, q]
    · rw [if_neg (fun z => q z.2)]
      exact ih e (by omega)
theorem cg_ow {A : Nat → Prop} {x y : zSt} (h : zPr A x y) (i : Nat) : zow x i = zow y i := by
  unfold zow
  rw [cg_allPartsOf h, show sI x = sI y from h.1]
theorem spLoop_pr {x y : zSt} (h : zPo x y) : zPr (fun t => t = 9) (s_spLoop x) (s_spLoop y) := by
  unfold s_spLoop
  have e := ((spI_po (x := x) 5).trans h).trans (spI_po (x := y) 5).symm
  refine ⟨e.1, e.2.1, e.2.2.1, fun t a k g => ?_⟩
  subst a
  exact (spI_own 5 k g).trans ((cg_ow h k).trans (spI_own 5 k g).symm)
