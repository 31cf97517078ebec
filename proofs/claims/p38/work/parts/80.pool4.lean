/-! the pool's rounds are those of the rings -/
theorem qL_r (σ : zSt) (t o e : Nat) (v : Int64) (t' o' e' : Nat) : sL (uL σ t o e v) t' o' e' = if t' = t ∧ o' = o ∧ e' = e then v else sL σ t' o' e' := rfl
theorem qI_r (σ : zSt) (t o e : Nat) (v : Int32) (t' o' e' : Nat) : sI (uI σ t o e v) t' o' e' = if t' = t ∧ o' = o ∧ e' = e then v else sI σ t' o' e' := rfl
theorem qL_i (σ : zSt) (t o e : Nat) (v : Int64) : (uL σ t o e v).1 = σ.1 := rfl
theorem qI_l (σ : zSt) (t o e : Nat) (v : Int32) : (uI σ t o e v).2.1 = σ.2.1 := rfl
theorem cp_r (σ : zSt) (td ts t o e : Nat) : sL (zcpr σ td ts) t o e = if t = td ∧ o = 0 ∧ e < 5 then sL σ ts 0 e else sL σ t o e := rfl
theorem zfL_r (σ : zSt) (t o : Nat) (v : Int64) (n t' o' e' : Nat) : sL (zfL σ t o v n) t' o' e' = if t' = t ∧ o' = o ∧ e' < n then v else sL σ t' o' e' := by
  induction n with
  | zero => rw [if_neg (fun h => Nat.not_lt_zero _ h.2.2)]; rfl
  | succ n ih =>
    show sL (uL (zfL σ t o v n) t o n v) t' o' e' = _
    rw [qL_r, ih]
    by_cases h : t' = t ∧ o' = o
    · by_cases h2 : e' = n
      · rw [if_pos ⟨h.1, h.2, h2⟩, if_pos ⟨h.1, h.2, by omega⟩]
      · rw [if_neg (fun q => h2 q.2.2)]
        by_cases h3 : e' < n
        · rw [if_pos ⟨h.1, h.2, h3⟩, if_pos ⟨h.1, h.2, by omega⟩]
        · rw [if_neg (fun q => h3 q.2.2), if_neg (fun q => by have := q.2.2; omega)]
    · rw [if_neg (fun q => h ⟨q.1, q.2.1⟩), if_neg (fun q => h ⟨q.1, q.2.1⟩), if_neg (fun q => h ⟨q.1, q.2.1⟩)]
theorem zfI_r (σ : zSt) (t o : Nat) (v : Int32) (n t' o' e' : Nat) : sI (zfI σ t o v n) t' o' e' = if t' = t ∧ o' = o ∧ e' < n then v else sI σ t' o' e' := by
  induction n with
  | zero => rw [if_neg (fun h => Nat.not_lt_zero _ h.2.2)]; rfl
  | succ n ih =>
    show sI (uI (zfI σ t o v n) t o n v) t' o' e' = _
    rw [qI_r, ih]
    by_cases h : t' = t ∧ o' = o
    · by_cases h2 : e' = n
      · rw [if_pos ⟨h.1, h.2, h2⟩, if_pos ⟨h.1, h.2, by omega⟩]
      · rw [if_neg (fun q => h2 q.2.2)]
        by_cases h3 : e' < n
        · rw [if_pos ⟨h.1, h.2, h3⟩, if_pos ⟨h.1, h.2, by omega⟩]
        · rw [if_neg (fun q => h3 q.2.2), if_neg (fun q => by have := q.2.2; omega)]
    · rw [if_neg (fun q => h ⟨q.1, q.2.1⟩), if_neg (fun q => h ⟨q.1, q.2.1⟩), if_neg (fun q => h ⟨q.1, q.2.1⟩)]
/-- the pool's links as numbers -/
def kR (σ : zSt) (i : Nat) : Nat := (sI σ 32 0 i).toNatClampNeg
def kB (σ : zSt) (i : Nat) : Int := (sI σ 33 0 i).toInt
def kM (σ : zSt) (i : Nat) : Int := if i < 5 then (sI σ 34 0 i).toInt else 0
def kF (σ : zSt) (i : Nat) : Bool := !decide (sI σ 31 0 i = 0)
def kW (σ : zSt) (i : Nat) : Int := if i < 5 then (sL σ 9 0 i).toInt else 0
/-- the links' numbers are in their ranges -/
def zVp (σ : zSt) : Prop := (∀ i, i < 5 → kR σ i < 5) ∧ (∀ i, i < 5 → 0 ≤ (sI σ 33 0 i).toInt ∧ (sI σ 33 0 i).toInt ≤ 1000000) ∧ ∀ i, i < 5 → 0 ≤ (sI σ 34 0 i).toInt ∧ (sI σ 34 0 i).toInt ≤ 1000000
def zVo (σ : zSt) : Prop := ∀ i, i < 5 → 0 ≤ (sL σ 9 0 i).toInt ∧ (sL σ 9 0 i).toInt ≤ 100000000000
theorem handed_int {σ : zSt} (h : zVp σ) {i : Nat} (hi : i < 5) {x : Int64} (h0 : 0 ≤ x.toInt) (h1 : x.toInt ≤ 1000000000000) : (v_handedOn σ i x).toInt = rH (kB σ) (kM σ) (kF σ) i x.toInt := by
  have hb := h.2.1 i hi
  have hm := h.2.2 i hi
  unfold v_handedOn rH kF
  by_cases c : sI σ 31 0 i = 0
  · rw [if_pos c, if_neg (by rw [decide_eq_true c]; decide)]
    have e1 : (x - (sI σ 33 0 i).toInt64).toInt = x.toInt - kB σ i := by
      rw [l_sub (by rw [l_of]; omega) (by rw [l_of]; omega), l_of]
      rfl
    have e2 := l_mn (x - (sI σ 33 0 i).toInt64) (sI σ 34 0 i).toInt64
    have e3 := l_mx 0 (zmnl (x - (sI σ 33 0 i).toInt64) (sI σ 34 0 i).toInt64)
    rw [l_of, e1] at e2
    rw [l_0] at e3
    have e4 : kM σ i = (sI σ 34 0 i).toInt := if_pos hi
    generalize (zmxl 0 (zmnl (x - (sI σ 33 0 i).toInt64) (sI σ 34 0 i).toInt64)).toInt = a at e3 ⊢
    generalize (zmnl (x - (sI σ 33 0 i).toInt64) (sI σ 34 0 i).toInt64).toInt = b at e2 e3
    rw [e4]
    unfold rC
    split
    · omega
    · split <;> omega
  · rw [if_neg c, if_pos (by rw [decide_eq_false c]; rfl)]
    rfl
theorem handed_i {σ σ' : zSt} (h : σ'.1 = σ.1) (i : Nat) (x : Int64) : v_handedOn σ' i x = v_handedOn σ i x := by
  unfold v_handedOn
  rw [show sI σ' = sI σ from h]
theorem gI_i (σ : zSt) (td : Nat) : ∀ i, (gI σ td i).1 = σ.1
  | 0 => rfl
  | i + 1 => gI_i σ td i
theorem gI_o (σ : zSt) (td : Nat) : ∀ (i : Nat) {t o e : Nat}, ¬ (t = td ∧ o = 0) → sL (gI σ td i) t o e = sL σ t o e
  | 0, _, _, _, _ => rfl
  | i + 1, t, o, e, h => by
    show sL (uL (gI σ td i) td 0 _ _) t o e = _
    rw [qL_r, if_neg (fun q => h ⟨q.1, q.2.1⟩), gI_o σ td i h]
theorem rH_5 {bd li : Nat → Int} {fl : Nat → Bool} {j : Nat} (h0 : 0 ≤ li j) (h : li j ≤ 1000000) (v : Int) : 0 ≤ rH bd li fl j v ∧ rH bd li fl j v ≤ 1000000 := by
  unfold rH
  split
  · exact ⟨Int.le_refl _, by decide⟩
  · have := rC_b (v := v - bd j) h0
    omega
theorem gI_int {σ : zSt} (hv : zVp σ) {td : Nat} (htd : td ≠ 13) (hb : ∀ e, e < 5 → 0 ≤ (sL σ td 0 e).toInt ∧ (sL σ td 0 e).toInt ≤ 100000000000) (hx : ∀ e, e < 5 → 0 ≤ (sL σ 13 0 e).toInt ∧ (sL σ 13 0 e).toInt ≤ 1000000000000) : ∀ i, i ≤ 5 → ∀ e, e < 5 → (sL (gI σ td i) td 0 e).toInt = (sL σ td 0 e).toInt + zSm (fun j => if kR σ j = e then rH (kB σ) (kM σ) (kF σ) j (sL σ 13 0 j).toInt else 0) i
  | 0, _, e, he => (Int.add_zero _).symm
  | i + 1, hi, e, he => by
    have ih := gI_int hv htd hb hx i (by omega)
    have hi5 : i < 5 := by omega
    show (sL (uL (gI σ td i) td 0 (sI (gI σ td i) 32 0 i).toNatClampNeg _) td 0 e).toInt = _ + (zSm _ i + (if kR σ i = e then rH (kB σ) (kM σ) (kF σ) i (sL σ 13 0 i).toInt else 0))
    rw [qL_r, show sI (gI σ td i) = sI σ from gI_i σ td i, handed_i (gI_i σ td i), gI_o σ td i (t := 13) (fun q => htd q.1.symm)]
    have hh := handed_int hv hi5 (hx i hi5).1 (hx i hi5).2
    have hm : 0 ≤ kM σ i ∧ kM σ i ≤ 1000000 := by rw [show kM σ i = (sI σ 34 0 i).toInt from if_pos hi5]; exact hv.2.2 i hi5
    have h5 := rH_5 (bd := kB σ) (fl := kF σ) hm.1 hm.2 (sL σ 13 0 i).toInt
    have hk : kR σ i = (sI σ 32 0 i).toNatClampNeg := rfl
    by_cases c : e = (sI σ 32 0 i).toNatClampNeg
    · rw [if_pos ⟨rfl, rfl, c⟩, if_pos (by rw [hk]; exact c.symm), ← c]
      have h6 := ih e he
      have h7 := zSm_ub (f := fun j => if kR σ j = e then rH (kB σ) (kM σ) (kF σ) j (sL σ 13 0 j).toInt else 0) (n := i) (c := 1000000) (fun j hj => by
        by_cases q : kR σ j = e
        · simp only [if_pos q]
          have hm : 0 ≤ kM σ j ∧ kM σ j ≤ 1000000 := by rw [show kM σ j = (sI σ 34 0 j).toInt from if_pos (by omega)]; exact hv.2.2 j (by omega)
          exact (rH_5 hm.1 hm.2 _).2
        · simp only [if_neg q]
          decide)
      have h8 := zSm_nn (f := fun j => if kR σ j = e then rH (kB σ) (kM σ) (kF σ) j (sL σ 13 0 j).toInt else 0) (n := i) (fun j hj => by
        by_cases q : kR σ j = e
        · simp only [if_pos q]
          have hm : 0 ≤ kM σ j ∧ kM σ j ≤ 1000000 := by rw [show kM σ j = (sI σ 34 0 j).toInt from if_pos (by omega)]; exact hv.2.2 j (by omega)
          exact (rH_5 hm.1 hm.2 _).1
        · simp only [if_neg q]
          exact Int.le_refl _)
      have h9 := hb e he
      rw [l_add (by omega) (by omega), h6, hh]
      omega
    · rw [if_neg (fun q => c q.2.2), if_neg (fun q => c (by rw [← q]; rfl)), ih e he]
      omega
theorem kk_i {σ σ' : zSt} (h : σ'.1 = σ.1) : kR σ' = kR σ ∧ kB σ' = kB σ ∧ kM σ' = kM σ ∧ kF σ' = kF σ := by
  have e : sI σ' = sI σ := h
  refine ⟨funext fun i => ?_, funext fun i => ?_, funext fun i => ?_, funext fun i => ?_⟩
  · unfold kR; rw [e]
  · unfold kB; rw [e]
  · unfold kM; rw [e]
  · unfold kF; rw [e]
theorem zVp.mv {σ σ' : zSt} (h : σ'.1 = σ.1) (hv : zVp σ) : zVp σ' := by
  unfold zVp kR at hv ⊢
  rw [show sI σ' = sI σ from h]
  exact hv
theorem gR_i (σ : zSt) (td : Nat) : ∀ r, (gR σ td r).1 = σ.1
  | 0 => rfl
  | r + 1 => (gI_i _ td 5).trans (gR_i σ td r)
theorem gR_o (σ : zSt) (td : Nat) : ∀ (r : Nat) {t o e : Nat}, ¬ (t = td ∧ o = 0) → ¬ (t = 13 ∧ o = 0) → sL (gR σ td r) t o e = sL σ t o e
  | 0, _, _, _, _, _ => rfl
  | r + 1, t, o, e, h, h2 => by
    show sL (gI (zcpr (zcpr (gR σ td r) 13 td) td 9) td 5) t o e = _
    rw [gI_o _ td 5 h, cp_r, if_neg (fun q => h ⟨q.1, q.2.1⟩), cp_r, if_neg (fun q => h2 ⟨q.1, q.2.1⟩), gR_o σ td r h h2]
theorem gR_int {σ : zSt} (hv : zVp σ) (ho : zVo σ) {td : Nat} (htd : td ≠ 13) (htd9 : td ≠ 9) (hx : ∀ e, e < 5 → 0 ≤ (sL σ td 0 e).toInt ∧ (sL σ td 0 e).toInt ≤ 1000000000000) : ∀ r e, e < 5 → (sL (gR σ td r) td 0 e).toInt = rI (kR σ) (kW σ) (kB σ) (kM σ) (kF σ) (fun e => (sL σ td 0 e).toInt) r e ∧ 0 ≤ (sL (gR σ td r) td 0 e).toInt ∧ (sL (gR σ td r) td 0 e).toInt ≤ 1000000000000
  | 0, e, he => ⟨rfl, hx e he⟩
  | r + 1, e, he => by
    have ih := gR_int hv ho htd htd9 hx r
    have i1 := gR_i σ td r
    have hv2 : zVp (zcpr (zcpr (gR σ td r) 13 td) td 9) := hv.mv i1
    have hk := kk_i (σ' := zcpr (zcpr (gR σ td r) 13 td) td 9) (σ := σ) i1
    have e9 : ∀ e, e < 5 → sL (zcpr (zcpr (gR σ td r) 13 td) td 9) td 0 e = sL σ 9 0 e := fun e he => by
      rw [cp_r, if_pos ⟨rfl, rfl, he⟩, cp_r, if_neg (fun q => by have := q.1; omega), gR_o σ td r (fun q => htd9 q.1.symm) (fun q => by have := q.1; omega)]
    have e13 : ∀ e, e < 5 → sL (zcpr (zcpr (gR σ td r) 13 td) td 9) 13 0 e = sL (gR σ td r) td 0 e := fun e he => by
      rw [cp_r, if_neg (fun q => htd q.1.symm), cp_r, if_pos ⟨rfl, rfl, he⟩]
    have g := gI_int hv2 (td := td) htd (fun e he => by rw [e9 e he]; exact ho e he) (fun e he => by rw [e13 e he]; exact (ih e he).2) 5 (Nat.le_refl _) e he
    rw [e9 e he, hk.1, hk.2.1, hk.2.2.1, hk.2.2.2] at g
    have e1 : zSm (fun j => if kR σ j = e then rH (kB σ) (kM σ) (kF σ) j (sL (zcpr (zcpr (gR σ td r) 13 td) td 9) 13 0 j).toInt else 0) 5 = zSm (fun j => if kR σ j = e then rH (kB σ) (kM σ) (kF σ) j (rI (kR σ) (kW σ) (kB σ) (kM σ) (kF σ) (fun e => (sL σ td 0 e).toInt) r j) else 0) 5 := zSm_congr (fun j hj => by rw [e13 j hj, (ih j hj).1])
    rw [e1] at g
    have hm : ∀ j, j < 5 → 0 ≤ kM σ j ∧ kM σ j ≤ 1000000 := fun j hj => by rw [show kM σ j = (sI σ 34 0 j).toInt from if_pos hj]; exact hv.2.2 j hj
    have h7 := zSm_ub (f := fun j => if kR σ j = e then rH (kB σ) (kM σ) (kF σ) j (rI (kR σ) (kW σ) (kB σ) (kM σ) (kF σ) (fun e => (sL σ td 0 e).toInt) r j) else 0) (n := 5) (c := 1000000) (fun j hj => by
      by_cases q : kR σ j = e
      · simp only [if_pos q]
        exact (rH_5 (hm j hj).1 (hm j hj).2 _).2
      · simp only [if_neg q]
        decide)
    have h8 := zSm_nn (f := fun j => if kR σ j = e then rH (kB σ) (kM σ) (kF σ) j (rI (kR σ) (kW σ) (kB σ) (kM σ) (kF σ) (fun e => (sL σ td 0 e).toInt) r j) else 0) (n := 5) (fun j hj => by
      by_cases q : kR σ j = e
      · simp only [if_pos q]
        exact (rH_5 (hm j hj).1 (hm j hj).2 _).1
      · simp only [if_neg q]
        exact Int.le_refl _)
    have h9 := ho e he
    refine ⟨?_, ?_, ?_⟩
    · show (sL (gI (zcpr (zcpr (gR σ td r) 13 td) td 9) td 5) td 0 e).toInt = kW σ e + zSm _ 5
      rw [g, show kW σ e = (sL σ 9 0 e).toInt from if_pos he]
    · show 0 ≤ (sL (gI (zcpr (zcpr (gR σ td r) 13 td) td 9) td 5) td 0 e).toInt
      omega
    · show (sL (gI (zcpr (zcpr (gR σ td r) 13 td) td 9) td 5) td 0 e).toInt ≤ _
      omega
theorem rI_cong {rc : Nat → Nat} {ow bd li : Nat → Int} {fl : Nat → Bool} {x y : Nat → Int} (h : ∀ j, j < 5 → x j = y j) : ∀ n j, j < 5 → rI rc ow bd li fl x n j = rI rc ow bd li fl y n j
  | 0, j, hj => h j hj
  | n + 1, j, _ => by
    show ow j + _ = ow j + _
    congr 1
    refine zSm_congr (fun k hk => ?_)
    rw [rI_cong h n k hk]

/-- the rounds' answer, place by place -/
theorem rgL_r (σ : zSt) : ∀ (i t o e : Nat), sL (rgL σ i) t o e = if t = 10 ∧ o = 0 ∧ e < i then (if sL σ 10 0 e = sL σ 11 0 e then sL σ 10 0 e else sL σ 12 0 e) else sL σ t o e
  | 0, t, o, e => by
    rw [if_neg (fun h => Nat.not_lt_zero _ h.2.2)]
    rfl
  | i + 1, t, o, e => by
    have h10 : sL (rgL σ i) 10 0 i = sL σ 10 0 i := by rw [rgL_r σ i, if_neg (fun q => by have := q.2.2; omega)]
    have h11 : sL (rgL σ i) 11 0 i = sL σ 11 0 i := by rw [rgL_r σ i, if_neg (fun q => by have := q.1; omega)]
    have h12 : sL (rgL σ i) 12 0 i = sL σ 12 0 i := by rw [rgL_r σ i, if_neg (fun q => by have := q.1; omega)]
    show sL (if sL (rgL σ i) 10 0 i = sL (rgL σ i) 11 0 i then rgL σ i else uL (rgL σ i) 10 0 i (sL (rgL σ i) 12 0 i)) t o e = _
    rw [h10, h11, h12]
    by_cases h : t = 10 ∧ o = 0
    · obtain ⟨rfl, rfl⟩ := h
      by_cases c : e = i
      · subst c
        rw [if_pos (show (10 : Nat) = 10 ∧ (0 : Nat) = 0 ∧ e < e + 1 from ⟨rfl, rfl, Nat.lt_succ_self _⟩)]
        by_cases g : sL σ 10 0 e = sL σ 11 0 e
        · rw [if_pos g, if_pos g, h10]
        · rw [if_neg g, if_neg g, qL_r, if_pos ⟨rfl, rfl, rfl⟩]
      · have e1 : sL (if sL σ 10 0 i = sL σ 11 0 i then rgL σ i else uL (rgL σ i) 10 0 i (sL σ 12 0 i)) 10 0 e = sL (rgL σ i) 10 0 e := by
          by_cases g : sL σ 10 0 i = sL σ 11 0 i
          · rw [if_pos g]
          · rw [if_neg g, qL_r, if_neg (fun q => c q.2.2)]
        rw [e1, rgL_r σ i]
        by_cases c2 : e < i
        · rw [if_pos (show (10 : Nat) = 10 ∧ (0 : Nat) = 0 ∧ e < i from ⟨rfl, rfl, c2⟩), if_pos (show (10 : Nat) = 10 ∧ (0 : Nat) = 0 ∧ e < i + 1 from ⟨rfl, rfl, by omega⟩)]
        · rw [if_neg (fun q => c2 q.2.2), if_neg (fun q => by have := q.2.2; omega)]
    · have e1 : sL (if sL σ 10 0 i = sL σ 11 0 i then rgL σ i else uL (rgL σ i) 10 0 i (sL σ 12 0 i)) t o e = sL (rgL σ i) t o e := by
        by_cases g : sL σ 10 0 i = sL σ 11 0 i
        · rw [if_pos g]
        · rw [if_neg g, qL_r, if_neg (fun q => h ⟨q.1, q.2.1⟩)]
      rw [e1, rgL_r σ i, if_neg (fun q => h ⟨q.1, q.2.1⟩), if_neg (fun q => h ⟨q.1, q.2.1⟩)]
theorem fill_i (σ : zSt) (t o : Nat) (v : Int64) : ∀ n, (zfL σ t o v n).1 = σ.1
  | 0 => rfl
  | n + 1 => fill_i σ t o v n
theorem rgL_i (σ : zSt) : ∀ n, (rgL σ n).1 = σ.1
  | 0 => rfl
  | n + 1 => by
    show (if sL (rgL σ n) 10 0 n = sL (rgL σ n) 11 0 n then rgL σ n else uL (rgL σ n) 10 0 n (sL (rgL σ n) 12 0 n)).1 = σ.1
    split
    · exact rgL_i σ n
    · exact rgL_i σ n
/-- what comes to reinsurers fits -/
theorem rings_ok {σ : zSt} (hv : zVp σ) (ho : zVo σ) (i : Nat) (hi : i < 5) : rF (kR σ) (kW σ) (kB σ) (kM σ) (kF σ) (fun e => (sL (s_rings σ) 10 0 e).toInt) i = (sL (s_rings σ) 10 0 i).toInt ∧ 0 ≤ (sL (s_rings σ) 10 0 i).toInt ∧ (sL (s_rings σ) 10 0 i).toInt ≤ 1000000000000 := by
  have hl : ∀ j, 0 ≤ kM σ j := fun j => by
    unfold kM
    split
    · rename_i h
      exact (hv.2.2 j h).1
    · exact Int.le_refl _
  have hl2 : ∀ j, kM σ j ≤ 1000000 := fun j => by
    unfold kM
    split
    · rename_i h
      exact (hv.2.2 j h).2
    · decide
  have hw : ∀ j, 0 ≤ kW σ j := fun j => by
    unfold kW
    split
    · rename_i h
      exact (ho j h).1
    · exact Int.le_refl _
  have hw2 : ∀ j, kW σ j ≤ 100000000000 := fun j => by
    unfold kW
    split
    · rename_i h
      exact (ho j h).2
    · decide
  have hM : ∀ j, j < 5 → rF (kR σ) (kW σ) (kB σ) (kM σ) (kF σ) (fun _ => 1000000000000) j ≤ 1000000000000 := fun j hj => by
    have h7 := zSm_ub (f := fun k => if kR σ k = j then rH (kB σ) (kM σ) (kF σ) k 1000000000000 else 0) (n := 5) (c := 1000000) (fun k hk => by
      by_cases q : kR σ k = j
      · simp only [if_pos q]
        exact (rH_5 (hl k) (hl2 k) _).2
      · simp only [if_neg q]
        decide)
    have := hw2 j
    show kW σ j + zSm (fun k => if kR σ k = j then rH (kB σ) (kM σ) (kF σ) k 1000000000000 else 0) 5 ≤ _
    omega
  -- the states on the way
  have a0 : ∀ e, e < 5 → (sL (s_fill_PCOM σ 0 0) 10 0 e).toInt = 0 := fun e he => by
    unfold s_fill_PCOM
    rw [zfL_r, if_pos ⟨rfl, rfl, he⟩]
    rfl
  have v0 : zVp (s_fill_PCOM σ 0 0) := hv.mv (s_fill_PCOM_1 σ 0 0)
  have o0 : zVo (s_fill_PCOM σ 0 0) := fun e he => by
    unfold s_fill_PCOM
    rw [zfL_r, if_neg (fun q => by have := q.1; omega)]
    exact ho e he
  have k0 := kk_i (σ' := s_fill_PCOM σ 0 0) (σ := σ) (s_fill_PCOM_1 σ 0 0)
  have w0 : kW (s_fill_PCOM σ 0 0) = kW σ := funext fun e => by
    unfold kW s_fill_PCOM
    rw [zfL_r, if_neg (fun q : 9 = 10 ∧ 0 = 0 ∧ e < 5 => by have := q.1; omega)]
  have g1 := gR_int v0 o0 (td := 10) (by decide) (by decide) (fun e he => by rw [a0 e he]; exact ⟨Int.le_refl _, by decide⟩) 10
  rw [k0.1, k0.2.1, k0.2.2.1, k0.2.2.2, w0] at g1
  have g1' : ∀ e, e < 5 → (sL (gR (s_fill_PCOM σ 0 0) 10 10) 10 0 e).toInt = rI (kR σ) (kW σ) (kB σ) (kM σ) (kF σ) (fun _ => 0) 10 e := fun e he => by
    rw [(g1 e he).1]
    exact rI_cong (fun j hj => a0 j hj) 10 e he
  have hS2 : ∃ S2, S2 = zcpr (gR (s_fill_PCOM σ 0 0) 10 10) 11 10 := ⟨_, rfl⟩
  obtain ⟨S2, eS2⟩ := hS2
  have i2 : S2.1 = σ.1 := by rw [eS2]; exact (zcpr_1 _ _ _).trans ((gR_1 _ _ _).trans (s_fill_PCOM_1 σ 0 0))
  have r2 : ∀ e, e < 5 → sL S2 10 0 e = sL (gR (s_fill_PCOM σ 0 0) 10 10) 10 0 e := fun e he => by rw [eS2, cp_r, if_neg (fun q => by have := q.1; omega)]
  have r2e : ∀ e, e < 5 → sL S2 11 0 e = sL (gR (s_fill_PCOM σ 0 0) 10 10) 10 0 e := fun e he => by rw [eS2, cp_r, if_pos ⟨rfl, rfl, he⟩]
  have r29 : ∀ e, e < 5 → sL S2 9 0 e = sL σ 9 0 e := fun e he => by
    rw [eS2, cp_r, if_neg (fun q => by have := q.1; omega), gR_o _ _ _ (fun q => by have := q.1; omega) (fun q => by have := q.1; omega)]
    unfold s_fill_PCOM
    rw [zfL_r, if_neg (fun q => by have := q.1; omega)]
  have k2 := kk_i i2
  have w2 : kW S2 = kW σ := funext fun e => by
    unfold kW
    split
    · rename_i h
      rw [r29 e h]
    · rfl
  have g3 := gR_int (hv.mv i2) (fun e he => by rw [r29 e he]; exact ho e he) (td := 10) (by decide) (by decide) (fun e he => by rw [r2 e he]; exact (g1 e he).2) 5
  rw [k2.1, k2.2.1, k2.2.2.1, k2.2.2.2, w2] at g3
  have g3' : ∀ e, e < 5 → (sL (gR S2 10 5) 10 0 e).toInt = rI (kR σ) (kW σ) (kB σ) (kM σ) (kF σ) (fun _ => 0) 15 e := fun e he => by
    rw [(g3 e he).1, rI_cong (y := rI (kR σ) (kW σ) (kB σ) (kM σ) (kF σ) (fun _ => 0) 10) (fun j hj => by rw [r2 j hj]; exact g1' j hj) 5 e he, rI_add]
  have hS4 : ∃ S4, S4 = s_fill_PABV (gR S2 10 5) 0 1000000000000 := ⟨_, rfl⟩
  obtain ⟨S4, eS4⟩ := hS4
  have i4 : S4.1 = σ.1 := by rw [eS4]; exact ((s_fill_PABV_1 _ _ _).trans (gR_1 _ _ _)).trans i2
  have r4 : ∀ t e, t ≠ 12 → sL S4 t 0 e = sL (gR S2 10 5) t 0 e := fun t e ht => by
    rw [eS4]
    unfold s_fill_PABV
    rw [zfL_r, if_neg (fun q => ht q.1)]
  have r4a : ∀ e, e < 5 → (sL S4 12 0 e).toInt = 1000000000000 := fun e he => by
    rw [eS4]
    unfold s_fill_PABV
    rw [zfL_r, if_pos ⟨rfl, rfl, he⟩]
    rfl
  have r49 : ∀ e, e < 5 → sL S4 9 0 e = sL σ 9 0 e := fun e he => by
    rw [r4 9 e (by decide), gR_o _ _ _ (fun q => by have := q.1; omega) (fun q => by have := q.1; omega), r29 e he]
  have k4 := kk_i i4
  have w4 : kW S4 = kW σ := funext fun e => by
    unfold kW
    split
    · rename_i h
      rw [r49 e h]
    · rfl
  have g5 := gR_int (hv.mv i4) (fun e he => by rw [r49 e he]; exact ho e he) (td := 12) (by decide) (by decide) (fun e he => by rw [r4a e he]; exact ⟨by decide, Int.le_refl _⟩) 10
  rw [k4.1, k4.2.1, k4.2.2.1, k4.2.2.2, w4] at g5
  have g5' : ∀ e, e < 5 → (sL (gR S4 12 10) 12 0 e).toInt = rI (kR σ) (kW σ) (kB σ) (kM σ) (kF σ) (fun _ => 1000000000000) 10 e := fun e he => by
    rw [(g5 e he).1]
    exact rI_cong (fun j hj => r4a j hj) 10 e he
  have f10 : ∀ e, e < 5 → sL (gR S4 12 10) 10 0 e = sL (gR S2 10 5) 10 0 e := fun e he => by
    rw [gR_o _ _ _ (fun q => by have := q.1; omega) (fun q => by have := q.1; omega), r4 10 e (by decide)]
  have f11 : ∀ e, e < 5 → sL (gR S4 12 10) 11 0 e = sL (gR (s_fill_PCOM σ 0 0) 10 10) 10 0 e := fun e he => by
    rw [gR_o _ _ _ (fun q => by have := q.1; omega) (fun q => by have := q.1; omega), r4 11 e (by decide), gR_o _ _ _ (fun q => by have := q.1; omega) (fun q => by have := q.1; omega), r2e e he]
  have eS : s_rings σ = rgL (gR S4 12 10) 5 := by rw [eS4, eS2]; unfold s_rings s_goR_PABV s_goR_PCOM; rfl
  have hZ : ∀ e, e < 5 → (sL (s_rings σ) 10 0 e).toInt = if rI (kR σ) (kW σ) (kB σ) (kM σ) (kF σ) (fun _ => 0) 15 e = rI (kR σ) (kW σ) (kB σ) (kM σ) (kF σ) (fun _ => 0) 10 e then rI (kR σ) (kW σ) (kB σ) (kM σ) (kF σ) (fun _ => 0) 15 e else rI (kR σ) (kW σ) (kB σ) (kM σ) (kF σ) (fun _ => 1000000000000) 10 e := fun e he => by
    rw [eS, rgL_r, if_pos ⟨rfl, rfl, he⟩, f10 e he, f11 e he, ← g3' e he, ← g1' e he, ← g5' e he]
    by_cases c : sL (gR S2 10 5) 10 0 e = sL (gR (s_fill_PCOM σ 0 0) 10 10) 10 0 e
    · rw [if_pos c, if_pos (by rw [c])]
    · rw [if_neg c, if_neg (fun q => c (l_eq.mpr q))]
  refine ⟨rings_fix hl hv.1 hw hM hZ i hi, ?_⟩
  rw [eS, rgL_r, if_pos ⟨rfl, rfl, hi⟩, f10 i hi, f11 i hi]
  split
  · exact (g3 i hi).2
  · exact (g5 i hi).2
