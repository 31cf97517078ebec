/-! a settled state's sums as whole numbers -/
theorem perm_on {x : Nat → Nat} {n : Nat} (h : ∀ g : Nat → Int, zSm (fun i => g (x i)) n = zSm g n) {k : Nat} (hk : k < n) : ∃ i, i < n ∧ x i = k := by
  apply Classical.byContradiction
  intro hno
  have e := h (fun j => if k = j then 1 else 0)
  rw [zSm_pick k (fun _ => 1) hk, zSm0 (f := fun i => if k = x i then (1 : Int) else 0) (fun i hi => if_neg (fun q => hno ⟨i, hi, q.symm⟩))] at e
  exact absurd e (by decide)
theorem zSm_ext {f : Nat → Int} {n m : Nat} (h : n ≤ m) (h0 : ∀ i, n ≤ i → i < m → f i = 0) : zSm f m = zSm f n := by
  induction m with
  | zero =>
    have : n = 0 := by omega
    rw [this]
  | succ m ih =>
    by_cases c : n = m + 1
    · rw [c]
    · show zSm f m + f m = _
      rw [h0 m (by omega) (by omega), ih (by omega) (fun i h1 h2 => h0 i h1 (by omega))]
      omega
theorem zsumL_ints {f : Nat → Int64} {M : Int} (hM : 0 ≤ M) : ∀ {n : Nat}, (∀ i, i < n → -M ≤ (f i).toInt ∧ (f i).toInt ≤ M) → n * M < 9223372036854775808 → (zsumL f n).toInt = zSm (fun i => (f i).toInt) n ∧ -(n * M) ≤ (zsumL f n).toInt ∧ (zsumL f n).toInt ≤ n * M
  | 0, _, _ => by
    refine ⟨rfl, ?_, ?_⟩
    · show -(((0 : Nat) : Int) * M) ≤ (0 : Int64).toInt
      rw [l_0]
      simp
    · show (0 : Int64).toInt ≤ ((0 : Nat) : Int) * M
      rw [l_0]
      simp
  | n + 1, h, hn => by
    have en : ((n + 1 : Nat) : Int) * M = n * M + M := by rw [Int.natCast_add, Int.add_mul]; simp
    rw [en] at hn
    obtain ⟨h1, h2, h3⟩ := zsumL_ints hM (n := n) (fun i hi => h i (by omega)) (by omega)
    have g := h n (by omega)
    have e : (zsumL f n + f n).toInt = (zsumL f n).toInt + (f n).toInt := l_add (by omega) (by omega)
    rw [en]
    show (zsumL f n + f n).toInt = zSm (fun i => (f i).toInt) n + (f n).toInt ∧ -(n * M + M) ≤ (zsumL f n + f n).toInt ∧ (zsumL f n + f n).toInt ≤ n * M + M
    rw [e]
    omega
theorem zsumL_nn {f : Nat → Int64} {n : Nat} {M : Int} (hM : 0 ≤ M) (h : ∀ i, i < n → 0 ≤ (f i).toInt ∧ (f i).toInt ≤ M) (hn : n * M < 9223372036854775808) : (zsumL f n).toInt = zSm (fun i => (f i).toInt) n ∧ 0 ≤ (zsumL f n).toInt ∧ (zsumL f n).toInt ≤ n * M := by
  obtain ⟨h1, -, h3⟩ := zsumL_ints hM (f := f) (n := n) (fun i hi => by have := h i hi; omega) hn
  refine ⟨h1, ?_, h3⟩
  rw [h1]
  exact zSm_nn (fun i hi => (h i hi).1)
section ZSU
variable {τ : zSt} {f : Nat → Int32} {c : Int64}
theorem zJ.one (h : zJ τ f c) (hs : sI τ 35 0 0 ≠ 0) {k : Nat} (hk : k < sN τ 1) : (0 ≤ (sL τ 0 k 0).toInt ∧ (sL τ 0 k 0).toInt ≤ 1000000) ∧ (∀ t, t < 8 → 0 ≤ (sL τ 1 k t).toInt ∧ (sL τ 1 k t).toInt ≤ 1000000) ∧ (sL τ 0 k 0).toInt + zSm (fun t => (sL τ 1 k t).toInt) (sN τ 2) = (sI τ 6 k 0).toInt ∧ ∀ t, t < sN τ 2 → sI τ 19 t 0 ≠ 0 → sL τ 1 k t = 0 := by
  obtain ⟨hin, hd, hZ, h30, h8⟩ := h.in
  obtain ⟨i, hi, rfl⟩ := perm_on h.2.2.1.1 hk
  have g := h.2.2.2.2.1 hs
  have g1 := g.1.1 i (by rw [hZ]; exact hi)
  have gb := g1.b (h.2.1.2.1 _ (hin i hi)).2.2
  refine ⟨⟨g1.1, gb.1⟩, fun t ht => ⟨g1.2.1 t ht, gb.2 t ht⟩, ?_, fun t ht hc => g.1.2.2 t (by omega) (Or.inr hc) i (by rw [hZ]; exact hi)⟩
  have e := zSm_ext (f := fun t => (sL τ 1 (lx τ (5 + 4 * 0) i) t).toInt) h8 (fun t h1 h2 => by
    show (sL τ 1 (lx τ (5 + 4 * 0) i) t).toInt = 0
    rw [g.1.2.2 t h2 (Or.inl h1) i (by rw [hZ]; exact hi), l_0])
  have := g1.2.2
  rw [e] at this
  exact this
theorem kL_z (n : Nat) : kL τ n = zsumL (fun k => sL τ 0 k 0) n := by
  induction n with
  | zero => rfl
  | succ n ih => show kL τ n + _ = _; rw [ih]; rfl
theorem kU_z (t n : Nat) : kU τ t n = zsumL (fun k => sL τ 1 k t) n := by
  induction n with
  | zero => rfl
  | succ n ih => show kU τ t n + _ = _; rw [ih]; rfl
theorem kO_z (n : Nat) : kO τ n = zsumL (fun t => sL τ 5 t 0) n := by
  induction n with
  | zero => rfl
  | succ n ih => show kO τ n + _ = _; rw [ih]; rfl
theorem kS_z (L n : Nat) : kS τ L n = zsumL (fun t => kU τ t L) n := by
  induction n with
  | zero => rfl
  | succ n ih => show kS τ L n + _ = _; rw [ih]; rfl
theorem kY_z (n : Nat) : kY τ n = zsumL (zsy τ) n := by
  induction n with
  | zero => rfl
  | succ n ih => show kY τ n + _ = _; rw [ih]; rfl
theorem kZ_z (n : Nat) : kZ τ n = zsumL (zls τ) n := by
  induction n with
  | zero => rfl
  | succ n ih => show kZ τ n + _ = _; rw [ih]; rfl
theorem kT_z (k : Nat) (x : Int64) (n : Nat) : kT τ k x n = x + zsumL (fun t => sL τ 1 k t) n := by
  induction n with
  | zero => exact (Int64.add_zero x).symm
  | succ n ih => show kT τ k x n + _ = _; rw [ih, Int64.add_assoc]; rfl
theorem kA_z (T n : Nat) : kA τ T n = zsumL (fun k => sL τ 0 k 0 + zsumL (fun t => sL τ 1 k t) T) n := by
  induction n with
  | zero => rfl
  | succ n ih => show kT τ n (kA τ T n + sL τ 0 n 0) T = _; rw [kT_z, ih, Int64.add_assoc]; rfl
theorem kPr_z (t : Nat) (x : Int64) (n : Nat) : kPr τ t x n = x + zsumL (zpd τ t) n := by
  induction n with
  | zero => exact (Int64.add_zero x).symm
  | succ n ih => show kPr τ t x n + _ = _; rw [ih, Int64.add_assoc]; rfl
theorem kP_z (n : Nat) : kP τ n = zsumL (fun t => zsumL (zpd τ t) 5) n := by
  induction n with
  | zero => rfl
  | succ n ih => show kPr τ n (kP τ n) 5 = _; rw [kPr_z, ih]; rfl
theorem nr_z (x : Int64) (n : Nat) : nrI τ x n = x - zsumL (fun r => if sI τ 31 0 r = 0 then v_allPartsOf τ 0 r else 0) n := by
  induction n with
  | zero => show x = x - 0; rw [Int64.sub_zero]
  | succ n ih =>
    show (if sI τ 31 0 n = 0 then nrI τ x n - v_allPartsOf τ 0 n else nrI τ x n) = x - (zsumL _ n + (if sI τ 31 0 n = 0 then v_allPartsOf τ 0 n else 0))
    rw [ih]
    split
    · rw [Int64.sub_eq_add_neg, Int64.sub_eq_add_neg, Int64.sub_eq_add_neg, Int64.neg_add, Int64.sub_eq_add_neg, Int64.add_assoc]
    · rw [Int64.add_zero]
theorem nt_z (x : Int64) (n : Nat) (hx : ∀ i, i < n → lx τ 6 i = i) (hn : n ≤ 8) : ntI τ x n = x + zsumL (fun t => if sI τ 19 t 0 = 0 then sL τ 5 t 0 + sL τ 3 t 0 else sL τ 5 t 0 - (sL τ 3 t 0 + (sI τ 20 t 0).toInt64)) n := by
  induction n with
  | zero => exact (Int64.add_zero x).symm
  | succ n ih =>
    have ih := ih (fun i hi => hx i (by omega)) (by omega)
    show (if sI τ 19 ((lx τ 6 n) % 8) 0 = 0 then (ntI τ x n + sL τ 5 (lx τ 6 n) 0) + sL τ 3 (lx τ 6 n) 0 else (ntI τ x n + sL τ 5 (lx τ 6 n) 0) - (sL τ 3 (lx τ 6 n) 0 + (sI τ 20 ((lx τ 6 n) % 8) 0).toInt64)) = x + (zsumL _ n + (if sI τ 19 n 0 = 0 then sL τ 5 n 0 + sL τ 3 n 0 else sL τ 5 n 0 - (sL τ 3 n 0 + (sI τ 20 n 0).toInt64)))
    rw [ih, hx n (by omega), show n % 8 = n by omega]
    split
    · rw [Int64.add_assoc, Int64.add_assoc]
    · rw [Int64.sub_eq_add_neg, Int64.sub_eq_add_neg, Int64.add_assoc, Int64.add_assoc]
/-- parts -/
theorem pt_int (h : zJ τ f c) (hs : sI τ 35 0 0 ≠ 0) {t r : Nat} (ht : t < sN τ 2) (hr : r < 5) : (v_partOf τ 0 t r).toInt = zSm (fun k => (sL τ 1 k t).toInt * (sI τ 21 t r).toInt / 100) (sN τ 1) ∧ 0 ≤ (v_partOf τ 0 t r).toInt ∧ (v_partOf τ 0 t r).toInt ≤ 30000000 := by
  obtain ⟨hin, hd, hZ, h30, h8⟩ := h.in
  have sb := shr_b (h.2.1.2.2.1 t ht).2.1 r hr
  have o100 : (100 : Int64).toInt = 100 := rfl
  have one : ∀ k, k < sN τ 1 → (sL τ 1 k t * (sI τ 21 t r).toInt64 / 100).toInt = (sL τ 1 k t).toInt * (sI τ 21 t r).toInt / 100 ∧ 0 ≤ (sL τ 1 k t).toInt * (sI τ 21 t r).toInt / 100 ∧ (sL τ 1 k t).toInt * (sI τ 21 t r).toInt / 100 ≤ 1000000 := fun k hk => by
    have g := (h.one hs hk).2.1 t (by omega)
    have m0 : 0 ≤ (sL τ 1 k t).toInt * (sI τ 21 t r).toInt := Int.mul_nonneg g.1 sb.1
    have m1 : (sL τ 1 k t).toInt * (sI τ 21 t r).toInt ≤ 1000000 * 100 := Int.mul_le_mul g.2 sb.2 sb.1 (by decide)
    have e : (sL τ 1 k t * (sI τ 21 t r).toInt64).toInt = (sL τ 1 k t).toInt * (sI τ 21 t r).toInt := by
      rw [l_mul (by rw [l_of]; omega) (by rw [l_of]; omega), l_of]
    rw [l_div (by rw [e]; exact m0) (by rw [o100]; decide), e, o100]
    exact ⟨rfl, by omega, by omega⟩
  have g := zsumL_nn (f := fun y => sL τ 1 (lx τ (5 + 4 * 0) y) t * (sI τ 21 t r).toInt64 / 100) (n := sZ τ (5 + 4 * 0)) (M := 1000000) (by decide) (fun i hi => by
    have g := one _ (hin i (by rw [← hZ]; exact hi))
    show 0 ≤ (sL τ 1 (lx τ (5 + 4 * 0) i) t * (sI τ 21 t r).toInt64 / 100).toInt ∧ (sL τ 1 (lx τ (5 + 4 * 0) i) t * (sI τ 21 t r).toInt64 / 100).toInt ≤ 1000000
    rw [g.1]
    exact g.2) (by rw [hZ]; omega)
  have e1 : v_partOf τ 0 t r = zsumL (fun y => sL τ 1 (lx τ (5 + 4 * 0) y) t * (sI τ 21 t r).toInt64 / 100) (sZ τ (5 + 4 * 0)) := rfl
  rw [e1]
  refine ⟨?_, g.2.1, by have := g.2.2; rw [hZ] at this; rw [hZ]; omega⟩
  rw [g.1, hZ, ← h.2.2.1.1 (fun k => (sL τ 1 k t).toInt * (sI τ 21 t r).toInt / 100)]
  exact zSm_congr (fun i hi => (one _ (hin i hi)).1)
theorem ap_int (h : zJ τ f c) (hs : sI τ 35 0 0 ≠ 0) {r : Nat} (hr : r < 5) : (v_allPartsOf τ 0 r).toInt = zSm (fun t => (v_partOf τ 0 t r).toInt) (sN τ 2) ∧ 0 ≤ (v_allPartsOf τ 0 r).toInt ∧ (v_allPartsOf τ 0 r).toInt ≤ 240000000 := by
  obtain ⟨hin, hd, hZ, h30, h8⟩ := h.in
  have hZ6 : sZ τ (6 + 4 * 0) = sN τ 2 := h.1.1.2.2.2.2.2.2.2.1.1
  have hx : ∀ i, i < sN τ 2 → lx τ (6 + 4 * 0) i % 8 = i := fun i hi => by
    have : lx τ (6 + 4 * 0) i = i := h.1.2.1.2.2.2.2.2.1 i hi
    rw [this]
    omega
  have e : v_allPartsOf τ 0 r = zsumL (fun t => v_partOf τ 0 t r) (sN τ 2) := by
    show zsumL (fun y => v_partOf τ 0 (lx τ (6 + 4 * 0) y % 8) r) (sZ τ (6 + 4 * 0)) = _
    rw [hZ6]
    refine zsumL_c (fun i hi => ?_)
    show v_partOf τ 0 (lx τ (6 + 4 * 0) i % 8) r = _
    rw [hx i hi]
  have g := zsumL_nn (f := fun t => v_partOf τ 0 t r) (n := sN τ 2) (M := 30000000) (by decide) (fun i hi => (pt_int h hs hi hr).2) (by omega)
  rw [e]
  exact ⟨g.1, g.2.1, by have := g.2.2; omega⟩
end ZSU
