/-! whole numbers behind the machine's numbers; sums -/
theorem l_add {a b : Int64} (h1 : -9223372036854775808 ≤ a.toInt + b.toInt) (h2 : a.toInt + b.toInt < 9223372036854775808) : (a + b).toInt = a.toInt + b.toInt := by
  rw [Int64.toInt_add]
  exact Int.bmod_eq_of_le (by omega) (by omega)
theorem l_sub {a b : Int64} (h1 : -9223372036854775808 ≤ a.toInt - b.toInt) (h2 : a.toInt - b.toInt < 9223372036854775808) : (a - b).toInt = a.toInt - b.toInt := by
  rw [Int64.toInt_sub]
  exact Int.bmod_eq_of_le (by omega) (by omega)
theorem l_mul {a b : Int64} (h1 : -9223372036854775808 ≤ a.toInt * b.toInt) (h2 : a.toInt * b.toInt < 9223372036854775808) : (a * b).toInt = a.toInt * b.toInt := by
  rw [Int64.toInt_mul]
  exact Int.bmod_eq_of_le (by omega) (by omega)
theorem l_div {a b : Int64} (h1 : 0 ≤ a.toInt) (h2 : 0 < b.toInt) : (a / b).toInt = a.toInt / b.toInt := by
  rw [Int64.toInt_div, Int.tdiv_eq_ediv_of_nonneg h1]
  have h3 : a.toInt / b.toInt ≤ a.toInt := Int.ediv_le_self _ h1
  have h4 : 0 ≤ a.toInt / b.toInt := Int.ediv_nonneg h1 (by omega)
  have h5 := Int64.toInt_lt a
  exact Int.bmod_eq_of_le (by omega) (by omega)
theorem l_lt {a b : Int64} : a < b ↔ a.toInt < b.toInt := Int64.lt_iff_toInt_lt
theorem l_le {a b : Int64} : a ≤ b ↔ a.toInt ≤ b.toInt := Int64.le_iff_toInt_le
theorem l_eq {a b : Int64} : a = b ↔ a.toInt = b.toInt := Int64.toInt_inj.symm
theorem l_mn (x y : Int64) : (zmnl x y).toInt ≤ x.toInt ∧ (zmnl x y).toInt ≤ y.toInt ∧ ((zmnl x y).toInt = x.toInt ∨ (zmnl x y).toInt = y.toInt) := by
  unfold zmnl
  split
  · rename_i h
    have := l_lt.mp h
    omega
  · rename_i h
    have : ¬ y.toInt < x.toInt := fun q => h (l_lt.mpr q)
    omega
theorem l_mx (x y : Int64) : (zmxl x y).toInt ≥ x.toInt ∧ (zmxl x y).toInt ≥ y.toInt ∧ ((zmxl x y).toInt = x.toInt ∨ (zmxl x y).toInt = y.toInt) := by
  unfold zmxl
  split
  · rename_i h
    have := l_lt.mp h
    omega
  · rename_i h
    have : ¬ y.toInt < x.toInt := fun q => h (l_lt.mpr q)
    omega
theorem l_0 : (0 : Int64).toInt = 0 := rfl
theorem l_of (x : Int32) : x.toInt64.toInt = x.toInt := Int32.toInt_toInt64 x
theorem w_add' {a b : Int32} (h1 : -2147483648 ≤ a.toInt + b.toInt) (h2 : a.toInt + b.toInt < 2147483648) : (a + b).toInt = a.toInt + b.toInt := by
  rw [Int32.toInt_add]
  exact Int.bmod_eq_of_le (by omega) (by omega)
theorem w_sub' {a b : Int32} (h1 : -2147483648 ≤ a.toInt - b.toInt) (h2 : a.toInt - b.toInt < 2147483648) : (a - b).toInt = a.toInt - b.toInt := by
  rw [Int32.toInt_sub]
  exact Int.bmod_eq_of_le (by omega) (by omega)
theorem w_mul' {a b : Int32} (h1 : -2147483648 ≤ a.toInt * b.toInt) (h2 : a.toInt * b.toInt < 2147483648) : (a * b).toInt = a.toInt * b.toInt := by
  rw [Int32.toInt_mul]
  exact Int.bmod_eq_of_le (by omega) (by omega)
theorem w_lt {a b : Int32} : a < b ↔ a.toInt < b.toInt := Int32.lt_iff_toInt_lt
theorem w_le {a b : Int32} : a ≤ b ↔ a.toInt ≤ b.toInt := Int32.le_iff_toInt_le
theorem w_eq {a b : Int32} : a = b ↔ a.toInt = b.toInt := Int32.toInt_inj.symm
theorem w_mn (x y : Int32) : (zmn x y).toInt ≤ x.toInt ∧ (zmn x y).toInt ≤ y.toInt ∧ ((zmn x y).toInt = x.toInt ∨ (zmn x y).toInt = y.toInt) := by
  unfold zmn
  split
  · rename_i h
    have := w_lt.mp h
    omega
  · rename_i h
    have : ¬ y.toInt < x.toInt := fun q => h (w_lt.mpr q)
    omega
theorem w_mx (x y : Int32) : (zmx x y).toInt ≥ x.toInt ∧ (zmx x y).toInt ≥ y.toInt ∧ ((zmx x y).toInt = x.toInt ∨ (zmx x y).toInt = y.toInt) := by
  unfold zmx
  split
  · rename_i h
    have := w_lt.mp h
    omega
  · rename_i h
    have : ¬ x.toInt < y.toInt := fun q => h (w_lt.mpr q)
    omega
/-- a sum of whole numbers -/
def zSm (f : Nat → Int) : Nat → Int
  | 0 => 0
  | n + 1 => zSm f n + f n
theorem zSm_congr {f g : Nat → Int} : ∀ {n : Nat}, (∀ i, i < n → f i = g i) → zSm f n = zSm g n
  | 0, _ => rfl
  | n + 1, h => by
    show zSm f n + f n = zSm g n + g n
    rw [zSm_congr (fun i hi => h i (by omega)), h n (by omega)]
theorem zSm_add (f g : Nat → Int) : ∀ n : Nat, zSm (fun i => f i + g i) n = zSm f n + zSm g n
  | 0 => rfl
  | n + 1 => by
    show zSm (fun i => f i + g i) n + (f n + g n) = (zSm f n + f n) + (zSm g n + g n)
    rw [zSm_add f g n]
    omega
theorem zSm_sub (f g : Nat → Int) : ∀ n : Nat, zSm (fun i => f i - g i) n = zSm f n - zSm g n
  | 0 => rfl
  | n + 1 => by
    show zSm (fun i => f i - g i) n + (f n - g n) = (zSm f n + f n) - (zSm g n + g n)
    rw [zSm_sub f g n]
    omega
theorem zSm_zero : ∀ n : Nat, zSm (fun _ => 0) n = 0
  | 0 => rfl
  | n + 1 => by
    show zSm (fun _ => 0) n + 0 = 0
    rw [zSm_zero n]
    rfl
theorem zSm_le {f g : Nat → Int} : ∀ {n : Nat}, (∀ i, i < n → f i ≤ g i) → zSm f n ≤ zSm g n
  | 0, _ => Int.le_refl _
  | n + 1, h => by
    show zSm f n + f n ≤ zSm g n + g n
    have := zSm_le (n := n) (fun i hi => h i (by omega))
    have := h n (by omega)
    omega
theorem zSm_nn {f : Nat → Int} {n : Nat} (h : ∀ i, i < n → 0 ≤ f i) : 0 ≤ zSm f n := by
  have := zSm_le (f := fun _ => 0) (g := f) (n := n) h
  rw [zSm_zero] at this
  exact this
theorem zSm_cst (c : Int) : ∀ n : Nat, zSm (fun _ => c) n = n * c
  | 0 => by
    show (0 : Int) = ((0 : Nat) : Int) * c
    rw [Int.ofNat_zero, Int.zero_mul]
  | n + 1 => by
    show zSm (fun _ => c) n + c = ((n + 1 : Nat) : Int) * c
    rw [zSm_cst c n, Int.natCast_add, Int.add_mul, Int.natCast_one, Int.one_mul]
theorem zSm_ub {f : Nat → Int} {n : Nat} {c : Int} (h : ∀ i, i < n → f i ≤ c) : zSm f n ≤ n * c := by
  have := zSm_le (f := f) (g := fun _ => c) (n := n) h
  rw [zSm_cst] at this
  exact this
theorem zSm_shift (f : Nat → Int) : ∀ n : Nat, zSm (fun i => f (i + 1)) n = zSm f n + f n - f 0
  | 0 => by
    show (0 : Int) = 0 + f 0 - f 0
    omega
  | n + 1 => by
    show zSm (fun i => f (i + 1)) n + f (n + 1) = zSm f n + f n + f (n + 1) - f 0
    rw [zSm_shift f n]
    omega
/-- one term is changed -/
theorem zSm_upd {f g : Nat → Int} {k : Nat} : ∀ {n : Nat}, k < n → (∀ i, i < n → i ≠ k → f i = g i) → zSm f n = zSm g n + f k - g k
  | 0, h, _ => absurd h (Nat.not_lt_zero _)
  | n + 1, h, e => by
    show zSm f n + f n = zSm g n + g n + f k - g k
    by_cases q : k = n
    · subst q
      rw [zSm_congr (fun i hi => e i (by omega) (by omega))]
      omega
    · rw [zSm_upd (n := n) (by omega) (fun i hi => e i (by omega)), e n (by omega) (fun z => q z.symm)]
      omega
theorem zSm_le1 {f : Nat → Int} {k n : Nat} (hk : k < n) (h : ∀ i, i < n → 0 ≤ f i) : f k ≤ zSm f n := by
  have e := zSm_upd (f := f) (g := fun i => if i = k then 0 else f i) hk (fun i _ q => by rw [if_neg q])
  have g := zSm_nn (f := fun i => if i = k then 0 else f i) (n := n) (fun i hi => by
    by_cases q : i = k
    · simp only [if_pos q]
      exact Int.le_refl _
    · simp only [if_neg q]
      exact h i hi)
  simp only [if_pos] at e
  omega
theorem zSm_swap (f : Nat → Nat → Int) (n : Nat) : ∀ m : Nat, zSm (fun i => zSm (fun j => f i j) n) m = zSm (fun j => zSm (fun i => f i j) m) n
  | 0 => (zSm_zero n).symm
  | m + 1 => by
    show zSm (fun i => zSm (fun j => f i j) n) m + zSm (fun j => f m j) n = _
    rw [zSm_swap f n m, ← zSm_add]
    rfl
/-- exactly one of n places is r -/
theorem zSm_pick (r : Nat) (v : Nat → Int) {n : Nat} (hr : r < n) : zSm (fun i => if r = i then v i else 0) n = v r := by
  have e := zSm_upd (f := fun i => if r = i then v i else 0) (g := fun _ => 0) hr (fun i _ q => by simp only [if_neg (fun z : r = i => q z.symm)])
  rw [zSm_zero] at e
  simp only [if_pos] at e
  omega
/-- a sum of the machine's longs is exact where its terms are small -/
theorem zsumL_int {f : Nat → Int64} {M : Int} (hM : 0 ≤ M) : ∀ {n : Nat}, (∀ i, i < n → 0 ≤ (f i).toInt ∧ (f i).toInt ≤ M) → n * M < 9223372036854775808 → (zsumL f n).toInt = zSm (fun i => (f i).toInt) n
  | 0, _, _ => rfl
  | n + 1, h, hb => by
    have hb' : (n : Int) * M + M < 9223372036854775808 := by
      have e : ((n + 1 : Nat) : Int) * M = (n : Int) * M + M := by rw [Int.natCast_add, Int.add_mul, Int.natCast_one, Int.one_mul]
      omega
    have ih := zsumL_int hM (n := n) (fun i hi => h i (by omega)) (by omega)
    have h0 := zSm_nn (f := fun i => (f i).toInt) (n := n) (fun i hi => (h i (by omega)).1)
    have h1 := zSm_ub (f := fun i => (f i).toInt) (n := n) (c := M) (fun i hi => (h i (by omega)).2)
    have h2 := h n (by omega)
    show (zsumL f n + f n).toInt = zSm (fun i => (f i).toInt) n + (f n).toInt
    rw [l_add (by omega) (by omega), ih]
/-- among more values than places two are alike -/
theorem z_pig : ∀ (n : Nat) (f : Nat → Nat), (∀ k, k ≤ n → f k < n) → ∃ a b, a < b ∧ b ≤ n ∧ f a = f b
  | 0, f, h => absurd (h 0 (Nat.le_refl _)) (Nat.not_lt_zero _)
  | n + 1, f, h => by
    by_cases hc : ∃ k, k ≤ n ∧ f k = f (n + 1)
    · obtain ⟨k, hk, e⟩ := hc
      exact ⟨k, n + 1, by omega, Nat.le_refl _, e⟩
    · have hc : ∀ k, k ≤ n → f k ≠ f (n + 1) := fun k hk e => hc ⟨k, hk, e⟩
      obtain ⟨a, b, h1, h2, h3⟩ := z_pig n (fun k => if f k = n then f (n + 1) else f k) (fun k hk => by
        by_cases q : f k = n
        · simp only [if_pos q]
          have := h (n + 1) (Nat.le_refl _)
          have := hc k hk
          omega
        · simp only [if_neg q]
          have := h k (by omega)
          omega)
      refine ⟨a, b, h1, by omega, ?_⟩
      by_cases qa : f a = n
      · by_cases qb : f b = n
        · rw [qa, qb]
        · simp only [if_pos qa, if_neg qb] at h3
          exact absurd h3.symm (hc b h2)
      · by_cases qb : f b = n
        · simp only [if_neg qa, if_pos qb] at h3
          exact absurd h3 (hc a (by omega))
        · simp only [if_neg qa, if_neg qb] at h3
          exact h3
