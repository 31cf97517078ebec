/-! rings of retrocession: what the rounds from below and from above find is what fits -/
/-- v, but at least lo and at most hi -/
def rC (lo hi v : Int) : Int := if v < lo then lo else if hi < v then hi else v
/-- what j hands on of v -/
def rH (bd li : Nat → Int) (fl : Nat → Bool) (j : Nat) (v : Int) : Int := if fl j = true then 0 else rC 0 (li j) (v - bd j)
section ZRG
variable (rc : Nat → Nat) (ow bd li : Nat → Int) (fl : Nat → Bool)
def rF (x : Nat → Int) : Nat → Int := fun i => ow i + zSm (fun j => if rc j = i then rH bd li fl j (x j) else 0) 5
def rI (x : Nat → Int) : Nat → Nat → Int
  | 0 => x
  | n + 1 => rF rc ow bd li fl (rI x n)
def rP (i : Nat) : Nat → Nat
  | 0 => i
  | m + 1 => rc (rP i m)
/-- i is behind somebody by n links -/
def rR (n i : Nat) : Prop := ∃ j, j < 5 ∧ rP rc j n = i
/-- what comes to i but by p, once the rest has settled -/
def rA (i p : Nat) : Int := ow i + zSm (fun j => if rc j = i ∧ j ≠ p then rH bd li fl j (rI rc ow bd li fl (fun _ => 0) 5 j) else 0) 5
/-- the rise at a link -/
def rS (j : Nat) : Int := rA rc ow bd li fl (rc j) j - bd j
/-- a way round as one map -/
def rG (i : Nat) : Nat → Int → Int
  | 0, v => v
  | m + 1, v => rA rc ow bd li fl (rc (rP rc i m)) (rP rc i m) + rH bd li fl (rP rc i m) (rG i m v)
end ZRG
theorem rC_b {lo hi v : Int} (h : lo ≤ hi) : lo ≤ rC lo hi v ∧ rC lo hi v ≤ hi := by
  unfold rC
  split
  · omega
  · split <;> omega
theorem rC_mono {lo hi v w : Int} (h : lo ≤ hi) (h2 : v ≤ w) : rC lo hi v ≤ rC lo hi w := by
  unfold rC
  split <;> split <;> (try split) <;> (try split) <;> omega
section ZRL
variable {rc : Nat → Nat} {ow bd li : Nat → Int} {fl : Nat → Bool}
theorem rH_mono (hl : ∀ j, 0 ≤ li j) {j : Nat} {v w : Int} (h : v ≤ w) : rH bd li fl j v ≤ rH bd li fl j w := by
  unfold rH
  split
  · exact Int.le_refl _
  · exact rC_mono (hl j) (by omega)
theorem rH_b (hl : ∀ j, 0 ≤ li j) (j : Nat) (v : Int) : 0 ≤ rH bd li fl j v ∧ rH bd li fl j v ≤ li j := by
  unfold rH
  split
  · exact ⟨Int.le_refl _, hl j⟩
  · exact rC_b (hl j)
theorem rF_mono (hl : ∀ j, 0 ≤ li j) {x y : Nat → Int} (h : ∀ j, j < 5 → x j ≤ y j) (i : Nat) : rF rc ow bd li fl x i ≤ rF rc ow bd li fl y i := by
  unfold rF
  have := zSm_le (f := fun j => if rc j = i then rH bd li fl j (x j) else 0) (g := fun j => if rc j = i then rH bd li fl j (y j) else 0) (n := 5) (fun j hj => by
    by_cases e : rc j = i
    · simp only [if_pos e]
      exact rH_mono hl (h j hj)
    · simp only [if_neg e]
      exact Int.le_refl _)
  omega
theorem rI_add (x : Nat → Int) (m : Nat) : ∀ n, rI rc ow bd li fl (rI rc ow bd li fl x m) n = rI rc ow bd li fl x (m + n)
  | 0 => rfl
  | n + 1 => by
    show rF rc ow bd li fl (rI rc ow bd li fl (rI rc ow bd li fl x m) n) = rF rc ow bd li fl (rI rc ow bd li fl x (m + n))
    rw [rI_add x m n]
theorem rI_mono (hl : ∀ j, 0 ≤ li j) {x y : Nat → Int} (h : ∀ j, j < 5 → x j ≤ y j) : ∀ n j, j < 5 → rI rc ow bd li fl x n j ≤ rI rc ow bd li fl y n j
  | 0, j, hj => h j hj
  | n + 1, j, _ => rF_mono hl (rI_mono hl h n) j
theorem rI_up (hl : ∀ j, 0 ≤ li j) {x : Nat → Int} (h : ∀ j, j < 5 → x j ≤ rF rc ow bd li fl x j) (n j : Nat) (hj : j < 5) : rI rc ow bd li fl x n j ≤ rI rc ow bd li fl x (n + 1) j := by
  have := rI_mono (rc := rc) (ow := ow) (bd := bd) (fl := fl) hl h n j hj
  rw [show rF rc ow bd li fl x = rI rc ow bd li fl x 1 from rfl, rI_add, Nat.add_comm 1 n] at this
  exact this
theorem rI_dn (hl : ∀ j, 0 ≤ li j) {x : Nat → Int} (h : ∀ j, j < 5 → rF rc ow bd li fl x j ≤ x j) (n j : Nat) (hj : j < 5) : rI rc ow bd li fl x (n + 1) j ≤ rI rc ow bd li fl x n j := by
  have := rI_mono (rc := rc) (ow := ow) (bd := bd) (fl := fl) hl h n j hj
  rw [show rF rc ow bd li fl x = rI rc ow bd li fl x 1 from rfl, rI_add, Nat.add_comm 1 n] at this
  exact this
theorem rP_add (i m : Nat) : ∀ n, rP rc (rP rc i m) n = rP rc i (m + n)
  | 0 => rfl
  | n + 1 => by
    show rc (rP rc (rP rc i m) n) = rc (rP rc i (m + n))
    rw [rP_add i m n]
theorem rP_s (i m : Nat) : rP rc (rc i) m = rP rc i (m + 1) := by
  rw [show rc i = rP rc i 1 from rfl, rP_add, Nat.add_comm]
theorem rP_lt (hr : ∀ j, j < 5 → rc j < 5) {i : Nat} (hi : i < 5) : ∀ m, rP rc i m < 5
  | 0 => hi
  | m + 1 => hr _ (rP_lt hr hi m)
theorem rP_per {i L : Nat} (h : rP rc i L = i) : ∀ k, rP rc i (k * L) = i
  | 0 => by rw [Nat.zero_mul]; rfl
  | k + 1 => by rw [Nat.succ_mul, ← rP_add, rP_per h k, h]
/-- who isn't behind anybody by n links is settled after n rounds -/
theorem rI_free : ∀ (n i : Nat), i < 5 → ¬ rR rc n i → ∀ x y : Nat → Int, rI rc ow bd li fl x n i = rI rc ow bd li fl y n i
  | 0, i, hi, h, x, y => absurd ⟨i, hi, rfl⟩ h
  | n + 1, i, hi, h, x, y => by
    show ow i + _ = ow i + _
    congr 1
    refine zSm_congr (fun j hj => ?_)
    by_cases e : rc j = i
    · simp only [if_pos e]
      rw [rI_free n j hj (fun q => h (by
        obtain ⟨j', h1, h2⟩ := q
        exact ⟨j', h1, by show rc (rP rc j' n) = i; rw [h2, e]⟩)) x y]
    · simp only [if_neg e]
theorem rI_free5 {i : Nat} (hi : i < 5) (h : ¬ rR rc 5 i) (x : Nat → Int) {n : Nat} (hn : 5 ≤ n) : rI rc ow bd li fl x n i = rI rc ow bd li fl (fun _ => 0) 5 i := by
  have e : rI rc ow bd li fl x n = rI rc ow bd li fl (rI rc ow bd li fl x (n - 5)) 5 := by rw [rI_add]; congr 1; omega
  rw [e]
  exact rI_free 5 i hi h _ _
theorem rR_next (hr : ∀ j, j < 5 → rc j < 5) {j : Nat} (h : rR rc 5 j) : rR rc 5 (rc j) := by
  obtain ⟨j', h1, h2⟩ := h
  refine ⟨rc j', hr j' h1, ?_⟩
  rw [rP_s]
  show rc (rP rc j' 5) = rc j
  rw [h2]
/-- who is behind somebody by five links is on a ring -/
theorem rR_ring (hr : ∀ j, j < 5 → rc j < 5) {i : Nat} (h : rR rc 5 i) : ∃ L, 1 ≤ L ∧ L ≤ 5 ∧ rP rc i L = i := by
  obtain ⟨j, hj, h2⟩ := h
  obtain ⟨a, b, h3, h4, h5⟩ := z_pig 5 (fun k => rP rc j k) (fun k _ => rP_lt hr hj k)
  have h5 : rP rc j a = rP rc j b := h5
  have hp : rP rc (rP rc j a) (b - a) = rP rc j a := by rw [rP_add, h5]; congr 1; omega
  refine ⟨b - a, by omega, by omega, ?_⟩
  have e : i = rP rc (rP rc j a) (5 - a) := by rw [rP_add, ← h2]; congr 1; omega
  rw [e, rP_add, Nat.add_comm (5 - a), ← rP_add, hp]
theorem ring_R (hr : ∀ j, j < 5 → rc j < 5) {i L : Nat} (hi : i < 5) (hL : 1 ≤ L) (h : rP rc i L = i) : rR rc 5 i := by
  refine ⟨rP rc i (5 * L - 5), rP_lt hr hi _, ?_⟩
  rw [rP_add, show 5 * L - 5 + 5 = 5 * L by omega]
  exact rP_per h 5
/-- the one on the ring that hands on to i -/
theorem ring_pred (hr : ∀ j, j < 5 → rc j < 5) {i L j : Nat} (hL : 1 ≤ L) (h : rP rc i L = i) (hj : rc j = i) (hR : rR rc 5 j) : j = rP rc i (L - 1) := by
  obtain ⟨L', h1, -, h3⟩ := rR_ring hr hR
  have e1 : rP rc i (L' - 1) = j := by
    rw [← hj, rP_s, show L' - 1 + 1 = L' by omega]
    exact h3
  have e2 : rP rc i L' = i := by
    have : rP rc i (L' - 1 + 1) = i := by show rc (rP rc i (L' - 1)) = i; rw [e1]; exact hj
    rwa [show L' - 1 + 1 = L' by omega] at this
  have m1 : 1 ≤ L * L' := Nat.mul_le_mul hL h1
  have a1 : L * L' - 1 = (L - 1) * L' + (L' - 1) := by
    have : L * L' = (L - 1) * L' + L' := by
      have := Nat.succ_mul (L - 1) L'
      rw [show (L - 1).succ = L by omega] at this
      exact this
    omega
  have a2 : L * L' - 1 = (L' - 1) * L + (L - 1) := by
    have : L' * L = (L' - 1) * L + L := by
      have := Nat.succ_mul (L' - 1) L
      rw [show (L' - 1).succ = L' by omega] at this
      exact this
    rw [Nat.mul_comm L L'] at m1 ⊢
    omega
  have b1 : rP rc i (L * L' - 1) = j := by rw [a1, ← rP_add, rP_per e2, e1]
  have b2 : rP rc i (L * L' - 1) = rP rc i (L - 1) := by rw [a2, ← rP_add, rP_per h]
  exact b1.symm.trans b2
/-- one round at a place of a ring -/
theorem ring_step (hr : ∀ j, j < 5 → rc j < 5) {i L p : Nat} (hi : i < 5) (hL : 1 ≤ L) (h : rP rc i L = i) (hp : p = rP rc i (L - 1)) (y : Nat → Int) (hy : ∀ j, j < 5 → ¬ rR rc 5 j → y j = rI rc ow bd li fl (fun _ => 0) 5 j) : rF rc ow bd li fl y i = rA rc ow bd li fl i p + rH bd li fl p (y p) := by
  have hp5 : p < 5 := by rw [hp]; exact rP_lt hr hi _
  have hpi : rc p = i := by
    have : rP rc i (L - 1 + 1) = i := by rw [show L - 1 + 1 = L by omega]; exact h
    rw [hp]
    exact this
  unfold rF rA
  have e := zSm_upd (f := fun j => if rc j = i then rH bd li fl j (y j) else 0) (g := fun j => if rc j = i ∧ j ≠ p then rH bd li fl j (rI rc ow bd li fl (fun _ => 0) 5 j) else 0) hp5 (fun j hj hne => by
    by_cases q : rc j = i
    · simp only [if_pos q, if_pos (And.intro q hne)]
      have hf : ¬ rR rc 5 j := fun z => hne ((ring_pred hr hL h q z).trans hp.symm)
      rw [hy j hj hf]
    · simp only [if_neg q, if_neg (fun z : rc j = i ∧ j ≠ p => q z.1)])
  simp only [if_pos hpi, if_neg (fun z : rc p = i ∧ p ≠ p => z.2 rfl)] at e
  omega
/-- m rounds along the ring -/
theorem ring_steps (hr : ∀ j, j < 5 → rc j < 5) {i L : Nat} (hi : i < 5) (hL : 1 ≤ L) (h : rP rc i L = i) (x : Nat → Int) {n : Nat} (hn : 5 ≤ n) : ∀ m, rI rc ow bd li fl x (n + m) (rP rc i m) = rG rc ow bd li fl i m (rI rc ow bd li fl x n i)
  | 0 => rfl
  | m + 1 => by
    have hi2 : rP rc i (m + 1) < 5 := rP_lt hr hi _
    have hper : rP rc (rP rc i (m + 1)) L = rP rc i (m + 1) := by rw [rP_add, Nat.add_comm, ← rP_add, h]
    have hpr : rP rc i m = rP rc (rP rc i (m + 1)) (L - 1) := by
      rw [rP_add, show m + 1 + (L - 1) = L + m by omega, ← rP_add, h]
    have e := ring_step (ow := ow) (bd := bd) (li := li) (fl := fl) hr hi2 hL hper hpr (rI rc ow bd li fl x (n + m)) (fun j hj hf => rI_free5 hj hf x (by omega))
    show rF rc ow bd li fl (rI rc ow bd li fl x (n + m)) (rP rc i (m + 1)) = rA rc ow bd li fl (rc (rP rc i m)) (rP rc i m) + rH bd li fl (rP rc i m) (rG rc ow bd li fl i m (rI rc ow bd li fl x n i))
    rw [e, ring_steps hr hi hL h x hn m]
    rfl
/-- a way round rises by the same, between two limits -/
theorem rG_form (hl : ∀ j, 0 ≤ li j) (i : Nat) : ∀ m, ∃ lo hi : Int, lo ≤ hi ∧ ∀ v, rG rc ow bd li fl i (m + 1) v = rC lo hi (v + zSm (fun k => rS rc ow bd li fl (rP rc i k)) (m + 1))
  | 0 => by
    by_cases hf : fl i = true
    · refine ⟨rA rc ow bd li fl (rc i) i, rA rc ow bd li fl (rc i) i, Int.le_refl _, fun v => ?_⟩
      show rA rc ow bd li fl (rc i) i + rH bd li fl i v = _
      rw [show rH bd li fl i v = 0 from if_pos hf]
      unfold rC
      split
      · omega
      · split <;> omega
    · refine ⟨rA rc ow bd li fl (rc i) i, rA rc ow bd li fl (rc i) i + li i, by have := hl i; omega, fun v => ?_⟩
      show rA rc ow bd li fl (rc i) i + rH bd li fl i v = rC _ _ (v + (0 + (rA rc ow bd li fl (rc i) i - bd i)))
      rw [show rH bd li fl i v = rC 0 (li i) (v - bd i) from if_neg hf]
      have := hl i
      generalize rA rc ow bd li fl (rc i) i = A
      unfold rC
      split <;> split <;> (try split) <;> (try split) <;> omega
  | m + 1 => by
    obtain ⟨lo, hi, h1, h2⟩ := rG_form hl i m
    have hz : ∀ v, rG rc ow bd li fl i (m + 1 + 1) v = rA rc ow bd li fl (rc (rP rc i (m + 1))) (rP rc i (m + 1)) + rH bd li fl (rP rc i (m + 1)) (rG rc ow bd li fl i (m + 1) v) := fun v => rfl
    have hs : zSm (fun k => rS rc ow bd li fl (rP rc i k)) (m + 1 + 1) = zSm (fun k => rS rc ow bd li fl (rP rc i k)) (m + 1) + (rA rc ow bd li fl (rc (rP rc i (m + 1))) (rP rc i (m + 1)) - bd (rP rc i (m + 1))) := rfl
    generalize zSm (fun k => rS rc ow bd li fl (rP rc i k)) (m + 1) = D at h2 hs
    generalize rP rc i (m + 1) = j at hz hs
    by_cases hf : fl j = true
    · refine ⟨rA rc ow bd li fl (rc j) j, rA rc ow bd li fl (rc j) j, Int.le_refl _, fun v => ?_⟩
      rw [hz, show rH bd li fl j (rG rc ow bd li fl i (m + 1) v) = 0 from if_pos hf]
      unfold rC
      split
      · omega
      · split <;> omega
    · refine ⟨rA rc ow bd li fl (rc j) j + rC 0 (li j) (lo - bd j), rA rc ow bd li fl (rc j) j + rC 0 (li j) (hi - bd j), by have := rC_mono (hl j) (show lo - bd j ≤ hi - bd j by omega); omega, fun v => ?_⟩
      rw [hz, show rH bd li fl j (rG rc ow bd li fl i (m + 1) v) = rC 0 (li j) (rG rc ow bd li fl i (m + 1) v - bd j) from if_neg hf, h2, hs]
      have := hl j
      generalize rA rc ow bd li fl (rc j) j = A
      have e1 := rC_b (v := lo - bd j) this
      have e2 := rC_b (v := hi - bd j) this
      unfold rC at e1 e2 ⊢
      (repeat' split) <;> omega
end ZRL
