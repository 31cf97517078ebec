/-! rings, their end: the rounds' answer fits -/
section ZRE
variable {rc : Nat → Nat} {ow bd li : Nat → Int} {fl : Nat → Bool}
theorem rC_low {lo hi a b c D : Int} (h : lo ≤ hi) (hb : b = rC lo hi (a + D)) (hc : c = rC lo hi (b + D)) (h1 : a ≤ b) (hD : D ≤ 0) : c = b := by
  unfold rC at hb hc
  split at hb <;> (try split at hb) <;> split at hc <;> (try split at hc) <;> omega
theorem rC_high {lo hi a b c D : Int} (h : lo ≤ hi) (hb : b = rC lo hi (a + D)) (hc : c = rC lo hi (b + D)) (h1 : b ≤ a) (hD : 0 < D) : c = b := by
  unfold rC at hb hc
  split at hb <;> (try split at hb) <;> split at hc <;> (try split at hc) <;> omega
theorem rC_fix {lo hi v D : Int} (h : lo ≤ hi) (hb : v = rC lo hi (v + D)) (hD : 0 < D) : v = hi := by
  unfold rC at hb
  split at hb <;> (try split at hb) <;> omega
theorem up_le {f : Nat → Int} (h : ∀ n, f n ≤ f (n + 1)) (m : Nat) : ∀ k, f m ≤ f (m + k)
  | 0 => Int.le_refl _
  | k + 1 => Int.le_trans (up_le h m k) (h (m + k))
theorem dn_le {f : Nat → Int} (h : ∀ n, f (n + 1) ≤ f n) (m : Nat) : ∀ k, f (m + k) ≤ f m
  | 0 => Int.le_refl _
  | k + 1 => Int.le_trans (h (m + k)) (dn_le h m k)
/-- L rounds at a place of a ring of L -/
theorem ring_L (hl : ∀ j, 0 ≤ li j) (hr : ∀ j, j < 5 → rc j < 5) {i L : Nat} (hi : i < 5) (hL : 1 ≤ L) (h : rP rc i L = i) : ∃ lo hi' : Int, lo ≤ hi' ∧ ∀ (x : Nat → Int) (n : Nat), 5 ≤ n → rI rc ow bd li fl x (n + L) i = rC lo hi' (rI rc ow bd li fl x n i + zSm (fun k => rS rc ow bd li fl (rP rc i k)) L) := by
  obtain ⟨lo, hi', h1, h2⟩ := rG_form (rc := rc) (ow := ow) (bd := bd) (fl := fl) hl i (L - 1)
  rw [show L - 1 + 1 = L by omega] at h2
  refine ⟨lo, hi', h1, fun x n hn => ?_⟩
  have e := ring_steps (ow := ow) (bd := bd) (li := li) (fl := fl) hr hi hL h x hn L
  rw [h] at e
  rw [e, h2]
theorem ring_low (hl : ∀ j, 0 ≤ li j) (hr : ∀ j, j < 5 → rc j < 5) {x : Nat → Int} (hx : ∀ j, j < 5 → x j ≤ rF rc ow bd li fl x j) {i L : Nat} (hi : i < 5) (hL : 1 ≤ L) (hL5 : L ≤ 5) (h : rP rc i L = i) (hD : zSm (fun k => rS rc ow bd li fl (rP rc i k)) L ≤ 0) {n : Nat} (hn : 10 ≤ n) : rI rc ow bd li fl x (n + 1) i = rI rc ow bd li fl x n i := by
  obtain ⟨lo, hi', h1, h2⟩ := ring_L (ow := ow) (bd := bd) (fl := fl) hl hr hi hL h
  have hu : ∀ n, rI rc ow bd li fl x n i ≤ rI rc ow bd li fl x (n + 1) i := fun n => rI_up hl hx n i hi
  have e1 := h2 x (n - L) (by omega)
  have e2 := h2 x n (by omega)
  rw [show n - L + L = n by omega] at e1
  have u1 := up_le (f := fun n => rI rc ow bd li fl x n i) hu (n - L) L
  rw [show n - L + L = n by omega] at u1
  have e3 := rC_low h1 e1 e2 u1 hD
  have u2 := up_le (f := fun n => rI rc ow bd li fl x n i) hu (n + 1) (L - 1)
  rw [show n + 1 + (L - 1) = n + L by omega] at u2
  have u3 := hu n
  omega
theorem ring_high (hl : ∀ j, 0 ≤ li j) (hr : ∀ j, j < 5 → rc j < 5) {x : Nat → Int} (hx : ∀ j, j < 5 → rF rc ow bd li fl x j ≤ x j) {i L : Nat} (hi : i < 5) (hL : 1 ≤ L) (hL5 : L ≤ 5) (h : rP rc i L = i) (hD : 0 < zSm (fun k => rS rc ow bd li fl (rP rc i k)) L) {n : Nat} (hn : 10 ≤ n) : rI rc ow bd li fl x (n + 1) i = rI rc ow bd li fl x n i := by
  obtain ⟨lo, hi', h1, h2⟩ := ring_L (ow := ow) (bd := bd) (fl := fl) hl hr hi hL h
  have hu : ∀ n, rI rc ow bd li fl x (n + 1) i ≤ rI rc ow bd li fl x n i := fun n => rI_dn hl hx n i hi
  have e1 := h2 x (n - L) (by omega)
  have e2 := h2 x n (by omega)
  rw [show n - L + L = n by omega] at e1
  have u1 := dn_le (f := fun n => rI rc ow bd li fl x n i) hu (n - L) L
  rw [show n - L + L = n by omega] at u1
  have e3 := rC_high h1 e1 e2 u1 hD
  have u2 := dn_le (f := fun n => rI rc ow bd li fl x n i) hu (n + 1) (L - 1)
  rw [show n + 1 + (L - 1) = n + L by omega] at u2
  have u3 := hu n
  omega
/-- where a ring rises and yet stands from below, below and above meet -/
theorem ring_meet (hl : ∀ j, 0 ≤ li j) (hr : ∀ j, j < 5 → rc j < 5) {x y : Nat → Int} (hx : ∀ j, j < 5 → x j ≤ rF rc ow bd li fl x j) (hy : ∀ j, j < 5 → rF rc ow bd li fl y j ≤ y j) {i L : Nat} (hi : i < 5) (hL : 1 ≤ L) (hL5 : L ≤ 5) (h : rP rc i L = i) (hD : 0 < zSm (fun k => rS rc ow bd li fl (rP rc i k)) L) (he : rI rc ow bd li fl x 15 i = rI rc ow bd li fl x 10 i) : rI rc ow bd li fl x 10 i = rI rc ow bd li fl y 10 i := by
  obtain ⟨lo, hi', h1, h2⟩ := ring_L (ow := ow) (bd := bd) (fl := fl) hl hr hi hL h
  have hu : ∀ n, rI rc ow bd li fl x n i ≤ rI rc ow bd li fl x (n + 1) i := fun n => rI_up hl hx n i hi
  have u1 := up_le (f := fun n => rI rc ow bd li fl x n i) hu 10 L
  have u2 := up_le (f := fun n => rI rc ow bd li fl x n i) hu (10 + L) (5 - L)
  rw [show 10 + L + (5 - L) = 15 by omega] at u2
  have e1 := h2 x 10 (by omega)
  have e2 : rI rc ow bd li fl x 10 i = rC lo hi' (rI rc ow bd li fl x 10 i + zSm (fun k => rS rc ow bd li fl (rP rc i k)) L) := by
    rw [← e1]
    have u1 : rI rc ow bd li fl x 10 i ≤ rI rc ow bd li fl x (10 + L) i := u1
    have u2 : rI rc ow bd li fl x (10 + L) i ≤ rI rc ow bd li fl x 15 i := u2
    omega
  have hd : ∀ k, rI rc ow bd li fl y (10 + k) i = rI rc ow bd li fl y 10 i := fun k => by
    induction k with
    | zero => rfl
    | succ k ih =>
      have := ring_high hl hr hy hi hL hL5 h hD (n := 10 + k) (by omega)
      rw [show 10 + (k + 1) = 10 + k + 1 by omega, this, ih]
  have e3 := h2 y 10 (by omega)
  rw [hd L] at e3
  have f1 := rC_fix h1 e2 hD
  have f2 := rC_fix h1 e3 hD
  omega
theorem ring_rot {i L : Nat} (h : rP rc i L = i) : zSm (fun k => rS rc ow bd li fl (rP rc (rc i) k)) L = zSm (fun k => rS rc ow bd li fl (rP rc i k)) L := by
  have e := zSm_shift (fun k => rS rc ow bd li fl (rP rc i k)) L
  rw [h] at e
  rw [show (fun k => rS rc ow bd li fl (rP rc (rc i) k)) = fun k => rS rc ow bd li fl (rP rc i (k + 1)) from funext fun k => by rw [rP_s]]
  have : rS rc ow bd li fl (rP rc i 0) = rS rc ow bd li fl i := rfl
  omega
theorem rF_0 (hl : ∀ j, 0 ≤ li j) (ho : ∀ j, 0 ≤ ow j) (x : Nat → Int) (i : Nat) : 0 ≤ rF rc ow bd li fl x i := by
  have := zSm_nn (f := fun j => if rc j = i then rH bd li fl j (x j) else 0) (n := 5) (fun j hj => by
    by_cases e : rc j = i
    · simp only [if_pos e]
      exact (rH_b hl j _).1
    · simp only [if_neg e]
      exact Int.le_refl _)
  have h2 := ho i
  unfold rF
  omega
/-- what the rounds find fits -/
theorem rings_fix (hl : ∀ j, 0 ≤ li j) (hr : ∀ j, j < 5 → rc j < 5) (ho : ∀ j, 0 ≤ ow j) {M : Int} (hM : ∀ j, j < 5 → rF rc ow bd li fl (fun _ => M) j ≤ M) {Z : Nat → Int}
    (hZ : ∀ i, i < 5 → Z i = if rI rc ow bd li fl (fun _ => 0) 15 i = rI rc ow bd li fl (fun _ => 0) 10 i then rI rc ow bd li fl (fun _ => 0) 15 i else rI rc ow bd li fl (fun _ => M) 10 i) (i : Nat) (hi : i < 5) : rF rc ow bd li fl Z i = Z i := by
  have h0 : ∀ j, j < 5 → (fun _ => 0 : Nat → Int) j ≤ rF rc ow bd li fl (fun _ => 0) j := fun j _ => rF_0 hl ho _ j
  have hfree : ∀ j, j < 5 → ¬ rR rc 5 j → Z j = rI rc ow bd li fl (fun _ => 0) 5 j := fun j hj hf => by
    have e := hZ j hj
    rw [rI_free5 hj hf (fun _ => 0) (n := 15) (by omega), rI_free5 hj hf (fun _ => 0) (n := 10) (by omega), if_pos rfl] at e
    exact e
  have hlow : ∀ j L, j < 5 → 1 ≤ L → L ≤ 5 → rP rc j L = j → zSm (fun k => rS rc ow bd li fl (rP rc j k)) L ≤ 0 → Z j = rI rc ow bd li fl (fun _ => 0) 10 j := fun j L hj h1 h2 h3 h4 => by
    have st := fun n hn => ring_low hl hr h0 hj h1 h2 h3 h4 (n := n) hn
    have e : rI rc ow bd li fl (fun _ => 0) 15 j = rI rc ow bd li fl (fun _ => 0) 10 j := (st 14 (by omega)).trans ((st 13 (by omega)).trans ((st 12 (by omega)).trans ((st 11 (by omega)).trans (st 10 (by omega)))))
    rw [hZ j hj, if_pos e, e]
  have hhigh : ∀ j L, j < 5 → 1 ≤ L → L ≤ 5 → rP rc j L = j → 0 < zSm (fun k => rS rc ow bd li fl (rP rc j k)) L → Z j = rI rc ow bd li fl (fun _ => M) 10 j := fun j L hj h1 h2 h3 h4 => by
    rw [hZ j hj]
    by_cases e : rI rc ow bd li fl (fun _ => 0) 15 j = rI rc ow bd li fl (fun _ => 0) 10 j
    · rw [if_pos e, e]
      exact ring_meet hl hr h0 hM hj h1 h2 h3 h4 e
    · rw [if_neg e]
  by_cases hR : rR rc 5 i
  · obtain ⟨L, h1, h2, h3⟩ := rR_ring hr hR
    have hp5 : rP rc i (L - 1) < 5 := rP_lt hr hi _
    have hpi : rc (rP rc i (L - 1)) = i := by
      have : rP rc i (L - 1 + 1) = i := by rw [show L - 1 + 1 = L by omega]; exact h3
      exact this
    have hpp : rP rc (rP rc i (L - 1)) L = rP rc i (L - 1) := by rw [rP_add, show L - 1 + L = L + (L - 1) by omega, ← rP_add, h3]
    have hrot := ring_rot (ow := ow) (bd := bd) (li := li) (fl := fl) hpp
    rw [hpi] at hrot
    rw [ring_step hr hi h1 h3 rfl Z hfree]
    by_cases hD : zSm (fun k => rS rc ow bd li fl (rP rc i k)) L ≤ 0
    · rw [hlow i L hi h1 h2 h3 hD, hlow _ L hp5 h1 h2 hpp (by rw [← hrot]; exact hD)]
      rw [← ring_step hr hi h1 h3 rfl (rI rc ow bd li fl (fun _ => 0) 10) (fun j hj hf => rI_free5 hj hf _ (by omega))]
      exact ring_low hl hr h0 hi h1 h2 h3 hD (n := 10) (Nat.le_refl _)
    · have hD : 0 < zSm (fun k => rS rc ow bd li fl (rP rc i k)) L := by omega
      rw [hhigh i L hi h1 h2 h3 hD, hhigh _ L hp5 h1 h2 hpp (by rw [← hrot]; exact hD)]
      rw [← ring_step hr hi h1 h3 rfl (rI rc ow bd li fl (fun _ => M) 10) (fun j hj hf => rI_free5 hj hf _ (by omega))]
      exact ring_high hl hr hM hi h1 h2 h3 hD (n := 10) (Nat.le_refl _)
  · rw [hfree i hi hR, ← rI_free5 hi hR (fun _ => 0) (n := 6) (by omega)]
    show ow i + _ = ow i + _
    congr 1
    refine zSm_congr (fun j hj => ?_)
    by_cases e : rc j = i
    · simp only [if_pos e]
      rw [hfree j hj (fun q => hR (by rw [← e]; exact rR_next hr q))]
    · simp only [if_neg e]
/-- what stays with all is what all have to pay -/
theorem rings_sum (hr : ∀ j, j < 5 → rc j < 5) {Z : Nat → Int} (hZ : ∀ i, i < 5 → rF rc ow bd li fl Z i = Z i) : zSm (fun i => Z i - rH bd li fl i (Z i)) 5 = zSm ow 5 := by
  have e1 : zSm Z 5 = zSm (fun i => ow i + zSm (fun j => if rc j = i then rH bd li fl j (Z j) else 0) 5) 5 := zSm_congr (fun i hi => (hZ i hi).symm)
  rw [zSm_add, zSm_swap] at e1
  have e2 : zSm (fun j => zSm (fun i => if rc j = i then rH bd li fl j (Z j) else 0) 5) 5 = zSm (fun j => rH bd li fl j (Z j)) 5 := zSm_congr (fun j hj => zSm_pick (rc j) (fun _ => rH bd li fl j (Z j)) (hr j hj))
  rw [zSm_sub, e1, e2]
  omega
end ZRE
