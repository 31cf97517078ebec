/-! going through all cuts, as the object does it -/
section ZDM
variable (σ : zSt) (b t : Nat)
def dyI (p : Nat) : Int := (sI σ 28 b p).toInt
def smI (p : Nat) : Int := (sL σ 7 b p).toInt
def lyI (x : Int) : Int := max 0 (min (x - (sI σ 12 t 0).toInt) (sI σ 13 t 0).toInt)
def GI (i e : Nat) : Int := lyI σ t (zSm (smI σ b) (e + 1) - zSm (smI σ b) i)
end ZDM
theorem sh_ok : ∀ k : Nat, k < 31 → ((nI k &&& 31).toBitVec.smod 32).toNat = k := by decide +kernel
theorem cut_iff {σ : zSt} {b n c p : Nat} (hn : n ≤ 12) (hp : p < n) (hc : c < 2 ^ (n - 1)) : v_isCut σ b n (nI c) (nI p) = 0 ↔ ¬ (n - 1 - p = 0 ∨ c.testBit (n - 1 - p - 1) = true) := by
  have hc2 : c < 2048 := Nat.lt_of_lt_of_le hc (Nat.pow_le_pow_right (n := 2) (by decide) (show n - 1 ≤ 11 by omega))
  unfold v_isCut
  have e1 : nI n - 1 = nI (n - 1) := pk_sub (a := n) (b := 1) (by omega)
  rw [e1]
  by_cases c1 : p = n - 1
  · rw [if_pos (by rw [c1])]
    constructor
    · intro h
      exact absurd h (by decide)
    · intro h
      exact absurd (Or.inl (by omega)) h
  · rw [if_neg (nI_ne c1 (by omega) (by omega))]
    have e2 : nI n - 2 = nI (n - 2) := pk_sub (a := n) (b := 2) (by omega)
    have e3 : nI (n - 2) - nI p = nI (n - 2 - p) := pk_sub (by omega)
    rw [e2, e3, pk_shrN (by omega) _ (n - 2 - p) (sh_ok _ (by omega)), pk_andN (m := 1) (Nat.lt_of_le_of_lt (Nat.div_le_self _ _) (by omega)) 1 rfl]
    have hb : n - 1 - p - 1 = n - 2 - p := by omega
    rw [hb]
    have hm : c / 2 ^ (n - 2 - p) % 2 ^ 1 = (c.testBit (n - 2 - p)).toNat := by rw [Nat.toNat_testBit, Nat.pow_one]
    rw [hm]
    cases hbit : c.testBit (n - 2 - p) with
    | true =>
      rw [if_pos (by decide)]
      constructor
      · intro h
        exact absurd h (by decide)
      · intro h
        exact absurd (Or.inr rfl) h
    | false =>
      rw [if_neg (by decide)]
      constructor
      · intro _ h
        rcases h with h | h
        · omega
        · cases h
      · intro _
        rfl
/-- the rows of a laying are in their ranges -/
def zDr (σ : zSt) (b t n : Nat) : Prop := n ≤ 12 ∧ zVt σ t ∧ (∀ p, p < n → 0 ≤ dyI σ b p ∧ dyI σ b p ≤ 999) ∧ (∀ p q, p < q → q < n → dyI σ b p < dyI σ b q) ∧ ∀ p, p < n → 0 < smI σ b p ∧ smI σ b p ≤ 30000000
theorem sm_up {σ : zSt} {b n : Nat} (h : ∀ p, p < n → 0 < smI σ b p ∧ smI σ b p ≤ 30000000) : ∀ q i, i ≤ q → q ≤ n → zSm (smI σ b) i ≤ zSm (smI σ b) q ∧ (i < q → zSm (smI σ b) i < zSm (smI σ b) q) ∧ zSm (smI σ b) q - zSm (smI σ b) i ≤ (q - i : Nat) * 30000000
  | 0, i, h1, _ => by
    have : i = 0 := by omega
    subst this
    exact ⟨Int.le_refl _, fun h => absurd h (Nat.lt_irrefl _), by omega⟩
  | q + 1, i, h1, h2 => by
    have hs : zSm (smI σ b) (q + 1) = zSm (smI σ b) q + smI σ b q := rfl
    by_cases e : i = q + 1
    · subst e
      exact ⟨Int.le_refl _, fun h => absurd h (Nat.lt_irrefl _), by omega⟩
    · obtain ⟨k1, k2, k3⟩ := sm_up h q i (by omega) (by omega)
      have := h q (by omega)
      have e2 : ((q + 1 - i : Nat) : Int) = ((q - i : Nat) : Int) + 1 := by omega
      rw [e2]
      exact ⟨by omega, fun _ => by omega, by omega⟩
theorem ly_int {σ : zSt} {t : Nat} (hv : zVt σ t) {x : Int64} {v : Int} (e : x.toInt = v) (h0 : 0 ≤ v) (h1 : v ≤ 1000000000) : (v_layerOf σ t x).toInt = lyI σ t v ∧ 0 ≤ lyI σ t v ∧ lyI σ t v ≤ 1000000 := by
  have h := layer_int hv (x := x) (by omega) (by omega)
  rw [e] at h
  refine ⟨h, ?_, ?_⟩
  · unfold lyI
    omega
  · unfold lyI
    have := hv.2.2.1
    omega
/-- what some cuts would bring -/
theorem worth_ok {σ : zSt} {b t n c : Nat} (h : zDr σ b t n) (hc : c < 2 ^ (n - 1)) : ∀ k, k ≤ n → ∀ r i (w s : Int64) (f : Int32), k < r → i ≤ n - k → ((i = n - k ∧ s.toInt = 0) ∨ (i < n - k ∧ s.toInt = zSm (smI σ b) (n - k) - zSm (smI σ b) i ∧ f = sI σ 28 b i)) → 0 ≤ w.toInt → w.toInt ≤ (n - k : Nat) * 1000000 →
    (∀ v, bWn n (sI σ 14 t 0).toInt (dyI σ b) (GI σ b t) c k i = some v → (lv_worthOf σ b n (nI c) t r (n - k) w s f).toInt = w.toInt + v ∧ 0 ≤ v) ∧ (bWn n (sI σ 14 t 0).toInt (dyI σ b) (GI σ b t) c k i = none → (lv_worthOf σ b n (nI c) t r (n - k) w s f).toInt = -1) := by
  intro k
  induction k with
  | zero =>
    intro _ r i w s f hr hi hs hw0 hw1
    obtain ⟨r, rfl⟩ : ∃ r', r = r' + 1 := ⟨r - 1, by omega⟩
    obtain ⟨hn, hv, hd, hm, hsm⟩ := h
    have e : lv_worthOf σ b n (nI c) t (r + 1) (n - 0) w s f = w := by
      rw [lv_worthOf, if_pos (nI_le (by omega) (by omega))]
    rw [e]
    refine ⟨fun v hv => ?_, fun h => by cases h⟩
    cases hv
    exact ⟨(Int.add_zero _).symm, Int.le_refl _⟩
  | succ k ihk =>
    intro hk r i w s f hr hi hs hw0 hw1
    obtain ⟨r, rfl⟩ : ∃ r', r = r' + 1 := ⟨r - 1, by omega⟩
    have hfull := h
    obtain ⟨hn, hv, hd, hm, hsm⟩ := h
    obtain ⟨q, hq⟩ : ∃ q, q = n - (k + 1) := ⟨_, rfl⟩
    have hqn : q < n := by omega
    rw [← hq] at hi hs hw1 ⊢
    have hq1 : n - k = q + 1 := by omega
    have hWr := hv.2.2.2.2.2.1
    have hsq := hsm q hqn
    have hS := sm_up hsm (q + 1) i (by omega) (by omega)
    have hPq : zSm (smI σ b) (q + 1) = zSm (smI σ b) q + smI σ b q := rfl
    have hdq := hd q hqn
    have hdi := hd i (by omega)
    -- the sum with this day
    have hsum : (s + sL σ 7 b q).toInt = zSm (smI σ b) (q + 1) - zSm (smI σ b) i := by
      have e7 : (sL σ 7 b q).toInt = smI σ b q := rfl
      have s0 : s.toInt = zSm (smI σ b) q - zSm (smI σ b) i := by
        rcases hs with ⟨h1, h2⟩ | ⟨h1, h2, h3⟩
        · rw [h1, h2]
          omega
        · exact h2
      have b1 := sm_up hsm q i hi (by omega)
      rw [l_add (by rw [e7]; omega) (by rw [e7]; omega), s0, e7]
      omega
    have hfs : zSm (smI σ b) (q + 1) - zSm (smI σ b) i ≤ 1000000000 := by
      have := hS.2.2
      omega
    have hly := ly_int hv hsum (by omega) hfs
    have hG : GI σ b t i q = lyI σ t (zSm (smI σ b) (q + 1) - zSm (smI σ b) i) := rfl
    rw [← hG] at hly
    have hcut := cut_iff (σ := σ) (b := b) hn hqn hc
    have hnk : n - 1 - q = k := by omega
    rw [hnk] at hcut
    -- one step, whatever the first day's place
    have hstep : lv_worthOf σ b n (nI c) t (r + 1) q w s f = if dyI σ b q - dyI σ b i < (sI σ 14 t 0).toInt then (if v_isCut σ b n (nI c) (nI q) = 0 then lv_worthOf σ b n (nI c) t r (q + 1) w (s + sL σ 7 b q) (sI σ 28 b i) else lv_worthOf σ b n (nI c) t r (q + 1) (w + v_layerOf σ t (s + sL σ 7 b q)) 0 (sI σ 28 b i)) else -1 := by
      rw [lv_worthOf, if_neg (fun z => absurd ((nIle (m := n) (i := q) (by omega) (by omega)).mp z) (by omega))]
      rcases hs with ⟨h1, h2⟩ | ⟨h1, h2, h3⟩
      · have s0 : s = 0 := l_eq.mpr h2
        rw [if_pos s0]
        have e0 : (sI σ 28 b q - sI σ 28 b q).toInt = 0 := by rw [w_sub' (by omega) (by omega)]; omega
        rw [if_pos (w_lt.mpr (by rw [e0]; omega)), if_pos (show dyI σ b q - dyI σ b i < (sI σ 14 t 0).toInt by rw [h1]; omega), h1]
      · have b1 := (sm_up hsm q i hi (by omega)).2.1 h1
        have s0 : ¬ s = 0 := fun z => by
          have := l_eq.mp z
          rw [l_0] at this
          omega
        rw [if_neg s0, h3]
        have e0 : (sI σ 28 b q - sI σ 28 b i).toInt = dyI σ b q - dyI σ b i := w_sub' (show -2147483648 ≤ dyI σ b q - dyI σ b i by omega) (show dyI σ b q - dyI σ b i < 2147483648 by omega)
        by_cases cW : dyI σ b q - dyI σ b i < (sI σ 14 t 0).toInt
        · rw [if_pos cW, if_pos (w_lt.mpr (by rw [e0]; exact cW))]
        · rw [if_neg cW, if_neg (fun z => cW (by have := w_lt.mp z; rw [e0] at this; exact this))]
    rw [hstep, bWn, ← hq, hq1]
    by_cases cW : dyI σ b q - dyI σ b i < (sI σ 14 t 0).toInt
    · rw [if_pos cW, if_pos cW]
      by_cases cc : v_isCut σ b n (nI c) (nI q) = 0
      · rw [if_pos cc, if_neg (hcut.mp cc)]
        have ih := ihk (by omega) r i w (s + sL σ 7 b q) (sI σ 28 b i) (by omega) (by omega) (Or.inr ⟨by omega, by rw [hq1]; exact hsum, rfl⟩) hw0 (by rw [hq1]; omega)
        rw [hq1] at ih
        exact ih
      · rw [if_neg cc, if_pos (Classical.not_not.mp (fun z => cc (hcut.mpr z)))]
        have hw' : (w + v_layerOf σ t (s + sL σ 7 b q)).toInt = w.toInt + GI σ b t i q := by rw [l_add (by omega) (by omega), hly.1]
        have ih := ihk (by omega) r (q + 1) (w + v_layerOf σ t (s + sL σ 7 b q)) 0 (sI σ 28 b i) (by omega) (by omega) (Or.inl ⟨by omega, rfl⟩) (by omega) (by rw [hq1, hw']; omega)
        rw [hq1] at ih
        refine ⟨fun v hv => ?_, fun hv => ?_⟩
        · cases hb : bWn n (sI σ 14 t 0).toInt (dyI σ b) (GI σ b t) c k (q + 1) with
          | none =>
            rw [hb] at hv
            cases hv
          | some v' =>
            rw [hb] at hv
            have hv : GI σ b t i q + v' = v := Option.some.inj hv
            have := ih.1 v' hb
            rw [this.1, hw', ← hv]
            exact ⟨by omega, by omega⟩
        · cases hb : bWn n (sI σ 14 t 0).toInt (dyI σ b) (GI σ b t) c k (q + 1) with
          | none => exact ih.2 hb
          | some v' =>
            rw [hb] at hv
            cases hv
    · rw [if_neg cW, if_neg cW]
      exact ⟨fun v hv => (by cases hv), fun _ => rfl⟩
theorem bitc_ok : ∀ c : Nat, c < 2048 → v_bitCount zS0 (nI c) = nI (pcn 11 c) := by decide +kernel
theorem pcn_hi {m c : Nat} (h : c < 2 ^ m) : ∀ d, pcn (m + d) c = pcn m c
  | 0 => rfl
  | d + 1 => by
    show pcn (m + d) c + (c.testBit (m + d)).toNat = _
    rw [pcn_hi h d, Nat.testBit_lt_two_pow (Nat.lt_of_lt_of_le h (Nat.pow_le_pow_right (by decide) (Nat.le_add_right m d)))]
    rfl
theorem pcn_le (c : Nat) : ∀ k, pcn k c ≤ k
  | 0 => Nat.le_refl _
  | k + 1 => by
    have := pcn_le c k
    have h2 : (c.testBit k).toNat ≤ 1 := by cases c.testBit k <;> decide
    show pcn k c + (c.testBit k).toNat ≤ k + 1
    omega
theorem bitc {σ : zSt} {m c : Nat} (hm : m ≤ 11) (hc : c < 2 ^ m) : (1 + v_bitCount σ (nI c)).toInt = (ctn (m + 1) c : Int) := by
  have hc2 : c < 2048 := Nat.lt_of_lt_of_le hc (Nat.pow_le_pow_right (n := 2) (by decide) hm)
  have e1 : v_bitCount σ (nI c) = nI (pcn m c) := by
    rw [show v_bitCount σ (nI c) = v_bitCount zS0 (nI c) from rfl, bitc_ok c hc2]
    have := pcn_hi hc (11 - m)
    rw [show m + (11 - m) = 11 by omega] at this
    rw [this]
  have e2 : (1 : Int32) + nI (pcn m c) = nI (1 + pcn m c) := nI_add 1 _
  have := pcn_le c m
  rw [e1, e2, nI_toInt (by omega)]
  rfl
theorem or_ok : ∀ k : Nat, k < 11 → ∀ y : Nat, y < 1024 → 2 ^ (k + 1) * y < 2048 → (nI (2 ^ (k + 1) * y) ||| (1 <<< (nI k &&& 31))) = nI (2 ^ (k + 1) * y + 2 ^ k) := by decide +kernel
/-- the cuts of the laying, as the object puts them together -/
theorem laidc_ok {σ : zSt} {b m : Nat} {E : Nat → Nat} (hm : m ≤ 11) (hE : ∀ p, p < m + 1 → (p ≤ E p ∧ E p < m + 1) ∧ sI σ 29 b p = nI (E p)) : ∀ k, k ≤ m → ∀ r X e (fin : Int32), k < r → X < 2048 → (∃ y, X = 2 ^ k * y) → X + 2 ^ k ≤ 2048 → m - k ≤ e → e < m + 1 → (fin = nI e ∨ (fin < nI (m - k) ∧ e = E (m - k))) → lv_laidCuts σ b m r (m - k) (nI X) fin = nI (X + lNn (m + 1) E (k + 1) e)
  | 0, _, 0, X, e, fin, hr, _, _, _, _, _, _ => absurd hr (Nat.lt_irrefl _)
  | k + 1, _, 0, X, e, fin, hr, _, _, _, _, _, _ => absurd hr (Nat.not_lt_zero _)
  | 0, _, r + 1, X, e, fin, hr, hX, hX2, hX3, h1, h2, hf => by
    have e1 : nI (m + 1) - 1 = nI m := pk_sub (a := m + 1) (b := 1) (by omega)
    rw [lv_laidCuts, e1, if_pos (nI_le (by omega) (by omega))]
    have : lNn (m + 1) E (0 + 1) e = 0 := by
      have := lN_ub (n := m + 1) (E := E) 0 e
      rw [Nat.pow_zero] at this
      omega
    rw [this, Nat.add_zero]
  | k + 1, hk, r + 1, X, e, fin, hr, hX, hX2, hX3, h1, h2, hf => by
    obtain ⟨p, hp⟩ : ∃ p, p = m - (k + 1) := ⟨_, rfl⟩
    rw [← hp] at h1 hf ⊢
    have hpm : p < m := by omega
    have e1 : nI (m + 1) - 1 = nI m := pk_sub (a := m + 1) (b := 1) (by omega)
    have e2 : nI (m + 1) - 2 = nI (m + 1 - 2) := pk_sub (a := m + 1) (b := 2) (by omega)
    have e3 : nI (m + 1 - 2) - nI p = nI (m + 1 - 2 - p) := pk_sub (by omega)
    have e4 : m + 1 - 2 - p = k := by omega
    have hnx : m - k = p + 1 := by omega
    have hlN : lNn (m + 1) E (k + 1 + 1) e = if p = e then 2 ^ k + lNn (m + 1) E (k + 1) (E (p + 1)) else lNn (m + 1) E (k + 1) e := by
      rw [lNn, show m + 1 - (k + 1 + 1) = p by omega, if_neg (show ¬ k + 1 = 0 by omega), show k + 1 - 1 = k from rfl, show m + 1 - (k + 1) = p + 1 by omega]
    obtain ⟨y, hy⟩ := hX2
    have p2 : 2 ^ (k + 1) = 2 ^ k + 2 ^ k := by rw [Nat.pow_succ]; omega
    have hor : nI X ||| (1 <<< (nI k &&& 31)) = nI (X + 2 ^ k) := by
      have hpos := Nat.two_pow_pos (k + 1)
      have hy2 : y < 1024 := by
        have h4 : 2 ≤ 2 ^ (k + 1) := by have := Nat.two_pow_pos k; omega
        have h5 : 2 * y ≤ 2 ^ (k + 1) * y := Nat.mul_le_mul_right y h4
        omega
      rw [hy] at hX ⊢
      exact or_ok k (by omega) y hy2 hX
    -- the event's end is known
    have hmain : ∀ fin', fin' = nI e → (if nI p = fin' then lv_laidCuts σ b m r (p + 1) (nI X ||| (1 <<< (nI k &&& 31))) fin' else lv_laidCuts σ b m r (p + 1) (nI X) fin') = nI (X + lNn (m + 1) E (k + 1 + 1) e) := by
      intro fin' hfe
      subst hfe
      rw [hlN]
      by_cases ce : p = e
      · rw [if_pos (by rw [ce]), if_pos ce, hor]
        have hE1 := hE (p + 1) (by omega)
        have ih := laidc_ok hm hE k (by omega) r (X + 2 ^ k) (E (p + 1)) (nI e) (by omega) (by omega) ⟨2 * y + 1, by rw [hy, Nat.mul_add, Nat.pow_succ, Nat.mul_one, Nat.mul_assoc]⟩ (by omega) (by rw [hnx]; exact hE1.1.1) hE1.1.2 (Or.inr ⟨by rw [hnx]; exact nI_lt (by omega) (by omega), by rw [hnx]⟩)
        rw [hnx] at ih
        rw [ih, Nat.add_assoc]
      · rw [if_neg (nI_ne ce (by omega) (by omega)), if_neg ce]
        have ih := laidc_ok hm hE k (by omega) r X e (nI e) (by omega) hX ⟨2 * y, by rw [hy, Nat.pow_succ, Nat.mul_assoc]⟩ (by omega) (by omega) h2 (Or.inl rfl)
        rw [hnx] at ih
        exact ih
    rw [lv_laidCuts, e1, if_neg (fun z => absurd ((nIle (m := m) (i := p) (by omega) (by omega)).mp z) (by omega)), e2, e3, e4]
    rcases hf with hf | ⟨hf1, hf2⟩
    · rw [if_pos (show nI p ≤ fin by rw [hf]; exact nI_le h1 (by omega))]
      exact hmain fin hf
    · rw [if_neg (show ¬ nI p ≤ fin from fun z => by
        have a1 := w_le.mp z
        have a2 := w_lt.mp hf1
        omega), (hE p (by omega)).2, ← hf2]
      exact hmain (nI e) rfl
/-- going through all cuts finds the laying -/
theorem best_ok {σ : zSt} {b t m : Nat} {E : Nat → Nat} {B : Nat → Int} {C : Nat → Nat} (h : zDr σ b t (m + 1)) (hdp : zDP (m + 1) (sI σ 14 t 0).toInt (dyI σ b) (GI σ b t) E B C) (hE : ∀ p, p < m + 1 → sI σ 29 b p = nI (E p)) : v_bestOfAll σ b m t = 1 := by
  have hm : m ≤ 11 := by have := h.1; omega
  have hE' : ∀ p, p < m + 1 → (p ≤ E p ∧ E p < m + 1) ∧ sI σ 29 b p = nI (E p) := fun p hp => ⟨(hdp.2.1 p hp).1, hE p hp⟩
  have hpow : 2 ^ m ≤ 2048 := Nat.pow_le_pow_right (n := 2) (by decide) hm
  have hdm : ∀ a b', a ≤ b' → b' < m + 1 → dyI σ b a ≤ dyI σ b b' := fun a b' h1 h2 => by
    by_cases e : a = b'
    · rw [e]
      exact Int.le_refl _
    · have := h.2.2.2.1 a b' (by omega) h2
      omega
  obtain ⟨L, hL⟩ : ∃ L, L = lNn (m + 1) E (m + 1) (E 0) := ⟨_, rfl⟩
  have hLlt : L < 2 ^ m := by rw [hL]; exact lN_ub m (E 0)
  have hlc : v_laidCuts σ b m = nI L := by
    have hE0 := hE' 0 (by omega)
    have := laidc_ok hm hE' m (Nat.le_refl _) (m + 1) 0 (E 0) (-1) (by omega) (by decide) ⟨0, rfl⟩ (by omega) (by omega) hE0.1.2 (Or.inr ⟨by rw [Nat.sub_self]; decide, by rw [Nat.sub_self]⟩)
    rw [Nat.sub_self, Nat.zero_add, ← hL] at this
    exact this
  have hw : ∀ c, c < 2 ^ m → (∀ v, bWn (m + 1) (sI σ 14 t 0).toInt (dyI σ b) (GI σ b t) c (m + 1) 0 = some v → (v_worthOf σ b (m + 1) (nI c) t).toInt = v ∧ 0 ≤ v) ∧ (bWn (m + 1) (sI σ 14 t 0).toInt (dyI σ b) (GI σ b t) c (m + 1) 0 = none → (v_worthOf σ b (m + 1) (nI c) t).toInt = -1) := fun c hc => by
    have := worth_ok h (c := c) hc (m + 1) (Nat.le_refl _) (m + 1 + 1) 0 0 0 (sI σ 28 b 0) (by omega) (by omega) (Or.inl ⟨by omega, rfl⟩) (Int.le_refl _) (by rw [Nat.sub_self]; decide)
    rw [Nat.sub_self, l_0] at this
    exact ⟨fun v hv => ⟨(this.1 v hv).1.trans (Int.zero_add _), (this.1 v hv).2⟩, this.2⟩
  have hopt := fun c v hv => opt_ok hdp (c := c) (m + 1) (m + 1) (Nat.le_refl _) (Nat.le_refl _) v (by rw [Nat.sub_self]; exact hv)
  simp only [Nat.sub_self] at hopt
  have hnu : ∀ c, c < 2 ^ m → nun (m + 1) c = c := fun c hc => Nat.mod_eq_of_lt hc
  have hlaid := laid_ok hdp hdm (c := L) m 0 (E 0) (Nat.le_refl _) (Nat.zero_le _) (by rw [Nat.sub_self]; exact Nat.zero_le _) (hE' 0 (by omega)).1.2 (hdp.2.1 0 (by omega)).2.1 (by rw [hnu L hLlt]; exact hL)
  have hB0 : GI σ b t 0 (E 0) + B (E 0 + 1) = B 0 := (hdp.2.1 0 (by omega)).2.2.1.symm
  have hC0 : 1 + C (E 0 + 1) = C 0 := (hdp.2.1 0 (by omega)).2.2.2.symm
  rw [hB0, hC0] at hlaid
  have hBnn : 0 ≤ B 0 := ((hw L hLlt).1 _ hlaid.1).2
  have e1 : nI (m + 1) - 1 = nI m := pk_sub (a := m + 1) (b := 1) (by omega)
  have e2 : (1 : Int32) <<< (nI m &&& 31) = nI (2 ^ m) := by
    have := pk_shlN (n := 1) (nI m &&& 31) m (sh_ok m (by omega)) (by omega)
    rw [Nat.one_mul] at this
    exact this
  have main : ∀ d c r (bc bn : Int32) (most : Int64), d + c = 2 ^ m → d < r → -1 ≤ most.toInt → (c ≤ L → most.toInt < B 0 ∨ (most.toInt = B 0 ∧ (C 0 : Int) < bn.toInt)) → (most.toInt = -1 → bn.toInt ≤ 0) → (L < c → bc = nI L ∧ most.toInt = B 0 ∧ bn.toInt = C 0) → lv_bestOfAll σ b m t r c bc bn most = 1 := by
    intro d
    induction d with
    | zero =>
      intro c r bc bn most hd hr hm1 ha hb' hc'
      obtain ⟨r', rfl⟩ : ∃ r', r = r' + 1 := ⟨r - 1, by omega⟩
      rw [lv_bestOfAll, e1, e2, if_pos (nI_le (by omega) (by omega)), hlc, (hc' (by omega)).1, if_pos rfl]
    | succ d ih =>
      intro c r bc bn most hd hr hm1 ha hb' hc'
      obtain ⟨r', rfl⟩ : ∃ r', r = r' + 1 := ⟨r - 1, by omega⟩
      have hc : c < 2 ^ m := by omega
      rw [lv_bestOfAll, e1, e2, if_neg (fun z => absurd ((nIle (m := 2 ^ m) (i := c) (by omega) (by omega)).mp z) (by omega))]
      have hbc := bitc (σ := σ) hm hc
      -- what this one is worth
      have hwc : ((v_worthOf σ b (m + 1) (nI c) t).toInt = -1) ∨ (0 ≤ (v_worthOf σ b (m + 1) (nI c) t).toInt ∧ (v_worthOf σ b (m + 1) (nI c) t).toInt ≤ B 0 ∧ ((v_worthOf σ b (m + 1) (nI c) t).toInt = B 0 → C 0 ≤ ctn (m + 1) c ∧ (ctn (m + 1) c = C 0 → L ≤ c))) := by
        cases hbw : bWn (m + 1) (sI σ 14 t 0).toInt (dyI σ b) (GI σ b t) c (m + 1) 0 with
        | none => exact Or.inl ((hw c hc).2 hbw)
        | some v =>
          have g := (hw c hc).1 v hbw
          have o := hopt c v hbw
          rw [hnu c hc, ← hL] at o
          rw [g.1]
          exact Or.inr ⟨g.2, o⟩
      have hwL : c = L → (v_worthOf σ b (m + 1) (nI c) t).toInt = B 0 ∧ ctn (m + 1) c = C 0 := fun e => by
        subst e
        exact ⟨((hw c hc).1 _ hlaid.1).1, hlaid.2⟩
      have hct1 : 1 ≤ ctn (m + 1) c := Nat.le_add_right 1 _
      generalize v_worthOf σ b (m + 1) (nI c) t = w at *
      generalize (1 + v_bitCount σ (nI c)) = bb at *
      by_cases c1 : most < w
      · have c1' := l_lt.mp c1
        rw [if_pos c1]
        refine ih (c + 1) r' (nI c) bb w (by omega) (by omega) (by omega) (fun hcL => ?_) (fun hw1 => by omega) (fun hLc => ?_)
        · rcases hwc with g | g
          · omega
          · by_cases e : w.toInt = B 0
            · obtain ⟨g1, g2⟩ := g.2.2 e
              refine Or.inr ⟨e, ?_⟩
              have : ctn (m + 1) c ≠ C 0 := fun z => by have := g2 z; omega
              omega
            · exact Or.inl (by omega)
        · by_cases e : c = L
          · obtain ⟨g1, g2⟩ := hwL e
            exact ⟨by rw [e], g1, by omega⟩
          · have := hc' (by omega)
            rcases hwc with g | g <;> omega
      · have c1' : ¬ most.toInt < w.toInt := fun z => c1 (l_lt.mpr z)
        rw [if_neg c1]
        by_cases c2 : w = most
        · have c2' := l_eq.mp c2
          rw [if_pos c2]
          by_cases c3 : bn ≤ bb
          · have c3' := w_le.mp c3
            rw [if_pos c3]
            refine ih (c + 1) r' bc bn most (by omega) (by omega) hm1 (fun hcL => ha (by omega)) hb' (fun hLc => ?_)
            by_cases e : c = L
            · obtain ⟨g1, g2⟩ := hwL e
              have := ha (by omega)
              omega
            · exact hc' (by omega)
          · have c3' : ¬ bn.toInt ≤ bb.toInt := fun z => c3 (w_le.mpr z)
            rw [if_neg c3]
            refine ih (c + 1) r' (nI c) bb w (by omega) (by omega) (by omega) (fun hcL => ?_) (fun hw1 => by have := hb' (by omega); omega) (fun hLc => ?_)
            · rcases hwc with g | g
              · have := hb' (by omega)
                omega
              · by_cases e : w.toInt = B 0
                · obtain ⟨g1, g2⟩ := g.2.2 e
                  refine Or.inr ⟨e, ?_⟩
                  have : ctn (m + 1) c ≠ C 0 := fun z => by have := g2 z; omega
                  omega
                · exact Or.inl (by omega)
            · by_cases e : c = L
              · obtain ⟨g1, g2⟩ := hwL e
                exact ⟨by rw [e], g1, by omega⟩
              · have := hc' (by omega)
                rcases hwc with g | g
                · omega
                · have := g.2.2 (by omega)
                  omega
        · have c2' : ¬ w.toInt = most.toInt := fun z => c2 (l_eq.mpr z)
          rw [if_neg c2]
          refine ih (c + 1) r' bc bn most (by omega) (by omega) hm1 (fun hcL => ha (by omega)) hb' (fun hLc => ?_)
          by_cases e : c = L
          · obtain ⟨g1, g2⟩ := hwL e
            have := ha (by omega)
            omega
          · exact hc' (by omega)
  exact main (2 ^ m) 0 (2 ^ m + 1) 0 0 (-1) (by omega) (by omega) (by decide) (fun _ => Or.inl (by have : (-1 : Int64).toInt = -1 := rfl; omega)) (fun _ => by decide) (fun z => absurd z (Nat.not_lt_zero _))
