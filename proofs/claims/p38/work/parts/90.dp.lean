/-! layings into events: the best by going back from the last day, and by going through all cuts -/
def pcn : Nat → Nat → Nat
  | 0, _ => 0
  | k + 1, c => pcn k c + (c.testBit k).toNat
/-- events and number of the cuts c among the last f days -/
def ctn : Nat → Nat → Nat
  | 0, _ => 0
  | k + 1, c => 1 + pcn k c
def nun : Nat → Nat → Nat
  | 0, _ => 0
  | k + 1, c => c % 2 ^ k
section ZDP
variable (n : Nat) (W : Int) (dy : Nat → Int) (G : Nat → Nat → Int) (E : Nat → Nat)
/-- what the cuts c bring among the last f days, where an event began at i -/
def bWn (c : Nat) : Nat → Nat → Option Int
  | 0, _ => some 0
  | k + 1, i => if dy (n - (k + 1)) - dy i < W then (if k = 0 ∨ c.testBit (k - 1) = true then (bWn c k (n - k)).map (fun v => G i (n - (k + 1)) + v) else bWn c k i) else none
/-- the cuts of the laying by E, as a number -/
def lNn : Nat → Nat → Nat
  | 0, _ => 0
  | k + 1, e => if n - (k + 1) = e then (if k = 0 then 0 else 2 ^ (k - 1)) + lNn k (E (n - k)) else lNn k e
end ZDP
section ZDQ
variable {n : Nat} {W : Int} {dy : Nat → Int} {G : Nat → Nat → Int} {E : Nat → Nat}
theorem nun_s (k c : Nat) (hk : 0 < k) : nun (k + 1) c = nun k c + 2 ^ (k - 1) * (c.testBit (k - 1)).toNat := by
  obtain ⟨j, rfl⟩ : ∃ j, k = j + 1 := ⟨k - 1, by omega⟩
  show c % 2 ^ (j + 1) = c % 2 ^ j + 2 ^ j * (c.testBit j).toNat
  rw [Nat.mod_pow_succ, Nat.toNat_testBit]
theorem ctn_s (k c : Nat) (hk : 0 < k) : ctn (k + 1) c = ctn k c + (c.testBit (k - 1)).toNat := by
  obtain ⟨j, rfl⟩ : ∃ j, k = j + 1 := ⟨k - 1, by omega⟩
  show 1 + (pcn j c + (c.testBit j).toNat) = 1 + pcn j c + (c.testBit j).toNat
  omega
/-- the first event of some cuts -/
theorem dec_ok {c : Nat} : ∀ k i v, k + 1 ≤ n → bWn n W dy G c (k + 1) i = some v → ∃ j, j ≤ k ∧ dy (n - (j + 1)) - dy i < W ∧ ∃ v', bWn n W dy G c j (n - j) = some v' ∧ v = G i (n - (j + 1)) + v' ∧ ctn (k + 1) c = 1 + ctn j c ∧ nun (k + 1) c = (if j = 0 then 0 else 2 ^ (j - 1)) + nun j c
  | 0, i, v, hn, h => by
    rw [bWn] at h
    by_cases c1 : dy (n - (0 + 1)) - dy i < W
    · rw [if_pos c1, if_pos (show 0 = 0 ∨ c.testBit (0 - 1) = true from Or.inl rfl)] at h
      refine ⟨0, Nat.le_refl _, c1, 0, rfl, ?_, rfl, ?_⟩
      · cases h
        rfl
      · show c % 2 ^ 0 = _
        rw [Nat.pow_zero, Nat.mod_one]
        rfl
    · rw [if_neg c1] at h
      cases h
  | k + 1, i, v, hn, h => by
    rw [bWn] at h
    by_cases c1 : dy (n - (k + 1 + 1)) - dy i < W
    · rw [if_pos c1] at h
      by_cases c2 : c.testBit k = true
      · rw [if_pos (show k + 1 = 0 ∨ c.testBit (k + 1 - 1) = true from Or.inr c2)] at h
        cases hb : bWn n W dy G c (k + 1) (n - (k + 1)) with
        | none =>
          rw [hb] at h
          cases h
        | some v' =>
          rw [hb] at h
          refine ⟨k + 1, Nat.le_refl _, c1, v', hb, ?_, ?_, ?_⟩
          · exact (Option.some.inj h).symm
          · rw [ctn_s _ _ (by omega), show k + 1 - 1 = k from rfl, c2]
            show ctn (k + 1) c + 1 = _
            omega
          · rw [nun_s _ _ (by omega), show k + 1 - 1 = k from rfl, c2, if_neg (by omega)]
            show nun (k + 1) c + 2 ^ k * 1 = _
            omega
      · rw [if_neg (show ¬ (k + 1 = 0 ∨ c.testBit (k + 1 - 1) = true) from fun q => c2 (q.resolve_left (by omega)))] at h
        obtain ⟨j, h1, h2, v', h3, h4, h5, h6⟩ := dec_ok k i v (by omega) h
        have c3 : c.testBit k = false := Bool.eq_false_iff.mpr c2
        refine ⟨j, by omega, h2, v', h3, h4, ?_, ?_⟩
        · rw [ctn_s _ _ (by omega), show k + 1 - 1 = k from rfl, c3]
          exact h5
        · rw [nun_s _ _ (by omega), show k + 1 - 1 = k from rfl, c3]
          exact h6
    · rw [if_neg c1] at h
      cases h
theorem lN_ub : ∀ k e, lNn n E (k + 1) e < 2 ^ k
  | 0, e => by
    simp only [lNn]
    split <;> exact Nat.one_pos
  | k + 1, e => by
    have h1 := lN_ub k (E (n - (k + 1)))
    have h2 := lN_ub k e
    have h3 : 2 ^ (k + 1) = 2 ^ k + 2 ^ k := by rw [Nat.pow_succ]; omega
    rw [lNn]
    split
    · rw [if_neg (by omega), show k + 1 - 1 = k from rfl]
      omega
    · omega
theorem lN_jump : ∀ k j, j ≤ k → k + 1 ≤ n → lNn n E (k + 1) (n - (j + 1)) = (if j = 0 then 0 else 2 ^ (j - 1)) + lNn n E j (E (n - j))
  | 0, j, hj, hn => by
    have : j = 0 := by omega
    subst this
    show (if n - (0 + 1) = n - (0 + 1) then (if 0 = 0 then 0 else 2 ^ (0 - 1)) + lNn n E 0 (E (n - 0)) else lNn n E 0 (n - (0 + 1))) = _
    rw [if_pos rfl]
  | k + 1, j, hj, hn => by
    rw [lNn]
    by_cases c : n - (k + 1 + 1) = n - (j + 1)
    · have : j = k + 1 := by omega
      subst this
      rw [if_pos c]
    · rw [if_neg c]
      exact lN_jump k j (by omega) (by omega)
/-- the laying by E: each event as long as may be, best of those that end elsewhere -/
def zDP (n : Nat) (W : Int) (dy : Nat → Int) (G : Nat → Nat → Int) (E : Nat → Nat) (B : Nat → Int) (C : Nat → Nat) : Prop := (B n = 0 ∧ C n = 0) ∧ (∀ p, p < n → (p ≤ E p ∧ E p < n) ∧ dy (E p) - dy p < W ∧ B p = G p (E p) + B (E p + 1) ∧ C p = 1 + C (E p + 1)) ∧
  ∀ p e, p ≤ e → e < n → dy e - dy p < W → G p e + B (e + 1) ≤ B p ∧ (G p e + B (e + 1) = B p → C p ≤ 1 + C (e + 1) ∧ (C p = 1 + C (e + 1) → e ≤ E p))
/-- no cuts bring more; of those that bring as much none has fewer events; of those none comes first -/
theorem opt_ok {B : Nat → Int} {C : Nat → Nat} (h : zDP n W dy G E B C) {c : Nat} : ∀ f, ∀ f', f' ≤ f → f' ≤ n → ∀ v, bWn n W dy G c f' (n - f') = some v → v ≤ B (n - f') ∧ (v = B (n - f') → C (n - f') ≤ ctn f' c ∧ (ctn f' c = C (n - f') → lNn n E f' (E (n - f')) ≤ nun f' c)) := by
  intro f
  induction f with
  | zero =>
    intro f' h1 h2 v hv
    have : f' = 0 := by omega
    subst this
    cases hv
    rw [Nat.sub_zero, h.1.1, h.1.2]
    exact ⟨Int.le_refl _, fun _ => ⟨Nat.zero_le _, fun _ => Nat.zero_le _⟩⟩
  | succ f ih =>
    intro f' h1 h2 v hv
    rcases Nat.lt_or_ge f' (f + 1) with w | w
    · exact ih f' (by omega) h2 v hv
    · have : f' = f + 1 := by omega
      subst this
      obtain ⟨j, j1, j2, v', j3, j4, j5, j6⟩ := dec_ok f (n - (f + 1)) v h2 hv
      obtain ⟨i1, i2⟩ := ih j (by omega) (by omega) v' j3
      have hp : n - (f + 1) < n := by omega
      have he1 : n - (j + 1) + 1 = n - j := by omega
      have o := h.2.2 (n - (f + 1)) (n - (j + 1)) (by omega) (by omega) j2
      rw [he1] at o
      refine ⟨by omega, fun hvb => ?_⟩
      have e1 : G (n - (f + 1)) (n - (j + 1)) + B (n - j) = B (n - (f + 1)) := by omega
      have e2 : v' = B (n - j) := by omega
      obtain ⟨o1, o2⟩ := o.2 e1
      obtain ⟨k1, k2⟩ := i2 e2
      refine ⟨by omega, fun hc => ?_⟩
      have o3 := o2 (by omega)
      have k3 := k2 (by omega)
      obtain ⟨⟨x1, x2⟩, -⟩ := h.2.1 _ hp
      obtain ⟨j', hj'⟩ : ∃ j', j' = n - 1 - E (n - (f + 1)) := ⟨_, rfl⟩
      have hE : E (n - (f + 1)) = n - (j' + 1) := by omega
      have hj2 : j' ≤ j := by omega
      rw [hE, lN_jump f j' (by omega) h2, j6]
      rcases Nat.lt_or_ge j' j with w2 | w2
      · have p1 : 2 ^ (j - 1) ≤ (if j = 0 then 0 else 2 ^ (j - 1)) + nun j c := by rw [if_neg (by omega)]; omega
        refine Nat.le_trans ?_ p1
        rcases Nat.eq_zero_or_pos j' with w3 | w3
        · subst w3
          rw [if_pos rfl]
          exact Nat.zero_le _
        · obtain ⟨m, rfl⟩ : ∃ m, j' = m + 1 := ⟨j' - 1, by omega⟩
          have l1 := lN_ub (n := n) (E := E) m (E (n - (m + 1)))
          rw [if_neg (by omega), show m + 1 - 1 = m from rfl]
          have l2 : 2 ^ (m + 1) ≤ 2 ^ (j - 1) := Nat.pow_le_pow_right (by decide) (by omega)
          rw [Nat.pow_succ] at l2
          omega
      · have : j' = j := by omega
        subst this
        omega
/-- the laying's own cuts bring what it says -/
theorem laid_ok {B : Nat → Int} {C : Nat → Nat} (h : zDP n W dy G E B C) (hd : ∀ a b, a ≤ b → b < n → dy a ≤ dy b) {c : Nat} : ∀ k i e, k + 1 ≤ n → i ≤ n - (k + 1) → n - (k + 1) ≤ e → e < n → dy e - dy i < W → nun (k + 1) c = lNn n E (k + 1) e → bWn n W dy G c (k + 1) i = some (G i e + B (e + 1)) ∧ ctn (k + 1) c = 1 + C (e + 1)
  | 0, i, e, hn, hi, h1, h2, hW, hc => by
    have he : e = n - (0 + 1) := by omega
    subst he
    rw [bWn, if_pos hW, if_pos (show 0 = 0 ∨ c.testBit (0 - 1) = true from Or.inl rfl)]
    have e1 : n - (0 + 1) + 1 = n := by omega
    rw [e1, h.1.1, h.1.2]
    exact ⟨rfl, rfl⟩
  | k + 1, i, e, hn, hi, h1, h2, hW, hc => by
    have hq : dy (n - (k + 1 + 1)) - dy i < W := by
      have := hd _ _ h1 h2
      omega
    rw [bWn, if_pos hq, ctn_s _ _ (by omega), show k + 1 - 1 = k from rfl]
    rw [nun_s _ _ (by omega), show k + 1 - 1 = k from rfl] at hc
    have hlt : nun (k + 1) c < 2 ^ k := Nat.mod_lt _ (Nat.two_pow_pos k)
    rw [lNn] at hc
    by_cases ce : n - (k + 1 + 1) = e
    · have l1 := lN_ub (n := n) (E := E) k (E (n - (k + 1)))
      rw [if_pos ce, if_neg (by omega), show k + 1 - 1 = k from rfl] at hc
      have hb : c.testBit k = true := by
        cases hb : c.testBit k with
        | true => rfl
        | false =>
          rw [hb] at hc
          have : 2 ^ k * (false : Bool).toNat = 0 := Nat.mul_zero _
          omega
      rw [hb] at hc ⊢
      have hc1 : nun (k + 1) c = lNn n E (k + 1) (E (n - (k + 1))) := by
        have : 2 ^ k * (true : Bool).toNat = 2 ^ k := Nat.mul_one _
        omega
      obtain ⟨⟨x1, x2⟩, x3, x4, x5⟩ := h.2.1 (n - (k + 1)) (by omega)
      obtain ⟨y1, y2⟩ := laid_ok h hd k (n - (k + 1)) (E (n - (k + 1))) (by omega) (Nat.le_refl _) x1 x2 x3 hc1
      rw [if_pos (show k + 1 = 0 ∨ true = true from Or.inr rfl), y1, ← x4, y2, ← x5]
      have e1 : n - (k + 1) = e + 1 := by omega
      rw [e1, ce]
      refine ⟨rfl, ?_⟩
      show C (e + 1) + 1 = 1 + C (e + 1)
      omega
    · rw [if_neg ce] at hc
      have l1 := lN_ub (n := n) (E := E) k e
      have hb : c.testBit k = false := by
        cases hb : c.testBit k with
        | false => rfl
        | true =>
          rw [hb] at hc
          have : 2 ^ k * (true : Bool).toNat = 2 ^ k := Nat.mul_one _
          omega
      rw [hb] at hc ⊢
      have hc1 : nun (k + 1) c = lNn n E (k + 1) e := by
        have : 2 ^ k * (false : Bool).toNat = 0 := Nat.mul_zero _
        omega
      obtain ⟨y1, y2⟩ := laid_ok h hd k i e (by omega) (by omega) (by omega) h2 hW hc1
      rw [if_neg (show ¬ (k + 1 = 0 ∨ false = true) from fun q => by
        rcases q with q | q
        · omega
        · cases q), y1]
      exact ⟨rfl, y2⟩
end ZDQ
