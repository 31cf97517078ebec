/-! the days of a zone -/
theorem lyN {σ : zSt} {b k n : Nat} (hn : n < 30) (h : n = 0 ∨ ¬ sI σ 28 b (n - 1) = sI σ 4 k 0) : s_lyAdd σ b k n = uI (uL (uI σ 28 b n (sI σ 4 k 0)) 7 b n (sL σ 0 k 0)) 27 b 0 (nI n + 1) := by
  unfold s_lyAdd
  have h30 : ¬ (30 : Int32) ≤ nI n := fun q => absurd ((nIle (m := 30) (i := n) (by decide) (by omega)).mp q) (by omega)
  by_cases c : nI n ≤ 0
  · rw [if_pos c, if_neg h30]
    rfl
  · rw [if_neg c]
    rcases h with h | h
    · subst h
      exact absurd (by decide) c
    · rw [if_neg h, if_neg h30]
      rfl
theorem lyO' {σ : zSt} {b k n : Nat} (hn : n < 30) (h0 : 0 < n) (h : sI σ 28 b (n - 1) = sI σ 4 k 0) : s_lyAdd σ b k n = uL σ 7 b (n - 1) (sL σ 7 b (n - 1) + sL σ 0 k 0) := by
  unfold s_lyAdd
  have c : ¬ nI n ≤ 0 := fun q => by
    have := (nIle0 (n := n) (by omega)).mp q
    omega
  rw [if_neg c, if_pos h]
/-- n days in the laying's rows, rising, each a day of an open loss of the zone among the first i; sums above 0 -/
def zDy (b z i n : Nat) (σ : zSt) : Prop := sI σ 27 b 0 = nI n ∧ n ≤ i ∧ (∀ e e', e < e' → e' < n → (sI σ 28 b e).toInt < (sI σ 28 b e').toInt) ∧ (∀ e, e < n → 0 < (sL σ 7 b e).toInt ∧ (sL σ 7 b e).toInt ≤ i * 1000000) ∧
  ∀ e, e < n → ∃ y, y < i ∧ sI σ 1 (sP σ (lx σ (7 + 4 * b) y)) 0 = nI z ∧ (sI σ 28 b e).toInt = (sI σ 4 (lx σ (7 + 4 * b) y) 0).toInt
theorem szN_eq {S : zSt} {b n : Nat} (h : sI S 27 b 0 = nI n) (hn : n < 1000) : szN S b = n := by
  unfold szN
  rw [h, nI_clamp (by omega)]
theorem szA_L (σ : zSt) (b z : Nat) : ∀ i, ∀ t, t ≠ 7 → ∀ o x, sL (szA σ b z i) t o x = sL σ t o x
  | 0, _, _, _, _ => rfl
  | i + 1, t, ht, o, x => by
    have ih := szA_L σ b z i t ht o x
    show sL (if _ then _ else _) t o x = _
    split
    · unfold s_lyAdd
      (repeat' split) <;> first | exact ih | (show sL (uL _ 7 _ _ _) t o x = _; rw [qL_r, if_neg (fun z => ht z.1)]; exact ih) | (show sL (uL _ 7 _ _ _) t o x = _; rw [qL_r, if_neg (fun z => ht z.1)]; exact ih)
    · exact ih
/-- filling the rows -/
theorem fill_ok {σ : zSt} {b z : Nat} (h27 : sI σ 27 b 0 = 0) (hN : sZ σ (7 + 4 * b) ≤ 30) (hs : ∀ y y', y < y' → y' < sZ σ (7 + 4 * b) → (sI σ 4 (lx σ (7 + 4 * b) y) 0).toInt ≤ (sI σ 4 (lx σ (7 + 4 * b) y') 0).toInt)
    (hl : ∀ y, y < sZ σ (7 + 4 * b) → sI σ 1 (sP σ (lx σ (7 + 4 * b) y)) 0 = nI z → 0 < (sL σ 0 (lx σ (7 + 4 * b) y) 0).toInt ∧ (sL σ 0 (lx σ (7 + 4 * b) y) 0).toInt ≤ 1000000) : ∀ i, i ≤ sZ σ (7 + 4 * b) → ∃ n, zDy b z i n (szA σ b z i)
  | 0, _ => ⟨0, h27, Nat.le_refl _, fun _ _ _ h => absurd h (Nat.not_lt_zero _), fun _ h => absurd h (Nat.not_lt_zero _), fun _ h => absurd h (Nat.not_lt_zero _)⟩
  | i + 1, hi => by
    obtain ⟨n, h1, h2, h3, h4, h5⟩ := fill_ok h27 hN hs hl i (by omega)
    have e2 := szA_22 σ b z i
    have eI : ∀ t, t ≠ 27 → t ≠ 28 → ∀ o x, sI (szA σ b z i) t o x = sI σ t o x := fun t q1 q2 o x => szA_I σ b z i q1 q2 o x
    have eL : ∀ t, t ≠ 7 → ∀ o x, sL (szA σ b z i) t o x = sL σ t o x := szA_L σ b z i
    have hx : ∀ y, lx (szA σ b z i) (7 + 4 * b) y = lx σ (7 + 4 * b) y := fun y => by unfold lx; rw [show sE (szA σ b z i) = sE σ from congrArg (fun z => z.1) e2]
    have hP : sP (szA σ b z i) = sP σ := congrArg (fun z => z.2.2.2.2.2.1) e2
    have hn := szN_eq h1 (by omega)
    show ∃ n, zDy b z (i + 1) n (if sI (szA σ b z i) 1 (sP (szA σ b z i) (lx σ (7 + 4 * b) i)) 0 = nI z then s_lyAdd (szA σ b z i) b (lx σ (7 + 4 * b) i) (szN (szA σ b z i) b) else szA σ b z i)
    have h5' : ∀ e, e < n → ∃ y, y < i ∧ sI σ 1 (sP σ (lx σ (7 + 4 * b) y)) 0 = nI z ∧ (sI (szA σ b z i) 28 b e).toInt = (sI σ 4 (lx σ (7 + 4 * b) y) 0).toInt := fun e he => by
      obtain ⟨y, y1, y2, y3⟩ := h5 e he
      rw [hx, hP, eI 1 (by decide) (by decide)] at y2
      rw [hx, eI 4 (by decide) (by decide)] at y3
      exact ⟨y, y1, y2, y3⟩
    clear h5
    rw [hn]
    by_cases c : sI (szA σ b z i) 1 (sP (szA σ b z i) (lx σ (7 + 4 * b) i)) 0 = nI z
    · rw [if_pos c]
      rw [hP, eI 1 (by decide) (by decide)] at c
      have hli := hl i (by omega) c
      have eday : sI (szA σ b z i) 4 (lx σ (7 + 4 * b) i) 0 = sI σ 4 (lx σ (7 + 4 * b) i) 0 := eI 4 (by decide) (by decide) _ _
      have elft : sL (szA σ b z i) 0 (lx σ (7 + 4 * b) i) 0 = sL σ 0 (lx σ (7 + 4 * b) i) 0 := eL 0 (by decide) _ _
      generalize szA σ b z i = S at *
      by_cases c2 : n = 0 ∨ ¬ sI S 28 b (n - 1) = sI S 4 (lx σ (7 + 4 * b) i) 0
      · rw [lyN (by omega) c2, eday, elft]
        have r28 : ∀ e, sI (uI (uL (uI S 28 b n (sI σ 4 (lx σ (7 + 4 * b) i) 0)) 7 b n (sL σ 0 (lx σ (7 + 4 * b) i) 0)) 27 b 0 (nI n + 1)) 28 b e = if e = n then sI σ 4 (lx σ (7 + 4 * b) i) 0 else sI S 28 b e := fun e => by
          rw [qI_r, if_neg (fun q => by omega)]
          show sI (uI S 28 b n (sI σ 4 (lx σ (7 + 4 * b) i) 0)) 28 b e = _
          rw [qI_r]
          by_cases q : e = n
          · rw [if_pos ⟨rfl, rfl, q⟩, if_pos q]
          · rw [if_neg (fun z => q z.2.2), if_neg q]
        have r7 : ∀ e, sL (uI (uL (uI S 28 b n (sI σ 4 (lx σ (7 + 4 * b) i) 0)) 7 b n (sL σ 0 (lx σ (7 + 4 * b) i) 0)) 27 b 0 (nI n + 1)) 7 b e = if e = n then sL σ 0 (lx σ (7 + 4 * b) i) 0 else sL S 7 b e := fun e => by
          show sL (uL (uI S 28 b n (sI σ 4 (lx σ (7 + 4 * b) i) 0)) 7 b n (sL σ 0 (lx σ (7 + 4 * b) i) 0)) 7 b e = _
          rw [qL_r]
          by_cases q : e = n
          · rw [if_pos ⟨rfl, rfl, q⟩, if_pos q]
          · rw [if_neg (fun z => q z.2.2), if_neg q]
            rfl
        have rI : ∀ t, t ≠ 27 → t ≠ 28 → ∀ o x, sI (uI (uL (uI S 28 b n (sI σ 4 (lx σ (7 + 4 * b) i) 0)) 7 b n (sL σ 0 (lx σ (7 + 4 * b) i) 0)) 27 b 0 (nI n + 1)) t o x = sI σ t o x := fun t q1 q2 o x => by
          rw [qI_r, if_neg (fun z => q1 z.1)]
          show sI (uI S 28 b n (sI σ 4 (lx σ (7 + 4 * b) i) 0)) t o x = _
          rw [qI_r, if_neg (fun z => q2 z.1)]
          exact eI t q1 q2 o x
        refine ⟨n + 1, ?_, by omega, fun e e' he he' => ?_, fun e he => ?_, fun e he => ?_⟩
        · rw [qI_r, if_pos ⟨rfl, rfl, rfl⟩]
          exact nI_add n 1
        · rw [r28, r28, if_neg (show ¬ e = n by omega)]
          by_cases q : e' = n
          · rw [if_pos q]
            obtain ⟨y, y1, y2, y3⟩ := h5' (n - 1) (by omega)
            have g1 := hs y i y1 (by omega)
            have g2 : ¬ (sI S 28 b (n - 1)).toInt = (sI σ 4 (lx σ (7 + 4 * b) i) 0).toInt := fun z => by
              rcases c2 with c2 | c2
              · omega
              · exact c2 (by rw [eday]; exact w_eq.mpr z)
            have g3 : (sI S 28 b e).toInt ≤ (sI S 28 b (n - 1)).toInt := by
              by_cases w : e = n - 1
              · rw [w]
                exact Int.le_refl _
              · have := h3 e (n - 1) (by omega) (by omega)
                omega
            omega
          · rw [if_neg q]
            exact h3 e e' he (by omega)
        · rw [r7]
          by_cases q : e = n
          · rw [if_pos q]
            exact ⟨hli.1, by have := hli.2; omega⟩
          · rw [if_neg q]
            have := h4 e (by omega)
            exact ⟨this.1, by omega⟩
        · rw [r28]
          by_cases q : e = n
          · rw [if_pos q]
            refine ⟨i, Nat.lt_succ_self _, ?_, ?_⟩
            · rw [rI 1 (by decide) (by decide)]
              show sI σ 1 (sP S (lx S (7 + 4 * b) i)) 0 = nI z
              rw [hx, hP]
              exact c
            · rw [rI 4 (by decide) (by decide)]
              show _ = (sI σ 4 (lx S (7 + 4 * b) i) 0).toInt
              rw [hx]
          · rw [if_neg q]
            obtain ⟨y, y1, y2, y3⟩ := h5' e (by omega)
            refine ⟨y, by omega, ?_, ?_⟩
            · rw [rI 1 (by decide) (by decide)]
              show sI σ 1 (sP S (lx S (7 + 4 * b) y)) 0 = nI z
              rw [hx, hP]
              exact y2
            · rw [rI 4 (by decide) (by decide)]
              show _ = (sI σ 4 (lx S (7 + 4 * b) y) 0).toInt
              rw [hx]
              exact y3
      · have c3 : 0 < n := by
          rcases Nat.eq_zero_or_pos n with q | q
          · exact absurd (Or.inl q) c2
          · exact q
        have c4 : sI S 28 b (n - 1) = sI S 4 (lx σ (7 + 4 * b) i) 0 := Classical.byContradiction (fun q => c2 (Or.inr q))
        rw [lyO' (by omega) c3 c4, elft]
        refine ⟨n, h1, by omega, h3, fun e he => ?_, fun e he => ?_⟩
        · have g := h4 e he
          rw [qL_r]
          by_cases q : e = n - 1
          · rw [if_pos ⟨rfl, rfl, q⟩, ← q]
            have := hli.1
            have := hli.2
            rw [l_add (by omega) (by omega)]
            exact ⟨by omega, by omega⟩
          · rw [if_neg (fun z => q z.2.2)]
            exact ⟨g.1, by omega⟩
        · obtain ⟨y, y1, y2, y3⟩ := h5' e he
          refine ⟨y, by omega, ?_, ?_⟩
          · show sI S 1 (sP S (lx S (7 + 4 * b) y)) 0 = nI z
            rw [hx, hP, eI 1 (by decide) (by decide)]
            exact y2
          · show _ = (sI S 4 (lx S (7 + 4 * b) y) 0).toInt
            rw [hx, eI 4 (by decide) (by decide)]
            exact y3
    · rw [if_neg c]
      refine ⟨n, h1, by omega, h3, fun e he => ?_, fun e he => ?_⟩
      · have := h4 e he
        exact ⟨this.1, by omega⟩
      · obtain ⟨y, y1, y2, y3⟩ := h5' e he
        refine ⟨y, by omega, ?_, ?_⟩
        · rw [hx, hP, eI 1 (by decide) (by decide)]
          exact y2
        · rw [hx, eI 4 (by decide) (by decide)]
          exact y3
