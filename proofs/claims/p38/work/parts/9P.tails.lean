/-! the tails of scenarios -/
section ZTL
variable {S T : zSt} {n : Nat}
theorem zwt_c (h : ∀ i, i < n → sL S 6 (lx S 3 i) 0 = sL T 6 (lx T 3 i) 0 ∧ sI S 24 (lx S 3 i) 0 = sI T 24 (lx T 3 i) 0) (x : Int64) : ∀ i, i ≤ n → zwt S x i = zwt T x i
  | 0, _ => rfl
  | i + 1, hi => by
    have g := h i (by omega)
    show (if x < sL S 6 (lx S 3 i) 0 then zwt S x i + sI S 24 (lx S 3 i) 0 else zwt S x i) = if x < sL T 6 (lx T 3 i) 0 then zwt T x i + sI T 24 (lx T 3 i) 0 else zwt T x i
    rw [zwt_c h x i (by omega), g.1, g.2]
theorem wab_c (h : ∀ i, i < n → sL S 6 (lx S 3 i) 0 = sL T 6 (lx T 3 i) 0 ∧ sI S 24 (lx S 3 i) 0 = sI T 24 (lx T 3 i) 0) (h1 : sZ S 3 = n) (h2 : sZ T 3 = n) (x : Int64) : v_weightAbove S x = v_weightAbove T x := by
  unfold v_weightAbove
  rw [h1, h2]
  exact zwt_c h x n (Nat.le_refl _)
theorem tl_c (h : ∀ i, i < n → sL S 6 (lx S 3 i) 0 = sL T 6 (lx T 3 i) 0 ∧ sI S 24 (lx S 3 i) 0 = sI T 24 (lx T 3 i) 0) (h1 : sZ S 3 = n) (h2 : sZ T 3 = n) (al : Int32) : ∀ i, i ≤ n → tlI S al i = tlI T al i
  | 0, _ => rfl
  | i + 1, hi => by
    have g := h i (by omega)
    show (if sL S 6 (lx S 3 i) 0 < tlI S al i then (if al < v_weightAbove S (sL S 6 (lx S 3 i) 0) * 100 then tlI S al i else sL S 6 (lx S 3 i) 0) else tlI S al i) = if sL T 6 (lx T 3 i) 0 < tlI T al i then (if al < v_weightAbove T (sL T 6 (lx T 3 i) 0) * 100 then tlI T al i else sL T 6 (lx T 3 i) 0) else tlI T al i
    rw [tl_c h h1 h2 al i (by omega), g.1, wab_c h h1 h2]
theorem mn_c (h : ∀ i, i < n → sL S 6 (lx S 3 i) 0 = sL T 6 (lx T 3 i) 0 ∧ sI S 24 (lx S 3 i) 0 = sI T 24 (lx T 3 i) 0) : ∀ i, i ≤ n → mnS S i = mnS T i ∧ mnW S i = mnW T i
  | 0, _ => ⟨rfl, rfl⟩
  | i + 1, hi => by
    have g := h i (by omega)
    have a := mn_c h i (by omega)
    show mnS S i + sL S 6 (lx S 3 i) 0 * (sI S 24 (lx S 3 i) 0).toInt64 = mnS T i + sL T 6 (lx T 3 i) 0 * (sI T 24 (lx T 3 i) 0).toInt64 ∧ mnW S i + (sI S 24 (lx S 3 i) 0).toInt64 = mnW T i + (sI T 24 (lx T 3 i) 0).toInt64
    rw [a.1, a.2, g.1, g.2]
    exact ⟨rfl, rfl⟩
/-- a net that may be a tail -/
def zcd (S : zSt) (al : Int32) (j : Nat) : Prop := ¬ al < v_weightAbove S (sL S 6 (lx S 3 j) 0) * 100
theorem tl_char (S : zSt) (al : Int32) : ∀ i, (tlI S al i = 1000000000000 ∨ ∃ j, j < i ∧ zcd S al j ∧ tlI S al i = sL S 6 (lx S 3 j) 0) ∧ (∀ j, j < i → zcd S al j → (tlI S al i).toInt ≤ (sL S 6 (lx S 3 j) 0).toInt) ∧ (tlI S al i).toInt ≤ 1000000000000
  | 0 => ⟨Or.inl rfl, fun j hj => absurd hj (Nat.not_lt_zero _), by show (1000000000000 : Int64).toInt ≤ _; decide⟩
  | i + 1 => by
    obtain ⟨h1, h2, h3⟩ := tl_char S al i
    have e : tlI S al (i + 1) = if sL S 6 (lx S 3 i) 0 < tlI S al i then (if al < v_weightAbove S (sL S 6 (lx S 3 i) 0) * 100 then tlI S al i else sL S 6 (lx S 3 i) 0) else tlI S al i := rfl
    have k1 : tlI S al i = 1000000000000 ∨ ∃ j, j < i + 1 ∧ zcd S al j ∧ tlI S al i = sL S 6 (lx S 3 j) 0 := by
      rcases h1 with h1 | ⟨j, hj, hc, hv⟩
      · exact Or.inl h1
      · exact Or.inr ⟨j, by omega, hc, hv⟩
    rw [e]
    by_cases a : sL S 6 (lx S 3 i) 0 < tlI S al i
    · have a' := l_lt.mp a
      rw [if_pos a]
      by_cases b : al < v_weightAbove S (sL S 6 (lx S 3 i) 0) * 100
      · rw [if_pos b]
        refine ⟨k1, fun j hj hc => ?_, h3⟩
        by_cases q : j = i
        · rw [q] at hc
          exact absurd b hc
        · exact h2 j (by omega) hc
      · rw [if_neg b]
        refine ⟨Or.inr ⟨i, by omega, b, rfl⟩, fun j hj hc => ?_, by omega⟩
        by_cases q : j = i
        · rw [q]
          exact Int.le_refl _
        · have := h2 j (by omega) hc
          omega
    · rw [if_neg a]
      refine ⟨k1, fun j hj hc => ?_, h3⟩
      by_cases q : j = i
      · rw [q]
        have := mt l_lt.mpr a
        omega
      · exact h2 j (by omega) hc
theorem tl_mono (S : zSt) {al al' : Int32} (h : al ≤ al') (i : Nat) : (tlI S al' i).toInt ≤ (tlI S al i).toInt := by
  obtain ⟨h1, -, -⟩ := tl_char S al i
  obtain ⟨-, k2, k3⟩ := tl_char S al' i
  rcases h1 with h1 | ⟨j, hj, hc, hv⟩
  · rw [h1]
    have : (1000000000000 : Int64).toInt = 1000000000000 := rfl
    omega
  · rw [hv]
    refine k2 j hj (fun z => hc (w_lt.mpr ?_))
    have := w_lt.mp z
    have := w_le.mp h
    omega
theorem amax (f : Nat → Int) : ∀ n : Nat, 0 < n → ∃ z, z < n ∧ ∀ j, j < n → f j ≤ f z
  | 0, h => absurd h (Nat.not_lt_zero _)
  | 1, _ => ⟨0, Nat.one_pos, fun j hj => by rw [show j = 0 by omega]; exact Int.le_refl _⟩
  | n + 2, _ => by
    obtain ⟨z, hz, hm⟩ := amax f (n + 1) (Nat.succ_pos _)
    by_cases c : f z ≤ f (n + 1)
    · refine ⟨n + 1, by omega, fun j hj => ?_⟩
      by_cases q : j = n + 1
      · rw [q]
        exact Int.le_refl _
      · exact Int.le_trans (hm j (by omega)) c
    · refine ⟨z, by omega, fun j hj => ?_⟩
      by_cases q : j = n + 1
      · rw [q]
        omega
      · exact hm j (by omega)
theorem zwt_b (hn : n ≤ 12) (hw : ∀ i, i < n → 1 ≤ (sI S 24 (lx S 3 i) 0).toInt ∧ (sI S 24 (lx S 3 i) 0).toInt ≤ 9) (x : Int64) : ∀ i, i ≤ n → (0 ≤ (zwt S x i).toInt ∧ (zwt S x i).toInt ≤ i * 9) ∧ ((zwt S x i).toInt = 0 → ∀ j, j < i → ¬ x < sL S 6 (lx S 3 j) 0) ∧ ((∀ j, j < i → ¬ x < sL S 6 (lx S 3 j) 0) → zwt S x i = 0)
  | 0, _ => by
    have o : (0 : Int32).toInt = 0 := rfl
    exact ⟨⟨by show 0 ≤ (0 : Int32).toInt; omega, by show (0 : Int32).toInt ≤ _; omega⟩, fun _ j hj => absurd hj (Nat.not_lt_zero _), fun _ => rfl⟩
  | i + 1, hi => by
    obtain ⟨⟨h1, h2⟩, h3, h4⟩ := zwt_b hn hw x i (by omega)
    have g := hw i (by omega)
    have e : zwt S x (i + 1) = if x < sL S 6 (lx S 3 i) 0 then zwt S x i + sI S 24 (lx S 3 i) 0 else zwt S x i := rfl
    rw [e]
    by_cases q : x < sL S 6 (lx S 3 i) 0
    · have ea : (zwt S x i + sI S 24 (lx S 3 i) 0).toInt = (zwt S x i).toInt + (sI S 24 (lx S 3 i) 0).toInt := w_add' (by omega) (by omega)
      rw [if_pos q, ea]
      exact ⟨⟨by omega, by omega⟩, fun z => by omega, fun z => absurd q (z i (by omega))⟩
    · rw [if_neg q]
      refine ⟨⟨h1, by omega⟩, fun z j hj => ?_, fun z => h4 (fun j hj => z j (by omega))⟩
      by_cases p : j = i
      · rw [p]
        exact q
      · exact h3 z j (by omega)
/-- what nets weigh -/
theorem mn_b (hn : n ≤ 12) (hw : ∀ i, i < n → 1 ≤ (sI S 24 (lx S 3 i) 0).toInt ∧ (sI S 24 (lx S 3 i) 0).toInt ≤ 9) {M : Int} (hM : M ≤ 30000000) (hN : ∀ i, i < n → 0 ≤ (sL S 6 (lx S 3 i) 0).toInt ∧ (sL S 6 (lx S 3 i) 0).toInt ≤ M) : ∀ i, i ≤ n → (0 ≤ (mnS S i).toInt ∧ (mnS S i).toInt ≤ i * 270000000 ∧ (mnS S i).toInt ≤ M * (mnW S i).toInt) ∧ i ≤ (mnW S i).toInt ∧ (mnW S i).toInt ≤ i * 9
  | 0, _ => by
    have o : (0 : Int64).toInt = 0 := rfl
    refine ⟨⟨?_, ?_, ?_⟩, ?_, ?_⟩
    · show 0 ≤ (0 : Int64).toInt
      omega
    · show (0 : Int64).toInt ≤ _
      omega
    · show (0 : Int64).toInt ≤ M * (0 : Int64).toInt
      rw [o, Int.mul_zero]
      exact Int.le_refl _
    · show _ ≤ (0 : Int64).toInt
      omega
    · show (0 : Int64).toInt ≤ _
      omega
  | i + 1, hi => by
    obtain ⟨⟨a1, a2, a3⟩, a4, a5⟩ := mn_b hn hw hM hN i (by omega)
    have g := hw i (by omega)
    have k := hN i (by omega)
    have eS : mnS S (i + 1) = mnS S i + sL S 6 (lx S 3 i) 0 * (sI S 24 (lx S 3 i) 0).toInt64 := rfl
    have eW : mnW S (i + 1) = mnW S i + (sI S 24 (lx S 3 i) 0).toInt64 := rfl
    have m0 : 0 ≤ (sL S 6 (lx S 3 i) 0).toInt * (sI S 24 (lx S 3 i) 0).toInt := Int.mul_nonneg k.1 (by omega)
    have m1 : (sL S 6 (lx S 3 i) 0).toInt * (sI S 24 (lx S 3 i) 0).toInt ≤ 30000000 * 9 := Int.mul_le_mul (by omega) g.2 (by omega) (by decide)
    have m2 : (sL S 6 (lx S 3 i) 0).toInt * (sI S 24 (lx S 3 i) 0).toInt ≤ M * (sI S 24 (lx S 3 i) 0).toInt := Int.mul_le_mul_of_nonneg_right k.2 (by omega)
    have ep : (sL S 6 (lx S 3 i) 0 * (sI S 24 (lx S 3 i) 0).toInt64).toInt = (sL S 6 (lx S 3 i) 0).toInt * (sI S 24 (lx S 3 i) 0).toInt := by
      rw [l_mul (by rw [l_of]; omega) (by rw [l_of]; omega), l_of]
    have es : (mnS S (i + 1)).toInt = (mnS S i).toInt + (sL S 6 (lx S 3 i) 0).toInt * (sI S 24 (lx S 3 i) 0).toInt := by
      rw [eS, l_add (by rw [ep]; omega) (by rw [ep]; omega), ep]
    have ew : (mnW S (i + 1)).toInt = (mnW S i).toInt + (sI S 24 (lx S 3 i) 0).toInt := by
      rw [eW, l_add (by rw [l_of]; omega) (by rw [l_of]; omega), l_of]
    rw [es, ew, Int.mul_add]
    exact ⟨⟨by omega, by omega, by omega⟩, by omega, by omega⟩
end ZTL
section ZTM
variable {ρ σ : zSt} {f f' : Nat → Int32} {cm cm' : Int64}
theorem pa_J (h : zJ ρ f cm) : ∀ i, i ≤ sN ρ 3 → zJ (paI ρ i) f cm ∧ zFs (paI ρ i) ρ ∧ ∀ z, sL (paI ρ i) 6 z 0 = if z < i then v_scNet ρ z else sL ρ 6 z 0
  | 0, _ => ⟨h, zFs.rf, fun _ => rfl⟩
  | i + 1, hi => by
    obtain ⟨a1, a2, a3⟩ := pa_J h i (by omega)
    have e3 : lx ρ 3 i = i := h.1.2.1.2.2.2.1 i (by omega)
    have ea : paI ρ (i + 1) = s_play (paI ρ i) i := by
      show s_play (paI ρ i) (lx ρ 3 i) = _
      rw [e3]
    rw [ea]
    obtain ⟨b1, b2, b3⟩ := play_J (c := i) a1 (by rw [a2.1.1]; omega)
    refine ⟨b1, (play_W a1.1).2.trans a2, fun z => ?_⟩
    rw [b2, play_a a1 h a2 (by omega), a3]
    by_cases q : z = i
    · rw [if_pos q, q, if_pos (by omega)]
    · rw [if_neg q]
      by_cases p : z < i
      · rw [if_pos p, if_pos (by omega)]
      · rw [if_neg p, if_neg (by omega)]
theorem all_v (h : zJ ρ f cm) (h' : zJ σ f' cm') (e : zFs ρ σ) : zJ (s_playAll ρ) f cm ∧ zFs (s_playAll ρ) ρ ∧ sZ (s_playAll ρ) 3 = sN σ 3 ∧ ∀ i, i < sN σ 3 → sL (s_playAll ρ) 6 (lx (s_playAll ρ) 3 i) 0 = v_scNet σ i ∧ sI (s_playAll ρ) 24 (lx (s_playAll ρ) 3 i) 0 = sI σ 24 i 0 := by
  have hN : sN ρ = sN σ := e.1.1
  have z3 : sZ ρ 3 = sN σ 3 := by rw [h.1.1.2.2.2.2.1.1, hN]
  obtain ⟨a1, a2, a3⟩ := pa_J h (sN σ 3) (by rw [hN]; exact Nat.le_refl _)
  have ea : s_playAll ρ = paI ρ (sN σ 3) := by
    unfold s_playAll
    rw [z3]
  rw [ea]
  refine ⟨a1, a2, ?_, fun i hi => ?_⟩
  · rw [a1.1.1.2.2.2.2.1.1, a2.1.1, hN]
  · have e3 : lx (paI ρ (sN σ 3)) 3 i = i := a1.1.2.1.2.2.2.1 i (by rw [a2.1.1, hN]; exact hi)
    rw [e3, a3, if_pos hi, play_a h h' e hi, a2.2.2.1 24 (by unfold zsT; omega), e.2.2.1 24 (by unfold zsT; omega)]
    exact ⟨rfl, rfl⟩
end ZTM
theorem zhJt_ok : zhJt zJ := fun σ f c h h0 => by
  have h12 : sN σ 3 ≤ 12 := h.1.1.2.2.2.2.1.2
  obtain ⟨A1, A2, A3, A4⟩ := all_v h h zFs.rf
  have nb : ∀ z, z < sN σ 3 → 0 ≤ (v_scNet σ z).toInt ∧ (v_scNet σ z).toInt ≤ 30000000 := fun z hz => (play_J h hz).2.2
  have ct : ∀ ρ, zJ ρ f c ∧ zFs ρ σ → sZ (s_playAll ρ) 3 = sN σ 3 ∧ ∀ i, i < sN σ 3 → sL (s_playAll ρ) 6 (lx (s_playAll ρ) 3 i) 0 = sL (s_playAll σ) 6 (lx (s_playAll σ) 3 i) 0 ∧ sI (s_playAll ρ) 24 (lx (s_playAll ρ) 3 i) 0 = sI (s_playAll σ) 24 (lx (s_playAll σ) 3 i) 0 := fun ρ hρ => by
    obtain ⟨b1, b2, b3, b4⟩ := all_v hρ.1 h hρ.2
    exact ⟨b3, fun i hi => by rw [(b4 i hi).1, (b4 i hi).2, (A4 i hi).1, (A4 i hi).2]; exact ⟨rfl, rfl⟩⟩
  have hw : ∀ i, i < sN σ 3 → 1 ≤ (sI (s_playAll σ) 24 (lx (s_playAll σ) 3 i) 0).toInt ∧ (sI (s_playAll σ) 24 (lx (s_playAll σ) 3 i) 0).toInt ≤ 9 := fun i hi => by
    rw [(A4 i hi).2]
    exact (h.2.1.2.2.2.2 i hi).2.1
  have o0 : (0 : Int32).toInt = 0 := rfl
  have o100 : (100 : Int32).toInt = 100 := rfl
  have wb : ∀ x, (0 ≤ (v_weightAbove (s_playAll σ) x).toInt ∧ (v_weightAbove (s_playAll σ) x).toInt ≤ 108) ∧ ((v_weightAbove (s_playAll σ) x).toInt = 0 → ∀ j, j < sN σ 3 → ¬ x < sL (s_playAll σ) 6 (lx (s_playAll σ) 3 j) 0) ∧ ((∀ j, j < sN σ 3 → ¬ x < sL (s_playAll σ) 6 (lx (s_playAll σ) 3 j) 0) → v_weightAbove (s_playAll σ) x = 0) := fun x => by
    have g := zwt_b h12 hw x (sN σ 3) (Nat.le_refl _)
    unfold v_weightAbove
    rw [A3]
    exact ⟨⟨g.1.1, by have := g.1.2; omega⟩, g.2⟩
  have eT : ∀ x, v_tail σ x = tlI (s_playAll σ) (x * v_weightAbove (s_playAll σ) (-1)) (sN σ 3) := fun x => by
    unfold v_tail
    rw [A3]
  -- the tail at none is the greatest net
  obtain ⟨z0, hz0, hm0⟩ := amax (fun j => (v_scNet σ j).toInt) (sN σ 3) h0
  have al0 : nI 0 * v_weightAbove (s_playAll σ) (-1) = 0 := Int32.zero_mul
  have c0 : zcd (s_playAll σ) 0 z0 := by
    unfold zcd
    rw [(wb _).2.2 (fun j hj z => by
      have z' := l_lt.mp z
      rw [(A4 j hj).1, (A4 z0 hz0).1] at z'
      have : (v_scNet σ j).toInt ≤ (v_scNet σ z0).toInt := hm0 j hj
      omega)]
    decide
  obtain ⟨t1, t2, t3⟩ := tl_char (s_playAll σ) 0 (sN σ 3)
  have t0 := t2 z0 hz0 c0
  rw [(A4 z0 hz0).1] at t0
  obtain ⟨j0, hj0, hc0, hv0⟩ : ∃ j, j < sN σ 3 ∧ zcd (s_playAll σ) 0 j ∧ tlI (s_playAll σ) 0 (sN σ 3) = sL (s_playAll σ) 6 (lx (s_playAll σ) 3 j) 0 := by
    rcases t1 with t1 | t1
    · rw [t1] at t0
      have := (nb z0 hz0).2
      have : (1000000000000 : Int64).toInt = 1000000000000 := rfl
      omega
    · exact t1
  have eT0 : v_tail σ (nI 0) = v_scNet σ j0 := by rw [eT, al0, hv0, (A4 j0 hj0).1]
  have mx : ∀ j, j < sN σ 3 → (v_scNet σ j).toInt ≤ (v_scNet σ j0).toInt := fun j hj => by
    unfold zcd at hc0
    have w := wb (sL (s_playAll σ) 6 (lx (s_playAll σ) 3 j0) 0)
    have em : (v_weightAbove (s_playAll σ) (sL (s_playAll σ) 6 (lx (s_playAll σ) 3 j0) 0) * 100).toInt = (v_weightAbove (s_playAll σ) (sL (s_playAll σ) 6 (lx (s_playAll σ) 3 j0) 0)).toInt * 100 := by
      rw [w_mul' (by rw [o100]; omega) (by rw [o100]; omega), o100]
    have n0 := mt w_lt.mpr hc0
    rw [em, o0] at n0
    have g := mt l_lt.mpr (w.2.1 (by omega) j hj)
    rw [(A4 j hj).1, (A4 j0 hj0).1] at g
    omega
  have mm : ∀ a b : Nat, a ≤ b → b < 100 → (v_tail σ (nI b)).toInt ≤ (v_tail σ (nI a)).toInt := fun a b hab hb => by
    rw [eT, eT]
    have w := (wb (-1)).1
    have k : ∀ x : Nat, x < 100 → (nI x * v_weightAbove (s_playAll σ) (-1)).toInt = x * (v_weightAbove (s_playAll σ) (-1)).toInt ∧ x * (v_weightAbove (s_playAll σ) (-1)).toInt ≤ 10800 := fun x hx => by
      have b1 : (x : Int) * (v_weightAbove (s_playAll σ) (-1)).toInt ≤ 100 * 108 := Int.mul_le_mul (by omega) w.2 w.1 (by decide)
      have b2 : 0 ≤ (x : Int) * (v_weightAbove (s_playAll σ) (-1)).toInt := Int.mul_nonneg (by omega) w.1
      have en := nI_toInt (show x < 2 ^ 31 by omega)
      exact ⟨by rw [w_mul' (by rw [en]; omega) (by rw [en]; omega), en], by omega⟩
    refine tl_mono _ (w_le.mpr ?_) _
    rw [(k a (by omega)).1, (k b hb).1]
    exact Int.mul_le_mul_of_nonneg_right (by omega) w.1
  have mb := mn_b h12 hw (M := (v_scNet σ j0).toInt) (nb j0 hj0).2 (fun i hi => by rw [(A4 i hi).1]; exact ⟨(nb i hi).1, mx i hi⟩) (sN σ 3) (Nat.le_refl _)
  have fl := fq_le (S := mnS (s_playAll σ) (sN σ 3)) (W := mnW (s_playAll σ) (sN σ 3)) (M := v_tail σ (nI 0)) ⟨mb.1.1, by have := mb.1.2.1; omega⟩ ⟨by have := mb.2.1; omega, by have := mb.2.2; omega⟩ (by rw [eT0]; have := nb j0 hj0; omega) (by rw [eT0]; exact mb.1.2.2)
  refine ⟨fun ρ => zJ ρ f c ∧ zFs ρ σ, fun x => v_tail σ (nI x), fun z => v_scNet σ z, ⟨h, zFs.rf⟩, fun ρ hρ => ⟨hρ.1, hρ.2.1.1, ?_⟩, fun ρ hρ => ?_, fun ρ hρ z hz => ?_, fun ρ hρ x hx => ?_, fun ρ hρ z hz => play_a hρ.1 h hρ.2 hz, ⟨j0, hj0, eT0.symm⟩, fun z hz => ?_, fun ρ hρ => ?_⟩
  · have e : sZ ρ 3 = sN σ 3 := by rw [hρ.1.1.1.2.2.2.2.1.1, hρ.2.1.1]
    unfold v_isEmpty
    rw [e]
    exact if_neg (fun q => by
      have := (nIz (by omega)).mp q
      omega)
  · obtain ⟨b1, b2, b3, b4⟩ := all_v hρ.1 h hρ.2
    exact ⟨b1, b2.trans hρ.2⟩
  · exact ⟨(play_J hρ.1 (by rw [hρ.2.1.1]; exact hz)).1, (play_W hρ.1.1).2.trans hρ.2⟩
  · have g := ct ρ hρ
    show v_tail ρ (nI x) = v_tail σ (nI x)
    rw [eT]
    unfold v_tail
    rw [g.1, wab_c g.2 g.1 A3]
    exact tl_c g.2 g.1 A3 _ _ (Nat.le_refl _)
  · show ¬ v_tail σ (nI (zpv z)) < v_tail σ (nI (9 + 10 * z))
    intro q
    have q2 := l_lt.mp q
    have := mm (zpv z) (9 + 10 * z) (by
      cases z with
      | zero => exact Nat.zero_le _
      | succ z =>
        show 9 + 10 * z ≤ 9 + 10 * (z + 1)
        omega) hz
    omega
  · have g := ct ρ hρ
    have e := mn_c g.2 (sN σ 3) (Nat.le_refl _)
    rw [g.1, e.1, e.2]
    refine ⟨fl.1, ?_⟩
    unfold v_meanNet
    rw [g.1, e.1, e.2]
    show Op.cmpValue (FP.dcmp _ (FP.l2d (v_tail σ (nI 0)))) .l ≤ 0
    rcases fl.2 with u | u
    · rw [u]
      decide
    · rw [u]
      decide
