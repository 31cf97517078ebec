/-! the invariant is kept: a policy, a scenario -/
theorem nI64_ne {v : Nat} (h : 1 ≤ v) (h2 : v < 2 ^ 31) : ¬ (nI v).toInt64 = 0 := fun q => by
  have e := congrArg Int64.toInt q
  rw [l_of, nI_toInt h2, l_0] at e
  omega
theorem zhP_ok : zhP zJ := fun σ f c h h12 v1 v2 v3 v4 a1 a2 a3 a4 a5 a6 => by
  obtain ⟨S, eS, rl, hN, hZ, hx, hP, hI, hL, hv, hg⟩ := policy_r (nI v1) (nI v2) (nI v3) (nI v4) h.1 h12
  rw [← eS]
  clear eS
  refine ⟨?_, hN⟩
  have n0 : sN S 0 = sN σ 0 + 1 := by rw [hN]; rfl
  have n1 : sN S 1 = sN σ 1 := by rw [hN]; rfl
  have n2 : sN S 2 = sN σ 2 := by rw [hN]; rfl
  have n3 : sN S 3 = sN σ 3 := by rw [hN]; rfl
  have n4 : sN S 4 = sN σ 4 + 1 := by rw [hN]; rfl
  have n5 : sN S 5 = sN σ 5 := by rw [hN]; rfl
  have n6 : sN S 6 = sN σ 6 := by rw [hN]; rfl
  have z0 : sZ S 0 = sZ σ 0 + 1 := hZ 0
  have z4 : sZ S 4 = sZ σ 4 + 1 := hZ 4
  have zo : ∀ q, q ≠ 0 → q ≠ 4 → sZ S q = sZ σ q := fun q q1 q2 => by rw [hZ, if_neg (by omega)]
  have xo : ∀ q, q ≠ 0 → q ≠ 4 → ∀ i, lx S q i = lx σ q i := fun q q1 q2 i => by rw [hx, if_neg (fun z => q1 z.1), if_neg (fun z => q2 z.1)]
  obtain ⟨hin, hd, hZ5, h30, h8⟩ := h.in
  obtain ⟨⟨w1, ⟨w20, w21⟩, ⟨w30, w31⟩, ⟨w40, w41⟩, ⟨w50, w51⟩, ⟨w60, w61⟩, w7, ⟨w80, w81⟩, ⟨w90, w91⟩⟩, ⟨e0, e1, e2, e3, e4, e6, e10, ep, ek⟩, ⟨b1, b2, b3, b4, b5⟩, ⟨d1, d2, d3, d4, d5⟩⟩ := h.1
  have I1 : ∀ t o e, t ≠ 0 → t ≠ 1 → t ≠ 2 → t ≠ 3 → ¬ (4 ≤ t ∧ t ≤ 7) → sI S t o e = sI σ t o e := fun t o e q1 q2 q3 q4 q5 => hI t o e (fun z => by omega) (fun z => q5 ⟨z.1, z.2.1⟩)
  have hw : zW S := by
    refine ⟨⟨fun q hq => rl.2 q (by omega), ⟨by omega, by omega⟩, ⟨by rw [zo 1 (by decide) (by decide)]; omega, by omega⟩, ⟨by rw [zo 2 (by decide) (by decide)]; omega, by omega⟩, ⟨by rw [zo 3 (by decide) (by decide)]; omega, by omega⟩, ⟨by omega, by omega⟩, by rw [zo 5 (by decide) (by decide)]; omega, ⟨by rw [zo 6 (by decide) (by decide)]; omega, by omega⟩, ⟨by rw [zo 10 (by decide) (by decide)]; omega, by omega⟩⟩, ⟨fun i hi => ?_, fun i hi => ?_, fun i hi => ?_, fun i hi => ?_, fun i hi => ?_, fun i hi => ?_, fun i hi => ?_, fun i hi => ?_, fun k hk => ?_⟩, ⟨fun p hp => ?_, fun p hp => ?_, fun t ht => ?_, fun i hi => ?_, fun i hi => ?_⟩, ⟨⟨rl.2 7 (by decide), by rw [zo 7 (by decide) (by decide)]; exact d1.2⟩, rl.2 8 (by decide), ⟨rl.2 9 (by decide), by rw [zo 9 (by decide) (by decide)]; exact d3.2⟩, ⟨rl.2 11 (by decide), by rw [zo 11 (by decide) (by decide)]; exact d4.2⟩, rl.2 12 (by decide)⟩⟩
    · rw [hx]
      by_cases q : i = sN σ 0
      · rw [if_pos ⟨rfl, q⟩, q]
      · rw [if_neg (fun z => q z.2), if_neg (fun z => by omega)]
        exact e0 i (by omega)
    · rw [xo 1 (by decide) (by decide)]
      exact e1 i (by omega)
    · rw [xo 2 (by decide) (by decide)]
      exact e2 i (by omega)
    · rw [xo 3 (by decide) (by decide)]
      exact e3 i (by omega)
    · rw [hx, if_neg (fun z => by omega)]
      by_cases q : i = sN σ 0
      · rw [if_pos ⟨rfl, q⟩, q]
      · rw [if_neg (fun z => q z.2)]
        exact e4 i (by omega)
    · rw [xo 6 (by decide) (by decide)]
      exact e6 i (by omega)
    · rw [xo 10 (by decide) (by decide)]
      exact e10 i (by omega)
    · rw [hP]
      by_cases q : i = sN σ 0
      · rw [if_pos (by omega), q]
      · rw [if_neg (by omega)]
        exact ep i (by omega)
    · rw [hP, if_neg (by omega), n0]
      have := ek k (by omega)
      omega
    · by_cases q : p = sN σ 0
      · rw [q, hv.1]
        exact nI64_ne a1 (by omega)
      · rw [hI 0 p 0 (fun z => q z.2) (fun z => by omega)]
        exact b1 p (by omega)
    · by_cases q : p = sN σ 0
      · rw [q, hv.2, nI_clamp (by omega)]
        exact ⟨rfl, a3⟩
      · rw [hI 1 p 0 (fun z => q z.2) (fun z => by omega)]
        exact b2 p (by omega)
    · have g := b3 t (by omega)
      unfold zTz at *
      rw [I1 13 t 0 (by decide) (by decide) (by decide) (by decide) (by decide), I1 11 t 0 (by decide) (by decide) (by decide) (by decide) (by decide), I1 10 t 0 (by decide) (by decide) (by decide) (by decide) (by decide), I1 14 t 0 (by decide) (by decide) (by decide) (by decide) (by decide)]
      exact g
    · rw [I1 32 0 i (by decide) (by decide) (by decide) (by decide) (by decide)]
      exact b4 i hi
    · rw [I1 31 0 i (by decide) (by decide) (by decide) (by decide) (by decide)]
      exact b5 i hi
  have I4 : ∀ t o e, 4 ≤ t → t ≤ 7 → o < 30 → sI S t o e = sI σ t o e := fun t o e q1 q2 q3 => hI t o e (fun z => by omega) (fun z => by omega)
  refine h.new hw (fun t o e g1 g2 g3 g4 g5 => hI t o e (fun z => by have := g1 z.1; omega) (fun z => by have := g2 z.1 z.2.1; omega)) (fun t o e q1 q2 ho => hL t o e (fun z => by omega)) (Or.inl n2) (fun p hp q => ?_) (fun k hk q => absurd hk (by omega)) (fun t ht q => absurd ht (by omega)) (fun c hc q => absurd hc (by omega)) ⟨fun g => ?_, fun i i' g1 g2 => ?_⟩ (fun hs => ?_) ?_
  · have : p = sN σ 0 := by omega
    rw [this, hv.1, nI_toInt (by omega)]
    omega
  · rw [n1]
    simp only [fun i => xo (5 + 4 * 0) (by decide) (by decide) i]
    exact h.2.2.1.1 g
  · rw [n1] at g2
    rw [xo (5 + 4 * 0) (by decide) (by decide), xo (5 + 4 * 0) (by decide) (by decide), I4 4 _ 0 (by decide) (by decide) (by have := hin i (by omega); omega), I4 4 _ 0 (by decide) (by decide) (by have := hin i' g2; omega)]
    exact h.2.2.1.2 i i' g1 g2
  · rw [I1 35 0 0 (by decide) (by decide) (by decide) (by decide) (by decide)] at hs
    obtain ⟨k1, k2⟩ := h.2.2.2.2.1 hs
    refine ⟨zFi0_mv (zo (5 + 4 * 0) (by decide) (by decide)) (xo (5 + 4 * 0) (by decide) (by decide)) n2 (fun i hi => by have := hin i (by omega); omega) (fun q hq t => I1 q t 0 (by omega) (by omega) (by omega) (by omega) (by omega)) (fun k hk => I4 6 k 0 (by decide) (by decide) hk) (fun k hk => ⟨hL 0 k 0 (fun z => by omega), fun e => hL 1 k e (fun z => by omega)⟩) (fun t _ q q1 _ => hL q t 0 (fun z => by omega)) h8 k1, fun t z ht hz => ?_⟩
    rw [I1 22 t z (by decide) (by decide) (by decide) (by decide) (by decide), n1]
    exact k2 t z (by omega) hz
  · have g := h.2.2.2.2.2
    unfold zjG at *
    unfold zGd at hg
    omega
/-- a scenario -/
theorem scenario_r {σ : zSt} (v1 v2 : Int32) (h : zW σ) (h12 : sN σ 3 < 12) : ∃ S, S = s_scenario σ v1 v2 ∧ zRL S ∧ (sN S = fun q => if q = 3 then sN σ q + 1 else sN σ q) ∧ (∀ q, sZ S q = if q = 3 then sZ σ q + 1 else sZ σ q) ∧ (∀ q i, lx S q i = if q = 3 ∧ i = sN σ 3 then sN σ 3 else lx σ q i) ∧ sP S = sP σ ∧
    (∀ t o e, ¬ (23 ≤ t ∧ t ≤ 25 ∧ o = sN σ 3) → sI S t o e = sI σ t o e) ∧ (∀ t o e, ¬ (t = 6 ∧ o = sN σ 3) → sL S t o e = sL σ t o e) ∧ (sI S 23 (sN σ 3) 0 = v1 ∧ sI S 24 (sN σ 3) 0 = v2 ∧ ∀ e, sI S 25 (sN σ 3) e = 0) ∧ zGd S σ 2 8 := by
  obtain ⟨⟨r1, r2⟩, l1, -⟩ := scenario_pre v1 v2 h h12
  have hz3 : sZ σ 3 = sN σ 3 := h.1.2.2.2.2.1.1
  refine ⟨_, rfl, r2, ?_, ?_, ?_, ?_, ?_, ?_, ?_, ?_⟩
  all_goals unfold s_scenario
  · funext q
    rw [add_N, aSC_N]
    by_cases c : q = 3
    · subst c
      rfl
    · rw [if_neg c, if_neg c]
  · intro q
    rw [add_Z, aSC_Z, aSC_Z]
    by_cases c : q = 3
    · subst c
      rfl
    · rw [if_neg c, if_neg c]
  · intro q i
    have e3 : sZ (aSC σ v1 v2) 3 = sN σ 3 := hz3
    rw [add_lx, e3, aSC_lx]
  · rw [add_P]
    rfl
  · intro t o e g
    rw [add_I, aSC_I _ _ _ _ _ _ (by omega)]
  · intro t o e g
    rw [add_L, aSC_L _ _ _ _ _ _ (by omega)]
  · refine ⟨?_, ?_, fun e => ?_⟩
    · rw [add_I, aSC_I23]
    · rw [add_I, aSC_I24]
    · rw [add_I, aSC_I25]
  · have g1 : zGd (aSC σ v1 v2) σ (2 : Nat) (8 : Nat) := zGd.nw rfl (aSC_gc σ v1 v2).1 (aSC_gc σ v1 v2).2
    have hz3' : sZ (aSC σ v1 v2) 3 < 33 := by show sZ σ 3 < 33; omega
    have g := ((zGq.add (by decide) (r1.2 3 (by decide)) hz3' l1).d).trans g1
    have e1 : ((2 : Nat) : Int) + 0 = 2 := by decide
    have e2 : ((8 : Nat) : Int) + 0 = 8 := by decide
    rw [e1, e2] at g
    exact g
theorem scen_J {σ : zSt} {f : Nat → Int32} {c : Int64} (h : zJ σ f c) (h12 : sN σ 3 < 12) {d w : Nat} (hd : d < 40) (hw1 : 1 ≤ w) (hw9 : w ≤ 9) : zJ (s_scenario σ (nI d) (nI w)) f c ∧ (sN (s_scenario σ (nI d) (nI w)) = fun q => if q = 3 then sN σ q + 1 else sN σ q) ∧ (∀ e, sI (s_scenario σ (nI d) (nI w)) 25 (sN σ 3) e = 0) := by
  obtain ⟨S, eS, rl, hN, hZ, hx, hP, hI, hL, hv, hg⟩ := scenario_r (nI d) (nI w) h.1 h12
  rw [← eS]
  clear eS
  refine ⟨?_, hN, hv.2.2⟩
  have n3 : sN S 3 = sN σ 3 + 1 := by rw [hN]; rfl
  have no : ∀ q, q ≠ 3 → sN S q = sN σ q := fun q q1 => by rw [hN]; exact if_neg q1
  have z3 : sZ S 3 = sZ σ 3 + 1 := hZ 3
  have zo : ∀ q, q ≠ 3 → sZ S q = sZ σ q := fun q q1 => by rw [hZ, if_neg q1]
  have xo : ∀ q, q ≠ 3 → ∀ i, lx S q i = lx σ q i := fun q q1 i => by rw [hx, if_neg (fun z => q1 z.1)]
  obtain ⟨hin, hd', hZ5, h30, h8⟩ := h.in
  obtain ⟨⟨w1, ⟨w20, w21⟩, ⟨w30, w31⟩, ⟨w40, w41⟩, ⟨w50, w51⟩, ⟨w60, w61⟩, w7, ⟨w80, w81⟩, ⟨w90, w91⟩⟩, ⟨e0, e1, e2, e3, e4, e6, e10, ep, ek⟩, ⟨b1, b2, b3, b4, b5⟩, ⟨d1, d2, d3, d4, d5⟩⟩ := h.1
  have I1 : ∀ t o e, ¬ (23 ≤ t ∧ t ≤ 25) → sI S t o e = sI σ t o e := fun t o e q => hI t o e (fun z => q ⟨z.1, z.2.1⟩)
  have m0 := no 0 (by decide)
  have m1 := no 1 (by decide)
  have m2 := no 2 (by decide)
  have hw : zW S := by
    refine ⟨⟨fun q hq => rl.2 q (by omega), ⟨by rw [zo 0 (by decide), m0]; exact w20, by omega⟩, ⟨by rw [zo 1 (by decide), m1]; exact w30, by omega⟩, ⟨by rw [zo 2 (by decide), m2]; exact w40, by omega⟩, ⟨by omega, by omega⟩, ⟨by rw [zo 4 (by decide), m0]; exact w60, by rw [no 4 (by decide), m0]; exact w61⟩, by rw [zo 5 (by decide), m1]; exact w7, ⟨by rw [zo 6 (by decide), m2]; exact w80, by rw [no 5 (by decide), m2]; exact w81⟩, ⟨by rw [zo 10 (by decide), m2]; exact w90, by rw [no 6 (by decide), m2]; exact w91⟩⟩, ⟨fun i hi => ?_, fun i hi => ?_, fun i hi => ?_, fun i hi => ?_, fun i hi => ?_, fun i hi => ?_, fun i hi => ?_, fun i hi => ?_, fun k hk => ?_⟩, ⟨fun p hp => ?_, fun p hp => ?_, fun t ht => ?_, fun i hi => ?_, fun i hi => ?_⟩, ⟨⟨rl.2 7 (by decide), by rw [zo 7 (by decide)]; exact d1.2⟩, rl.2 8 (by decide), ⟨rl.2 9 (by decide), by rw [zo 9 (by decide)]; exact d3.2⟩, ⟨rl.2 11 (by decide), by rw [zo 11 (by decide)]; exact d4.2⟩, rl.2 12 (by decide)⟩⟩
    · rw [xo 0 (by decide)]
      exact e0 i (by omega)
    · rw [xo 1 (by decide)]
      exact e1 i (by omega)
    · rw [xo 2 (by decide)]
      exact e2 i (by omega)
    · rw [hx]
      by_cases q : i = sN σ 3
      · rw [if_pos ⟨rfl, q⟩, q]
      · rw [if_neg (fun z => q z.2)]
        exact e3 i (by omega)
    · rw [xo 4 (by decide)]
      exact e4 i (by omega)
    · rw [xo 6 (by decide)]
      exact e6 i (by omega)
    · rw [xo 10 (by decide)]
      exact e10 i (by omega)
    · rw [hP]
      exact ep i (by omega)
    · rw [hP, m0]
      exact ek k (by omega)
    · rw [I1 0 _ _ (by decide)]
      exact b1 p (by omega)
    · rw [I1 1 _ _ (by decide)]
      exact b2 p (by omega)
    · have g := b3 t (by omega)
      unfold zTz at *
      rw [I1 13 _ _ (by decide), I1 11 _ _ (by decide), I1 10 _ _ (by decide), I1 14 _ _ (by decide)]
      exact g
    · rw [I1 32 _ _ (by decide)]
      exact b4 i hi
    · rw [I1 31 _ _ (by decide)]
      exact b5 i hi
  refine h.new hw (fun t o e g1 g2 g3 g4 g5 => hI t o e (fun z => by have := g4 z.1 z.2.1; omega)) (fun t o e q1 q2 ho => hL t o e (fun z => by omega)) (Or.inl m2) (fun p hp q => absurd hp (by omega)) (fun k hk q => absurd hk (by omega)) (fun t ht q => absurd ht (by omega)) (fun c hc q => ?_) ⟨fun g => ?_, fun i i' g1 g2 => ?_⟩ (fun hs => ?_) ?_
  · have : c = sN σ 3 := by omega
    rw [this, hv.1, hv.2.1, nI_toInt (by omega), nI_toInt (by omega)]
    refine ⟨by omega, by omega, fun z _ => ?_⟩
    rw [hv.2.2]
    exact ⟨by decide, by decide⟩
  · rw [m1]
    simp only [fun i => xo (5 + 4 * 0) (by decide) i]
    exact h.2.2.1.1 g
  · rw [m1] at g2
    rw [xo (5 + 4 * 0) (by decide), xo (5 + 4 * 0) (by decide), I1 4 _ 0 (by decide), I1 4 _ 0 (by decide)]
    exact h.2.2.1.2 i i' g1 g2
  · rw [I1 35 0 0 (by decide)] at hs
    obtain ⟨k1, k2⟩ := h.2.2.2.2.1 hs
    refine ⟨zFi0_mv (zo (5 + 4 * 0) (by decide)) (xo (5 + 4 * 0) (by decide)) m2 (fun i hi => by have := hin i (by omega); omega) (fun q hq t => I1 q t 0 (by omega)) (fun k hk => I1 6 k 0 (by decide)) (fun k hk => ⟨hL 0 k 0 (fun z => by omega), fun e => hL 1 k e (fun z => by omega)⟩) (fun t _ q q1 q2 => hL q t 0 (fun z => by omega)) h8 k1, fun t z ht hz => ?_⟩
    rw [I1 22 t z (by decide), m1]
    exact k2 t z (by omega) hz
  · have g := h.2.2.2.2.2
    unfold zjG at *
    unfold zGd at hg
    omega
