/-! the invariant is kept: a treaty -/
theorem add_sm {σ : zSt} {q x : Nat} (h : sZ σ q ≤ 8) : sgc (s_add σ q x) ≤ sgc σ + 1 ∧ sgs (s_add σ q x) ≤ sgs σ + 12 := by
  rw [sgc_add, sgs_add]
  unfold zgC
  refine ⟨?_, ?_⟩
  · split <;> omega
  · split
    · split <;> omega
    · omega
theorem treaty_r {σ : zSt} (v2 v3 v4 v5 v6 v7 : Int32) (h : zW σ) (h8 : sN σ 2 < 8) : ∃ S, S = s_treaty σ v2 v3 v4 v5 v6 v7 ∧ zRL S ∧ (sN S = fun q => if q = 2 ∨ q = 5 ∨ q = 6 then sN σ q + 1 else sN σ q) ∧ (∀ q, sZ S q = if q = 2 ∨ q = 6 ∨ q = 10 then sZ σ q + 1 else sZ σ q) ∧ (∀ q i, lx S q i = if q = 2 ∧ i = sN σ 2 then sN σ 2 else if q = 6 ∧ i = sN σ 2 then sN σ 2 else if q = 10 ∧ i = sN σ 2 then 8 + sN σ 2 else lx σ q i) ∧ (∀ k, sP S k = sP σ k) ∧
    (∀ t o e, ¬ (8 ≤ t ∧ t ≤ 21 ∧ o = sN σ 2) → ¬ (t = 22 ∧ (o = sN σ 2 ∨ o = 8 + sN σ 2)) → ¬ (t = 35 ∧ o = 0 ∧ e = 0) → sI S t o e = sI σ t o e) ∧ (∀ t o e, ¬ (2 ≤ t ∧ t ≤ 5 ∧ (o = sN σ 2 ∨ o = 8 + sN σ 2)) → sL S t o e = sL σ t o e) ∧ (sI S 8 (sN σ 2) 0 = v2 ∧ sI S 10 (sN σ 2) 0 = v4 ∧ sI S 11 (sN σ 2) 0 = v5 ∧ sI S 12 (sN σ 2) 0 = v6 ∧ sI S 13 (sN σ 2) 0 = v7 ∧ sI S 14 (sN σ 2) 0 = 3 ∧ (∀ q, 15 ≤ q → q ≤ 21 → ∀ e, sI S q (sN σ 2) e = 0) ∧ sI S 35 0 0 = 0) ∧ zGd S σ 6 40 ∧ sgc S ≤ sgc σ + 100 ∧ sgs S ≤ sgs σ + 1000 := by
  obtain ⟨⟨r1, r2, r3, r4, r5, r6, r7⟩, ⟨l1, l2, l3, l4, l5, l6⟩, ⟨n5, n6⟩, -⟩ := treaty_pre v2 v3 v4 v5 v6 v7 h h8
  have hz2 : sZ σ 2 = sN σ 2 := h.1.2.2.2.1.1
  have hz6 : sZ σ 6 = sN σ 2 := h.1.2.2.2.2.2.2.2.1.1
  have hz10 : sZ σ 10 = sN σ 2 := h.1.2.2.2.2.2.2.2.2.1
  have h5 : sN σ 5 = sN σ 2 := h.1.2.2.2.2.2.2.2.1.2
  have h6 : sN σ 6 = sN σ 2 := h.1.2.2.2.2.2.2.2.2.2
  unfold s_treaty
  simp only [h5, h6] at r3 r4 r5 r6 r7 l3 l4 l5 l6 n5 n6 ⊢
  -- step by step
  have aI : ∀ t o e, ¬ (8 ≤ t ∧ t ≤ 21 ∧ o = sN σ 2) → sI (aTR σ v2 v3 v4 v5 v6 v7) t o e = sI σ t o e := fun t o e g => aTR_I _ _ _ _ _ _ _ _ _ _ (by omega)
  have aL : ∀ t o e, sL (aTR σ v2 v3 v4 v5 v6 v7) t o e = sL σ t o e := fun _ _ _ => rfl
  have aN := aTR_N σ v2 v3 v4 v5 v6 v7
  have aZ : ∀ q, sZ (aTR σ v2 v3 v4 v5 v6 v7) q = sZ σ q := fun _ => rfl
  have ax : ∀ q i, lx (aTR σ v2 v3 v4 v5 v6 v7) q i = lx σ q i := fun _ _ => rfl
  have aP : ∀ k, sP (aTR σ v2 v3 v4 v5 v6 v7) k = sP σ k := fun _ => rfl
  have aV : sI (aTR σ v2 v3 v4 v5 v6 v7) 8 (sN σ 2) 0 = v2 ∧ sI (aTR σ v2 v3 v4 v5 v6 v7) 10 (sN σ 2) 0 = v4 ∧ sI (aTR σ v2 v3 v4 v5 v6 v7) 11 (sN σ 2) 0 = v5 ∧ sI (aTR σ v2 v3 v4 v5 v6 v7) 12 (sN σ 2) 0 = v6 ∧ sI (aTR σ v2 v3 v4 v5 v6 v7) 13 (sN σ 2) 0 = v7 ∧ sI (aTR σ v2 v3 v4 v5 v6 v7) 14 (sN σ 2) 0 = 3 ∧ (∀ q, 15 ≤ q → q ≤ 21 → ∀ e, sI (aTR σ v2 v3 v4 v5 v6 v7) q (sN σ 2) e = 0) := by
    refine ⟨aTR_I8 _ _ _ _ _ _ _ _, aTR_I10 _ _ _ _ _ _ _ _, aTR_I11 _ _ _ _ _ _ _ _, aTR_I12 _ _ _ _ _ _ _ _, aTR_I13 _ _ _ _ _ _ _ _, aTR_I14 _ _ _ _ _ _ _ _, fun q q1 q2 e => ?_⟩
    rcases (show q = 15 ∨ q = 16 ∨ q = 17 ∨ q = 18 ∨ q = 19 ∨ q = 20 ∨ q = 21 by omega) with r | r | r | r | r | r | r
    · subst r
      exact aTR_I15 _ _ _ _ _ _ _ _
    · subst r
      exact aTR_I16 _ _ _ _ _ _ _ _
    · subst r
      exact aTR_I17 _ _ _ _ _ _ _ _
    · subst r
      exact aTR_I18 _ _ _ _ _ _ _ _
    · subst r
      exact aTR_I19 _ _ _ _ _ _ _ _
    · subst r
      exact aTR_I20 _ _ _ _ _ _ _ _
    · subst r
      exact aTR_I21 _ _ _ _ _ _ _ _
  have ag := aTR_gc σ v2 v3 v4 v5 v6 v7
  have ad : zGd (aTR σ v2 v3 v4 v5 v6 v7) σ (2 : Nat) (20 : Nat) := zGd.nw rfl ag.1 ag.2
  generalize aTR σ v2 v3 v4 v5 v6 v7 = A at *
  have bg := zGq.add (by decide) (r1.2 2 (by decide)) (by rw [aZ]; omega) l1
  have bm := add_sm (σ := A) (q := 2) (x := sN σ 2) (by rw [aZ]; omega)
  have bI := add_I A 2 (sN σ 2)
  have bL := add_L A 2 (sN σ 2)
  have bZ := add_Z A 2 (sN σ 2)
  have bx := add_lx A 2 (sN σ 2)
  have bN := add_N A 2 (sN σ 2)
  have bP := add_P A 2 (sN σ 2)
  generalize s_add A 2 (sN σ 2) = B at *
  have cI := aCOVr_I B
  have cL := aCOVr_L B
  have cZ := aCOVr_Z B
  have cx := aCOVr_lx B
  have cN := aCOVr_N B
  have cP := aCOVr_Ps B
  have cg := aCOVr_gc B
  have cd : zGd (aCOVr B) B (2 : Nat) (10 : Nat) := zGd.nw rfl cg.1 cg.2
  generalize aCOVr B = C at *
  have zC6 : sZ C 6 = sN σ 2 := by rw [cZ, bZ, if_neg (by decide), aZ]; exact hz6
  have dg := zGq.add (by decide) (r3.2 6 (by decide)) (by rw [zC6]; omega) l3
  have dm := add_sm (σ := C) (q := 6) (x := sN σ 2) (by rw [zC6]; omega)
  have dI := add_I C 6 (sN σ 2)
  have dL := add_L C 6 (sN σ 2)
  have dZ := add_Z C 6 (sN σ 2)
  have dx := add_lx C 6 (sN σ 2)
  have dN := add_N C 6 (sN σ 2)
  have dP := add_P C 6 (sN σ 2)
  generalize s_add C 6 (sN σ 2) = D at *
  have eI := aCOVt_I D
  have eL := aCOVt_L D
  have eZ := aCOVt_Z D
  have ex := aCOVt_lx D
  have eN := aCOVt_N D
  have eP := aCOVt_Ps D
  have eg := aCOVt_gc D
  have ed : zGd (aCOVt D) D (2 : Nat) (10 : Nat) := zGd.nw rfl eg.1 eg.2
  generalize aCOVt D = E at *
  have zE10 : sZ E 10 = sN σ 2 := by rw [eZ, dZ, if_neg (by decide), cZ, bZ, if_neg (by decide), aZ]; exact hz10
  have fg := zGq.add (by decide) (r5.2 10 (by decide)) (by rw [zE10]; omega) l5
  have fm := add_sm (σ := E) (q := 10) (x := 8 + sN σ 2) (by rw [zE10]; omega)
  have fI := add_I E 10 (8 + sN σ 2)
  have fL := add_L E 10 (8 + sN σ 2)
  have fZ := add_Z E 10 (8 + sN σ 2)
  have fx := add_lx E 10 (8 + sN σ 2)
  have fN := add_N E 10 (8 + sN σ 2)
  have fP := add_P E 10 (8 + sN σ 2)
  generalize s_add E 10 (8 + sN σ 2) = Q at *
  rw [n5] at cI cL
  rw [n6] at eI eL
  have rI : ∀ t o e, sI (uI Q 35 0 0 0) t o e = if t = 35 ∧ o = 0 ∧ e = 0 then 0 else sI Q t o e := fun t o e => by rw [qI_r]
  have qI : ∀ t o e, ¬ (t = 22 ∧ (o = sN σ 2 ∨ o = 8 + sN σ 2)) → ¬ (t = 35 ∧ o = 0 ∧ e = 0) → sI (uI Q 35 0 0 0) t o e = sI A t o e := fun t o e g1 g2 => by
    rw [rI, if_neg g2, fI, eI t o e (by omega), dI, cI t o e (by omega), bI]
  refine ⟨_, rfl, r7, ?_, ?_, ?_, ?_, ?_, ?_, ⟨?_, ?_, ?_, ?_, ?_, ?_, ?_, ?_⟩, ?_, ?_, ?_⟩
  · show sN Q = _
    rw [fN]
    funext q
    rw [eN, dN, cN, cN, bN, aN, aN, aN]
    by_cases c6 : q = 6
    · subst c6
      rfl
    · rw [if_neg c6]
      by_cases c5 : q = 5
      · subst c5
        rfl
      · rw [if_neg c5]
        by_cases c2 : q = 2
        · subst c2
          rfl
        · rw [if_neg c2, if_neg (by omega)]
  · intro q
    show sZ Q q = _
    rw [fZ, eZ, eZ, dZ, dZ, cZ, cZ, cZ, bZ, bZ, bZ, aZ, aZ, aZ, aZ]
    by_cases c10 : q = 10
    · subst c10
      rfl
    · rw [if_neg c10]
      by_cases c6 : q = 6
      · subst c6
        rfl
      · rw [if_neg c6]
        by_cases c2 : q = 2
        · subst c2
          rfl
        · rw [if_neg c2, if_neg (by omega)]
  · intro q i
    show lx Q q i = _
    rw [fx, zE10, ex, dx, zC6, cx, bx, aZ, hz2, ax]
    by_cases c10 : q = 10 ∧ i = sN σ 2
    · rw [if_pos c10, if_neg (by omega), if_neg (by omega), if_pos c10]
    · rw [if_neg c10]
      by_cases c6 : q = 6 ∧ i = sN σ 2
      · rw [if_pos c6, if_neg (by omega), if_pos c6]
      · rw [if_neg c6]
        by_cases c2 : q = 2 ∧ i = sN σ 2
        · rw [if_pos c2, if_pos c2]
        · rw [if_neg c2, if_neg c2, if_neg c6, if_neg c10]
  · intro k
    show sP Q k = _
    rw [fP, eP, dP, cP, bP, aP]
  · intro t o e g1 g2 g3
    rw [qI t o e g2 g3, aI t o e g1]
  · intro t o e g
    show sL Q t o e = _
    rw [fL, eL t o e (by omega), dL, cL t o e (by omega), bL, aL]
  · rw [qI _ _ _ (by omega) (by omega)]
    exact aV.1
  · rw [qI _ _ _ (by omega) (by omega)]
    exact aV.2.1
  · rw [qI _ _ _ (by omega) (by omega)]
    exact aV.2.2.1
  · rw [qI _ _ _ (by omega) (by omega)]
    exact aV.2.2.2.1
  · rw [qI _ _ _ (by omega) (by omega)]
    exact aV.2.2.2.2.1
  · rw [qI _ _ _ (by omega) (by omega)]
    exact aV.2.2.2.2.2.1
  · intro q q1 q2 e
    rw [qI _ _ _ (by omega) (by omega)]
    exact aV.2.2.2.2.2.2 q q1 q2 e
  · rw [rI, if_pos ⟨rfl, rfl, rfl⟩]
  · have gu : zGq (uI Q 35 0 0 0) Q := zGq.of (uI_22 _ _ _ _ _)
    have g := (gu.trans fg).d.trans (ed.trans (dg.d.trans (cd.trans (bg.d.trans ad))))
    have e1 : ((2 : Nat) : Int) + 0 + ((2 : Nat) : Int) + 0 + ((2 : Nat) : Int) + 0 = 6 := by decide
    have e2 : ((20 : Nat) : Int) + 0 + ((10 : Nat) : Int) + 0 + ((10 : Nat) : Int) + 0 = 40 := by decide
    rw [e1, e2] at g
    exact g
  · show sgc Q ≤ _
    omega
  · show sgs Q ≤ _
    omega
theorem isOut_rng (σ : zSt) (x lo hi : Int32) : v_isOut σ x lo hi = 0 ↔ lo.toInt ≤ x.toInt ∧ x.toInt ≤ hi.toInt := by
  unfold v_isOut
  by_cases c1 : x < lo
  · have := w_lt.mp c1
    rw [if_pos c1]
    exact ⟨fun h => absurd h (by decide), fun h => by omega⟩
  · have c1' : ¬ x.toInt < lo.toInt := fun z => c1 (w_lt.mpr z)
    rw [if_neg c1]
    by_cases c2 : x ≤ hi
    · have := w_le.mp c2
      rw [if_pos c2]
      exact ⟨fun _ => by omega, fun _ => rfl⟩
    · have c2' : ¬ x.toInt ≤ hi.toInt := fun z => c2 (w_le.mpr z)
      rw [if_neg c2]
      exact ⟨fun h => absurd h (by decide), fun h => by omega⟩
theorem span_rng {σ : zSt} {x y : Int32} (h : ¬ v_isSpan σ x y = 0) : 0 ≤ x.toInt ∧ x.toInt ≤ y.toInt ∧ y.toInt ≤ 999 := by
  have o0 : (0 : Int32).toInt = 0 := rfl
  have o9 : (999 : Int32).toInt = 999 := rfl
  unfold v_isSpan at h
  by_cases c1 : x < 0
  · rw [if_pos c1] at h
    exact absurd rfl h
  · rw [if_neg c1] at h
    by_cases c2 : y < x
    · rw [if_pos c2] at h
      exact absurd rfl h
    · rw [if_neg c2] at h
      by_cases c3 : 999 < y
      · rw [if_pos c3] at h
        exact absurd rfl h
      · have c1' : ¬ x.toInt < (0 : Int32).toInt := fun z => c1 (w_lt.mpr z)
        have c2' : ¬ y.toInt < x.toInt := fun z => c2 (w_lt.mpr z)
        have c3' : ¬ (999 : Int32).toInt < y.toInt := fun z => c3 (w_lt.mpr z)
        omega
theorem kind_rng {σ : zSt} {x y z : Int32} (h : ¬ v_fitsKind σ x y z = 0) : (x = 113 → 0 ≤ y.toInt ∧ y.toInt ≤ 100) ∧ (0 ≤ y.toInt ∧ y.toInt ≤ 1000000) ∧ (x = 115 → z.toInt ≤ 20) := by
  have o0 : (0 : Int32).toInt = 0 := rfl
  have o1 : (1 : Int32).toInt = 1 := rfl
  have o2 : (20 : Int32).toInt = 20 := rfl
  have o3 : (100 : Int32).toInt = 100 := rfl
  have oM : (1000000 : Int32).toInt = 1000000 := rfl
  unfold v_fitsKind at h
  by_cases c1 : x = 113
  · rw [if_pos c1] at h
    by_cases d : v_isOut σ y 0 100 = 0
    · have := (isOut_rng σ y 0 100).mp d
      refine ⟨fun _ => by omega, by omega, fun q => ?_⟩
      rw [c1] at q
      exact absurd q (by decide)
    · rw [if_neg d] at h
      exact absurd rfl h
  · rw [if_neg c1] at h
    by_cases c2 : x = 115
    · rw [if_pos c2] at h
      by_cases d : v_isOut σ y 1 1000000 = 0
      · rw [if_pos d] at h
        by_cases e : v_isOut σ z 1 20 = 0
        · have g1 := (isOut_rng σ y 1 1000000).mp d
          have g2 := (isOut_rng σ z 1 20).mp e
          exact ⟨fun q => absurd q c1, by omega, fun _ => by omega⟩
        · rw [if_neg e] at h
          exact absurd rfl h
      · rw [if_neg d] at h
        exact absurd rfl h
    · rw [if_neg c2] at h
      have fin : v_isOut σ y 0 1000000 = 0 → (x = 113 → 0 ≤ y.toInt ∧ y.toInt ≤ 100) ∧ (0 ≤ y.toInt ∧ y.toInt ≤ 1000000) ∧ (x = 115 → z.toInt ≤ 20) := fun d => by
        have g1 := (isOut_rng σ y 0 1000000).mp d
        exact ⟨fun q => absurd q c1, by omega, fun q => absurd q c2⟩
      by_cases d : v_isOut σ y 0 1000000 = 0
      · exact fin d
      · rw [if_neg d] at h
        by_cases c3 : x = 114
        · rw [if_pos c3] at h
          exact absurd rfl h
        · rw [if_neg c3] at h
          by_cases c4 : x = 101
          · rw [if_pos c4] at h
            exact absurd rfl h
          · rw [if_neg c4] at h
            by_cases c5 : x = 97
            · rw [if_pos c5] at h
              exact absurd rfl h
            · rw [if_neg c5] at h
              exact absurd rfl h
theorem zhTr_ok : zhTr zJ := fun σ f c h h8' v2 v3 v4 v5 v6 v7 => by
  obtain ⟨hin, hdist, hZ5, h30, h8⟩ := h.in
  obtain ⟨S, eS, rl, hN, hZ, hx, hP, hI, hL, ⟨a8, a10, a11, a12, a13, a14, a0, a35⟩, hg, hc1, hc2⟩ := treaty_r v2 v3 v4 v5 v6 v7 h.1 h8'
  rw [← eS]
  clear eS
  refine ⟨⟨hc1, hc2⟩, fun s1 s2 s3 s4 => ⟨?_, hN⟩⟩
  have n2 : sN S 2 = sN σ 2 + 1 := by rw [hN]; rfl
  have n5 : sN S 5 = sN σ 5 + 1 := by rw [hN]; rfl
  have n6 : sN S 6 = sN σ 6 + 1 := by rw [hN]; rfl
  have no : ∀ q, q ≠ 2 → q ≠ 5 → q ≠ 6 → sN S q = sN σ q := fun q q1 q2 q3 => by rw [hN]; exact if_neg (by omega)
  have z2 : sZ S 2 = sZ σ 2 + 1 := hZ 2
  have z6 : sZ S 6 = sZ σ 6 + 1 := hZ 6
  have z10 : sZ S 10 = sZ σ 10 + 1 := hZ 10
  have zo : ∀ q, q ≠ 2 → q ≠ 6 → q ≠ 10 → sZ S q = sZ σ q := fun q q1 q2 q3 => by rw [hZ, if_neg (by omega)]
  have xo : ∀ q, q ≠ 2 → q ≠ 6 → q ≠ 10 → ∀ i, lx S q i = lx σ q i := fun q q1 q2 q3 i => by rw [hx, if_neg (fun z => q1 z.1), if_neg (fun z => q2 z.1), if_neg (fun z => q3 z.1)]
  obtain ⟨⟨w1, ⟨w20, w21⟩, ⟨w30, w31⟩, ⟨w40, w41⟩, ⟨w50, w51⟩, ⟨w60, w61⟩, w7, ⟨w80, w81⟩, ⟨w90, w91⟩⟩, ⟨e0, e1, e2, e3, e4, e6, e10, ep, ek⟩, ⟨b1, b2, b3, b4, b5⟩, ⟨d1, d2, d3, d4, d5⟩⟩ := h.1
  have I1 : ∀ t o e, ¬ (8 ≤ t ∧ t ≤ 22) → t ≠ 35 → sI S t o e = sI σ t o e := fun t o e q q2 => hI t o e (fun z => by omega) (fun z => by omega) (fun z => q2 z.1)
  have It : ∀ q t, 8 ≤ q → q ≤ 21 → t ≠ sN σ 2 → ∀ e, sI S q t e = sI σ q t e := fun q t q1 q2 ht e => hI q t e (fun z => ht z.2.2) (fun z => by omega) (fun z => by omega)
  have m0 := no 0 (by decide) (by decide) (by decide)
  have m1 := no 1 (by decide) (by decide) (by decide)
  have m3 := no 3 (by decide) (by decide) (by decide)
  have m4 := no 4 (by decide) (by decide) (by decide)
  have o0 : (0 : Int32).toInt = 0 := rfl
  have o1 : (1 : Int32).toInt = 1 := rfl
  have o3 : (3 : Int32).toInt = 3 := rfl
  have oM : (1000000 : Int32).toInt = 1000000 := rfl
  have sp := span_rng s1
  have kd := kind_rng s3
  have g7 := (isOut_rng σ v7 1 1000000).mp s4
  have hV : zVt S (sN σ 2) := by
    unfold zVt
    rw [a8, a10, a11, a12, a13, a14, a0 15 (by decide) (by decide), a0 16 (by decide) (by decide), a0 18 (by decide) (by decide)]
    exact ⟨kd.1, kd.2.1, by omega, kd.2.2, sp, by omega, by omega, by omega, by omega⟩
  have hw : zW S := by
    refine ⟨⟨fun q hq => rl.2 q (by omega), ⟨by rw [zo 0 (by decide) (by decide) (by decide), m0]; exact w20, by omega⟩, ⟨by rw [zo 1 (by decide) (by decide) (by decide), m1]; exact w30, by omega⟩, ⟨by omega, by omega⟩, ⟨by rw [zo 3 (by decide) (by decide) (by decide), m3]; exact w50, by omega⟩, ⟨by rw [zo 4 (by decide) (by decide) (by decide), m0]; exact w60, by rw [m4, m0]; exact w61⟩, by rw [zo 5 (by decide) (by decide) (by decide), m1]; exact w7, ⟨by omega, by omega⟩, ⟨by omega, by omega⟩⟩, ⟨fun i hi => ?_, fun i hi => ?_, fun i hi => ?_, fun i hi => ?_, fun i hi => ?_, fun i hi => ?_, fun i hi => ?_, fun i hi => ?_, fun k hk => ?_⟩, ⟨fun p hp => ?_, fun p hp => ?_, fun t ht => ?_, fun i hi => ?_, fun i hi => ?_⟩, ⟨⟨rl.2 7 (by decide), by rw [zo 7 (by decide) (by decide) (by decide)]; exact d1.2⟩, rl.2 8 (by decide), ⟨rl.2 9 (by decide), by rw [zo 9 (by decide) (by decide) (by decide)]; exact d3.2⟩, ⟨rl.2 11 (by decide), by rw [zo 11 (by decide) (by decide) (by decide)]; exact d4.2⟩, rl.2 12 (by decide)⟩⟩
    · rw [xo 0 (by decide) (by decide) (by decide)]
      exact e0 i (by omega)
    · rw [xo 1 (by decide) (by decide) (by decide)]
      exact e1 i (by omega)
    · rw [hx]
      by_cases q : i = sN σ 2
      · rw [if_pos ⟨rfl, q⟩, q]
      · rw [if_neg (fun z => q z.2), if_neg (fun z => q z.2), if_neg (fun z => q z.2)]
        exact e2 i (by omega)
    · rw [xo 3 (by decide) (by decide) (by decide)]
      exact e3 i (by omega)
    · rw [xo 4 (by decide) (by decide) (by decide)]
      exact e4 i (by omega)
    · rw [hx, if_neg (fun z => by omega)]
      by_cases q : i = sN σ 2
      · rw [if_pos ⟨rfl, q⟩, q]
      · rw [if_neg (fun z => q z.2), if_neg (fun z => q z.2)]
        exact e6 i (by omega)
    · rw [hx, if_neg (fun z => by omega), if_neg (fun z => by omega)]
      by_cases q : i = sN σ 2
      · rw [if_pos ⟨rfl, q⟩, q]
      · rw [if_neg (fun z => q z.2)]
        exact e10 i (by omega)
    · rw [hP]
      exact ep i (by omega)
    · rw [hP, m0]
      exact ek k (by omega)
    · rw [I1 0 _ _ (by decide) (by decide)]
      exact b1 p (by omega)
    · rw [I1 1 _ _ (by decide) (by decide)]
      exact b2 p (by omega)
    · by_cases q : t = sN σ 2
      · rw [q]
        refine ⟨⟨fun z => ?_, fun z => ?_⟩, fun z => ?_⟩
        · have z2 := congrArg Int64.toInt z
          have o100 : (100 : Int64).toInt = 100 := rfl
          rw [a13, l_mul (by rw [l_of, o100]; omega) (by rw [l_of, o100]; omega), l_of, o100, l_0] at z2
          omega
        · have z2 := congrArg Int64.toInt z
          have s1 : (v5 - v4).toInt = v5.toInt - v4.toInt := w_sub' (by omega) (by omega)
          rw [a11, a10, l_of, l_0, w_add' (by rw [s1]; omega) (by rw [s1]; omega), s1] at z2
          omega
        · rw [a14] at z
          exact absurd z (by decide)
      · have g := b3 t (by omega)
        unfold zTz at *
        rw [It 13 t (by decide) (by decide) q, It 11 t (by decide) (by decide) q, It 10 t (by decide) (by decide) q, It 14 t (by decide) (by decide) q]
        exact g
    · rw [I1 32 _ _ (by decide) (by decide)]
      exact b4 i hi
    · rw [I1 31 _ _ (by decide) (by decide)]
      exact b5 i hi
  refine h.new hw (fun t o e g1 g2 g3 g4 g5 => hI t o e (fun z => by have := g3 z.1 (by omega); omega) (fun z => by have := g3 (by omega) (by omega); omega) (fun z => g5 z.1)) (fun t o e q1 q2 ho => hL t o e (fun z => by omega)) (Or.inr n2) (fun p hp q => absurd hp (by omega)) (fun k hk q => absurd hk (by omega)) (fun t ht q => ?_) (fun c hc q => absurd hc (by omega)) ⟨fun g => ?_, fun i i' g1 g2 => ?_⟩ (zjF.no a35) ?_
  · have : t = sN σ 2 := by omega
    subst this
    refine ⟨⟨hV, ⟨fun r _ => ?_, ?_⟩, ?_⟩, a0 19 (by decide) (by decide) 0⟩
    · rw [a0 21 (by decide) (by decide)]
      decide
    · rw [zSm0 (fun r _ => by rw [a0 21 (by decide) (by decide)]; rfl)]
      decide
    · rw [a0 20 (by decide) (by decide)]
      exact ⟨by decide, by decide⟩
  · rw [m1]
    simp only [fun i => xo (5 + 4 * 0) (by decide) (by decide) (by decide) i]
    exact h.2.2.1.1 g
  · rw [m1] at g2
    rw [xo (5 + 4 * 0) (by decide) (by decide) (by decide), xo (5 + 4 * 0) (by decide) (by decide) (by decide), I1 4 _ 0 (by decide) (by decide), I1 4 _ 0 (by decide) (by decide)]
    exact h.2.2.1.2 i i' g1 g2
  · have g := h.2.2.2.2.2
    unfold zjG at *
    unfold zGd at hg
    omega
