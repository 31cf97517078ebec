/-! the invariant is kept: new objects, in general; a policy -/
def zGd (S σ : zSt) (a b : Int) : Prop := (sgc S : Int) - zcz S = sgc σ - zcz σ + a ∧ (sgs S : Int) - zcs S = sgs σ - zcs σ + b
theorem zGq.d {S σ : zSt} (h : zGq S σ) : zGd S σ 0 0 := by
  unfold zGq at h
  unfold zGd
  omega
theorem zGd.trans {x y z : zSt} {a b a' b' : Int} (h : zGd x y a b) (k : zGd y z a' b') : zGd x z (a' + a) (b' + b) := by
  unfold zGd at *
  omega
theorem zGd.nw {S σ : zSt} {a b : Nat} (hC : sC S = sC σ) (h1 : sgc S = sgc σ + a) (h2 : sgs S = sgs σ + b) : zGd S σ a b := by
  unfold zGd zcz zcs
  rw [hC, h1, h2]
  omega
theorem zGq.add {σ : zSt} {q x : Nat} (hq : q < 13) (h : zLC σ q) (hz : sZ σ q < 33) (hx : zlv σ (zeK q) x) : zGq (s_add σ q x) σ := by
  obtain ⟨-, -, -, g1, g2⟩ := zLC_add h hz hx
  obtain ⟨z1, z2⟩ := zcz_1 (S := s_add σ q x) hq (fun p hp => s_add_Co hp)
  unfold zGq
  omega
theorem zGq.ins {σ : zSt} {q i x : Nat} (hq : q < 13) (h : zLC σ q) (hi : i ≤ sZ σ q) (hz : sZ σ q < 33) (hx : zlv σ (zeK q) x) : zGq (s_ins σ q i x) σ := by
  obtain ⟨-, g1, g2⟩ := zLC_ins h hi hz hx
  obtain ⟨z1, z2⟩ := zcz_1 (S := s_ins σ q i x) hq (fun p hp => ((s_ins_sx σ q i x (fun y => y = q) rfl).2.2 p hp).2.2)
  unfold zGq
  omega
theorem zsumL_s (f : Nat → Int64) (n : Nat) (h : f n = 0) : zsumL f (n + 1) = zsumL f n := by
  show zsumL f n + f n = zsumL f n
  rw [h, Int64.add_zero]
/-- something new beside what was -/
theorem zJ.new {S σ : zSt} {f : Nat → Int32} {c : Int64} (h : zJ σ f c) (hw : zW S) (hI : ∀ t o e, (t ≤ 3 → o < sN σ 0) → (4 ≤ t → t ≤ 7 → o < sN σ 1) → (8 ≤ t → t ≤ 22 → o < sN σ 2) → (23 ≤ t → t ≤ 25 → o < sN σ 3) → t ≠ 35 → sI S t o e = sI σ t o e)
    (hL : ∀ t o e, 2 ≤ t → t ≤ 5 → o < sN σ 2 → sL S t o e = sL σ t o e) (hN : sN S 2 = sN σ 2 ∨ sN S 2 = sN σ 2 + 1)
    (nP : ∀ p, p < sN S 0 → sN σ 0 ≤ p → 1 ≤ (sI S 0 p 0).toInt ∧ (sI S 0 p 0).toInt ≤ 1000000) (nK : ∀ k, k < sN S 1 → sN σ 1 ≤ k → (0 ≤ (sI S 4 k 0).toInt ∧ (sI S 4 k 0).toInt ≤ 999) ∧ 0 ≤ (sI S 6 k 0).toInt ∧ (sI S 6 k 0).toInt ≤ 1000000)
    (nT : ∀ t, t < sN S 2 → sN σ 2 ≤ t → (zVt S t ∧ ((∀ r, r < 5 → 0 ≤ (sI S 21 t r).toInt) ∧ zSm (fun r => (sI S 21 t r).toInt) 5 ≤ 100) ∧ 0 ≤ (sI S 20 t 0).toInt ∧ (sI S 20 t 0).toInt ≤ 1000000) ∧ sI S 19 t 0 = 0)
    (nS : ∀ c, c < sN S 3 → sN σ 3 ≤ c → (0 ≤ (sI S 23 c 0).toInt ∧ (sI S 23 c 0).toInt ≤ 999) ∧ (1 ≤ (sI S 24 c 0).toInt ∧ (sI S 24 c 0).toInt ≤ 9) ∧ ∀ z, z < 4 → 0 ≤ (sI S 25 c z).toInt ∧ (sI S 25 c z).toInt ≤ 100)
    (hLi : zjL S) (hF : zjF S) (hG : zjG S) : zJ S f c := by
  obtain ⟨w, ⟨hP, hK, hT, hVp, hS⟩, hL0, hC, hF0, hG0⟩ := h
  have tr : ∀ t, t < sN σ 2 → ∀ q, 8 ≤ q → q ≤ 22 → ∀ x, sI S q t x = sI σ q t x := fun t ht q q1 q2 x => hI q t x (by omega) (by omega) (fun _ _ => ht) (by omega) (by omega)
  refine ⟨hw, ⟨fun p hp => ?_, fun k hk => ?_, fun t ht => ?_, hVp.of (fun q q1 q2 x => hI q 0 x (by omega) (by omega) (by omega) (by omega) (by omega)), fun c hc => ?_⟩, hLi, ⟨fun t ht => ?_, fun t ht => ?_, fun t ht hct => ?_, ?_⟩, hF, hG⟩
  · rcases Nat.lt_or_ge p (sN σ 0) with v | v
    · rw [hI 0 p 0 (fun _ => v) (by omega) (by omega) (by omega) (by decide)]
      exact hP p v
    · exact nP p hp v
  · rcases Nat.lt_or_ge k (sN σ 1) with v | v
    · rw [hI 4 k 0 (by omega) (fun _ _ => v) (by omega) (by omega) (by decide), hI 6 k 0 (by omega) (fun _ _ => v) (by omega) (by omega) (by decide)]
      exact hK k v
    · exact nK k hk v
  · rcases Nat.lt_or_ge t (sN σ 2) with v | v
    · have g := hT t v
      refine ⟨g.1.of (fun q q1 q2 => tr t v q q1 (by omega) 0), ?_, ?_⟩
      · simp only [fun x => tr t v 21 (by decide) (by decide) x]
        exact g.2.1
      · rw [tr t v 20 (by decide) (by decide)]
        exact g.2.2
    · exact (nT t ht v).1
  · rcases Nat.lt_or_ge c (sN σ 3) with v | v
    · rw [hI 23 c 0 (by omega) (by omega) (by omega) (fun _ _ => v) (by decide), hI 24 c 0 (by omega) (by omega) (by omega) (fun _ _ => v) (by decide)]
      simp only [fun x => hI 25 c x (by omega) (by omega) (by omega) (fun _ _ => v) (by decide)]
      exact hS c v
    · exact nS c hc v
  · rcases Nat.lt_or_ge t (sN σ 2) with v | v
    · rw [tr t v 19 (by decide) (by decide)]
      exact hC.1 t v
    · rw [(nT t ht v).2]
      exact ⟨fun _ => rfl, fun _ => hC.2.1 t v⟩
  · exact hC.2.1 t (by omega)
  · rcases Nat.lt_or_ge t (sN σ 2) with v | v
    · rw [tr t v 19 (by decide) (by decide)] at hct
      rw [hL 3 t 0 (by decide) (by decide) v, hL 4 t 0 (by decide) (by decide) v, hL 5 t 0 (by decide) (by decide) v]
      exact hC.2.2.1 t v hct
    · exact absurd (nT t ht v).2 hct
  · have e : zsumL (fun t => if sI S 19 t 0 = 0 then 0 else sL S 3 t 0 + (sI S 20 t 0).toInt64) (sN σ 2) = zsumL (fun t => if sI σ 19 t 0 = 0 then 0 else sL σ 3 t 0 + (sI σ 20 t 0).toInt64) (sN σ 2) := zsumL_c (fun t ht => by
      show (if sI S 19 t 0 = 0 then (0 : Int64) else sL S 3 t 0 + (sI S 20 t 0).toInt64) = if sI σ 19 t 0 = 0 then 0 else sL σ 3 t 0 + (sI σ 20 t 0).toInt64
      rw [tr t ht 19 (by decide) (by decide), tr t ht 20 (by decide) (by decide), hL 3 t 0 (by decide) (by decide) ht])
    rw [hC.2.2.2]
    rcases hN with v | v
    · rw [v, e]
    · rw [v, zsumL_s _ _ (if_pos (nT (sN σ 2) (by omega) (Nat.le_refl _)).2), e]
/-- a policy -/
theorem policy_r {σ : zSt} (v1 v2 v3 v4 : Int32) (h : zW σ) (h12 : sN σ 0 < 12) : ∃ S, S = s_policy σ v1 v2 v3 v4 ∧ zRL S ∧ (sN S = fun q => if q = 0 ∨ q = 4 then sN σ q + 1 else sN σ q) ∧ (∀ q, sZ S q = if q = 0 ∨ q = 4 then sZ σ q + 1 else sZ σ q) ∧ (∀ q i, lx S q i = if q = 0 ∧ i = sN σ 0 then sN σ 0 else if q = 4 ∧ i = sN σ 0 then 30 + sN σ 0 else lx σ q i) ∧ (∀ k, sP S k = if k = 30 + sN σ 0 then sN σ 0 else sP σ k) ∧
    (∀ t o e, ¬ (t ≤ 3 ∧ o = sN σ 0) → ¬ (4 ≤ t ∧ t ≤ 7 ∧ o = 30 + sN σ 0) → sI S t o e = sI σ t o e) ∧ (∀ t o e, ¬ (t ≤ 1 ∧ o = 30 + sN σ 0) → sL S t o e = sL σ t o e) ∧ (sI S 0 (sN σ 0) 0 = v1 ∧ sI S 1 (sN σ 0) 0 = v2) ∧ zGd S σ 4 27 := by
  obtain ⟨⟨r1, r2, r3, r4⟩, ⟨l1, l2, l3⟩, ⟨n24, n21⟩, -⟩ := policy_pre v1 v2 v3 v4 h h12
  refine ⟨_, rfl, r4, ?_, ?_, ?_, ?_, ?_, ?_, ?_, ?_⟩
  all_goals unfold s_policy
  all_goals have hz0 : sZ σ 0 = sN σ 0 := h.1.2.1.1
  all_goals have hz4 : sZ σ 4 = sN σ 0 := h.1.2.2.2.2.2.1.1
  all_goals have h4 : sN σ 4 = sN σ 0 := h.1.2.2.2.2.2.1.2
  · funext q
    rw [add_N, aCLd_N, add_N, aPOL_N, aPOL_N]
    by_cases c : q = 4
    · subst c
      rfl
    · rw [if_neg c]
      by_cases d : q = 0
      · subst d
        rfl
      · rw [if_neg d, if_neg (by omega)]
  · intro q
    rw [add_Z, aCLd_Z, add_Z, aCLd_Z, add_Z]
    show (if q = 4 then (if 4 = 0 then sZ σ 0 + 1 else sZ σ 4) + 1 else if q = 0 then sZ σ 0 + 1 else sZ σ q) = _
    by_cases c : q = 4
    · subst c
      rfl
    · rw [if_neg c]
      by_cases d : q = 0
      · subst d
        rfl
      · rw [if_neg d, if_neg (by omega)]
  · intro q i
    have e4 : sZ (aCLd (s_add (aPOL σ v1 v2 v3 v4) 0 (sN σ 0)) (sN σ 0)) 4 = sN σ 0 := by rw [aCLd_Z, add_Z]; exact hz4
    have e0 : sZ (aPOL σ v1 v2 v3 v4) 0 = sN σ 0 := hz0
    rw [add_lx, e4, aCLd_lx, add_lx, e0, aPOL_lx, h4]
    by_cases c : q = 4 ∧ i = sN σ 0
    · rw [if_pos c, if_neg (fun z => by omega), if_pos c]
    · rw [if_neg c]
      by_cases d : q = 0 ∧ i = sN σ 0
      · rw [if_pos d, if_pos d]
      · rw [if_neg d, if_neg d, if_neg c]
  · intro k
    rw [add_P]
    by_cases c : k = 30 + sN σ 0
    · rw [if_pos c, c]
      have e : 30 + sN σ 0 = 30 + sN (s_add (aPOL σ v1 v2 v3 v4) 0 (sN σ 0)) 4 := by rw [n24, h4]
      rw [e]
      exact aCLd_P _ _
    · rw [if_neg c, aCLd_Pn _ _ _ (by rw [n24, h4]; exact c), add_P]
      rfl
  · intro t o e g1 g2
    rw [add_I, aCLd_I _ _ _ _ _ (by rw [n24, h4]; omega), add_I, aPOL_I _ _ _ _ _ _ _ _ (by omega)]
  · intro t o e g
    rw [add_L, aCLd_L _ _ _ _ _ (by rw [n24, h4]; omega), add_L]
    rfl
  · refine ⟨?_, ?_⟩
    · rw [add_I, aCLd_I _ _ _ _ _ (by omega), add_I, aPOL_I0]
    · rw [add_I, aCLd_I _ _ _ _ _ (by omega), add_I, aPOL_I1]
  · have hz4' : sZ (aCLd (s_add (aPOL σ v1 v2 v3 v4) 0 (sN σ 0)) (sN σ 0)) 4 < 33 := by rw [aCLd_Z, add_Z]; show sZ σ 4 < 33; omega
    have hz0' : sZ (aPOL σ v1 v2 v3 v4) 0 < 33 := by show sZ σ 0 < 33; omega
    have g1 : zGd (aPOL σ v1 v2 v3 v4) σ (1 : Nat) (4 : Nat) := zGd.nw rfl (aPOL_gc σ v1 v2 v3 v4).1 (aPOL_gc σ v1 v2 v3 v4).2
    have g2 := (zGq.add (by decide) (r1.2 0 (by decide)) hz0' l1).d
    have g3 : zGd (aCLd (s_add (aPOL σ v1 v2 v3 v4) 0 (sN σ 0)) (sN σ 0)) (s_add (aPOL σ v1 v2 v3 v4) 0 (sN σ 0)) (3 : Nat) (23 : Nat) := zGd.nw rfl (aCLd_gc _ _).1 (aCLd_gc _ _).2
    have g4 := (zGq.add (by decide) (r3.2 4 (by decide)) hz4' l3).d
    have g := g4.trans (g3.trans (g2.trans g1))
    have e1 : ((1 : Nat) : Int) + 0 + ((3 : Nat) : Int) + 0 = 4 := by decide
    have e2 : ((4 : Nat) : Int) + 0 + ((23 : Nat) : Int) + 0 = 27 := by decide
    rw [e1, e2] at g
    exact g
