/-! the invariant is kept: the other setters, commuting -/
theorem uI_2 (σ : zSt) (t o e : Nat) (v : Int32) : (uI σ t o e v).2 = σ.2 := rfl
theorem zhSP_ok : zhSP zJ := fun σ f c h t p ht hp => by
  have g := h.2.1.2.2.1 t ht
  have o0 : (0 : Int32).toInt = 0 := rfl
  have e2 := h.l2 ht
  refine ⟨?_, ?_⟩
  · show ¬ sI σ 18 (lx σ 2 t) 0 < 0
    rw [e2]
    intro z
    have := w_lt.mp z
    have := g.1.2.2.2.2.2.2.2.2.1
    omega
  · unfold s_setPremium
    rw [e2]
    have r : ∀ q o x, sI (uI (uI σ 18 t 0 (nI p)) 35 0 0 0) q o x = if q = 35 ∧ o = 0 ∧ x = 0 then 0 else if q = 18 ∧ o = t ∧ x = 0 then nI p else sI σ q o x := fun q o x => by rw [qI_r, qI_r]
    have n : ∀ q o x, q ≠ 35 → q ≠ 18 → sI (uI (uI σ 18 t 0 (nI p)) 35 0 0 0) q o x = sI σ q o x := fun q o x q1 q2 => by rw [r, if_neg (fun z => q1 z.1), if_neg (fun z => q2 z.1)]
    refine h.tr (t := t) (σ := σ) rfl (fun q o x hq => ?_) (g.1.in (fun q q1 q2 => n q _ _ (by omega) (by omega)) ?_ ?_ ?_ ?_) ?_ (zjF.no ?_)
    · rw [r, if_neg (fun z => by omega), if_neg (fun z => by omega)]
    · rw [n 14 _ _ (by decide) (by decide)]
      exact g.1.2.2.2.2.2.1
    · rw [n 15 _ _ (by decide) (by decide)]
      exact g.1.2.2.2.2.2.2.1
    · rw [n 16 _ _ (by decide) (by decide)]
      exact g.1.2.2.2.2.2.2.2.1
    · rw [r, if_neg (fun z => by omega), if_pos ⟨rfl, rfl, rfl⟩, nI_toInt (by omega)]
      omega
    · simp only [fun x => n 21 t x (by decide) (by decide)]
      exact g.2.1
    · rw [r, if_pos ⟨rfl, rfl, rfl⟩]
theorem zhSD_ok : zhSD zJ := fun σ f c h t d ht hd1 hd9 => by
  have g := h.2.1.2.2.1 t ht
  have o1 : (1 : Int32).toInt = 1 := rfl
  have e2 := h.l2 ht
  refine ⟨?_, ?_⟩
  · show 1 ≤ sI σ 14 (lx σ 2 t) 0
    rw [e2]
    exact w_le.mpr g.1.2.2.2.2.2.1.1
  · unfold s_setDays
    rw [e2]
    have r : ∀ q o x, sI (uI (uI σ 14 t 0 (nI d)) 35 0 0 0) q o x = if q = 35 ∧ o = 0 ∧ x = 0 then 0 else if q = 14 ∧ o = t ∧ x = 0 then nI d else sI σ q o x := fun q o x => by rw [qI_r, qI_r]
    have n : ∀ q o x, q ≠ 35 → q ≠ 14 → sI (uI (uI σ 14 t 0 (nI d)) 35 0 0 0) q o x = sI σ q o x := fun q o x q1 q2 => by rw [r, if_neg (fun z => q1 z.1), if_neg (fun z => q2 z.1)]
    refine h.tr (t := t) (σ := σ) rfl (fun q o x hq => ?_) (g.1.in (fun q q1 q2 => n q _ _ (by omega) (by omega)) ?_ ?_ ?_ ?_) ?_ (zjF.no ?_)
    · rw [r, if_neg (fun z => by omega), if_neg (fun z => by omega)]
    · rw [r, if_neg (fun z => by omega), if_pos ⟨rfl, rfl, rfl⟩, nI_toInt (by omega)]
      omega
    · rw [n 15 _ _ (by decide) (by decide)]
      exact g.1.2.2.2.2.2.2.1
    · rw [n 16 _ _ (by decide) (by decide)]
      exact g.1.2.2.2.2.2.2.2.1
    · rw [n 18 _ _ (by decide) (by decide)]
      exact g.1.2.2.2.2.2.2.2.2
    · simp only [fun x => n 21 t x (by decide) (by decide)]
      exact g.2.1
    · rw [r, if_pos ⟨rfl, rfl, rfl⟩]
/-- a sum of a few small ints is exact -/
theorem zsum_int {f : Nat → Int32} : ∀ {n : Nat}, n ≤ 5 → (∀ i, i < n → 0 ≤ (f i).toInt ∧ (f i).toInt ≤ 100) → (zsum f n).toInt = zSm (fun i => (f i).toInt) n ∧ 0 ≤ (zsum f n).toInt ∧ (zsum f n).toInt ≤ n * 100
  | 0, _, _ => ⟨rfl, by show (0 : Int) ≤ (0 : Int32).toInt; decide, by show (0 : Int32).toInt ≤ ((0 : Nat) : Int) * 100; decide⟩
  | n + 1, hn, h => by
    obtain ⟨h1, h2, h3⟩ := zsum_int (n := n) (by omega) (fun i hi => h i (by omega))
    have g := h n (by omega)
    have e : (zsum f n + f n).toInt = (zsum f n).toInt + (f n).toInt := w_add' (by omega) (by omega)
    show (zsum f n + f n).toInt = zSm (fun i => (f i).toInt) n + (f n).toInt ∧ 0 ≤ (zsum f n + f n).toInt ∧ (zsum f n + f n).toInt ≤ ((n + 1 : Nat) : Int) * 100
    rw [e]
    omega
theorem shr_b {σ : zSt} {t : Nat} (h : (∀ r, r < 5 → 0 ≤ (sI σ 21 t r).toInt) ∧ zSm (fun r => (sI σ 21 t r).toInt) 5 ≤ 100) : ∀ r, r < 5 → 0 ≤ (sI σ 21 t r).toInt ∧ (sI σ 21 t r).toInt ≤ 100 := fun r hr => by
  have := zSm_le1 (f := fun r => (sI σ 21 t r).toInt) hr h.1
  exact ⟨h.1 r hr, Int.le_trans this h.2⟩
theorem zjF.I {S σ : zSt} (hw : zW σ) (e : S.2 = σ.2) (h35 : sI S 35 0 0 = sI σ 35 0 0) (hin : ∀ i, i < sN σ 1 → lx σ (5 + 4 * 0) i < sN σ 1) (hI : ∀ q, q = 8 ∨ q = 13 ∨ q = 15 ∨ q = 19 ∨ q = 22 ∨ q = 6 → ∀ o x, sI S q o x = sI σ q o x) (h : zjF σ) : zjF S := fun hs => by
  rw [h35] at hs
  obtain ⟨h1, h2⟩ := h hs
  have h8 : sN σ 2 ≤ 8 := hw.1.2.2.2.1.2
  have h30 : sN σ 1 ≤ 30 := hw.1.2.2.1.2
  have hZ : sZ σ (5 + 4 * 0) = sN σ 1 := hw.1.2.2.2.2.2.2.1
  have hN : sN S = sN σ := congrArg (fun z => z.2.2.2.2.2.1) e
  have hL : sL S = sL σ := congrArg (fun z => z.1) e
  have hE : sE S = sE σ := congrArg (fun z => z.2.1) e
  have hZ' : sZ S = sZ σ := congrArg (fun z => z.2.2.1) e
  refine ⟨zFi0_mv (by rw [hZ']) (fun i => by unfold lx; rw [hE]) (by rw [hN]) (fun i hi => by have := hin i (by omega); omega) (fun q hq t => hI q (by omega) t 0) (fun k _ => hI 6 (by omega) k 0) (fun k _ => by rw [hL]; exact ⟨rfl, fun _ => rfl⟩) (fun t _ q _ _ => by rw [hL]) h8 h1, fun t z ht hz => ?_⟩
  rw [hN] at ht ⊢
  rw [hI 22 (by omega)]
  exact h2 t z ht hz
theorem zhSh_ok : zhSh zJ := fun σ f c h t r s ht hr hs => by
  have g := h.2.1.2.2.1 t ht
  have e2 := h.l2 ht
  refine ⟨?_, fun ha => ?_⟩
  · show 0 ≤ sI σ 21 (lx σ 2 t) r
    rw [e2]
    exact w_le.mpr (g.2.1.1 r hr)
  · unfold s_share
    rw [e2]
    have rr : ∀ q o x, sI (uI σ 21 t r (nI s)) q o x = if q = 21 ∧ o = t ∧ x = r then nI s else sI σ q o x := fun q o x => by rw [qI_r]
    have n : ∀ q o x, q ≠ 21 → sI (uI σ 21 t r (nI s)) q o x = sI σ q o x := fun q o x q1 => by rw [rr, if_neg (fun z => q1 z.1)]
    refine h.tr (t := t) (σ := σ) rfl (fun q o x hq => by rw [rr, if_neg (fun z => by omega)]) (g.1.of (fun q q1 q2 => n q _ _ (by omega))) ⟨fun r' hr' => ?_, ?_⟩ (h.2.2.2.2.1.I h.1 rfl (n 35 _ _ (by decide)) h.in.1 (fun q hq o x => n q o x (by omega)))
    · rw [rr]
      split
      · rw [nI_toInt (by omega)]
        omega
      · exact g.2.1.1 r' hr'
    · have e := zSm_upd (f := fun x => (sI (uI σ 21 t r (nI s)) 21 t x).toInt) (g := fun x => (sI σ 21 t x).toInt) hr (fun i _ hi => by
        show (sI (uI σ 21 t r (nI s)) 21 t i).toInt = (sI σ 21 t i).toInt
        rw [rr, if_neg (fun z => hi z.2.2)])
      have e1 : sI (uI σ 21 t r (nI s)) 21 t r = nI s := by rw [rr, if_pos ⟨rfl, rfl, rfl⟩]
      simp only [e1] at e
      rw [nI_toInt (by omega)] at e
      have sb := shr_b g.2.1
      obtain ⟨s1, s2, s3⟩ := zsum_int (f := fun e => sI σ 21 t e) (n := 5) (Nat.le_refl _) (fun i hi => sb i hi)
      have ha' := w_le.mp ha
      have hrb := sb r hr
      have o100 : (100 : Int32).toInt = 100 := rfl
      have ea : (v_allShares σ t - sI σ 21 t r).toInt = (v_allShares σ t).toInt - (sI σ 21 t r).toInt := w_sub' (by unfold v_allShares; omega) (by unfold v_allShares; omega)
      have eb : (v_allShares σ t - sI σ 21 t r + nI s).toInt = (v_allShares σ t).toInt - (sI σ 21 t r).toInt + s := by
        rw [w_add' (by rw [ea, nI_toInt (by omega)]; unfold v_allShares; omega) (by rw [ea, nI_toInt (by omega)]; unfold v_allShares; omega), ea, nI_toInt (by omega)]
      rw [eb, o100] at ha'
      have ev : (v_allShares σ t).toInt = zSm (fun i => (sI σ 21 t i).toInt) 5 := s1
      omega
theorem zJ.setv {σ S : zSt} {f : Nat → Int32} {c : Int64} (h : zJ σ f c) (e : S.2 = σ.2) (hr : ∀ q, q = 0 ∨ q = 1 ∨ (8 ≤ q ∧ q ≤ 25 ∧ q ≠ 22) → ∀ o x, sI S q o x = sI σ q o x) : zjP S ∧ zjT S ∧ zjS S := by
  obtain ⟨hP, hK, hT, hVp, hS⟩ := h.2.1
  have hN : sN S = sN σ := congrArg (fun z => z.2.2.2.2.2.1) e
  refine ⟨fun p hp => ?_, fun t' ht' => ?_, fun c hc => ?_⟩
  · rw [hr 0 (by omega)]
    exact hP p (by rw [← hN]; exact hp)
  · have g := hT t' (by rw [← hN]; exact ht')
    refine ⟨g.1.of (fun q' _ _ => hr q' (by omega) t' 0), ?_, ?_⟩
    · simp only [fun x => hr 21 (by omega) t' x]
      exact g.2.1
    · rw [hr 20 (by omega)]
      exact g.2.2
  · rw [hr 23 (by omega), hr 24 (by omega)]
    simp only [fun x => hr 25 (by omega) c x]
    exact hS c (by rw [← hN]; exact hc)
theorem zJ.sv {σ S : zSt} {f : Nat → Int32} {c : Int64} (h : zJ σ f c) (e : S.2 = σ.2) (hr : ∀ q, q = 0 ∨ q = 1 ∨ (8 ≤ q ∧ q ≤ 14) → ∀ o x, sI S q o x = sI σ q o x) (hc : ∀ i, i < 5 → sI S 32 0 i = nI (sI S 32 0 i).toNatClampNeg ∧ (sI S 32 0 i).toNatClampNeg < 5) (hf : ∀ i, i < 5 → zB01 (sI S 31 0 i)) : zSv S := by
  have hv := h.1.2.2.1
  have hN : sN S = sN σ := congrArg (fun z => z.2.2.2.2.2.1) e
  refine ⟨fun p hp => ?_, fun p hp => ?_, fun t' ht' => ⟨?_, ?_⟩, hc, hf⟩
  · rw [hr 0 (by omega)]
    exact hv.1 p (by rw [← hN]; exact hp)
  · rw [hr 1 (by omega)]
    exact hv.2.1 p (by rw [← hN]; exact hp)
  · have := (hv.2.2.1 t' (by rw [← hN]; exact ht')).1
    unfold zTz at *
    rw [hr 13 (by omega), hr 11 (by omega), hr 10 (by omega)]
    exact this
  · rw [hr 14 (by omega)]
    exact (hv.2.2.1 t' (by rw [← hN]; exact ht')).2
theorem zhSA_ok : zhSA zJ := fun σ f c h k hk v hv => by
  have e1 : lx σ 1 k = k := h.1.2.1.2.1 k hk
  have g := h.2.1.2.1 k hk
  have o0 : (0 : Int32).toInt = 0 := rfl
  have oM : (1000000 : Int32).toInt = 1000000 := rfl
  have rng : ∀ x : Int32, v_isOut σ x 0 1000000 = 0 ↔ 0 ≤ x.toInt ∧ x.toInt ≤ 1000000 := fun x => by
    unfold v_isOut
    by_cases c1 : x < 0
    · have := w_lt.mp c1
      rw [if_pos c1]
      constructor
      · intro h
        exact absurd h (by decide)
      · intro h
        omega
    · have c1' : ¬ x.toInt < (0 : Int32).toInt := fun z => c1 (w_lt.mpr z)
      rw [if_neg c1]
      by_cases c2 : x ≤ 1000000
      · have := w_le.mp c2
        rw [if_pos c2]
        constructor
        · intro _
          omega
        · intro _
          rfl
      · have c2' : ¬ x.toInt ≤ (1000000 : Int32).toInt := fun z => c2 (w_le.mpr z)
        rw [if_neg c2]
        constructor
        · intro h
          exact absurd h (by decide)
        · intro h
          omega
  have ev : v_setAmount σ k v = sI σ 6 k 0 := by
    unfold v_setAmount
    rw [e1]
  have es : s_setAmount σ k v = uI (uI σ 6 k 0 v) 35 0 0 0 := by
    unfold s_setAmount
    rw [e1]
  have r : ∀ q o x, sI (uI (uI σ 6 k 0 v) 35 0 0 0) q o x = if q = 35 ∧ o = 0 ∧ x = 0 then 0 else if q = 6 ∧ o = k ∧ x = 0 then v else sI σ q o x := fun q o x => by rw [qI_r, qI_r]
  have n : ∀ q o x, q ≠ 35 → q ≠ 6 → sI (uI (uI σ 6 k 0 v) 35 0 0 0) q o x = sI σ q o x := fun q o x q1 q2 => by rw [r, if_neg (fun z => q1 z.1), if_neg (fun z => q2 z.1)]
  refine ⟨⟨?_, ?_⟩, ?_, fun w => ?_⟩
  · rw [ev]
    intro z
    have := w_lt.mp z
    have := g.2.1
    omega
  · rw [ev]
    exact (rng _).mpr g.2
  · rw [es]
    obtain ⟨s1, s2, s3⟩ := h.setv (S := uI (uI σ 6 k 0 v) 35 0 0 0) rfl (fun q hq o x => n q o x (by omega) (by omega))
    refine h.I (σ := σ) rfl (h.sv (σ := σ) rfl (fun q hq o x => n q o x (by omega) (by omega)) (fun i hi => by rw [n 32 _ _ (by decide) (by decide)]; exact h.1.2.2.1.2.2.2.1 i hi) (fun i hi => by rw [n 31 _ _ (by decide) (by decide)]; exact h.1.2.2.1.2.2.2.2 i hi)) ⟨s1, fun k' hk' => ?_, s2, h.2.1.2.2.2.1.of (fun q q1 q2 x => n q _ _ (by omega) (by omega)), s3⟩ (fun k' => n 4 _ _ (by decide) (by decide)) (fun t => n 19 _ _ (by decide) (by decide)) (fun t => n 20 _ _ (by decide) (by decide)) (zjF.no (by rw [r, if_pos ⟨rfl, rfl, rfl⟩]))
    have g' := h.2.1.2.1 k' hk'
    rw [n 4 _ _ (by decide) (by decide)]
    refine ⟨g'.1, ?_⟩
    rw [r, if_neg (fun z => by omega)]
    by_cases q : k' = k
    · rw [if_pos ⟨rfl, q, rfl⟩]
      exact (rng v).mp hv
    · rw [if_neg (fun z => q z.2.1)]
      exact g'.2
  · rw [es]
    unfold v_setAmount
    have e1' : lx (uI (uI σ 6 k 0 v) 35 0 0 0) 1 k = k := e1
    rw [e1', r, if_neg (fun z => by omega), if_pos ⟨rfl, rfl, rfl⟩]
theorem zhHo_ok : zhHo zJ := fun σ f c h r j x y hr hj hne hx hy => by
  have es : s_handOn σ r j (nI x) (nI y) = uI (uI (uI σ 32 0 r (nI j)) 33 0 r (nI x)) 34 0 r (nI y) := by
    unfold s_handOn
    split <;> rfl
  rw [es]
  have rr : ∀ q o e, sI (uI (uI (uI σ 32 0 r (nI j)) 33 0 r (nI x)) 34 0 r (nI y)) q o e = if q = 34 ∧ o = 0 ∧ e = r then nI y else if q = 33 ∧ o = 0 ∧ e = r then nI x else if q = 32 ∧ o = 0 ∧ e = r then nI j else sI σ q o e := fun q o e => by rw [qI_r, qI_r, qI_r]
  have n : ∀ q o e, q ≠ 34 → q ≠ 33 → q ≠ 32 → sI (uI (uI (uI σ 32 0 r (nI j)) 33 0 r (nI x)) 34 0 r (nI y)) q o e = sI σ q o e := fun q o e q1 q2 q3 => by rw [rr, if_neg (fun z => q1 z.1), if_neg (fun z => q2 z.1), if_neg (fun z => q3 z.1)]
  have r32 : ∀ i, sI (uI (uI (uI σ 32 0 r (nI j)) 33 0 r (nI x)) 34 0 r (nI y)) 32 0 i = if i = r then nI j else sI σ 32 0 i := fun i => by
    rw [rr, if_neg (fun z => by omega), if_neg (fun z => by omega)]
    by_cases q : i = r
    · rw [if_pos ⟨rfl, rfl, q⟩, if_pos q]
    · rw [if_neg (fun z => q z.2.2), if_neg q]
  have r33 : ∀ i, sI (uI (uI (uI σ 32 0 r (nI j)) 33 0 r (nI x)) 34 0 r (nI y)) 33 0 i = if i = r then nI x else sI σ 33 0 i := fun i => by
    rw [rr, if_neg (fun z => by omega)]
    by_cases q : i = r
    · rw [if_pos ⟨rfl, rfl, q⟩, if_pos q]
    · rw [if_neg (fun z => q z.2.2), if_neg q, if_neg (fun z => by omega)]
  have r34 : ∀ i, sI (uI (uI (uI σ 32 0 r (nI j)) 33 0 r (nI x)) 34 0 r (nI y)) 34 0 i = if i = r then nI y else sI σ 34 0 i := fun i => by
    rw [rr]
    by_cases q : i = r
    · rw [if_pos ⟨rfl, rfl, q⟩, if_pos q]
    · rw [if_neg (fun z => q z.2.2), if_neg q, if_neg (fun z => by omega), if_neg (fun z => by omega)]
  obtain ⟨s1, s2, s3⟩ := h.setv (S := uI (uI (uI σ 32 0 r (nI j)) 33 0 r (nI x)) 34 0 r (nI y)) rfl (fun q hq o x => n q o x (by omega) (by omega) (by omega))
  obtain ⟨v1, v2, v3⟩ := h.2.1.2.2.2.1
  refine h.I (σ := σ) rfl (h.sv (σ := σ) rfl (fun q hq o x => n q o x (by omega) (by omega) (by omega)) (fun i hi => ?_) (fun i hi => by rw [n 31 _ _ (by decide) (by decide) (by decide)]; exact h.1.2.2.1.2.2.2.2 i hi)) ⟨s1, fun k' hk' => ?_, s2, ⟨fun i hi => ?_, fun i hi => ?_, fun i hi => ?_⟩, s3⟩ (fun k' => n 4 _ _ (by decide) (by decide) (by decide)) (fun t => n 19 _ _ (by decide) (by decide) (by decide)) (fun t => n 20 _ _ (by decide) (by decide) (by decide)) (h.2.2.2.2.1.I h.1 rfl (n 35 _ _ (by decide) (by decide) (by decide)) h.in.1 (fun q hq o x => n q o x (by omega) (by omega) (by omega)))
  · rw [r32]
    by_cases q : i = r
    · rw [if_pos q, nI_clamp (by omega)]
      exact ⟨rfl, hj⟩
    · rw [if_neg q]
      exact h.1.2.2.1.2.2.2.1 i hi
  · rw [n 4 _ _ (by decide) (by decide) (by decide), n 6 _ _ (by decide) (by decide) (by decide)]
    exact h.2.1.2.1 k' hk'
  · unfold kR
    rw [r32]
    by_cases q : i = r
    · rw [if_pos q, nI_clamp (by omega)]
      exact hj
    · rw [if_neg q]
      exact v1 i hi
  · rw [r33]
    by_cases q : i = r
    · rw [if_pos q, nI_toInt (by omega)]
      omega
    · rw [if_neg q]
      exact v2 i hi
  · rw [r34]
    by_cases q : i = r
    · rw [if_pos q, nI_toInt (by omega)]
      omega
    · rw [if_neg q]
      exact v3 i hi
