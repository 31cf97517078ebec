/-! the invariant is kept: commuting -/
theorem zsumL_upd {f g : Nat → Int64} {k : Nat} : ∀ {n : Nat}, k < n → (∀ i, i < n → i ≠ k → f i = g i) → g k = 0 → zsumL f n = zsumL g n + f k
  | 0, h, _, _ => absurd h (Nat.not_lt_zero _)
  | n + 1, h, e, g0 => by
    show zsumL f n + f n = zsumL g n + g n + f k
    by_cases c : k = n
    · subst c
      rw [zsumL_c (f := f) (g := g) (fun i hi => e i (by omega) (by omega)), g0, Int64.add_zero]
    · rw [zsumL_upd (n := n) (by omega) (fun i hi => e i (by omega)) g0, e n (by omega) (fun z => c z.symm), Int64.add_assoc, Int64.add_assoc, Int64.add_comm (f k)]
theorem settle_id {T : zSt} (h : sI T 35 0 0 ≠ 0) : s_settle T = T := if_neg h
/-- what a settled state says of a cover that isn't commuted -/
theorem zJ.cov {T : zSt} {f : Nat → Int32} {c : Int64} (h : zJ T f c) (hs : sI T 35 0 0 ≠ 0) {t : Nat} (ht : t < sN T 2) (hc : sI T 19 t 0 = 0) : (0 ≤ (sL T 4 t 0).toInt ∧ (sL T 4 t 0).toInt ≤ (sL T 3 t 0).toInt ∧ (sL T 3 t 0).toInt ≤ 30000000) ∧ 0 ≤ (sL T 5 t 0).toInt ∧ (sL T 5 t 0).toInt ≤ 2000000000 * (sL T 3 t 0).toInt := by
  obtain ⟨hin, hd, hZ, h30, h8⟩ := h.in
  obtain ⟨g1, g2⟩ := (h.2.2.2.2.1 hs).1.2.1 t ht hc
  rw [show 8 * 0 + t = t by omega] at g1 g2
  have hb : (sL T 3 t 0).toInt ≤ 30 * 1000000 := by
    rw [g2]
    have := zSm_ub (f := fun i => (sL T 1 (lx T (5 + 4 * 0) i) t).toInt) (n := sZ T (5 + 4 * 0)) (c := 1000000) (fun i hi => by
      have k := hin i (by rw [← hZ]; exact hi)
      exact ((h.2.2.2.2.1 hs).1.1 i hi).b (h.2.1.2.1 _ k).2.2 |>.2 t (by omega))
    rw [hZ] at this ⊢
    have e : ((sN T 1 : Nat) : Int) * 1000000 ≤ 30 * 1000000 := by omega
    omega
  have k := g1.2.2.2.2
  exact ⟨⟨g1.2.1.1, g1.2.1.2, by omega⟩, k.1, by have := g1.2.1.2; omega⟩
theorem comm_J {T : zSt} {f : Nat → Int32} {c : Int64} {t p : Nat} (h : zJ T f c) (hs : sI T 35 0 0 ≠ 0) (ht : t < sN T 2) (hp : p < 300) (hc : sI T 19 t 0 = 0) : zJ (uI (uI (uI T 19 t 0 1) 20 t 0 (nI p)) 35 0 0 0) (upd f t 1) (c + (sL T 3 t 0 + (nI p).toInt64)) := by
  obtain ⟨hin, hd, hZ, h30, h8⟩ := h.in
  have hcov := h.cov hs ht hc
  have r : ∀ q o x, sI (uI (uI (uI T 19 t 0 1) 20 t 0 (nI p)) 35 0 0 0) q o x = if q = 35 ∧ o = 0 ∧ x = 0 then 0 else if q = 20 ∧ o = t ∧ x = 0 then nI p else if q = 19 ∧ o = t ∧ x = 0 then 1 else sI T q o x := fun q o x => by rw [qI_r, qI_r, qI_r]
  have n : ∀ q o x, q ≠ 35 → q ≠ 20 → q ≠ 19 → sI (uI (uI (uI T 19 t 0 1) 20 t 0 (nI p)) 35 0 0 0) q o x = sI T q o x := fun q o x q1 q2 q3 => by rw [r, if_neg (fun z => q1 z.1), if_neg (fun z => q2 z.1), if_neg (fun z => q3 z.1)]
  have r19 : ∀ t', sI (uI (uI (uI T 19 t 0 1) 20 t 0 (nI p)) 35 0 0 0) 19 t' 0 = if t' = t then 1 else sI T 19 t' 0 := fun t' => by
    rw [r, if_neg (fun z => by omega), if_neg (fun z => by omega)]
    by_cases q : t' = t
    · rw [if_pos ⟨rfl, q, rfl⟩, if_pos q]
    · rw [if_neg (fun z => q z.2.1), if_neg q]
  have r20 : ∀ t', sI (uI (uI (uI T 19 t 0 1) 20 t 0 (nI p)) 35 0 0 0) 20 t' 0 = if t' = t then nI p else sI T 20 t' 0 := fun t' => by
    rw [r, if_neg (fun z => by omega)]
    by_cases q : t' = t
    · rw [if_pos ⟨rfl, q, rfl⟩, if_pos q]
    · rw [if_neg (fun z => q z.2.1), if_neg q, if_neg (fun z => by omega)]
  obtain ⟨S, hS⟩ : ∃ S, S = uI (uI (uI T 19 t 0 1) 20 t 0 (nI p)) 35 0 0 0 := ⟨_, rfl⟩
  have e2 : S.2 = T.2 := by rw [hS]; rfl
  have r35 : sI S 35 0 0 = 0 := by rw [hS, r, if_pos ⟨rfl, rfl, rfl⟩]
  rw [← hS] at r n r19 r20 ⊢
  clear r hS
  have hv : zSv S := h.sv e2 (fun q hq o x => n q o x (by omega) (by omega) (by omega)) (fun i hi => by rw [n 32 _ _ (by decide) (by decide) (by decide)]; exact h.1.2.2.1.2.2.2.1 i hi) (fun i hi => by rw [n 31 _ _ (by decide) (by decide) (by decide)]; exact h.1.2.2.1.2.2.2.2 i hi)
  have hN : sN S = sN T := congrArg (fun z => z.2.2.2.2.2.1) e2
  have hL : sL S = sL T := congrArg (fun z => z.1) e2
  have hE : sE S = sE T := congrArg (fun z => z.2.1) e2
  have hx : ∀ i, lx S (5 + 4 * 0) i = lx T (5 + 4 * 0) i := fun i => by unfold lx; rw [hE]
  have hg : zGq S T := zGq.of (congrArg (fun z => z.2) e2)
  obtain ⟨w, ⟨hP, hK, hT, hVp, hSc⟩, hLi, hC, hF, hG⟩ := h
  refine ⟨w.I e2 hv, ⟨fun p' hp' => ?_, fun k hk => ?_, fun t' ht' => ?_, hVp.of (fun q q1 q2 x => n q _ _ (by omega) (by omega) (by omega)), fun c' hc' => ?_⟩, ⟨fun g => ?_, fun i i' h1 h2 => ?_⟩, ⟨fun t' ht' => ?_, fun t' ht' => ?_, fun t' ht' hct => ?_, ?_⟩, zjF.no r35, hG.mv hN hg⟩
  · rw [n 0 _ _ (by decide) (by decide) (by decide)]
    exact hP p' (by rw [← hN]; exact hp')
  · rw [n 4 _ _ (by decide) (by decide) (by decide), n 6 _ _ (by decide) (by decide) (by decide)]
    exact hK k (by rw [← hN]; exact hk)
  · have g := hT t' (by rw [← hN]; exact ht')
    refine ⟨g.1.of (fun q q1 q2 => n q _ _ (by omega) (by omega) (by omega)), ?_, ?_⟩
    · simp only [fun x => n 21 t' x (by decide) (by decide) (by decide)]
      exact g.2.1
    · rw [r20]
      by_cases q : t' = t
      · rw [if_pos q, nI_toInt (by omega)]
        omega
      · rw [if_neg q]
        exact g.2.2
  · rw [n 23 _ _ (by decide) (by decide) (by decide), n 24 _ _ (by decide) (by decide) (by decide)]
    simp only [fun x => n 25 c' x (by decide) (by decide) (by decide)]
    exact hSc c' (by rw [← hN]; exact hc')
  · rw [hN]
    simp only [hx]
    exact hLi.1 g
  · rw [hx, hx, n 4 _ _ (by decide) (by decide) (by decide), n 4 _ _ (by decide) (by decide) (by decide)]
    exact hLi.2 i i' h1 (by rw [← hN]; exact h2)
  · rw [r19]
    unfold upd
    by_cases q : t' = t
    · rw [if_pos q, if_pos q]
    · rw [if_neg q, if_neg q]
      exact hC.1 t' (by rw [← hN]; exact ht')
  · rw [hN] at ht'
    unfold upd
    rw [if_neg (by omega)]
    exact hC.2.1 t' ht'
  · rw [hL]
    by_cases q : t' = t
    · rw [q]
      exact hcov
    · rw [r19, if_neg q] at hct
      exact hC.2.2.1 t' (by rw [← hN]; exact ht') hct
  · rw [hC.2.2.2, hN]
    have e := zsumL_upd (f := fun t' => if sI S 19 t' 0 = 0 then 0 else sL S 3 t' 0 + (sI S 20 t' 0).toInt64) (g := fun t' => if sI T 19 t' 0 = 0 then 0 else sL T 3 t' 0 + (sI T 20 t' 0).toInt64) ht (fun i _ hi => by
      show (if sI S 19 i 0 = 0 then (0 : Int64) else sL S 3 i 0 + (sI S 20 i 0).toInt64) = if sI T 19 i 0 = 0 then 0 else sL T 3 i 0 + (sI T 20 i 0).toInt64
      rw [r19, r20, if_neg hi, if_neg hi, hL]) (if_pos hc)
    rw [e]
    have e1 : (if sI S 19 t 0 = 0 then (0 : Int64) else sL S 3 t 0 + (sI S 20 t 0).toInt64) = sL T 3 t 0 + (nI p).toInt64 := by
      rw [r19, r20, if_pos rfl, if_pos rfl, if_neg (by decide), hL]
    rw [e1]
theorem zhC_ok : zhC zJ := fun σ f c h t p ht hp => by
  obtain ⟨s1, s2, s3⟩ := h.settle
  have hfs := (settle_W h.1).2
  have hN : sN (s_settle σ) = sN σ := hfs.1.1
  have h8 := h.in.2.2.2.2
  have hm8 : t % 8 = t := Nat.mod_eq_of_lt (by omega)
  have htT : t < sN (s_settle σ) 2 := by rw [hN]; exact ht
  rw [hm8]
  refine ⟨s1.2.2.2.1.1 t htT, fun hc => ?_, fun hc => ?_⟩
  · have ec : s_comm (s_settle σ) t (nI p) = uI (uI (uI (s_settle σ) 19 t 0 1) 20 t 0 (nI p)) 35 0 0 0 := by
      unfold s_comm
      rw [hm8, settle_id s2]
    rw [ec]
    have j1 := comm_J s1 s2 htT hp hc
    clear ec
    generalize s_settle σ = T at *
    have r19 : sI (uI (uI (uI T 19 t 0 1) 20 t 0 (nI p)) 35 0 0 0) 19 t 0 ≠ 0 := by
      rw [qI_r, if_neg (fun z => by omega), qI_r, if_neg (fun z => by omega), qI_r, if_pos ⟨rfl, rfl, rfl⟩]
      decide
    have eN : sN (uI (uI (uI T 19 t 0 1) 20 t 0 (nI p)) 35 0 0 0) = sN T := rfl
    have eL : sL (uI (uI (uI T 19 t 0 1) 20 t 0 (nI p)) 35 0 0 0) = sL T := rfl
    generalize uI (uI (uI T 19 t 0 1) 20 t 0 (nI p)) 35 0 0 0 = C at *
    obtain ⟨k1, k2, k3⟩ := j1.settle
    have k3' := k3 t (by rw [eN]; exact htT) r19
    refine ⟨k1, j1.1, eN.trans hN, ?_, ?_⟩
    · show sL (s_settle C) 3 t 0 = sL T 3 t 0
      rw [k3' 3 (by decide) (by decide), eL]
    · rw [k3' 5 (by decide) (by decide), eL]
  · have hct : ¬ f t = 0 := fun z => hc ((s1.2.2.2.1.1 t htT).mp z)
    have ef : ∀ t', upd f t 1 t' = 0 ↔ f t' = 0 := fun t' => by
      unfold upd
      by_cases q : t' = t
      · rw [if_pos q, q]
        constructor
        · intro z
          exact absurd z (by decide)
        · intro z
          exact absurd z hct
      · rw [if_neg q]
    obtain ⟨w, hd, hLi, hC, hF, hG⟩ := s1
    refine ⟨w, hd, hLi, ⟨fun t' ht' => (ef t').trans (hC.1 t' ht'), fun t' ht' => (ef t').mpr (hC.2.1 t' ht'), hC.2.2.1, ?_⟩, hF, hG⟩
    rw [Int64.add_zero]
    exact hC.2.2.2
