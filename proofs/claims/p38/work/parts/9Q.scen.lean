/-! a new scenario; the first state -/
section ZSN
variable {σ : zSt} {f : Nat → Int32} {cm : Int64}
theorem damage_0 {c p : Nat} (h : ∀ e, sI σ 25 c e = 0) : v_damageOf σ c p = 0 := by
  unfold v_damageOf
  split
  · rfl
  · rw [h]
    have e : (0 : Int32).toInt64 = 0 := rfl
    rw [e, Int64.mul_zero]
    decide
theorem play_0 (h : zJ σ f cm) {c : Nat} (hc : c < sN σ 3) (h0 : ∀ e, sI σ 25 c e = 0) : v_scNet σ c = 0 := by
  obtain ⟨P, eP, p1, fs, l2, w1, ⟨g, g1, g2⟩, gq, pq⟩ := fill_v h hc
  have z9 : sZ P 9 = 0 := by
    rcases Nat.eq_zero_or_pos (sZ P 9) with v | v
    · exact v
    · have a := (g1 0 v).2.2.2.2.2
      rw [damage_0 h0] at a
      exact absurd (by decide) a
  have n9 : ¬ zQb 1 9 := by unfold zQb; omega
  have f1 := (run1_W (tr := -1) p1).2
  have zr : sZ (s_run P 1 (-1)) 9 = 0 := by rw [zSx_Z f1.1 n9, z9]
  have ev : v_scNet σ c = v_allLeft (s_run P 1 (-1)) 1 := by
    unfold v_scNet s_play
    rw [← eP, qL_r, if_pos ⟨rfl, rfl, rfl⟩]
  rw [ev]
  show zsumL (fun y => sL (s_run P 1 (-1)) 0 (lx (s_run P 1 (-1)) 9 y) 0) (sZ (s_run P 1 (-1)) 9) = 0
  rw [zr]
  rfl
theorem dmg_J (h : zJ σ f cm) {s z x : Nat} (hx : x ≤ 100) : zJ (uI σ 25 s z (nI x)) f cm := by
  have n : ∀ q o y, q ≠ 25 → sI (uI σ 25 s z (nI x)) q o y = sI σ q o y := fun q o y hq => by rw [qI_r, if_neg (fun w => hq w.1)]
  refine h.I (σ := σ) rfl (h.sv (σ := σ) rfl (fun q hq o y => n q o y (by omega)) (fun i hi => by rw [n 32 _ _ (by decide)]; exact h.1.2.2.1.2.2.2.1 i hi) (fun i hi => by rw [n 31 _ _ (by decide)]; exact h.1.2.2.1.2.2.2.2 i hi)) ⟨fun p hp => ?_, fun k hk => ?_, fun t ht => ?_, h.2.1.2.2.2.1.of (fun q q1 q2 y => n q _ _ (by omega)), fun c hc => ?_⟩ (fun k' => n 4 _ _ (by decide)) (fun t => n 19 _ _ (by decide)) (fun t => n 20 _ _ (by decide)) (h.2.2.2.2.1.I h.1 rfl (n 35 _ _ (by decide)) h.in.1 (fun q hq o y => n q o y (by omega)))
  · rw [n 0 _ _ (by decide)]
    exact h.2.1.1 p hp
  · rw [n 4 _ _ (by decide), n 6 _ _ (by decide)]
    exact h.2.1.2.1 k hk
  · have g := h.2.1.2.2.1 t ht
    refine ⟨g.1.of (fun q _ _ => n q t 0 (by omega)), ?_, ?_⟩
    · simp only [fun y => n 21 t y (by decide)]
      exact g.2.1
    · rw [n 20 _ _ (by decide)]
      exact g.2.2
  · have g := h.2.1.2.2.2.2 c hc
    rw [n 23 _ _ (by decide), n 24 _ _ (by decide)]
    refine ⟨g.1, g.2.1, fun z' hz' => ?_⟩
    rw [qI_r]
    split
    · rw [nI_toInt (by omega)]
      omega
    · exact g.2.2 z' hz'
end ZSN
theorem zhSc_ok : zhSc zJ := fun σ f c h h12 d w z x hd hw1 hw9 hz hx => by
  obtain ⟨q1, q2, q3⟩ := scen_J h h12 hd hw1 hw9
  refine ⟨_, _, _, rfl, rfl, rfl, ?_⟩
  generalize s_scenario σ (nI d) (nI w) = Q at *
  have hc : sN σ 3 < sN Q 3 := by
    rw [q2]
    exact Nat.lt_succ_self _
  generalize sN σ 3 = s at *
  obtain ⟨r1, r2, r3⟩ := play_J q1 hc
  have fr := (play_W (c := s) q1.1).2
  have nR : sN (s_play Q s) = sN Q := fr.1.1
  have v0 := play_0 q1 hc q3
  have e3 : lx (s_play Q s) 3 s = s := r1.1.2.1.2.2.2.1 s (by rw [nR]; exact hc)
  have eD : s_damage (s_play Q s) s z (nI x) = uI (s_play Q s) 25 s z (nI x) := by
    unfold s_damage
    rw [e3]
  have eV : v_damage (s_play Q s) s z (nI x) = 0 := by
    unfold v_damage
    rw [e3, fr.2.2.1 25 (by unfold zsT; omega)]
    exact q3 z
  rw [eD]
  have dJ := dmg_J r1 (s := s) (z := z) hx
  have nD : sN (uI (s_play Q s) 25 s z (nI x)) = sN Q := nR
  generalize uI (s_play Q s) 25 s z (nI x) = D at *
  obtain ⟨p1, p2, p3⟩ := play_J dJ (by rw [nD]; exact hc)
  exact ⟨q1, r1, dJ, p1, q2, nR, nD, (play_W (c := s) dJ.1).2.1.1.trans nD, v0, eV, l_nn p3.1⟩
theorem zJ0_ok : zJ zS0 (fun _ => 0) 0 := by
  have n : ∀ q, sN zS0 q = 0 := fun _ => rfl
  have i0 : ∀ t o e, t ≠ 26 → sI zS0 t o e = 0 := fun t o e h => if_neg h
  refine ⟨zS0_W, ⟨fun p hp => absurd hp (Nat.not_lt_zero _), fun k hk => absurd hk (Nat.not_lt_zero _), fun t ht => absurd ht (Nat.not_lt_zero _), ⟨fun i _ => ?_, fun i _ => ?_, fun i _ => ?_⟩, fun c hc => absurd hc (Nat.not_lt_zero _)⟩, ⟨fun g => rfl, fun i i' _ h => absurd h (Nat.not_lt_zero _)⟩, ⟨fun t ht => absurd ht (Nat.not_lt_zero _), fun _ _ => rfl, fun t ht => absurd ht (Nat.not_lt_zero _), rfl⟩, zjF.no (i0 35 0 0 (by decide)), ?_⟩
  · unfold kR
    rw [i0 32 0 i (by decide)]
    decide
  · rw [i0 33 0 i (by decide)]
    decide
  · rw [i0 34 0 i (by decide)]
    decide
  · have e1 : sgc zS0 = 39 := rfl
    have e2 : sgs zS0 = 438 := rfl
    have g1 := zcz_b zS0
    have g2 := zcs_b zS0
    unfold zjG
    rw [e1, e2, n, n, n, n]
    omega
