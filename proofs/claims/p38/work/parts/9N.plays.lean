/-! a play keeps the invariant; its net hangs on what stands alone -/
theorem clear9_q (ρ : zSt) : zGq (s_clear ρ 9) ρ := by
  obtain ⟨-, -, h3, h4⟩ := s_clear_I ρ 9
  unfold zGq zcz zcs
  rw [s_clear_C, h3, h4]
  exact ⟨rfl, rfl⟩
section ZPY
variable {ρ : zSt} {f : Nat → Int32} {cm : Int64} {c : Nat}
theorem fill_v (h : zJ ρ f cm) (hc : c < sN ρ 3) : ∃ P, P = s_playFill (s_clear ρ 9) c ∧ zW P ∧ zFs P ρ ∧ P.2.1 = ρ.2.1 ∧ (∀ t o e, ¬ (4 ≤ t ∧ t ≤ 6 ∧ 30 ≤ o) → sI P t o e = sI ρ t o e) ∧ zPf ρ P c (sN ρ 0) ∧ zGq P ρ ∧ zQf 1 P := by
  obtain ⟨⟨c1, c2, c3⟩, ⟨p1, p2⟩, -⟩ := play_pre c h.1
  obtain ⟨i1, i2, -, -⟩ := s_clear_I ρ 9
  have gq := clear9_q ρ
  have z4 : sZ (s_clear ρ 9) 4 = sN ρ 0 := by
    rw [c1.1.2.2.2.2.2.1.1, c2.1.1]
  obtain ⟨v1, v2, ⟨g, g1, g2⟩, v4⟩ := plI_v (c := c) c1 c3 (sZ (s_clear ρ 9) 4) (Nat.le_refl _)
  have e : plI (s_clear ρ 9) c (sZ (s_clear ρ 9) 4) = s_playFill (s_clear ρ 9) c := rfl
  rw [e] at v1 v2 g1 g2 v4
  have fs := p2.trans c2
  have w1 : ∀ t o x, ¬ (4 ≤ t ∧ t ≤ 6 ∧ 30 ≤ o) → sI (s_playFill (s_clear ρ 9) c) t o x = sI ρ t o x := fun t o x ht => (v2 t o x ht).trans (sI_1 i1 t o x)
  have g1' : ∀ y, y < sZ (s_playFill (s_clear ρ 9) c) 9 → g y < sN ρ 0 ∧ lx (s_playFill (s_clear ρ 9) c) 9 y = 30 + g y ∧ sI (s_playFill (s_clear ρ 9) c) 4 (30 + g y) 0 = sI ρ 23 c 0 ∧ sI (s_playFill (s_clear ρ 9) c) 5 (30 + g y) 0 = sI ρ 23 c 0 ∧ sI (s_playFill (s_clear ρ 9) c) 6 (30 + g y) 0 = v_damageOf ρ c (g y) ∧ ¬ v_damageOf ρ c (g y) ≤ 0 := fun y hy => by
    have a := g1 y hy
    rw [z4, sI_1 i1, damage_c (fun t _ o x => sI_1 i1 t o x)] at a
    exact a
  clear g1 v2 e
  have gq2 := zGq.trans v4 gq
  have l2 := v1.trans i2
  generalize s_playFill (s_clear ρ 9) c = P at *
  have hN : sN P = sN ρ := fs.1.1
  have hP : sP P = sP ρ := fs.1.2.1
  refine ⟨P, rfl, p1, fs, l2, w1, ⟨g, g1', g2⟩, gq2, ⟨by decide, p1.1.2.2.2.1.2, p1.1.2.2.2.2.2.2.2.2.1, fun i hi => ?_⟩, ?_, fun i i' h1 h2 => ?_, fun i i' h1 h2 => ?_, fun i hi => ?_, fun t ht => ?_⟩
  · have : lx P 10 i = 8 + i := p1.2.1.2.2.2.2.2.2.1 i hi
    show lx P 10 i = 8 * 1 + i
    omega
  · show sZ P 9 ≤ 30
    have := p1.2.2.2.2.2.1.2
    omega
  · have a1 := (g1' i (Nat.lt_trans h1 h2)).2.1
    have a2 := (g1' i' h2).2.1
    have a3 := g2 i i' h1 h2
    show lx P 9 i ≠ lx P 9 i'
    omega
  · have a1 := g1' i (Nat.lt_trans h1 h2)
    have a2 := g1' i' h2
    show (sI P 4 (lx P 9 i) 0).toInt ≤ (sI P 4 (lx P 9 i') 0).toInt
    rw [a1.2.1, a2.2.1, a1.2.2.1, a2.2.2.1]
    exact Int.le_refl _
  · have a := g1' i hi
    show (0 ≤ (sI P 4 (lx P 9 i) 0).toInt ∧ (sI P 4 (lx P 9 i) 0).toInt ≤ 999) ∧ (0 ≤ (sI P 6 (lx P 9 i) 0).toInt ∧ (sI P 6 (lx P 9 i) 0).toInt ≤ 1000000) ∧ 1 ≤ (sI P 0 (sP P (lx P 9 i)) 0).toInt ∧ (sI P 0 (sP P (lx P 9 i)) 0).toInt ≤ 1000000
    rw [a.2.1, a.2.2.1, a.2.2.2.2.1, hP, h.1.2.1.2.2.2.2.2.2.2.1 _ a.1, w1 0 _ _ (by omega)]
    exact ⟨(h.2.1.2.2.2.2 c hc).1, damage_b h hc a.1, h.2.1.1 _ a.1⟩
  · exact (h.2.1.2.2.1 t (by rw [← hN]; exact ht)).1.of (fun q q1 q2 => w1 q t 0 (by omega))
theorem play_J (h : zJ ρ f cm) (hc : c < sN ρ 3) : zJ (s_play ρ c) f cm ∧ (∀ z, sL (s_play ρ c) 6 z 0 = if z = c then v_scNet ρ c else sL ρ 6 z 0) ∧ 0 ≤ (v_scNet ρ c).toInt ∧ (v_scNet ρ c).toInt ≤ 30000000 := by
  obtain ⟨P, eP, p1, fs, l2, w1, ⟨g, g1, g2⟩, gq, pq⟩ := fill_v h hc
  have hpw := play_W (c := c) h.1
  have h56 : sN P 5 = sN P 2 ∧ sN P 6 = sN P 2 := ⟨p1.1.2.2.2.2.2.2.2.1.2, p1.1.2.2.2.2.2.2.2.2.2⟩
  obtain ⟨r1, r2, r3, r4, r5⟩ := run_v (tr := -1) (hb_ok 1) p1.wf1 pq h56
  have rd := (run_d (-1) (-1) p1.wf1 p1.wf1 pq h56 ⟨⟨rfl, rfl⟩, ⟨⟨rfl, fun _ _ => rfl⟩, rfl, fun _ _ => rfl⟩, fun _ _ _ _ => rfl, fun _ _ _ _ _ => rfl, fun i hi => ⟨i, hi, rfl⟩⟩).2.2.2
  have r22 := z22_run (-1) (by decide : 1 < 2) p1.wf1 (fun i hi => by
    rw [pq.1.2.2.2 i (by rw [← pq.1.2.2.1]; exact hi)]
    have := pq.1.2.1
    have : i < sN P 2 := by rw [← pq.1.2.2.1]; exact hi
    omega)
  have r6 := z6_run P 1 (-1)
  have rf := (run1_W (tr := -1) p1).2
  have rfs := rf.fs (by decide : 1 < 2)
  have es : s_play ρ c = uL (s_run P 1 (-1)) 6 c 0 (v_allLeft (s_run P 1 (-1)) 1) := by
    unfold s_play
    rw [← eP]
  have ev : v_scNet ρ c = v_allLeft (s_run P 1 (-1)) 1 := by
    unfold v_scNet
    rw [es, qL_r, if_pos ⟨rfl, rfl, rfl⟩]
  have rgq := zGq.fr (by decide : 1 < 2) rf
  rw [ev]
  rw [es] at hpw ⊢
  clear es ev eP
  generalize s_run P 1 (-1) = R at *
  have nb : 0 ≤ (v_allLeft R 1).toInt ∧ (v_allLeft R 1).toInt ≤ 30000000 := by
    have h30 : sZ R (5 + 4 * 1) ≤ 30 := r1.2.1
    have a := zsumL_nn (f := fun y => sL R 0 (lx R (5 + 4 * 1) y) 0) (n := sZ R (5 + 4 * 1)) (M := 1000000) (by decide) (fun i hi => ⟨(r2.1 i hi).1, ((r2.1 i hi).b (r1.2.2.2.2.1 i hi).2.1.2).1⟩) (by omega)
    have e : v_allLeft R 1 = zsumL (fun y => sL R 0 (lx R (5 + 4 * 1) y) 0) (sZ R (5 + 4 * 1)) := rfl
    rw [e]
    exact ⟨a.2.1, by have := a.2.2; omega⟩
  have qL : ∀ q o x, q ≠ 6 → sL (uL R 6 c 0 (v_allLeft R 1)) q o x = sL R q o x := fun q o x hq => by rw [qL_r, if_neg (fun z => hq z.1)]
  have RI : ∀ t o x, sI (uL R 6 c 0 (v_allLeft R 1)) t o x = sI R t o x := fun _ _ _ => rfl
  have P0 : ∀ q o x, sL P q o x = sL ρ q o x := fun q o x => congrFun (congrFun (congrFun l2 q) o) x
  have V : ∀ t, t < 8 → ∀ q, 2 ≤ q → q ≤ 5 → sL R q t 0 = sL ρ q t 0 := fun t ht q q1 q2 => (r4 q t 0 q1 q2 (Or.inl (by omega))).trans (P0 q t 0)
  have Kl : ∀ k, k < 30 → ∀ q, q < 2 → ∀ x, sL R q k x = sL ρ q k x := fun k hk q hq x => (rd k (fun ⟨y, hy, ey⟩ => by
    have a := (g1 y hy).2.1
    have ey' : lx P 9 y = k := ey
    omega) q hq x).trans (P0 q k x)
  obtain ⟨hin, hd, hZ, h30, h8⟩ := h.in
  refine ⟨h.mv hpw.1 hpw.2 (fun t ht _ q q1 q2 => ?_) (zjF.mv h.1 hpw.2 ?_ hin (fun k hk => ⟨?_, fun x => ?_⟩) (fun t ht q q1 q2 => ?_) (fun t z ht => ?_) h.2.2.2.2.1) ?_, fun z => ?_, nb⟩
  · rw [qL q t 0 (by omega)]
    exact V t (by omega) q (by omega) q2
  · rw [RI, rf.2.2.1 35 (by unfold zst; omega)]
    exact w1 35 0 0 (by omega)
  · rw [qL 0 k 0 (by decide)]
    exact Kl k hk 0 (by decide) 0
  · rw [qL 1 k x (by decide)]
    exact Kl k hk 1 (by decide) x
  · rw [qL q t 0 (by omega)]
    exact V t ht q q1 q2
  · rw [RI, r22 t z (by omega)]
    exact w1 22 t z (by omega)
  · exact (zGq.of rfl).trans (rgq.trans gq)
  · rw [qL_r]
    by_cases q : z = c
    · rw [if_pos ⟨rfl, q, rfl⟩, if_pos q]
    · rw [if_neg (fun y => q y.2.1), if_neg q]
      have a : sL R 6 z 0 = sL P 6 z 0 := congrFun (congrFun r6 z) 0
      rw [a, P0]
theorem play_a {σ : zSt} {f' : Nat → Int32} {cm' : Int64} (h : zJ ρ f cm) (h' : zJ σ f' cm') (e : zFs ρ σ) (hc : c < sN σ 3) : v_scNet ρ c = v_scNet σ c := by
  have hN : sN ρ = sN σ := e.1.1
  obtain ⟨P, eP, p1, fs, l2, w1, ⟨g, g1, g2⟩, gq, pq⟩ := fill_v h (by rw [hN]; exact hc)
  obtain ⟨Q, eQ, q1, fs', l2', w1', ⟨g', g1', g2'⟩, gq', qq⟩ := fill_v h' hc
  obtain ⟨⟨c1, c2, c3⟩, -, -⟩ := play_pre c h.1
  obtain ⟨⟨d1, d2, d3⟩, -, -⟩ := play_pre c h'.1
  have nQd : ∀ q, q < 7 ∨ q = 10 → ¬ zQd q := zQn
  have st : ∀ t, zsT t → ∀ o x, sI ρ t o x = sI σ t o x := e.2.2.1
  have x4 : ∀ i, lx (s_clear ρ 9) 4 i = lx (s_clear σ 9) 4 i := fun i => by
    rw [zSx_lx c2.1 (nQd 4 (by omega)), zSx_lx d2.1 (nQd 4 (by omega)), zSx_lx e.1 (nQd 4 (by omega))]
  have z4 : sZ (s_clear ρ 9) 4 = sZ (s_clear σ 9) 4 := by rw [c1.1.2.2.2.2.2.1.1, d1.1.2.2.2.2.2.1.1, c2.1.1, d2.1.1, hN]
  have ag := plI_a (c := c) c1 c3 d1 d3 (by rw [c2.1.1, d2.1.1, hN]) (fun i _ => x4 i) (fun t ht o x => by
    rw [sI_1 (s_clear_I ρ 9).1, sI_1 (s_clear_I σ 9).1]
    exact st t (by unfold zsT; omega) o x) (sZ (s_clear ρ 9) 4) (Nat.le_refl _)
  have eP' : plI (s_clear ρ 9) c (sZ (s_clear ρ 9) 4) = P := eP.symm
  have eQ' : plI (s_clear σ 9) c (sZ (s_clear ρ 9) 4) = Q := by rw [z4]; exact eQ.symm
  rw [eP', eQ'] at ag
  have ev : v_scNet ρ c = v_allLeft (s_run P 1 (-1)) 1 := by
    unfold v_scNet s_play
    rw [← eP, qL_r, if_pos ⟨rfl, rfl, rfl⟩]
  have ev' : v_scNet σ c = v_allLeft (s_run Q 1 (-1)) 1 := by
    unfold v_scNet s_play
    rw [← eQ, qL_r, if_pos ⟨rfl, rfl, rfl⟩]
  have sP' : sP P = sP Q := by rw [fs.1.2.1, fs'.1.2.1, e.1.2.1]
  have sN' : sN P = sN Q := by rw [fs.1.1, fs'.1.1, hN]
  have h56 : sN P 5 = sN P 2 ∧ sN P 6 = sN P 2 := ⟨p1.1.2.2.2.2.2.2.2.1.2, p1.1.2.2.2.2.2.2.2.2.2⟩
  have dm : ∀ p, v_damageOf ρ c p = v_damageOf σ c p := fun p => damage_c (fun t ht o x => st t (by unfold zsT; omega) o x) c p
  have as' : zAs 1 (zKl 1 P) P Q := by
    refine ⟨⟨sN', sP'⟩, ⟨ag, ?_, fun i _ => ?_⟩, fun t ht o x => ?_, fun t t1 t2 o ⟨y, hy, ey⟩ => ?_, fun i hi => ⟨i, hi, rfl⟩⟩
    · show sZ P 10 = sZ Q 10
      rw [p1.1.2.2.2.2.2.2.2.2.1, q1.1.2.2.2.2.2.2.2.2.1, sN']
    · show lx P 10 i = lx Q 10 i
      rw [zSx_lx fs.1 (nQd 10 (by omega)), zSx_lx fs'.1 (nQd 10 (by omega)), zSx_lx e.1 (nQd 10 (by omega))]
    · unfold zatt at ht
      rw [w1 t o x (by omega), w1' t o x (by omega)]
      exact st t (by unfold zsT; omega) o x
    · have hy' : y < sZ P 9 := hy
      have a := g1 y hy'
      have b := g1' y (by rw [← ag.1]; exact hy')
      have ab : 30 + g y = 30 + g' y := a.2.1.symm.trans ((ag.2 y hy').trans b.2.1)
      have eo : o = 30 + g y := ey.symm.trans a.2.1
      have e23 : sI ρ 23 c 0 = sI σ 23 c 0 := st 23 (by unfold zsT; omega) c 0
      rw [eo]
      rcases (show t = 4 ∨ t = 5 ∨ t = 6 by omega) with u | u | u
      · rw [u, a.2.2.1, ab, b.2.2.1, e23]
      · rw [u, a.2.2.2.1, ab, b.2.2.2.1, e23]
      · rw [u, a.2.2.2.2.1, ab, b.2.2.2.2.1, dm, show g y = g' y by omega]
  have rd := (run_d (-1) (-1) p1.wf1 q1.wf1 pq h56 as').2.1
  have f1 := (run1_W (tr := -1) p1).2
  have f2 := (run1_W (tr := -1) q1).2
  have n9 : ¬ zQb 1 9 := by unfold zQb; omega
  rw [ev, ev']
  show zsumL (fun y => sL (s_run P 1 (-1)) 0 (lx (s_run P 1 (-1)) 9 y) 0) (sZ (s_run P 1 (-1)) 9) = zsumL (fun y => sL (s_run Q 1 (-1)) 0 (lx (s_run Q 1 (-1)) 9 y) 0) (sZ (s_run Q 1 (-1)) 9)
  rw [zSx_Z f1.1 n9, zSx_Z f2.1 n9, ag.1]
  refine zsumL_c (fun y hy => ?_)
  show sL (s_run P 1 (-1)) 0 (lx (s_run P 1 (-1)) 9 y) 0 = sL (s_run Q 1 (-1)) 0 (lx (s_run Q 1 (-1)) 9 y) 0
  have hy' : y < sZ P 9 := by rw [ag.1]; exact hy
  rw [zSx_lx f1.1 n9, zSx_lx f2.1 n9, ← ag.2 y hy']
  exact (rd _ ⟨y, hy', rfl⟩).1
end ZPY
