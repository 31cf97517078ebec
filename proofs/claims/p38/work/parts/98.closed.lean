/-! the invariant is kept: runs of the first flow, settling, setters, commuting -/
theorem zJ.q0 {σ : zSt} {f : Nat → Int32} {c : Int64} (h : zJ σ f c) : zQf 0 σ ∧ sN σ 5 = sN σ 2 ∧ sN σ 6 = sN σ 2 := by
  obtain ⟨hin, hd, hZ, h30, h8⟩ := h.in
  obtain ⟨w, ⟨hP, hK, hT, hV, hS⟩, hL, hC, hF, hG⟩ := h
  refine ⟨⟨⟨by decide, h8, w.1.2.2.2.2.2.2.2.1.1, fun i hi => ?_⟩, by rw [hZ]; exact h30, fun i i' h1 h2 => hd i i' h1 (by rw [← hZ]; exact h2), fun i i' h1 h2 => hL.2 i i' h1 (by rw [← hZ]; exact h2), fun i hi => ?_, fun t ht => (hT t ht).1⟩, w.1.2.2.2.2.2.2.2.1.2, w.1.2.2.2.2.2.2.2.2.2⟩
  · have := w.2.1.2.2.2.2.2.1 i hi
    show lx σ 6 i = 8 * 0 + i
    omega
  · rw [hZ] at hi
    have g := hin i hi
    have k := hK _ g
    exact ⟨k.1, k.2, hP _ (w.2.1.2.2.2.2.2.2.2.2 _ g)⟩
theorem zJ.x5 {S σ : zSt} {b : Nat} (hb : b < 2) (e : zFr b S σ) (i : Nat) : lx S (5 + 4 * 0) i = lx σ (5 + 4 * 0) i := zSx_lx e.1 (by unfold zQb; omega) i
/-- a run of the first flow -/
theorem zJ.run0 {σ : zSt} {f : Nat → Int32} {c : Int64} (tr : Int32) (h : zJ σ f c) : zJ (s_run σ 0 tr) f c ∧ zFi 0 (s_run σ 0 tr) ∧ (∀ t z, t < sN σ 2 → z < 4 → 0 ≤ (sI (s_run σ 0 tr) 22 t z).toInt ∧ (sI (s_run σ 0 tr) 22 t z).toInt ≤ sN σ 1) ∧ (∀ t, t < sN σ 2 → sI σ 19 t 0 ≠ 0 → ∀ q, 2 ≤ q → q ≤ 5 → sL (s_run σ 0 tr) q t 0 = sL σ q t 0) ∧ sI (s_run σ 0 tr) 26 0 0 = 1 := by
  obtain ⟨q0, h56⟩ := h.q0
  obtain ⟨hin, hd, hZ, h30, h8⟩ := h.in
  obtain ⟨v1, v2, v3, v4, v5⟩ := run_v (tr := tr) (hb_ok 0) h.1.wf0 q0 h56
  obtain ⟨w1, w2⟩ := run0_W (tr := tr) h.1
  have ev : ∀ t z, t < sN σ 2 → z < 4 → 0 ≤ (sI (s_run σ 0 tr) 22 t z).toInt ∧ (sI (s_run σ 0 tr) 22 t z).toInt ≤ sN σ 1 := fun t z ht hz => by
    have := v3 t z ht hz
    rw [hZ, show 8 * 0 + t = t by omega] at this
    exact this
  have fz : ∀ t, t < sN σ 2 → sI σ 19 t 0 ≠ 0 → ∀ q, 2 ≤ q → q ≤ 5 → sL (s_run σ 0 tr) q t 0 = sL σ q t 0 := fun t ht hc q q1 q2 => v4 q t 0 q1 q2 (Or.inr (Or.inl (by rw [show t % 8 = t by omega]; exact hc)))
  refine ⟨h.mv w1 (w2.fs (by decide)) (fun t ht hc q q1 q2 => fz t ht hc q (by omega) q2) (fun _ => ⟨v2, fun t z ht hz => ?_⟩) (zGq.fr (by decide) w2), v2, ev, fz, v5⟩
  have hN : sN (s_run σ 0 tr) = sN σ := w2.1.1
  rw [hN] at ht ⊢
  exact ev t z ht hz
theorem zJ.settle {σ : zSt} {f : Nat → Int32} {c : Int64} (h : zJ σ f c) : zJ (s_settle σ) f c ∧ sI (s_settle σ) 35 0 0 ≠ 0 ∧ ∀ t, t < sN σ 2 → sI σ 19 t 0 ≠ 0 → ∀ q, 2 ≤ q → q ≤ 5 → sL (s_settle σ) q t 0 = sL σ q t 0 := by
  by_cases c0 : sI σ 35 0 0 = 0
  · obtain ⟨j1, j2, j3, j4, j5⟩ := h.run0 (-1)
    have es : s_settle σ = uI (s_run σ 0 (-1)) 35 0 0 1 := if_pos c0
    obtain ⟨w1, w2⟩ := settle_W h.1
    have hw2 := (run0_W (tr := -1) h.1).2
    have hg := zGq.fr (by decide) hw2
    have hN : sN (s_run σ 0 (-1)) = sN σ := hw2.1.1
    clear hw2
    rw [es] at w1 w2 ⊢
    clear es
    generalize s_run σ 0 (-1) = R at *
    obtain ⟨hin, hd, hZ, h30, h8⟩ := j1.in
    have rI : ∀ q, q ≠ 35 → ∀ o x, sI (uI R 35 0 0 1) q o x = sI R q o x := fun q hq o x => by rw [qI_r, if_neg (fun z => hq z.1)]
    have hg2 : zGq (uI R 35 0 0 1) R := zGq.of rfl
    refine ⟨h.mv w1 w2 (fun t ht hc q q1 q2 => j4 t ht hc q (by omega) q2) (fun _ => ⟨?_, fun t z ht hz => ?_⟩) (hg2.trans hg), ?_, j4⟩
    · exact zFi0_mv (σ := R) rfl (fun _ => rfl) rfl (fun i hi => by have := hin i (by rw [← hZ]; exact hi); omega) (fun q hq t => rI q (by omega) t 0) (fun k _ => rI 6 (by decide) k 0) (fun k _ => ⟨rfl, fun _ => rfl⟩) (fun t _ q _ _ => rfl) h8 j2
    · have ht : t < sN σ 2 := by rw [← hN]; exact ht
      rw [rI 22 (by decide)]
      show _ ∧ _ ≤ ((sN R 1 : Nat) : Int)
      rw [hN]
      exact j3 t z ht hz
    · rw [qI_r, if_pos ⟨rfl, rfl, rfl⟩]
      decide
  · have es : s_settle σ = σ := if_neg c0
    rw [es]
    exact ⟨h, c0, fun _ _ _ _ _ _ => rfl⟩
theorem zhJs_ok : zhJs zJ := fun σ f c h => h.settle.1
theorem zhJ0_ok {rm : Room} (h1 : 10000 ≤ rm.cells) (h2 : 100000 ≤ rm.slots) : zhJ0 rm zJ := fun σ f c h => by
  have g := h.2.2.2.2.2
  have b1 := zcz_b σ
  have b2 := zcs_b σ
  have n0 := h.1.1.2.1.2
  have n1 := h.1.1.2.2.1.2
  have n2 := h.1.1.2.2.2.1.2
  have n3 := h.1.1.2.2.2.2.1.2
  unfold zjG at g
  exact ⟨h.1, by omega, by omega⟩
theorem zhJp_ok : zhJp zJ := fun σ τ f c h hw hp => by
  have e : zFs σ τ := zFs.of1 hp.1 hp.2.1
  have hL : ∀ q, q < 9 → ∀ o x, sL σ q o x = sL τ q o x := fun q hq o x => congrFun (congrFun (hp.2.2.1 q (by unfold zPool; omega)) o) x
  refine h.mv hw e (fun t _ _ q q1 q2 => hL q (by omega) _ _) (zjF.mv h.1 e (sI_1 hp.1 _ _ _) h.in.1 (fun k _ => ⟨hL 0 (by decide) _ _, fun e => hL 1 (by decide) _ _⟩) (fun t _ q _ q2 => hL q (by omega) _ _) (fun t z _ => sI_1 hp.1 _ _ _) h.2.2.2.2.1) (zGq.of hp.2.1)
theorem zhE_ok : zhE zJ := fun σ f c h t ht => by
  refine ⟨fun ρ => zJ ρ f c ∧ sN ρ = sN σ ∧ sI ρ 8 t 0 = sI σ 8 t 0, ⟨h, rfl, rfl⟩, fun ρ hρ => ⟨hρ.1, hρ.2.1⟩, fun ρ hρ => ?_, fun ρ hρ => ?_, fun ρ hρ h8 z hz => ?_, fun ρ hρ => by rw [hρ.2.2]⟩
  · have w := (settle_W hρ.1.1).2
    exact ⟨hρ.1.settle.1, w.1.1.trans hρ.2.1, (w.2.2.1 8 (by unfold zsT; omega) t 0).trans hρ.2.2⟩
  · have w := (run0_W (tr := nI t) hρ.1.1).2
    exact ⟨(hρ.1.run0 (nI t)).1, w.1.1.trans hρ.2.1, (w.2.2.1 8 (by unfold zst; omega) t 0).trans hρ.2.2⟩
  · obtain ⟨s1, s2, s3⟩ := hρ.1.settle
    have hN : sN (s_settle ρ) = sN σ := (settle_W hρ.1.1).2.1.1.trans hρ.2.1
    have ev := (s1.2.2.2.2.1 s2).2 t z (by rw [hN]; exact ht) hz
    refine ⟨?_, ?_⟩
    · refine w_le.mpr ?_
      rw [nI_toInt (by have := h.in.2.2.2.1; omega)]
      rw [hN] at ev
      exact ev.2
    · show ¬ v_laidBest (s_settle ρ) 0 t = 0
      unfold v_laidBest
      rw [(s1.run0 (nI t)).2.2.2.2]
      decide
/-- ints are changed only -/
theorem zW.I {S σ : zSt} (e : S.2 = σ.2) (hv : zSv S) (h : zW σ) : zW S := by
  obtain ⟨a, x⟩ := S
  obtain ⟨a', x'⟩ := σ
  cases e
  exact ⟨h.1, h.2.1, hv, h.2.2.2⟩
theorem zJ.I {S σ : zSt} {f : Nat → Int32} {c : Int64} (e : S.2 = σ.2) (h : zJ σ f c) (hv : zSv S) (hd : zjP S ∧ zjK S ∧ zjT S ∧ zVp S ∧ zjS S) (h4 : ∀ k, sI S 4 k 0 = sI σ 4 k 0) (h19 : ∀ t, sI S 19 t 0 = sI σ 19 t 0) (h20 : ∀ t, sI S 20 t 0 = sI σ 20 t 0) (hF : zjF S) : zJ S f c := by
  have hw := h.1.I e hv
  refine ⟨hw, hd, ?_, ?_, hF, ?_⟩
  · have g := h.2.2.1
    obtain ⟨a, x⟩ := S
    obtain ⟨a', x'⟩ := σ
    cases e
    refine ⟨g.1, fun i i' h1 h2 => ?_⟩
    rw [h4, h4]
    exact g.2 i i' h1 h2
  · have g := h.2.2.2.1
    obtain ⟨a, x⟩ := S
    obtain ⟨a', x'⟩ := σ
    cases e
    unfold zjC at *
    simp only [h19, h20]
    exact g
  · have g := h.2.2.2.2.2
    obtain ⟨a, x⟩ := S
    obtain ⟨a', x'⟩ := σ
    cases e
    exact g
theorem zVt.in {S σ : zSt} {t : Nat} (h : zVt σ t) (e : ∀ q, 8 ≤ q → q ≤ 13 → sI S q t 0 = sI σ q t 0) (h14 : 1 ≤ (sI S 14 t 0).toInt ∧ (sI S 14 t 0).toInt ≤ 9) (h15 : 0 ≤ (sI S 15 t 0).toInt ∧ (sI S 15 t 0).toInt ≤ 5) (h16 : 0 ≤ (sI S 16 t 0).toInt ∧ (sI S 16 t 0).toInt ≤ 200) (h18 : 0 ≤ (sI S 18 t 0).toInt ∧ (sI S 18 t 0).toInt ≤ 1000000) : zVt S t := by
  unfold zVt at *
  rw [e 8 (by decide) (by decide), e 10 (by decide) (by decide), e 11 (by decide) (by decide), e 12 (by decide) (by decide), e 13 (by decide) (by decide)]
  exact ⟨h.1, h.2.1, h.2.2.1, h.2.2.2.1, h.2.2.2.2.1, h14, h15, h16, h18⟩
/-- a treaty's later terms and shares are changed -/
theorem zJ.tr {S σ : zSt} {f : Nat → Int32} {c : Int64} {t : Nat} (h : zJ σ f c) (e : S.2 = σ.2) (hr : ∀ q o x, ¬ (q = 35 ∨ (o = t ∧ ((14 ≤ q ∧ q ≤ 18) ∨ q = 21))) → sI S q o x = sI σ q o x) (hV : zVt S t) (hsh : (∀ r, r < 5 → 0 ≤ (sI S 21 t r).toInt) ∧ zSm (fun r => (sI S 21 t r).toInt) 5 ≤ 100) (hF : zjF S) : zJ S f c := by
  have r : ∀ q, q ≠ 35 → (q < 14 ∨ (18 < q ∧ q ≠ 21)) → ∀ o x, sI S q o x = sI σ q o x := fun q q1 q2 o x => hr q o x (by omega)
  have hN : sN S = sN σ := congrArg (fun z => z.2.2.2.2.2.1) e
  obtain ⟨hP, hK, hT, hVp, hS⟩ := h.2.1
  have hv := h.1.2.2.1
  have h14 : ∀ t', t' < sN σ 2 → ¬ sI S 14 t' 0 ≤ 0 := fun t' ht' => by
    by_cases q : t' = t
    · rw [q]
      intro z
      have z2 := w_le.mp z
      have := hV.2.2.2.2.2.1.1
      have o0 : (0 : Int32).toInt = 0 := rfl
      omega
    · rw [hr 14 t' 0 (by omega)]
      exact (hv.2.2.1 t' ht').2
  refine h.I e ⟨fun p hp => ?_, fun p hp => ?_, fun t' ht' => ⟨?_, h14 t' (by rw [← hN]; exact ht')⟩, fun i hi => ?_, fun i hi => ?_⟩ ⟨fun p hp => ?_, fun k hk => ?_, fun t' ht' => ?_, hVp.of (fun q q1 q2 x => r q (by omega) (by omega) _ _), fun c hc => ?_⟩ (fun k => r 4 (by decide) (by omega) _ _) (fun t => r 19 (by decide) (by omega) _ _) (fun t => r 20 (by decide) (by omega) _ _) hF
  · rw [r 0 (by decide) (by omega)]
    exact hv.1 p (by rw [← hN]; exact hp)
  · rw [r 1 (by decide) (by omega)]
    exact hv.2.1 p (by rw [← hN]; exact hp)
  · have := (hv.2.2.1 t' (by rw [← hN]; exact ht')).1
    unfold zTz at *
    rw [r 13 (by decide) (by omega), r 11 (by decide) (by omega), r 10 (by decide) (by omega)]
    exact this
  · rw [r 32 (by decide) (by omega)]
    exact hv.2.2.2.1 i hi
  · rw [r 31 (by decide) (by omega)]
    exact hv.2.2.2.2 i hi
  · rw [r 0 (by decide) (by omega)]
    exact hP p (by rw [← hN]; exact hp)
  · rw [r 4 (by decide) (by omega), r 6 (by decide) (by omega)]
    exact hK k (by rw [← hN]; exact hk)
  · have g := hT t' (by rw [← hN]; exact ht')
    rw [r 20 (by decide) (by omega)]
    by_cases q : t' = t
    · subst q
      exact ⟨hV, hsh, g.2.2⟩
    · refine ⟨g.1.of (fun q' _ _ => hr q' t' 0 (by omega)), ?_, g.2.2⟩
      simp only [fun x => hr 21 t' x (by omega)]
      exact g.2.1
  · rw [r 23 (by decide) (by omega), r 24 (by decide) (by omega)]
    simp only [fun x => r 25 (by decide) (by omega) c x]
    exact hS c (by rw [← hN]; exact hc)
theorem zjF.no {S : zSt} (h : sI S 35 0 0 = 0) : zjF S := fun q => absurd h q
theorem zJ.l2 {σ : zSt} {f : Nat → Int32} {c : Int64} (h : zJ σ f c) {t : Nat} (ht : t < sN σ 2) : lx σ 2 t = t := h.1.2.1.2.2.1 t ht
theorem zhR_ok : zhR zJ := fun σ f c h t m p z ht hm hp => by
  have g := h.2.1.2.2.1 t ht
  have o0 : (0 : Int32).toInt = 0 := rfl
  have e2 := h.l2 ht
  refine ⟨?_, fun _ hz => ?_⟩
  · show 0 ≤ sI σ 15 (lx σ 2 t) 0
    rw [e2]
    exact w_le.mpr g.1.2.2.2.2.2.2.1.1
  · unfold s_reinstate
    rw [e2]
    have r : ∀ q o x, sI (uI (uI (uI (uI σ 15 t 0 (nI m)) 16 t 0 (nI p)) 17 t 0 z) 35 0 0 0) q o x = if q = 35 ∧ o = 0 ∧ x = 0 then 0 else if q = 17 ∧ o = t ∧ x = 0 then z else if q = 16 ∧ o = t ∧ x = 0 then nI p else if q = 15 ∧ o = t ∧ x = 0 then nI m else sI σ q o x := fun q o x => by
      rw [qI_r, qI_r, qI_r, qI_r]
    refine h.tr (t := t) rfl (fun q o x hq => ?_) (g.1.in (fun q q1 q2 => ?_) ?_ ?_ ?_ ?_) ?_ (zjF.no ?_)
    · rw [r, if_neg (fun z => by omega), if_neg (fun z => by omega), if_neg (fun z => by omega), if_neg (fun z => by omega)]
    · rw [r, if_neg (fun z => by omega), if_neg (fun z => by omega), if_neg (fun z => by omega), if_neg (fun z => by omega)]
    · rw [r, if_neg (fun z => by omega), if_neg (fun z => by omega), if_neg (fun z => by omega), if_neg (fun z => by omega)]
      exact g.1.2.2.2.2.2.1
    · rw [r, if_neg (fun z => by omega), if_neg (fun z => by omega), if_neg (fun z => by omega), if_pos ⟨rfl, rfl, rfl⟩, nI_toInt (by omega)]
      omega
    · rw [r, if_neg (fun z => by omega), if_neg (fun z => by omega), if_pos ⟨rfl, rfl, rfl⟩, nI_toInt (by omega)]
      omega
    · rw [r, if_neg (fun z => by omega), if_neg (fun z => by omega), if_neg (fun z => by omega), if_neg (fun z => by omega)]
      exact g.1.2.2.2.2.2.2.2.2
    · have e21 : ∀ x, sI (uI (uI (uI (uI σ 15 t 0 (nI m)) 16 t 0 (nI p)) 17 t 0 z) 35 0 0 0) 21 t x = sI σ 21 t x := fun x => by
        rw [r, if_neg (fun z => by omega), if_neg (fun z => by omega), if_neg (fun z => by omega), if_neg (fun z => by omega)]
      simp only [e21]
      exact g.2.1
    · rw [r, if_pos ⟨rfl, rfl, rfl⟩]
