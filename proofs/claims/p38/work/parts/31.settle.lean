/-! Flow.run, whole; isLaidBest; settle -/
def s_run (σ : zSt) (b : Nat) (tr : Int32) : zSt := (s_run5 (s_run4 (s_run3 (s_run2 (s_run1 (uI σ 26 b 0 1) b) b) b) b tr) b)
theorem run_ok {σ : zSt} {b : Nat} {tr : Int32} (hb : b < 2) (hw : zWF b σ) : (zWF b (uI σ 26 b 0 1) ∧ zFr b (uI σ 26 b 0 1) σ) ∧ (zWF b (s_run1 (uI σ 26 b 0 1) b) ∧ zFr b (s_run1 (uI σ 26 b 0 1) b) σ) ∧ (zWF b (s_run2 (s_run1 (uI σ 26 b 0 1) b) b) ∧ zFr b (s_run2 (s_run1 (uI σ 26 b 0 1) b) b) σ) ∧ (zWF b (s_run3 (s_run2 (s_run1 (uI σ 26 b 0 1) b) b) b) ∧ zFr b (s_run3 (s_run2 (s_run1 (uI σ 26 b 0 1) b) b) b) σ) ∧ (zWF b (s_run4 (s_run3 (s_run2 (s_run1 (uI σ 26 b 0 1) b) b) b) b tr) ∧ zFr b (s_run4 (s_run3 (s_run2 (s_run1 (uI σ 26 b 0 1) b) b) b) b tr) σ) ∧ (zWF b (s_run σ b tr) ∧ zFr b (s_run σ b tr) σ) := by
  have f0 : zFr b (uI σ 26 b 0 1) σ := zFr.uI (by unfold zst; omega)
  have w0 : zWF b (uI σ 26 b 0 1) := hw.mv (uI_22 _ _ _ _ _) f0
  have f1 : zFr b (s_run1 (uI σ 26 b 0 1) b) (uI σ 26 b 0 1) := zFr.of (rnA_22 _ _ _) (fun t h o x => rnA_I _ _ _ h.1 o x)
  have w1 : zWF b (s_run1 (uI σ 26 b 0 1) b) := w0.mv (rnA_22 _ _ _) f1
  have f2 : zFr b (s_run2 (s_run1 (uI σ 26 b 0 1) b) b) (s_run1 (uI σ 26 b 0 1) b) := zFr.of (rnB_22 _ _ _) (fun t h o x => rnB_I _ _ _ h.2.1 o x)
  have w2 : zWF b (s_run2 (s_run1 (uI σ 26 b 0 1) b) b) := w1.mv (rnB_22 _ _ _) f2
  have f3 : zFr b (s_run3 (s_run2 (s_run1 (uI σ 26 b 0 1) b) b) b) (s_run2 (s_run1 (uI σ 26 b 0 1) b) b) := zFr.of1 (rnC_1 _ _ _) (rnC_22 _ _ _)
  have w3 : zWF b (s_run3 (s_run2 (s_run1 (uI σ 26 b 0 1) b) b) b) := w2.mv (rnC_22 _ _ _) f3
  have g4 := rnE_ok (tr := tr) hb w3 (sZ (s_run3 (s_run2 (s_run1 (uI σ 26 b 0 1) b) b) b) (6 + 4 * b)) (Nat.le_refl _)
  have f4 : zFr b (s_run4 (s_run3 (s_run2 (s_run1 (uI σ 26 b 0 1) b) b) b) b tr) (s_run3 (s_run2 (s_run1 (uI σ 26 b 0 1) b) b) b) := g4.2
  have w4 : zWF b (s_run4 (s_run3 (s_run2 (s_run1 (uI σ 26 b 0 1) b) b) b) b tr) := g4.1
  have g5 := rnG_ok hb w4 (sZ (s_run4 (s_run3 (s_run2 (s_run1 (uI σ 26 b 0 1) b) b) b) b tr) (6 + 4 * b))
  have f5 : zFr b (s_run5 (s_run4 (s_run3 (s_run2 (s_run1 (uI σ 26 b 0 1) b) b) b) b tr) b) (s_run4 (s_run3 (s_run2 (s_run1 (uI σ 26 b 0 1) b) b) b) b tr) := g5.2
  have w5 : zWF b (s_run5 (s_run4 (s_run3 (s_run2 (s_run1 (uI σ 26 b 0 1) b) b) b) b tr) b) := g5.1
  have t1 := f1.trans f0
  have t2 := f2.trans t1
  have t3 := f3.trans t2
  have t4 := f4.trans t3
  exact ⟨⟨w0, f0⟩, ⟨w1, t1⟩, ⟨w2, t2⟩, ⟨w3, t3⟩, ⟨w4, t4⟩, ⟨w5, f5.trans t4⟩⟩
theorem zFr_le {b : Nat} {x y z : zSt} (h : zFr b z y) (e : zFr b y x) : sgc y ≤ sgc z ∧ sgs y ≤ sgs z := h.2.1
set_option maxRecDepth 100000 in
set_option maxHeartbeats 4000000 in
theorem c_run {G : zG} {ad : Nat → Nat → Nat} {σ : zSt} (b : Nat) (tr : Int32) (hb : b < 2) (hw : zWF b σ) : zC G yX2_run cX2_run 4 none 12 360 (sgc (s_run σ b tr) - sgc σ) (sgs (s_run σ b tr) - sgs σ) [.ref (ad 11 b), .int tr] (zP G ad σ) none (zP G ad (s_run σ b tr)) := by
  refine zC_of (by decide) (Nat.le_of_ble_eq_true rfl) (fun X K E hnm => ?_)
  show zV G X 4 (zP G ad σ) 0 0 0 [(0, .ref (ad 11 b)), (1, .int tr)] []
  have hr := run_ok (tr := tr) hb hw
  have hD : sgc (s_run4 (s_run3 (s_run2 (s_run1 (uI σ 26 b 0 1) b) b) b) b tr) ≤ sgc (s_run σ b tr) ∧ sgs (s_run4 (s_run3 (s_run2 (s_run1 (uI σ 26 b 0 1) b) b) b) b tr) ≤ sgs (s_run σ b tr) := (rnG_ok hb hr.2.2.2.2.1.1 (sZ (s_run4 (s_run3 (s_run2 (s_run1 (uI σ 26 b 0 1) b) b) b) b tr) (6 + 4 * b))).2.2.1
  refine zV.wd (k' := sgc σ - sgc σ) (n' := sgs σ - sgs σ) (Nat.zero_le _) (Nat.zero_le _) ?_
  refine zi_aload_n K (dX2_run_p0 0 rfl) 0 rfl ?_
  refine zi_iconst K (dX2_run_p0 1 rfl) zk_i1 ?_
  refine zp_FL_isBest K hb w_139 ⟨rfl, rfl⟩ (dX2_run_p0 2 rfl) ?_
  refine zV.pick [0, 1] (lo' := [(0, .ref (ad 11 b)), (1, .int tr)]) rfl ?_
  refine f_run1 (σ := (uI σ 26 b 0 1)) b tr hb hr.1.1 ⟨(zq3 hr.2.2.2.2.2.2.2.1.1), (zq3 hr.2.2.2.2.2.2.2.1.2)⟩ K ?_
  have e1 : (s_run1 (uI σ 26 b 0 1) b).2.2 = σ.2.2 := (s_run1_22 (uI σ 26 b 0 1) b).trans rfl
  refine zV.pick [0, 1] (lo' := [(0, .ref (ad 11 b)), (1, .int tr)]) rfl ?_
  refine f_run2 (σ := (s_run1 (uI σ 26 b 0 1) b)) b tr hb hr.2.1.1 ⟨(zq3 hr.2.2.2.2.2.2.2.1.1), (zq3 hr.2.2.2.2.2.2.2.1.2)⟩ K ?_
  have e2 : (s_run2 (s_run1 (uI σ 26 b 0 1) b) b).2.2 = σ.2.2 := (s_run2_22 (s_run1 (uI σ 26 b 0 1) b) b).trans e1
  refine zV.pick [0, 1] (lo' := [(0, .ref (ad 11 b)), (1, .int tr)]) rfl ?_
  refine f_run3 (σ := (s_run2 (s_run1 (uI σ 26 b 0 1) b) b)) b tr hb hr.2.2.1.1 ⟨(zq3 hr.2.2.2.2.2.2.2.1.1), (zq3 hr.2.2.2.2.2.2.2.1.2)⟩ K ?_
  have e3 : (s_run3 (s_run2 (s_run1 (uI σ 26 b 0 1) b) b) b).2.2 = σ.2.2 := (s_run3_22 (s_run2 (s_run1 (uI σ 26 b 0 1) b) b) b).trans e2
  refine zV.pick [0, 1] (lo' := [(0, .ref (ad 11 b)), (1, .int tr)]) rfl ?_
  refine zV.wd (k' := sgc (s_run3 (s_run2 (s_run1 (uI σ 26 b 0 1) b) b) b) - sgc σ) (n' := sgs (s_run3 (s_run2 (s_run1 (uI σ 26 b 0 1) b) b) b) - sgs σ) (zq4 (zG_22 (σ' := (s_run3 (s_run2 (s_run1 (uI σ 26 b 0 1) b) b) b)) (σ := σ) ((s_run3_22 (s_run2 (s_run1 (uI σ 26 b 0 1) b) b) b).trans ((s_run2_22 (s_run1 (uI σ 26 b 0 1) b) b).trans ((s_run1_22 (uI σ 26 b 0 1) b).trans ((uI_22 σ 26 b 0 1).trans rfl))))).1) (zq4 (zG_22 (σ' := (s_run3 (s_run2 (s_run1 (uI σ 26 b 0 1) b) b) b)) (σ := σ) ((s_run3_22 (s_run2 (s_run1 (uI σ 26 b 0 1) b) b) b).trans ((s_run2_22 (s_run1 (uI σ 26 b 0 1) b) b).trans ((s_run1_22 (uI σ 26 b 0 1) b).trans ((uI_22 σ 26 b 0 1).trans rfl))))).2) ?_
  refine f_run4 (σ := (s_run3 (s_run2 (s_run1 (uI σ 26 b 0 1) b) b) b)) b tr hb hr.2.2.2.1.1 ⟨(zq1 hr.2.2.2.1.2.2.1.1 (rnE_ok (tr := tr) hb hr.2.2.2.1.1 (sZ (s_run3 (s_run2 (s_run1 (uI σ 26 b 0 1) b) b) b) (6 + 4 * b)) (Nat.le_refl _)).2.2.1.1 hD.1), (zq1 hr.2.2.2.1.2.2.1.2 (rnE_ok (tr := tr) hb hr.2.2.2.1.1 (sZ (s_run3 (s_run2 (s_run1 (uI σ 26 b 0 1) b) b) b) (6 + 4 * b)) (Nat.le_refl _)).2.2.1.2 hD.2)⟩ K ?_
  have e4 : zSx (zQb b) (s_run4 (s_run3 (s_run2 (s_run1 (uI σ 26 b 0 1) b) b) b) b tr) σ := ((rnE_ok (tr := tr) hb hr.2.2.2.1.1 (sZ (s_run3 (s_run2 (s_run1 (uI σ 26 b 0 1) b) b) b) (6 + 4 * b)) (Nat.le_refl _)).2.1).trans (zSx.of e3)
  refine zV.wd (k' := sgc (s_run4 (s_run3 (s_run2 (s_run1 (uI σ 26 b 0 1) b) b) b) b tr) - sgc σ) (n' := sgs (s_run4 (s_run3 (s_run2 (s_run1 (uI σ 26 b 0 1) b) b) b) b tr) - sgs σ) (zq2 hr.2.2.2.1.2.2.1.1 (rnE_ok (tr := tr) hb hr.2.2.2.1.1 (sZ (s_run3 (s_run2 (s_run1 (uI σ 26 b 0 1) b) b) b) (6 + 4 * b)) (Nat.le_refl _)).2.2.1.1) (zq2 hr.2.2.2.1.2.2.1.2 (rnE_ok (tr := tr) hb hr.2.2.2.1.1 (sZ (s_run3 (s_run2 (s_run1 (uI σ 26 b 0 1) b) b) b) (6 + 4 * b)) (Nat.le_refl _)).2.2.1.2) ?_
  refine zV.pick [0, 1] (lo' := [(0, .ref (ad 11 b)), (1, .int tr)]) rfl ?_
  refine f_run5 (σ := (s_run4 (s_run3 (s_run2 (s_run1 (uI σ 26 b 0 1) b) b) b) b tr)) b tr hb hr.2.2.2.2.1.1 ⟨(zq1 hr.2.2.2.2.1.2.2.1.1 (rnG_ok hb hr.2.2.2.2.1.1 (sZ (s_run4 (s_run3 (s_run2 (s_run1 (uI σ 26 b 0 1) b) b) b) b tr) (6 + 4 * b))).2.2.1.1 (zLeR _).1), (zq1 hr.2.2.2.2.1.2.2.1.2 (rnG_ok hb hr.2.2.2.2.1.1 (sZ (s_run4 (s_run3 (s_run2 (s_run1 (uI σ 26 b 0 1) b) b) b) b tr) (6 + 4 * b))).2.2.1.2 (zLeR _).2)⟩ K ?_
  have e5 : zSx (zQb b) (s_run5 (s_run4 (s_run3 (s_run2 (s_run1 (uI σ 26 b 0 1) b) b) b) b tr) b) σ := ((rnG_ok hb hr.2.2.2.2.1.1 (sZ (s_run4 (s_run3 (s_run2 (s_run1 (uI σ 26 b 0 1) b) b) b) b tr) (6 + 4 * b))).2.1).trans e4
  refine zV.wd (k' := sgc (s_run5 (s_run4 (s_run3 (s_run2 (s_run1 (uI σ 26 b 0 1) b) b) b) b tr) b) - sgc σ) (n' := sgs (s_run5 (s_run4 (s_run3 (s_run2 (s_run1 (uI σ 26 b 0 1) b) b) b) b tr) b) - sgs σ) (zq2 hr.2.2.2.2.1.2.2.1.1 (rnG_ok hb hr.2.2.2.2.1.1 (sZ (s_run4 (s_run3 (s_run2 (s_run1 (uI σ 26 b 0 1) b) b) b) b tr) (6 + 4 * b))).2.2.1.1) (zq2 hr.2.2.2.2.1.2.2.1.2 (rnG_ok hb hr.2.2.2.2.1.1 (sZ (s_run4 (s_run3 (s_run2 (s_run1 (uI σ 26 b 0 1) b) b) b) b tr) (6 + 4 * b))).2.2.1.2) ?_
  exact zi_vret K E (dX2_run_p2 33 rfl) (by first | (unfold s_run; exact Nat.le_refl _) | exact Nat.le_refl _) (by first | (unfold s_run; exact Nat.le_refl _) | exact Nat.le_refl _) rfl (fun H h => by unfold s_run; exact h)
/-- the flag: as it was, or 0 -/
def zB01 (v : Int32) : Prop := v = 0 ∨ v = 1
theorem zB01.ok {v : Int32} (h : zB01 v) : narrow .boolean (.int v) = .int v ∧ fits .boolean (.int v) = true := by
  rcases h with h | h <;> subst h <;> exact ⟨rfl, rfl⟩
theorem foI_1 (σ : zSt) (b j i : Nat) : (foI σ b j i).1 = σ.1 := by
  induction i with
  | zero => exact (s_clear_I _ _).1
  | succ i ih =>
    simp only [foI]
    repeat' split
    all_goals first | exact ih | exact (s_add_I _ _ _).1.trans ih
theorem sI_1 {σ' σ : zSt} (e : σ'.1 = σ.1) (t o x : Nat) : sI σ' t o x = sI σ t o x := congrArg (fun q => q t o x) e
theorem zone26 {σ : zSt} {b j z : Nat} {c : Int32} (hb : b < 2) (hw : zWF b σ) (hj : zlV σ j) : sI (s_serveZone σ b j z c) 26 b 0 = sI σ 26 b 0 ∨ sI (s_serveZone σ b j z c) 26 b 0 = 0 := by
  obtain ⟨-, ⟨h1, h2, h3⟩, -⟩ := zone_pre (z := z) hb hw hj
  have a1 := znI_ok (j := j) (z := z) hb h1 (szN (s_zoneFill (uI σ 27 b 0 0) b z) b)
  have h1' : zWF b (uI (s_lay (s_zoneFill (uI σ 27 b 0 0) b z) b (j % 8) (szN (s_zoneFill (uI σ 27 b 0 0) b z) b)) 26 b 0 0) := h1.mv (uI_22 _ _ _ _ _) (zFr.uI (by unfold zst; omega))
  have a2 := znI_ok (j := j) (z := z) hb h1' (szN (s_zoneFill (uI σ 27 b 0 0) b z) b)
  have e1 : sI (s_lay (s_zoneFill (uI σ 27 b 0 0) b z) b (j % 8) (szN (s_zoneFill (uI σ 27 b 0 0) b z) b)) 26 b 0 = sI σ 26 b 0 := (lyO_I (s_zoneFill (uI σ 27 b 0 0) b z) b (j % 8) (szN (s_zoneFill (uI σ 27 b 0 0) b z) b) (szN (s_zoneFill (uI σ 27 b 0 0) b z) b) (by decide) (by decide) b 0).trans ((szA_I (uI σ 27 b 0 0) b z (sZ (uI σ 27 b 0 0) (7 + 4 * b)) (by decide) (by decide) b 0).trans (uI_t (by decide) _ _))
  have e2 : sI (s_zoneLoop (s_lay (s_zoneFill (uI σ 27 b 0 0) b z) b (j % 8) (szN (s_zoneFill (uI σ 27 b 0 0) b z) b)) b j z (szN (s_zoneFill (uI σ 27 b 0 0) b z) b)) 26 b 0 = sI σ 26 b 0 := (a1.2.2.1 26 (by decide) (by decide) b 0).trans e1
  have e3 : sI (s_zoneLoop (uI (s_lay (s_zoneFill (uI σ 27 b 0 0) b z) b (j % 8) (szN (s_zoneFill (uI σ 27 b 0 0) b z) b)) 26 b 0 0) b j z (szN (s_zoneFill (uI σ 27 b 0 0) b z) b)) 26 b 0 = 0 := (a2.2.2.1 26 (by decide) (by decide) b 0).trans uI_s
  unfold s_serveZone
  split
  · exact Or.inl e2
  · split
    · exact Or.inr e3
    · exact Or.inl e2
theorem zoZ26 {σ : zSt} {b i : Nat} {tr : Int32} (hb : b < 2) (hw : zWF b σ) (hi : i < sZ σ (6 + 4 * b)) (h : zB01 (sI σ 26 b 0)) (z : Nat) : zB01 (sI (zoZ σ b i tr z) 26 b 0) := by
  induction z with
  | zero => exact h
  | succ z ih =>
    have g := zoZ_ok (tr := tr) hb hw hi z
    have hj : zlV (zoZ σ b i tr z) (lx σ (6 + 4 * b) i) := zSx_V g.2.1.1 (zL_lv hw.2.2.2.2.2.2.1 hi (zeK6 hb))
    simp only [zoZ]
    split
    · rcases zone26 (z := z) (c := 1) hb g.1 hj with q | q <;> rw [q]
      · exact ih
      · exact Or.inl rfl
    · rcases zone26 (z := z) (c := 0) hb g.1 hj with q | q <;> rw [q]
      · exact ih
      · exact Or.inl rfl
theorem rnE26 {σ : zSt} {b : Nat} {tr : Int32} (hb : b < 2) (hw : zWF b σ) (h : zB01 (sI σ 26 b 0)) (i : Nat) (hi : i ≤ sZ σ (6 + 4 * b)) : zB01 (sI (rnE σ b tr i) 26 b 0) := by
  induction i with
  | zero => exact h
  | succ i ih =>
    obtain ⟨a1, a2⟩ := rnE_ok (tr := tr) hb hw i (by omega)
    have ih := ih (by omega)
    simp only [rnE]
    split
    · obtain ⟨c1, c2⟩ := findOpen_ok (j := (lx σ (6 + 4 * b) i)) hb a1
      have hi2 : i < sZ (s_findOpen (rnE σ b tr i) b (lx σ (6 + 4 * b) i)) (6 + 4 * b) := by rw [zSx_Z (c2.trans a2).1 zQ6]; omega
      exact zoZ26 (tr := tr) hb c1 hi2 (by rw [show sI (s_findOpen (rnE σ b tr i) b (lx σ (6 + 4 * b) i)) 26 b 0 = _ from sI_1 (foI_1 _ _ _ _) 26 b 0]; exact ih) 4
    · exact ih
theorem rnG_1 (σ : zSt) (b i : Nat) : (rnG σ b i).1 = σ.1 := by
  induction i with
  | zero => rfl
  | succ i ih =>
    simp only [rnG]
    split
    · exact (serveGroup_1 _ _ _).trans ((gaI_1 _ _ _ _ _ _).trans ((foI_1 _ _ _ _).trans ih))
    · exact ih
theorem run26 {σ : zSt} {b : Nat} {tr : Int32} (hb : b < 2) (hw : zWF b σ) : zB01 (sI (s_run σ b tr) 26 b 0) := by
  have hr := run_ok (tr := tr) hb hw
  rw [show sI (s_run σ b tr) 26 b 0 = sI (s_run4 (s_run3 (s_run2 (s_run1 (uI σ 26 b 0 1) b) b) b) b tr) 26 b 0 from sI_1 (rnG_1 _ _ _) 26 b 0]
  refine rnE26 hb hr.2.2.2.1.1 ?_ _ (Nat.le_refl _)
  rw [show sI (s_run3 (s_run2 (s_run1 (uI σ 26 b 0 1) b) b) b) 26 b 0 = sI (s_run2 (s_run1 (uI σ 26 b 0 1) b) b) 26 b 0 from sI_1 (rnC_1 _ _ _) 26 b 0, show sI (s_run2 (s_run1 (uI σ 26 b 0 1) b) b) 26 b 0 = sI (s_run1 (uI σ 26 b 0 1) b) 26 b 0 from rnB_I _ _ _ (by decide) _ _, show sI (s_run1 (uI σ 26 b 0 1) b) 26 b 0 = sI (uI σ 26 b 0 1) 26 b 0 from rnA_I _ _ _ (by decide) _ _]
  exact Or.inr uI_s
def v_laidBest (σ : zSt) (b t : Nat) : Int32 := sI (s_run σ b (nI t)) 26 b 0
def s_laidBest (σ : zSt) (b t : Nat) : zSt := (s_run σ b (nI t))
set_option maxRecDepth 100000 in
set_option maxHeartbeats 4000000 in
theorem c_laidBest {G : zG} {ad : Nat → Nat → Nat} {σ : zSt} (b t : Nat) (hb : b < 2) (hw : zWF b σ) (ht : t < sN σ 2) : zC G yX2_isLaidBest cX2_isLaidBest 2 (some FieldType.boolean) 13 383 (sgc (s_run σ b (nI t)) - sgc σ) (sgs (s_run σ b (nI t)) - sgs σ) [.ref (ad 11 b), .ref (ad 5 t)] (zP G ad σ) (some (.int (v_laidBest σ b t))) (zP G ad (s_laidBest σ b t)) := by
  refine zC_of (by decide) (Nat.le_of_ble_eq_true rfl) (fun X K E hnm => ?_)
  show zV G X 2 (zP G ad σ) 0 0 0 [(0, .ref (ad 11 b)), (1, .ref (ad 5 t))] []
  refine zV.wd (k' := sgc σ - sgc σ) (n' := sgs σ - sgs σ) (Nat.zero_le _) (Nat.zero_le _) ?_
  refine zi_aload_n K (dX2_isLaidBest 0 rfl) 0 rfl ?_
  refine zi_aload_n K (dX2_isLaidBest 1 rfl) 1 rfl ?_
  refine zg_TR_number K ht w_1092 (dX2_isLaidBest 2 rfl) ?_
  refine zi_callV K (na := 1) [] [] (c_run (σ := σ) b (nI t) hb hw) (dX2_isLaidBest 3 rfl) w_347 w_348 w_349 w_29 w_350 (by decide +kernel) rfl (fun H h => zi_recv K (zr_FL (σ := σ) hb H h).1 rfl) (fun H h => h) ⟨Nat.le_of_ble_eq_true rfl, Nat.le_of_ble_eq_true rfl⟩ ⟨(zq1 (zLeR σ).1 (run_ok (tr := (nI t)) hb hw).2.2.2.2.2.2.2.1.1 (zLeR _).1), (zq1 (zLeR σ).2 (run_ok (tr := (nI t)) hb hw).2.2.2.2.2.2.2.1.2 (zLeR _).2)⟩ (Nat.le_of_ble_eq_true rfl) rfl rfl ?_
  have e1 : zSx (zQb b) (s_run σ b (nI t)) σ := ((run_ok (tr := (nI t)) hb hw).2.2.2.2.2.2.1).trans zSx.rf
  refine zV.wd (k' := sgc (s_run σ b (nI t)) - sgc σ) (n' := sgs (s_run σ b (nI t)) - sgs σ) (zq2 (zLeR σ).1 (run_ok (tr := (nI t)) hb hw).2.2.2.2.2.2.2.1.1) (zq2 (zLeR σ).2 (run_ok (tr := (nI t)) hb hw).2.2.2.2.2.2.2.1.2) ?_
  refine zi_aload_n K (dX2_isLaidBest 4 rfl) 0 rfl ?_
  refine zg_FL_isBest K hb w_139 (dX2_isLaidBest 5 rfl) ?_
  exact zi_zret K E (dX2_isLaidBest 6 rfl) (by first | (unfold s_laidBest; exact Nat.le_refl _) | exact Nat.le_refl _) (by first | (unfold s_laidBest; exact Nat.le_refl _) | exact Nat.le_refl _) rfl ((run26 hb hw).ok).1 (fun H h => by unfold s_laidBest; exact h)
def s_settle (σ : zSt) : zSt := if sI σ 35 0 0 = 0 then (uI (s_run σ 0 (-1)) 35 0 0 1) else σ
theorem settle_le {σ : zSt} (hw : zWF 0 σ) : sgc σ ≤ sgc (s_settle σ) ∧ sgs σ ≤ sgs (s_settle σ) := by
  unfold s_settle
  split
  · exact (run_ok (tr := -1) (by decide) hw).2.2.2.2.2.2.2.1
  · exact ⟨Nat.le_refl _, Nat.le_refl _⟩
set_option maxRecDepth 100000 in
set_option maxHeartbeats 4000000 in
theorem c_settle {G : zG} {ad : Nat → Nat → Nat} {σ : zSt}  (hw : zWF 0 σ) : zC G yX8_settle cX8_settle 1 none 13 383 (sgc (s_settle σ) - sgc σ) (sgs (s_settle σ) - sgs σ) [.ref (ad 0 0)] (zP G ad σ) none (zP G ad (s_settle σ )) := by
  refine zC_of (by decide) (Nat.le_of_ble_eq_true rfl) (fun X K E hnm => ?_)
  show zV G X 1 (zP G ad σ) 0 0 0 [(0, .ref (ad 0 0))] []
  have hend := settle_le hw
  refine zV.wd (k' := sgc σ - sgc σ) (n' := sgs σ - sgs σ) (Nat.zero_le _) (Nat.zero_le _) ?_
  refine zi_aload_n K (dX8_settle 0 rfl) 0 rfl ?_
  refine zg_O_isSettled K rfl w_202 (dX8_settle 1 rfl) ?_
  refine zi_if_ne K 20 (dX8_settle 2 rfl) rfl (fun h4_0 => ?_) (fun h4_0 => ?_)
  · skip
    exact zi_vret K E (dX8_settle 10 rfl) (by unfold s_settle; rw [if_neg h4_0]; exact Nat.le_refl _) (by unfold s_settle; rw [if_neg h4_0]; exact Nat.le_refl _) rfl (fun H h => by unfold s_settle; rw [if_neg h4_0]; exact h)
  · skip
    refine zi_aload_n K (dX8_settle 3 rfl) 0 rfl ?_
    refine zg_O_real K rfl w_199 (dX8_settle 4 rfl) ?_
    refine zi_iconst K (dX8_settle 5 rfl) zk_im1 ?_
    have hE : s_settle σ = uI (s_run σ 0 (-1)) 35 0 0 1 := by unfold s_settle; rw [if_pos h4_0]
    have hto : sgc (s_run σ 0 (-1)) ≤ sgc (s_settle σ) ∧ sgs (s_run σ 0 (-1)) ≤ sgs (s_settle σ) := by rw [hE]; exact ⟨Nat.le_refl _, Nat.le_refl _⟩
    refine zi_callV K (na := 1) [] [] (c_run (σ := σ) 0 (-1) (by decide : 0 < 2) hw) (dX8_settle 6 rfl) w_550 w_348 w_349 w_29 w_350 (by decide +kernel) rfl (fun H h => zi_recv K (zr_FL (σ := σ) (by decide) H h).1 rfl) (fun H h => h) ⟨Nat.le_of_ble_eq_true rfl, Nat.le_of_ble_eq_true rfl⟩ ⟨(zq1 (zLeR σ).1 (run_ok (tr := (-1)) (by decide : 0 < 2) hw).2.2.2.2.2.2.2.1.1 hto.1), (zq1 (zLeR σ).2 (run_ok (tr := (-1)) (by decide : 0 < 2) hw).2.2.2.2.2.2.2.1.2 hto.2)⟩ (Nat.le_of_ble_eq_true rfl) rfl rfl ?_
    have e1 : zSx (zQb 0) (s_run σ 0 (-1)) σ := ((run_ok (tr := (-1)) (by decide : 0 < 2) hw).2.2.2.2.2.2.1).trans zSx.rf
    refine zV.wd (k' := sgc (s_run σ 0 (-1)) - sgc σ) (n' := sgs (s_run σ 0 (-1)) - sgs σ) (zq2 (zLeR σ).1 (run_ok (tr := (-1)) (by decide : 0 < 2) hw).2.2.2.2.2.2.2.1.1) (zq2 (zLeR σ).2 (run_ok (tr := (-1)) (by decide : 0 < 2) hw).2.2.2.2.2.2.2.1.2) ?_
    refine zi_aload_n K (dX8_settle 7 rfl) 0 rfl ?_
    refine zi_iconst K (dX8_settle 8 rfl) zk_i1 ?_
    refine zp_O_isSettled K rfl w_202 ⟨rfl, rfl⟩ (dX8_settle 9 rfl) ?_
    have e2 : zSx (zQb 0) (uI (s_run σ 0 (-1)) 35 0 0 1) σ := (zSx.of (uI_22 (s_run σ 0 (-1)) 35 0 0 1)).trans e1
    refine zV.wd (k' := sgc (uI (s_run σ 0 (-1)) 35 0 0 1) - sgc σ) (n' := sgs (uI (s_run σ 0 (-1)) 35 0 0 1) - sgs σ) (zq4 (zG_22 (σ' := (uI (s_run σ 0 (-1)) 35 0 0 1)) (σ := (s_run σ 0 (-1))) ((uI_22 (s_run σ 0 (-1)) 35 0 0 1).trans rfl)).1) (zq4 (zG_22 (σ' := (uI (s_run σ 0 (-1)) 35 0 0 1)) (σ := (s_run σ 0 (-1))) ((uI_22 (s_run σ 0 (-1)) 35 0 0 1).trans rfl)).2) ?_
    exact zi_vret K E (dX8_settle 10 rfl) (by unfold s_settle; rw [if_pos h4_0]; exact Nat.le_refl _) (by unfold s_settle; rw [if_pos h4_0]; exact Nat.le_refl _) rfl (fun H h => by unfold s_settle; rw [if_pos h4_0]; exact h)
