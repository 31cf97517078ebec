/-! a run counts its own covers' events only -/
def z22 (b : Nat) (S σ : zSt) : Prop := ∀ o e, o / 8 ≠ b → sI S 22 o e = sI σ 22 o e
theorem z22.rf {b : Nat} {σ : zSt} : z22 b σ σ := fun _ _ _ => rfl
theorem z22.trans {b : Nat} {x y z : zSt} (h : z22 b x y) (k : z22 b y z) : z22 b x z := fun o e ho => (h o e ho).trans (k o e ho)
theorem z22_of {b : Nat} {S σ : zSt} (h : S.1 = σ.1) : z22 b S σ := fun o e _ => sI_1 h 22 o e
theorem z22_cv {b : Nat} (σ : zSt) {j : Nat} (hj : j / 8 = b) : z22 b (s_cvBegin σ j) σ := fun o e ho => by
  rw [cvB_I, if_neg (fun q => ho (by rw [q.2.1]; exact hj))]
theorem z22_rnB {σ : zSt} {b n : Nat} (hx : ∀ i, i < n → lx σ (6 + 4 * b) i / 8 = b) : ∀ i, i ≤ n → z22 b (rnB σ b i) σ
  | 0, _ => z22.rf
  | i + 1, hi => (z22_cv _ (hx i (by omega))).trans (z22_rnB hx i (by omega))
theorem z22_body (σ : zSt) {b j : Nat} (z i e : Nat) (hj : j / 8 = b) : z22 b (s_zoneBody σ b j z i e) σ := fun o x ho => by
  unfold s_zoneBody
  have n : o ≠ j := fun q => ho (by rw [q]; exact hj)
  rw [sI_1 (refill_I _ _ _ _), sI_1 (serveGroup_1 _ _ _), qI_r, if_neg (fun q => n q.2.1)]
  exact (evI_I (s_gather σ b (nI z) (sI σ 28 b i) (sI σ 28 b e)) b j z _ (by decide) o x).trans (sI_1 (gaI_IL _ _ _ _ _ _).1 22 o x)
theorem z22_zn (σ : zSt) {b j : Nat} (z i : Nat) (hj : j / 8 = b) : z22 b (znI σ b j z i).1 σ := by
  induction i with
  | zero => exact z22.rf
  | succ i ih =>
    simp only [znI]
    split
    · exact ih
    · dsimp only
      have g := z22_body (znI σ b j z i).1 z i (sI (znI σ b j z i).1 29 b i).toNatClampNeg hj
      exact z22.trans g ih
theorem z22_zone (σ : zSt) {b j : Nat} (z : Nat) (c : Int32) (hj : j / 8 = b) : z22 b (s_serveZone σ b j z c) σ := by
  have h : z22 b (s_lay (s_zoneFill (uI σ 27 b 0 0) b z) b (j % 8) (szN (s_zoneFill (uI σ 27 b 0 0) b z) b)) σ := fun o x _ => (lyO_I _ _ _ _ _ (by decide) (by decide) o x).trans ((szA_I (uI σ 27 b 0 0) b z _ (by decide) (by decide) o x).trans (by rw [qI_r, if_neg (fun q => absurd q.1 (by decide))]))
  unfold s_serveZone
  split
  · exact (z22_zn _ _ _ hj).trans h
  · split
    · refine (z22_zn (uI (s_lay (s_zoneFill (uI σ 27 b 0 0) b z) b (j % 8) (szN (s_zoneFill (uI σ 27 b 0 0) b z) b)) 26 b 0 0) _ _ hj).trans (z22.trans (fun o x _ => ?_) h)
      rw [qI_r, if_neg (fun q => absurd q.1 (by decide))]
    · exact (z22_zn _ _ _ hj).trans h
theorem z22_zo (σ : zSt) {b i : Nat} (tr : Int32) (hj : lx σ (6 + 4 * b) i / 8 = b) : ∀ z, z22 b (zoZ σ b i tr z) σ
  | 0 => z22.rf
  | z + 1 => by
    have h := z22_zo σ tr hj z
    simp only [zoZ]
    split
    · exact (z22_zone _ _ _ hj).trans h
    · exact (z22_zone _ _ _ hj).trans h
theorem z22_rnE {σ : zSt} {b : Nat} (tr : Int32) (hb : b < 2) (hw : zWF b σ) (hx : ∀ i, i < sZ σ (6 + 4 * b) → lx σ (6 + 4 * b) i / 8 = b) : ∀ i, i ≤ sZ σ (6 + 4 * b) → z22 b (rnE σ b tr i) σ
  | 0, _ => z22.rf
  | i + 1, hi => by
    have h := z22_rnE tr hb hw hx i (by omega)
    obtain ⟨a1, a2⟩ := rnE_ok (tr := tr) hb hw i (by omega)
    simp only [rnE]
    split
    · obtain ⟨c1, c2⟩ := findOpen_ok (j := lx σ (6 + 4 * b) i) hb a1
      refine z22.trans (z22_zo _ tr ?_ 4) ((z22_of (foI_IL _ _ _ _).1).trans h)
      rw [zSx_lx (c2.trans a2).1 zQ6]
      exact hx i (by omega)
    · exact h
theorem z22_run {σ : zSt} {b : Nat} (tr : Int32) (hb : b < 2) (hw : zWF b σ) (hx : ∀ i, i < sZ σ (6 + 4 * b) → lx σ (6 + 4 * b) i / 8 = b) : z22 b (s_run σ b tr) σ := by
  obtain ⟨⟨w0, t0⟩, ⟨w1, t1⟩, ⟨w2, t2⟩, ⟨w3, t3⟩, ⟨w4, t4⟩, ⟨w5, t5⟩⟩ := run_ok (tr := tr) hb hw
  have x1 : ∀ i, i < sZ (s_run1 (uI σ 26 b 0 1) b) (6 + 4 * b) → lx (s_run1 (uI σ 26 b 0 1) b) (6 + 4 * b) i / 8 = b := fun i hi => by
    rw [zSx_lx t1.1 zQ6]
    exact hx i (by rw [← zSx_Z t1.1 zQ6]; exact hi)
  have x3 : ∀ i, i < sZ (s_run3 (s_run2 (s_run1 (uI σ 26 b 0 1) b) b) b) (6 + 4 * b) → lx (s_run3 (s_run2 (s_run1 (uI σ 26 b 0 1) b) b) b) (6 + 4 * b) i / 8 = b := fun i hi => by
    rw [zSx_lx t3.1 zQ6]
    exact hx i (by rw [← zSx_Z t3.1 zQ6]; exact hi)
  have r1 : z22 b (s_run1 (uI σ 26 b 0 1) b) σ := fun o e _ => (rnA_I (uI σ 26 b 0 1) b _ (by decide) o e).trans (by rw [qI_r, if_neg (fun q => absurd q.1 (by decide))])
  have r2 : z22 b (s_run2 (s_run1 (uI σ 26 b 0 1) b) b) (s_run1 (uI σ 26 b 0 1) b) := z22_rnB x1 _ (Nat.le_refl _)
  have r3 : z22 b (s_run3 (s_run2 (s_run1 (uI σ 26 b 0 1) b) b) b) (s_run2 (s_run1 (uI σ 26 b 0 1) b) b) := z22_of (rnC_1 _ _ _)
  have r4 : z22 b (s_run4 (s_run3 (s_run2 (s_run1 (uI σ 26 b 0 1) b) b) b) b tr) (s_run3 (s_run2 (s_run1 (uI σ 26 b 0 1) b) b) b) := z22_rnE tr hb w3 x3 _ (Nat.le_refl _)
  have r5 : z22 b (s_run5 (s_run4 (s_run3 (s_run2 (s_run1 (uI σ 26 b 0 1) b) b) b) b tr) b) (s_run4 (s_run3 (s_run2 (s_run1 (uI σ 26 b 0 1) b) b) b) b tr) := z22_of (rnG_1 _ _ _)
  exact r5.trans (r4.trans (r3.trans (r2.trans r1)))
