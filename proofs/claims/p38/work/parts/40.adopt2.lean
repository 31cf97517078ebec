/-! the other kinds join -/
def aCLr (σ : zSt) (pp : Nat) : zSt := uP (wL (wI (uN σ 1 3 23) (fun t o _ => (t == 4 || t == 5 || t == 6 || t == 7) && o == (sN σ 1)) (fun t _ _ =>  0)) (fun t o _ => (t == 0 || t == 1) && o == (sN σ 1))) (sN σ 1) pp
theorem aCLr_I (σ : zSt) (pp : Nat) (t o e : Nat) (h : ¬ ((t = 4 ∨ t = 5 ∨ t = 6 ∨ t = 7) ∧ o = (sN σ 1))) : sI (aCLr σ pp) t o e = sI σ t o e := if_neg (by simpa [or_assoc] using h)
theorem aCLr_L (σ : zSt) (pp : Nat) (t o e : Nat) (h : ¬ ((t = 0 ∨ t = 1) ∧ o = (sN σ 1))) : sL (aCLr σ pp) t o e = sL σ t o e := if_neg (by simpa [or_assoc] using h)
theorem aCLr_I4 (σ : zSt) (pp : Nat) (e : Nat) : sI (aCLr σ pp) 4 (sN σ 1) e = 0 := by simp [aCLr, uN, wI, wL, uP, sI, sL, sN]
theorem aCLr_I5 (σ : zSt) (pp : Nat) (e : Nat) : sI (aCLr σ pp) 5 (sN σ 1) e = 0 := by simp [aCLr, uN, wI, wL, uP, sI, sL, sN]
theorem aCLr_I6 (σ : zSt) (pp : Nat) (e : Nat) : sI (aCLr σ pp) 6 (sN σ 1) e = 0 := by simp [aCLr, uN, wI, wL, uP, sI, sL, sN]
theorem aCLr_I7 (σ : zSt) (pp : Nat) (e : Nat) : sI (aCLr σ pp) 7 (sN σ 1) e = 0 := by simp [aCLr, uN, wI, wL, uP, sI, sL, sN]
theorem aCLr_L0 (σ : zSt) (pp : Nat) (e : Nat) : sL (aCLr σ pp) 0 (sN σ 1) e = 0 := by simp [aCLr, uN, wI, wL, uP, sI, sL, sN]
theorem aCLr_L1 (σ : zSt) (pp : Nat) (e : Nat) : sL (aCLr σ pp) 1 (sN σ 1) e = 0 := by simp [aCLr, uN, wI, wL, uP, sI, sL, sN]
theorem aCLr_P (σ : zSt) (pp : Nat) : sP (aCLr σ pp) (sN σ 1) = pp := if_pos rfl
theorem aCLr_Pn (σ : zSt) (pp : Nat) (k : Nat) (h : k ≠ (sN σ 1)) : sP (aCLr σ pp) k = sP σ k := if_neg h
theorem aCLr_l2 {σ : zSt} (pp : Nat) {ix : Nat} (g : zlv (aCLr σ pp) 2 ix) : zlv σ 2 ix ∨ ix = (sN σ 1) := by
  have g : ix < sN σ 1 + 1 ∨ (30 ≤ ix ∧ ix < 30 + sN σ 4) := g
  rcases (show (ix < sN σ 1 ∨ (30 ≤ ix ∧ ix < 30 + sN σ 4)) ∨ ix = sN σ 1 by omega) with q | q
  · exact Or.inl q
  · exact Or.inr q
theorem aCLr_l4 {σ : zSt} (pp : Nat) {ix : Nat} (g : zlv (aCLr σ pp) 4 ix) : zlv σ 4 ix ∨ ix = (sN σ 1) := by
  have g : ix < sN σ 1 + 1 ∨ (30 ≤ ix ∧ ix < 30 + sN σ 4) := g
  rcases (show (ix < sN σ 1 ∨ (30 ≤ ix ∧ ix < 30 + sN σ 4)) ∨ ix = sN σ 1 by omega) with q | q
  · exact Or.inl q
  · exact Or.inr q
theorem aCLr_l3 {σ : zSt} (pp : Nat) {ix : Nat} (g : zlv (aCLr σ pp) 3 ix) : zlv σ 3 ix ∨ ix = (sN σ 1) := by
  have g : ix < sN σ 1 + 1 ∨ (30 ≤ ix ∧ ix < 30 + sN σ 4) := g
  rcases (show (ix < sN σ 1 ∨ (30 ≤ ix ∧ ix < 30 + sN σ 4)) ∨ ix = sN σ 1 by omega) with q | q
  · exact Or.inl q
  · exact Or.inr q
set_option maxHeartbeats 4000000 in
theorem zx_adCLr {G : zG} {X : zX} {nL k n pc : Nat} {lo : List (Nat × Value)} {st : List Value} {ad : Nat → Nat → Nat} {σ : zSt} (pp : Nat) (x0 x2 x1 : Nat) (hr : zref σ) (hpp : zlv σ 1 pp) (h30 : sN σ 1 < 30)
    (kk : ∀ ad' : Nat → Nat → Nat, (∀ kd ix, zlv σ kd ix → kd ≠ 29 → ad' kd ix = ad kd ix) → ad' 2 (sN σ 1) = x0 → ad' 4 (sN σ 1) = x2 → ad' 3 (sN σ 1) = x1 → zV G X nL (zP G ad' (aCLr σ pp)) k n pc lo st) : zV G X nL (zPx G (bZ G ad σ) [(x0, .inr (0, [.ref (ad 1 pp), .ref x1, .ref x2, .int 0, .int 0, .int 0, .long 0])), (x2, .inl (G.2.2.2.1 0, 8, .inl (fun _ => 0))), (x1, .inl (G.2.2.2.1 1, 8, .inr (.inl (fun _ => 0))))]) k n pc lo st := by
  have hdead : ∀ kd ix, zlv σ kd ix → ¬ ((kd = 2 ∨ kd = 4 ∨ kd = 3) ∧ ix = (sN σ 1)) := fun kd ix hl z => by
    obtain ⟨z1, z2⟩ := z
    subst z2
    rcases z1 with rfl | rfl | rfl
    · exact absurd hl ((fun g => by have g2 : sN σ 1 < sN σ 1 ∨ (30 ≤ sN σ 1 ∧ sN σ 1 < 30 + sN σ 4) := g; omega))
    · exact absurd hl ((fun g => by have g2 : sN σ 1 < sN σ 1 ∨ (30 ≤ sN σ 1 ∧ sN σ 1 < 30 + sN σ 4) := g; omega))
    · exact absurd hl ((fun g => by have g2 : sN σ 1 < sN σ 1 ∨ (30 ≤ sN σ 1 ∧ sN σ 1 < 30 + sN σ 4) := g; omega))
  generalize hadp : (fun kd ix => if kd = 2 ∧ ix = (sN σ 1) then x0 else if kd = 4 ∧ ix = (sN σ 1) then x2 else if kd = 3 ∧ ix = (sN σ 1) then x1 else ad kd ix : Nat → Nat → Nat) = ad'
  have hag : ∀ kd ix, zlv σ kd ix → kd ≠ 29 → ad' kd ix = ad kd ix := fun kd ix hl _ => by
    have hd := hdead kd ix hl
    rw [← hadp]
    dsimp only
    rw [if_neg (fun z => hd ⟨by omega, z.2⟩)]
    rw [if_neg (fun z => hd ⟨by omega, z.2⟩)]
    rw [if_neg (fun z => hd ⟨by omega, z.2⟩)]
  have e2 : ad' 2 (sN σ 1) = x0 := by rw [← hadp]; simp
  have e4 : ad' 4 (sN σ 1) = x2 := by rw [← hadp]; simp
  have e3 : ad' 3 (sN σ 1) = x1 := by rw [← hadp]; simp
  refine zV.imp (P' := zP G ad' (aCLr σ pp)) (fun H h => ?_) (kk ad' hag e2 e4 e3)
  refine zP.adopt (fun kd ix => (kd = 2 ∨ kd = 4 ∨ kd = 3) ∧ ix = (sN σ 1)) h (fun kd ix hl => ?_) (fun kd ix z => by rcases z.1 with rfl | rfl | rfl <;> decide) hag (fun aa kd ix hl => zct_ext hr hag (fun t o e hl2 => aCLr_I σ pp t o e (fun z => ?_)) (fun t o e hl2 => aCLr_L σ pp t o e (fun z => ?_)) (fun q hq => aCLr_Pn σ pp q (fun z => ?_)) rfl rfl rfl rfl kd ix hl) (fun aa kd ix z => ?_) (fun kd ix kd' ix' z z' he => ?_)
  · refine zlv_cases (P := fun kd => zlv (aCLr σ pp) kd ix → zlv σ kd ix ∨ ((kd = 2 ∨ kd = 4 ∨ kd = 3) ∧ ix = (sN σ 1))) (zlv_lt hl) ⟨?_, ?_, ?_, ?_, ?_, ?_, ?_, ?_, ?_, ?_, ?_, ?_, ?_, ?_, ?_, ?_, ?_, ?_, ?_, ?_, ?_, ?_, ?_, ?_, ?_, ?_, ?_, ?_, ?_, ?_⟩ hl
    · exact Or.inl
    · exact Or.inl
    · exact (fun g => (aCLr_l2 (σ := σ) pp g).elim Or.inl (fun e => Or.inr ⟨by simp, e⟩))
    · exact (fun g => (aCLr_l3 (σ := σ) pp g).elim Or.inl (fun e => Or.inr ⟨by simp, e⟩))
    · exact (fun g => (aCLr_l4 (σ := σ) pp g).elim Or.inl (fun e => Or.inr ⟨by simp, e⟩))
    · exact Or.inl
    · exact Or.inl
    · exact Or.inl
    · exact Or.inl
    · exact Or.inl
    · exact Or.inl
    · exact Or.inl
    · exact Or.inl
    · exact Or.inl
    · exact Or.inl
    · exact Or.inl
    · exact Or.inl
    · exact Or.inl
    · exact Or.inl
    · exact Or.inl
    · exact Or.inl
    · exact Or.inl
    · exact Or.inl
    · exact Or.inl
    · exact Or.inl
    · exact Or.inl
    · exact Or.inl
    · exact Or.inl
    · exact Or.inl
    · exact Or.inl
  · obtain ⟨z1, rfl⟩ := z
    rcases z1 with rfl | rfl | rfl | rfl
    · exact absurd hl2 ((fun g => by have g2 : sN σ 1 < sN σ 1 ∨ (30 ≤ sN σ 1 ∧ sN σ 1 < 30 + sN σ 4) := g; omega))
    · exact absurd hl2 ((fun g => by have g2 : sN σ 1 < sN σ 1 ∨ (30 ≤ sN σ 1 ∧ sN σ 1 < 30 + sN σ 4) := g; omega))
    · exact absurd hl2 ((fun g => by have g2 : sN σ 1 < sN σ 1 ∨ (30 ≤ sN σ 1 ∧ sN σ 1 < 30 + sN σ 4) := g; omega))
    · exact absurd hl2 ((fun g => by have g2 : sN σ 1 < sN σ 1 ∨ (30 ≤ sN σ 1 ∧ sN σ 1 < 30 + sN σ 4) := g; omega))
  · obtain ⟨z1, rfl⟩ := z
    rcases z1 with rfl | rfl
    · exact absurd hl2 ((fun g => by have g2 : sN σ 1 < sN σ 1 ∨ (30 ≤ sN σ 1 ∧ sN σ 1 < 30 + sN σ 4) := g; omega))
    · exact absurd hl2 ((fun g => by have g2 : sN σ 1 < sN σ 1 ∨ (30 ≤ sN σ 1 ∧ sN σ 1 < 30 + sN σ 4) := g; omega))
  · subst z
    exact absurd hq ((fun g => by have g2 : sN σ 1 < sN σ 1 ∨ (30 ≤ sN σ 1 ∧ sN σ 1 < 30 + sN σ 4) := g; omega))
  · obtain ⟨z1, rfl⟩ := z
    rcases z1 with rfl | rfl | rfl
    · have ec : zct G ad' aa (aCLr σ pp) 2 (sN σ 1) = .inr (0, [.ref (ad 1 pp), .ref x1, .ref x2, .int 0, .int 0, .int 0, .long 0]) := by
        show zqCL ad' (aCLr σ pp) (sN σ 1) = _
        unfold zqCL
        rw [aCLr_I4, aCLr_I5, aCLr_I6, aCLr_L0, aCLr_P, hag 1 pp hpp (by decide), e3, e4]
        all_goals rfl
      rw [e2, ec]
      simp
    · have ec : zct G ad' aa (aCLr σ pp) 4 (sN σ 1) = .inl (G.2.2.2.1 0, 8, .inl (fun _ => 0)) := by
        have e : (fun j => sI (aCLr σ pp) 7 (sN σ 1) j) = (fun _ => 0) := funext fun j => aCLr_I7 σ pp j
        show zqEVS G (aCLr σ pp) (sN σ 1) = _
        unfold zqEVS
        rw [e]
        all_goals rfl
      rw [e4, ec]
      simp
    · have ec : zct G ad' aa (aCLr σ pp) 3 (sN σ 1) = .inl (G.2.2.2.1 1, 8, .inr (.inl (fun _ => 0))) := by
        have e : (fun j => sL (aCLr σ pp) 1 (sN σ 1) j) = (fun _ => 0) := funext fun j => aCLr_L1 σ pp j
        show zqTOOK G (aCLr σ pp) (sN σ 1) = _
        unfold zqTOOK
        rw [e]
        all_goals rfl
      rw [e3, ec]
      simp
  · obtain ⟨z1, rfl⟩ := z
    obtain ⟨z2, rfl⟩ := z'
    obtain ⟨_, _, _, _, hpw⟩ := h
    simp at hpw
    refine ⟨?_, rfl⟩
    rcases z1 with rfl | rfl | rfl <;> rcases z2 with rfl | rfl | rfl
    · rfl
    · rw [e2, e4] at he
      exact absurd he (by first | (have q := hpw; simp_all; done) | (intro z; subst z; simp_all; done))
    · rw [e2, e3] at he
      exact absurd he (by first | (have q := hpw; simp_all; done) | (intro z; subst z; simp_all; done))
    · rw [e4, e2] at he
      exact absurd he (by first | (have q := hpw; simp_all; done) | (intro z; subst z; simp_all; done))
    · rfl
    · rw [e4, e3] at he
      exact absurd he (by first | (have q := hpw; simp_all; done) | (intro z; subst z; simp_all; done))
    · rw [e3, e2] at he
      exact absurd he (by first | (have q := hpw; simp_all; done) | (intro z; subst z; simp_all; done))
    · rw [e3, e4] at he
      exact absurd he (by first | (have q := hpw; simp_all; done) | (intro z; subst z; simp_all; done))
    · rfl
def aCLd (σ : zSt) (pp : Nat) : zSt := uP (wL (wI (uN σ 4 3 23) (fun t o _ => (t == 4 || t == 5 || t == 6 || t == 7) && o == (30 + sN σ 4)) (fun t _ _ =>  0)) (fun t o _ => (t == 0 || t == 1) && o == (30 + sN σ 4))) (30 + sN σ 4) pp
theorem aCLd_I (σ : zSt) (pp : Nat) (t o e : Nat) (h : ¬ ((t = 4 ∨ t = 5 ∨ t = 6 ∨ t = 7) ∧ o = (30 + sN σ 4))) : sI (aCLd σ pp) t o e = sI σ t o e := if_neg (by simpa [or_assoc] using h)
theorem aCLd_L (σ : zSt) (pp : Nat) (t o e : Nat) (h : ¬ ((t = 0 ∨ t = 1) ∧ o = (30 + sN σ 4))) : sL (aCLd σ pp) t o e = sL σ t o e := if_neg (by simpa [or_assoc] using h)
theorem aCLd_I4 (σ : zSt) (pp : Nat) (e : Nat) : sI (aCLd σ pp) 4 (30 + sN σ 4) e = 0 := by simp [aCLd, uN, wI, wL, uP, sI, sL, sN]
theorem aCLd_I5 (σ : zSt) (pp : Nat) (e : Nat) : sI (aCLd σ pp) 5 (30 + sN σ 4) e = 0 := by simp [aCLd, uN, wI, wL, uP, sI, sL, sN]
theorem aCLd_I6 (σ : zSt) (pp : Nat) (e : Nat) : sI (aCLd σ pp) 6 (30 + sN σ 4) e = 0 := by simp [aCLd, uN, wI, wL, uP, sI, sL, sN]
theorem aCLd_I7 (σ : zSt) (pp : Nat) (e : Nat) : sI (aCLd σ pp) 7 (30 + sN σ 4) e = 0 := by simp [aCLd, uN, wI, wL, uP, sI, sL, sN]
theorem aCLd_L0 (σ : zSt) (pp : Nat) (e : Nat) : sL (aCLd σ pp) 0 (30 + sN σ 4) e = 0 := by simp [aCLd, uN, wI, wL, uP, sI, sL, sN]
theorem aCLd_L1 (σ : zSt) (pp : Nat) (e : Nat) : sL (aCLd σ pp) 1 (30 + sN σ 4) e = 0 := by simp [aCLd, uN, wI, wL, uP, sI, sL, sN]
theorem aCLd_P (σ : zSt) (pp : Nat) : sP (aCLd σ pp) (30 + sN σ 4) = pp := if_pos rfl
theorem aCLd_Pn (σ : zSt) (pp : Nat) (k : Nat) (h : k ≠ (30 + sN σ 4)) : sP (aCLd σ pp) k = sP σ k := if_neg h
theorem aCLd_l2 {σ : zSt} (pp : Nat) {ix : Nat} (g : zlv (aCLd σ pp) 2 ix) : zlv σ 2 ix ∨ ix = (30 + sN σ 4) := by
  have g : ix < sN σ 1 ∨ (30 ≤ ix ∧ ix < 30 + (sN σ 4 + 1)) := g
  rcases (show (ix < sN σ 1 ∨ (30 ≤ ix ∧ ix < 30 + sN σ 4)) ∨ ix = 30 + sN σ 4 by omega) with q | q
  · exact Or.inl q
  · exact Or.inr q
theorem aCLd_l4 {σ : zSt} (pp : Nat) {ix : Nat} (g : zlv (aCLd σ pp) 4 ix) : zlv σ 4 ix ∨ ix = (30 + sN σ 4) := by
  have g : ix < sN σ 1 ∨ (30 ≤ ix ∧ ix < 30 + (sN σ 4 + 1)) := g
  rcases (show (ix < sN σ 1 ∨ (30 ≤ ix ∧ ix < 30 + sN σ 4)) ∨ ix = 30 + sN σ 4 by omega) with q | q
  · exact Or.inl q
  · exact Or.inr q
theorem aCLd_l3 {σ : zSt} (pp : Nat) {ix : Nat} (g : zlv (aCLd σ pp) 3 ix) : zlv σ 3 ix ∨ ix = (30 + sN σ 4) := by
  have g : ix < sN σ 1 ∨ (30 ≤ ix ∧ ix < 30 + (sN σ 4 + 1)) := g
  rcases (show (ix < sN σ 1 ∨ (30 ≤ ix ∧ ix < 30 + sN σ 4)) ∨ ix = 30 + sN σ 4 by omega) with q | q
  · exact Or.inl q
  · exact Or.inr q
set_option maxHeartbeats 4000000 in
theorem zx_adCLd {G : zG} {X : zX} {nL k n pc : Nat} {lo : List (Nat × Value)} {st : List Value} {ad : Nat → Nat → Nat} {σ : zSt} (pp : Nat) (x0 x2 x1 : Nat) (hr : zref σ) (hpp : zlv σ 1 pp) (h30 : sN σ 1 ≤ 30)
    (kk : ∀ ad' : Nat → Nat → Nat, (∀ kd ix, zlv σ kd ix → kd ≠ 29 → ad' kd ix = ad kd ix) → ad' 2 (30 + sN σ 4) = x0 → ad' 4 (30 + sN σ 4) = x2 → ad' 3 (30 + sN σ 4) = x1 → zV G X nL (zP G ad' (aCLd σ pp)) k n pc lo st) : zV G X nL (zPx G (bZ G ad σ) [(x0, .inr (0, [.ref (ad 1 pp), .ref x1, .ref x2, .int 0, .int 0, .int 0, .long 0])), (x2, .inl (G.2.2.2.1 0, 8, .inl (fun _ => 0))), (x1, .inl (G.2.2.2.1 1, 8, .inr (.inl (fun _ => 0))))]) k n pc lo st := by
  have hdead : ∀ kd ix, zlv σ kd ix → ¬ ((kd = 2 ∨ kd = 4 ∨ kd = 3) ∧ ix = (30 + sN σ 4)) := fun kd ix hl z => by
    obtain ⟨z1, z2⟩ := z
    subst z2
    rcases z1 with rfl | rfl | rfl
    · exact absurd hl ((fun g => by have g2 : 30 + sN σ 4 < sN σ 1 ∨ (30 ≤ 30 + sN σ 4 ∧ 30 + sN σ 4 < 30 + sN σ 4) := g; omega))
    · exact absurd hl ((fun g => by have g2 : 30 + sN σ 4 < sN σ 1 ∨ (30 ≤ 30 + sN σ 4 ∧ 30 + sN σ 4 < 30 + sN σ 4) := g; omega))
    · exact absurd hl ((fun g => by have g2 : 30 + sN σ 4 < sN σ 1 ∨ (30 ≤ 30 + sN σ 4 ∧ 30 + sN σ 4 < 30 + sN σ 4) := g; omega))
  generalize hadp : (fun kd ix => if kd = 2 ∧ ix = (30 + sN σ 4) then x0 else if kd = 4 ∧ ix = (30 + sN σ 4) then x2 else if kd = 3 ∧ ix = (30 + sN σ 4) then x1 else ad kd ix : Nat → Nat → Nat) = ad'
  have hag : ∀ kd ix, zlv σ kd ix → kd ≠ 29 → ad' kd ix = ad kd ix := fun kd ix hl _ => by
    have hd := hdead kd ix hl
    rw [← hadp]
    dsimp only
    rw [if_neg (fun z => hd ⟨by omega, z.2⟩)]
    rw [if_neg (fun z => hd ⟨by omega, z.2⟩)]
    rw [if_neg (fun z => hd ⟨by omega, z.2⟩)]
  have e2 : ad' 2 (30 + sN σ 4) = x0 := by rw [← hadp]; simp
  have e4 : ad' 4 (30 + sN σ 4) = x2 := by rw [← hadp]; simp
  have e3 : ad' 3 (30 + sN σ 4) = x1 := by rw [← hadp]; simp
  refine zV.imp (P' := zP G ad' (aCLd σ pp)) (fun H h => ?_) (kk ad' hag e2 e4 e3)
  refine zP.adopt (fun kd ix => (kd = 2 ∨ kd = 4 ∨ kd = 3) ∧ ix = (30 + sN σ 4)) h (fun kd ix hl => ?_) (fun kd ix z => by rcases z.1 with rfl | rfl | rfl <;> decide) hag (fun aa kd ix hl => zct_ext hr hag (fun t o e hl2 => aCLd_I σ pp t o e (fun z => ?_)) (fun t o e hl2 => aCLd_L σ pp t o e (fun z => ?_)) (fun q hq => aCLd_Pn σ pp q (fun z => ?_)) rfl rfl rfl rfl kd ix hl) (fun aa kd ix z => ?_) (fun kd ix kd' ix' z z' he => ?_)
  · refine zlv_cases (P := fun kd => zlv (aCLd σ pp) kd ix → zlv σ kd ix ∨ ((kd = 2 ∨ kd = 4 ∨ kd = 3) ∧ ix = (30 + sN σ 4))) (zlv_lt hl) ⟨?_, ?_, ?_, ?_, ?_, ?_, ?_, ?_, ?_, ?_, ?_, ?_, ?_, ?_, ?_, ?_, ?_, ?_, ?_, ?_, ?_, ?_, ?_, ?_, ?_, ?_, ?_, ?_, ?_, ?_⟩ hl
    · exact Or.inl
    · exact Or.inl
    · exact (fun g => (aCLd_l2 (σ := σ) pp g).elim Or.inl (fun e => Or.inr ⟨by simp, e⟩))
    · exact (fun g => (aCLd_l3 (σ := σ) pp g).elim Or.inl (fun e => Or.inr ⟨by simp, e⟩))
    · exact (fun g => (aCLd_l4 (σ := σ) pp g).elim Or.inl (fun e => Or.inr ⟨by simp, e⟩))
    · exact Or.inl
    · exact Or.inl
    · exact Or.inl
    · exact Or.inl
    · exact Or.inl
    · exact Or.inl
    · exact Or.inl
    · exact Or.inl
    · exact Or.inl
    · exact Or.inl
    · exact Or.inl
    · exact Or.inl
    · exact Or.inl
    · exact Or.inl
    · exact Or.inl
    · exact Or.inl
    · exact Or.inl
    · exact Or.inl
    · exact Or.inl
    · exact Or.inl
    · exact Or.inl
    · exact Or.inl
    · exact Or.inl
    · exact Or.inl
    · exact Or.inl
  · obtain ⟨z1, rfl⟩ := z
    rcases z1 with rfl | rfl | rfl | rfl
    · exact absurd hl2 ((fun g => by have g2 : 30 + sN σ 4 < sN σ 1 ∨ (30 ≤ 30 + sN σ 4 ∧ 30 + sN σ 4 < 30 + sN σ 4) := g; omega))
    · exact absurd hl2 ((fun g => by have g2 : 30 + sN σ 4 < sN σ 1 ∨ (30 ≤ 30 + sN σ 4 ∧ 30 + sN σ 4 < 30 + sN σ 4) := g; omega))
    · exact absurd hl2 ((fun g => by have g2 : 30 + sN σ 4 < sN σ 1 ∨ (30 ≤ 30 + sN σ 4 ∧ 30 + sN σ 4 < 30 + sN σ 4) := g; omega))
    · exact absurd hl2 ((fun g => by have g2 : 30 + sN σ 4 < sN σ 1 ∨ (30 ≤ 30 + sN σ 4 ∧ 30 + sN σ 4 < 30 + sN σ 4) := g; omega))
  · obtain ⟨z1, rfl⟩ := z
    rcases z1 with rfl | rfl
    · exact absurd hl2 ((fun g => by have g2 : 30 + sN σ 4 < sN σ 1 ∨ (30 ≤ 30 + sN σ 4 ∧ 30 + sN σ 4 < 30 + sN σ 4) := g; omega))
    · exact absurd hl2 ((fun g => by have g2 : 30 + sN σ 4 < sN σ 1 ∨ (30 ≤ 30 + sN σ 4 ∧ 30 + sN σ 4 < 30 + sN σ 4) := g; omega))
  · subst z
    exact absurd hq ((fun g => by have g2 : 30 + sN σ 4 < sN σ 1 ∨ (30 ≤ 30 + sN σ 4 ∧ 30 + sN σ 4 < 30 + sN σ 4) := g; omega))
  · obtain ⟨z1, rfl⟩ := z
    rcases z1 with rfl | rfl | rfl
    · have ec : zct G ad' aa (aCLd σ pp) 2 (30 + sN σ 4) = .inr (0, [.ref (ad 1 pp), .ref x1, .ref x2, .int 0, .int 0, .int 0, .long 0]) := by
        show zqCL ad' (aCLd σ pp) (30 + sN σ 4) = _
        unfold zqCL
        rw [aCLd_I4, aCLd_I5, aCLd_I6, aCLd_L0, aCLd_P, hag 1 pp hpp (by decide), e3, e4]
        all_goals rfl
      rw [e2, ec]
      simp
    · have ec : zct G ad' aa (aCLd σ pp) 4 (30 + sN σ 4) = .inl (G.2.2.2.1 0, 8, .inl (fun _ => 0)) := by
        have e : (fun j => sI (aCLd σ pp) 7 (30 + sN σ 4) j) = (fun _ => 0) := funext fun j => aCLd_I7 σ pp j
        show zqEVS G (aCLd σ pp) (30 + sN σ 4) = _
        unfold zqEVS
        rw [e]
        all_goals rfl
      rw [e4, ec]
      simp
    · have ec : zct G ad' aa (aCLd σ pp) 3 (30 + sN σ 4) = .inl (G.2.2.2.1 1, 8, .inr (.inl (fun _ => 0))) := by
        have e : (fun j => sL (aCLd σ pp) 1 (30 + sN σ 4) j) = (fun _ => 0) := funext fun j => aCLd_L1 σ pp j
        show zqTOOK G (aCLd σ pp) (30 + sN σ 4) = _
        unfold zqTOOK
        rw [e]
        all_goals rfl
      rw [e3, ec]
      simp
  · obtain ⟨z1, rfl⟩ := z
    obtain ⟨z2, rfl⟩ := z'
    obtain ⟨_, _, _, _, hpw⟩ := h
    simp at hpw
    refine ⟨?_, rfl⟩
    rcases z1 with rfl | rfl | rfl <;> rcases z2 with rfl | rfl | rfl
    · rfl
    · rw [e2, e4] at he
      exact absurd he (by first | (have q := hpw; simp_all; done) | (intro z; subst z; simp_all; done))
    · rw [e2, e3] at he
      exact absurd he (by first | (have q := hpw; simp_all; done) | (intro z; subst z; simp_all; done))
    · rw [e4, e2] at he
      exact absurd he (by first | (have q := hpw; simp_all; done) | (intro z; subst z; simp_all; done))
    · rfl
    · rw [e4, e3] at he
      exact absurd he (by first | (have q := hpw; simp_all; done) | (intro z; subst z; simp_all; done))
    · rw [e3, e2] at he
      exact absurd he (by first | (have q := hpw; simp_all; done) | (intro z; subst z; simp_all; done))
    · rw [e3, e4] at he
      exact absurd he (by first | (have q := hpw; simp_all; done) | (intro z; subst z; simp_all; done))
    · rfl
def aTR (σ : zSt) (v2 v3 v4 v5 v6 v7 : Int32) : zSt := wI (uN σ 2 2 20) (fun t o _ => (t == 8 || t == 9 || t == 10 || t == 11 || t == 12 || t == 13 || t == 14 || t == 15 || t == 16 || t == 17 || t == 18 || t == 19 || t == 20 || t == 21) && o == (sN σ 2)) (fun t _ _ => if t = 8 then v2 else if t = 9 then v3 else if t = 10 then v4 else if t = 11 then v5 else if t = 12 then v6 else if t = 13 then v7 else if t = 14 then 3 else 0)
theorem aTR_I (σ : zSt) (v2 v3 v4 v5 v6 v7 : Int32) (t o e : Nat) (h : ¬ ((t = 8 ∨ t = 9 ∨ t = 10 ∨ t = 11 ∨ t = 12 ∨ t = 13 ∨ t = 14 ∨ t = 15 ∨ t = 16 ∨ t = 17 ∨ t = 18 ∨ t = 19 ∨ t = 20 ∨ t = 21) ∧ o = (sN σ 2))) : sI (aTR σ v2 v3 v4 v5 v6 v7) t o e = sI σ t o e := if_neg (by simpa [or_assoc] using h)
theorem aTR_I8 (σ : zSt) (v2 v3 v4 v5 v6 v7 : Int32) (e : Nat) : sI (aTR σ v2 v3 v4 v5 v6 v7) 8 (sN σ 2) e = v2 := by simp [aTR, uN, wI, wL, uP, sI, sL, sN]
theorem aTR_I9 (σ : zSt) (v2 v3 v4 v5 v6 v7 : Int32) (e : Nat) : sI (aTR σ v2 v3 v4 v5 v6 v7) 9 (sN σ 2) e = v3 := by simp [aTR, uN, wI, wL, uP, sI, sL, sN]
theorem aTR_I10 (σ : zSt) (v2 v3 v4 v5 v6 v7 : Int32) (e : Nat) : sI (aTR σ v2 v3 v4 v5 v6 v7) 10 (sN σ 2) e = v4 := by simp [aTR, uN, wI, wL, uP, sI, sL, sN]
theorem aTR_I11 (σ : zSt) (v2 v3 v4 v5 v6 v7 : Int32) (e : Nat) : sI (aTR σ v2 v3 v4 v5 v6 v7) 11 (sN σ 2) e = v5 := by simp [aTR, uN, wI, wL, uP, sI, sL, sN]
theorem aTR_I12 (σ : zSt) (v2 v3 v4 v5 v6 v7 : Int32) (e : Nat) : sI (aTR σ v2 v3 v4 v5 v6 v7) 12 (sN σ 2) e = v6 := by simp [aTR, uN, wI, wL, uP, sI, sL, sN]
theorem aTR_I13 (σ : zSt) (v2 v3 v4 v5 v6 v7 : Int32) (e : Nat) : sI (aTR σ v2 v3 v4 v5 v6 v7) 13 (sN σ 2) e = v7 := by simp [aTR, uN, wI, wL, uP, sI, sL, sN]
theorem aTR_I14 (σ : zSt) (v2 v3 v4 v5 v6 v7 : Int32) (e : Nat) : sI (aTR σ v2 v3 v4 v5 v6 v7) 14 (sN σ 2) e = 3 := by simp [aTR, uN, wI, wL, uP, sI, sL, sN]
theorem aTR_I15 (σ : zSt) (v2 v3 v4 v5 v6 v7 : Int32) (e : Nat) : sI (aTR σ v2 v3 v4 v5 v6 v7) 15 (sN σ 2) e = 0 := by simp [aTR, uN, wI, wL, uP, sI, sL, sN]
theorem aTR_I16 (σ : zSt) (v2 v3 v4 v5 v6 v7 : Int32) (e : Nat) : sI (aTR σ v2 v3 v4 v5 v6 v7) 16 (sN σ 2) e = 0 := by simp [aTR, uN, wI, wL, uP, sI, sL, sN]
theorem aTR_I17 (σ : zSt) (v2 v3 v4 v5 v6 v7 : Int32) (e : Nat) : sI (aTR σ v2 v3 v4 v5 v6 v7) 17 (sN σ 2) e = 0 := by simp [aTR, uN, wI, wL, uP, sI, sL, sN]
theorem aTR_I18 (σ : zSt) (v2 v3 v4 v5 v6 v7 : Int32) (e : Nat) : sI (aTR σ v2 v3 v4 v5 v6 v7) 18 (sN σ 2) e = 0 := by simp [aTR, uN, wI, wL, uP, sI, sL, sN]
theorem aTR_I19 (σ : zSt) (v2 v3 v4 v5 v6 v7 : Int32) (e : Nat) : sI (aTR σ v2 v3 v4 v5 v6 v7) 19 (sN σ 2) e = 0 := by simp [aTR, uN, wI, wL, uP, sI, sL, sN]
theorem aTR_I20 (σ : zSt) (v2 v3 v4 v5 v6 v7 : Int32) (e : Nat) : sI (aTR σ v2 v3 v4 v5 v6 v7) 20 (sN σ 2) e = 0 := by simp [aTR, uN, wI, wL, uP, sI, sL, sN]
theorem aTR_I21 (σ : zSt) (v2 v3 v4 v5 v6 v7 : Int32) (e : Nat) : sI (aTR σ v2 v3 v4 v5 v6 v7) 21 (sN σ 2) e = 0 := by simp [aTR, uN, wI, wL, uP, sI, sL, sN]
theorem aTR_l5 {σ : zSt} (v2 v3 v4 v5 v6 v7 : Int32) {ix : Nat} (g : zlv (aTR σ v2 v3 v4 v5 v6 v7) 5 ix) : zlv σ 5 ix ∨ ix = (sN σ 2) := by
  have g : ix < sN σ 2 + 1 := g
  rcases Nat.lt_or_ge ix (sN σ 2) with q | q
  · exact Or.inl q
  · exact Or.inr (by omega)
theorem aTR_l6 {σ : zSt} (v2 v3 v4 v5 v6 v7 : Int32) {ix : Nat} (g : zlv (aTR σ v2 v3 v4 v5 v6 v7) 6 ix) : zlv σ 6 ix ∨ ix = (sN σ 2) := by
  have g : ix < sN σ 2 + 1 := g
  rcases Nat.lt_or_ge ix (sN σ 2) with q | q
  · exact Or.inl q
  · exact Or.inr (by omega)
set_option maxHeartbeats 4000000 in
theorem zx_adTR {G : zG} {X : zX} {nL k n pc : Nat} {lo : List (Nat × Value)} {st : List Value} {ad : Nat → Nat → Nat} {σ : zSt} (v2 v3 v4 v5 v6 v7 : Int32) (x0 x1 : Nat) (hr : zref σ) 
    (kk : ∀ ad' : Nat → Nat → Nat, (∀ kd ix, zlv σ kd ix → kd ≠ 29 → ad' kd ix = ad kd ix) → ad' 5 (sN σ 2) = x0 → ad' 6 (sN σ 2) = x1 → zV G X nL (zP G ad' (aTR σ v2 v3 v4 v5 v6 v7)) k n pc lo st) : zV G X nL (zPx G (bZ G ad σ) [(x0, .inr (7, [.int (nI (sN σ 2)), .int v2, .int v3, .int v4, .int v5, .int v6, .int v7, .ref x1, .int 3, .int 0, .int 0, .int 0, .int 0, .int 0, .int 0])), (x1, .inl (G.2.2.2.1 0, 5, .inl (fun _ => 0)))]) k n pc lo st := by
  have hdead : ∀ kd ix, zlv σ kd ix → ¬ ((kd = 5 ∨ kd = 6) ∧ ix = (sN σ 2)) := fun kd ix hl z => by
    obtain ⟨z1, z2⟩ := z
    subst z2
    rcases z1 with rfl | rfl
    · exact absurd hl (Nat.lt_irrefl _)
    · exact absurd hl (Nat.lt_irrefl _)
  generalize hadp : (fun kd ix => if kd = 5 ∧ ix = (sN σ 2) then x0 else if kd = 6 ∧ ix = (sN σ 2) then x1 else ad kd ix : Nat → Nat → Nat) = ad'
  have hag : ∀ kd ix, zlv σ kd ix → kd ≠ 29 → ad' kd ix = ad kd ix := fun kd ix hl _ => by
    have hd := hdead kd ix hl
    rw [← hadp]
    dsimp only
    rw [if_neg (fun z => hd ⟨by omega, z.2⟩)]
    rw [if_neg (fun z => hd ⟨by omega, z.2⟩)]
  have e5 : ad' 5 (sN σ 2) = x0 := by rw [← hadp]; simp
  have e6 : ad' 6 (sN σ 2) = x1 := by rw [← hadp]; simp
  refine zV.imp (P' := zP G ad' (aTR σ v2 v3 v4 v5 v6 v7)) (fun H h => ?_) (kk ad' hag e5 e6)
  refine zP.adopt (fun kd ix => (kd = 5 ∨ kd = 6) ∧ ix = (sN σ 2)) h (fun kd ix hl => ?_) (fun kd ix z => by rcases z.1 with rfl | rfl <;> decide) hag (fun aa kd ix hl => zct_ext hr hag (fun t o e hl2 => aTR_I σ v2 v3 v4 v5 v6 v7 t o e (fun z => ?_)) (fun t o e hl2 => rfl) (fun q hq => rfl) rfl rfl rfl rfl kd ix hl) (fun aa kd ix z => ?_) (fun kd ix kd' ix' z z' he => ?_)
  · refine zlv_cases (P := fun kd => zlv (aTR σ v2 v3 v4 v5 v6 v7) kd ix → zlv σ kd ix ∨ ((kd = 5 ∨ kd = 6) ∧ ix = (sN σ 2))) (zlv_lt hl) ⟨?_, ?_, ?_, ?_, ?_, ?_, ?_, ?_, ?_, ?_, ?_, ?_, ?_, ?_, ?_, ?_, ?_, ?_, ?_, ?_, ?_, ?_, ?_, ?_, ?_, ?_, ?_, ?_, ?_, ?_⟩ hl
    · exact Or.inl
    · exact Or.inl
    · exact Or.inl
    · exact Or.inl
    · exact Or.inl
    · exact (fun g => (aTR_l5 (σ := σ) v2 v3 v4 v5 v6 v7 g).elim Or.inl (fun e => Or.inr ⟨by simp, e⟩))
    · exact (fun g => (aTR_l6 (σ := σ) v2 v3 v4 v5 v6 v7 g).elim Or.inl (fun e => Or.inr ⟨by simp, e⟩))
    · exact Or.inl
    · exact Or.inl
    · exact Or.inl
    · exact Or.inl
    · exact Or.inl
    · exact Or.inl
    · exact Or.inl
    · exact Or.inl
    · exact Or.inl
    · exact Or.inl
    · exact Or.inl
    · exact Or.inl
    · exact Or.inl
    · exact Or.inl
    · exact Or.inl
    · exact Or.inl
    · exact Or.inl
    · exact Or.inl
    · exact Or.inl
    · exact Or.inl
    · exact Or.inl
    · exact Or.inl
    · exact Or.inl
  · obtain ⟨z1, rfl⟩ := z
    rcases z1 with rfl | rfl | rfl | rfl | rfl | rfl | rfl | rfl | rfl | rfl | rfl | rfl | rfl | rfl
    · exact absurd hl2 (Nat.lt_irrefl _)
    · exact absurd hl2 (Nat.lt_irrefl _)
    · exact absurd hl2 (Nat.lt_irrefl _)
    · exact absurd hl2 (Nat.lt_irrefl _)
    · exact absurd hl2 (Nat.lt_irrefl _)
    · exact absurd hl2 (Nat.lt_irrefl _)
    · exact absurd hl2 (Nat.lt_irrefl _)
    · exact absurd hl2 (Nat.lt_irrefl _)
    · exact absurd hl2 (Nat.lt_irrefl _)
    · exact absurd hl2 (Nat.lt_irrefl _)
    · exact absurd hl2 (Nat.lt_irrefl _)
    · exact absurd hl2 (Nat.lt_irrefl _)
    · exact absurd hl2 (Nat.lt_irrefl _)
    · exact absurd hl2 (Nat.lt_irrefl _)
  · obtain ⟨z1, rfl⟩ := z
    rcases z1 with rfl | rfl
    · have ec : zct G ad' aa (aTR σ v2 v3 v4 v5 v6 v7) 5 (sN σ 2) = .inr (7, [.int (nI (sN σ 2)), .int v2, .int v3, .int v4, .int v5, .int v6, .int v7, .ref x1, .int 3, .int 0, .int 0, .int 0, .int 0, .int 0, .int 0]) := by
        show zqTR ad' (aTR σ v2 v3 v4 v5 v6 v7) (sN σ 2) = _
        unfold zqTR
        rw [aTR_I8, aTR_I9, aTR_I10, aTR_I11, aTR_I12, aTR_I13, aTR_I14, aTR_I15, aTR_I16, aTR_I17, aTR_I18, aTR_I19, aTR_I20, e6]
        all_goals rfl
      rw [e5, ec]
      simp
    · have ec : zct G ad' aa (aTR σ v2 v3 v4 v5 v6 v7) 6 (sN σ 2) = .inl (G.2.2.2.1 0, 5, .inl (fun _ => 0)) := by
        have e : (fun j => sI (aTR σ v2 v3 v4 v5 v6 v7) 21 (sN σ 2) j) = (fun _ => 0) := funext fun j => aTR_I21 σ v2 v3 v4 v5 v6 v7 j
        show zqSHR G (aTR σ v2 v3 v4 v5 v6 v7) (sN σ 2) = _
        unfold zqSHR
        rw [e]
        all_goals rfl
      rw [e6, ec]
      simp
  · obtain ⟨z1, rfl⟩ := z
    obtain ⟨z2, rfl⟩ := z'
    obtain ⟨_, _, _, _, hpw⟩ := h
    simp at hpw
    refine ⟨?_, rfl⟩
    rcases z1 with rfl | rfl <;> rcases z2 with rfl | rfl
    · rfl
    · rw [e5, e6] at he
      exact absurd he (by first | (have q := hpw; simp_all; done) | (intro z; subst z; simp_all; done))
    · rw [e6, e5] at he
      exact absurd he (by first | (have q := hpw; simp_all; done) | (intro z; subst z; simp_all; done))
    · rfl
def aCOVr (σ : zSt) : zSt := wL (wI (uN σ 5 2 10) (fun t o _ => (t == 22) && o == (sN σ 5)) (fun t _ _ =>  0)) (fun t o _ => (t == 2 || t == 3 || t == 4 || t == 5) && o == (sN σ 5))
theorem aCOVr_I (σ : zSt) (t o e : Nat) (h : ¬ ((t = 22) ∧ o = (sN σ 5))) : sI (aCOVr σ) t o e = sI σ t o e := if_neg (by simpa [or_assoc] using h)
theorem aCOVr_L (σ : zSt) (t o e : Nat) (h : ¬ ((t = 2 ∨ t = 3 ∨ t = 4 ∨ t = 5) ∧ o = (sN σ 5))) : sL (aCOVr σ) t o e = sL σ t o e := if_neg (by simpa [or_assoc] using h)
theorem aCOVr_I22 (σ : zSt) (e : Nat) : sI (aCOVr σ) 22 (sN σ 5) e = 0 := by simp [aCOVr, uN, wI, wL, uP, sI, sL, sN]
theorem aCOVr_L2 (σ : zSt) (e : Nat) : sL (aCOVr σ) 2 (sN σ 5) e = 0 := by simp [aCOVr, uN, wI, wL, uP, sI, sL, sN]
theorem aCOVr_L3 (σ : zSt) (e : Nat) : sL (aCOVr σ) 3 (sN σ 5) e = 0 := by simp [aCOVr, uN, wI, wL, uP, sI, sL, sN]
theorem aCOVr_L4 (σ : zSt) (e : Nat) : sL (aCOVr σ) 4 (sN σ 5) e = 0 := by simp [aCOVr, uN, wI, wL, uP, sI, sL, sN]
theorem aCOVr_L5 (σ : zSt) (e : Nat) : sL (aCOVr σ) 5 (sN σ 5) e = 0 := by simp [aCOVr, uN, wI, wL, uP, sI, sL, sN]
theorem aCOVr_l7 {σ : zSt} {ix : Nat} (g : zlv (aCOVr σ) 7 ix) : zlv σ 7 ix ∨ ix = (sN σ 5) := by
  have g : ix < sN σ 5 + 1 ∨ (8 ≤ ix ∧ ix < 8 + sN σ 6) := g
  rcases (show (ix < sN σ 5 ∨ (8 ≤ ix ∧ ix < 8 + sN σ 6)) ∨ ix = sN σ 5 by omega) with q | q
  · exact Or.inl q
  · exact Or.inr q
theorem aCOVr_l8 {σ : zSt} {ix : Nat} (g : zlv (aCOVr σ) 8 ix) : zlv σ 8 ix ∨ ix = (sN σ 5) := by
  have g : ix < sN σ 5 + 1 ∨ (8 ≤ ix ∧ ix < 8 + sN σ 6) := g
  rcases (show (ix < sN σ 5 ∨ (8 ≤ ix ∧ ix < 8 + sN σ 6)) ∨ ix = sN σ 5 by omega) with q | q
  · exact Or.inl q
  · exact Or.inr q
set_option maxHeartbeats 4000000 in
theorem zx_adCOVr {G : zG} {X : zX} {nL k n pc : Nat} {lo : List (Nat × Value)} {st : List Value} {ad : Nat → Nat → Nat} {σ : zSt} (x0 x1 : Nat) (hr : zref σ) (tt : Nat) (hix : sN σ 5 % 8 = tt) (htt : zlv σ 5 tt) (h8 : sN σ 5 < 8)
    (kk : ∀ ad' : Nat → Nat → Nat, (∀ kd ix, zlv σ kd ix → kd ≠ 29 → ad' kd ix = ad kd ix) → ad' 7 (sN σ 5) = x0 → ad' 8 (sN σ 5) = x1 → zV G X nL (zP G ad' (aCOVr σ)) k n pc lo st) : zV G X nL (zPx G (bZ G ad σ) [(x0, .inr (1, [.ref (ad 5 tt), .ref x1, .long 0, .long 0, .long 0, .long 0])), (x1, .inl (G.2.2.2.1 0, 4, .inl (fun _ => 0)))]) k n pc lo st := by
  have hdead : ∀ kd ix, zlv σ kd ix → ¬ ((kd = 7 ∨ kd = 8) ∧ ix = (sN σ 5)) := fun kd ix hl z => by
    obtain ⟨z1, z2⟩ := z
    subst z2
    rcases z1 with rfl | rfl
    · exact absurd hl ((fun g => by have g2 : sN σ 5 < sN σ 5 ∨ (8 ≤ sN σ 5 ∧ sN σ 5 < 8 + sN σ 6) := g; omega))
    · exact absurd hl ((fun g => by have g2 : sN σ 5 < sN σ 5 ∨ (8 ≤ sN σ 5 ∧ sN σ 5 < 8 + sN σ 6) := g; omega))
  generalize hadp : (fun kd ix => if kd = 7 ∧ ix = (sN σ 5) then x0 else if kd = 8 ∧ ix = (sN σ 5) then x1 else ad kd ix : Nat → Nat → Nat) = ad'
  have hag : ∀ kd ix, zlv σ kd ix → kd ≠ 29 → ad' kd ix = ad kd ix := fun kd ix hl _ => by
    have hd := hdead kd ix hl
    rw [← hadp]
    dsimp only
    rw [if_neg (fun z => hd ⟨by omega, z.2⟩)]
    rw [if_neg (fun z => hd ⟨by omega, z.2⟩)]
  have e7 : ad' 7 (sN σ 5) = x0 := by rw [← hadp]; simp
  have e8 : ad' 8 (sN σ 5) = x1 := by rw [← hadp]; simp
  refine zV.imp (P' := zP G ad' (aCOVr σ)) (fun H h => ?_) (kk ad' hag e7 e8)
  refine zP.adopt (fun kd ix => (kd = 7 ∨ kd = 8) ∧ ix = (sN σ 5)) h (fun kd ix hl => ?_) (fun kd ix z => by rcases z.1 with rfl | rfl <;> decide) hag (fun aa kd ix hl => zct_ext hr hag (fun t o e hl2 => aCOVr_I σ  t o e (fun z => ?_)) (fun t o e hl2 => aCOVr_L σ  t o e (fun z => ?_)) (fun q hq => rfl) rfl rfl rfl rfl kd ix hl) (fun aa kd ix z => ?_) (fun kd ix kd' ix' z z' he => ?_)
  · refine zlv_cases (P := fun kd => zlv (aCOVr σ) kd ix → zlv σ kd ix ∨ ((kd = 7 ∨ kd = 8) ∧ ix = (sN σ 5))) (zlv_lt hl) ⟨?_, ?_, ?_, ?_, ?_, ?_, ?_, ?_, ?_, ?_, ?_, ?_, ?_, ?_, ?_, ?_, ?_, ?_, ?_, ?_, ?_, ?_, ?_, ?_, ?_, ?_, ?_, ?_, ?_, ?_⟩ hl
    · exact Or.inl
    · exact Or.inl
    · exact Or.inl
    · exact Or.inl
    · exact Or.inl
    · exact Or.inl
    · exact Or.inl
    · exact (fun g => (aCOVr_l7 (σ := σ) g).elim Or.inl (fun e => Or.inr ⟨by simp, e⟩))
    · exact (fun g => (aCOVr_l8 (σ := σ) g).elim Or.inl (fun e => Or.inr ⟨by simp, e⟩))
    · exact Or.inl
    · exact Or.inl
    · exact Or.inl
    · exact Or.inl
    · exact Or.inl
    · exact Or.inl
    · exact Or.inl
    · exact Or.inl
    · exact Or.inl
    · exact Or.inl
    · exact Or.inl
    · exact Or.inl
    · exact Or.inl
    · exact Or.inl
    · exact Or.inl
    · exact Or.inl
    · exact Or.inl
    · exact Or.inl
    · exact Or.inl
    · exact Or.inl
    · exact Or.inl
  · obtain ⟨z1, rfl⟩ := z
    rcases z1 with rfl
    · exact absurd hl2 ((fun g => by have g2 : sN σ 5 < sN σ 5 ∨ (8 ≤ sN σ 5 ∧ sN σ 5 < 8 + sN σ 6) := g; omega))
  · obtain ⟨z1, rfl⟩ := z
    rcases z1 with rfl | rfl | rfl | rfl
    · exact absurd hl2 ((fun g => by have g2 : sN σ 5 < sN σ 5 ∨ (8 ≤ sN σ 5 ∧ sN σ 5 < 8 + sN σ 6) := g; omega))
    · exact absurd hl2 ((fun g => by have g2 : sN σ 5 < sN σ 5 ∨ (8 ≤ sN σ 5 ∧ sN σ 5 < 8 + sN σ 6) := g; omega))
    · exact absurd hl2 ((fun g => by have g2 : sN σ 5 < sN σ 5 ∨ (8 ≤ sN σ 5 ∧ sN σ 5 < 8 + sN σ 6) := g; omega))
    · exact absurd hl2 ((fun g => by have g2 : sN σ 5 < sN σ 5 ∨ (8 ≤ sN σ 5 ∧ sN σ 5 < 8 + sN σ 6) := g; omega))
  · obtain ⟨z1, rfl⟩ := z
    rcases z1 with rfl | rfl
    · have ec : zct G ad' aa (aCOVr σ) 7 (sN σ 5) = .inr (1, [.ref (ad 5 tt), .ref x1, .long 0, .long 0, .long 0, .long 0]) := by
        show zqCOV ad' (aCOVr σ) (sN σ 5) = _
        unfold zqCOV
        rw [aCOVr_L2, aCOVr_L3, aCOVr_L4, aCOVr_L5, hix, hag 5 tt htt (by decide), e8]
        all_goals rfl
      rw [e7, ec]
      simp
    · have ec : zct G ad' aa (aCOVr σ) 8 (sN σ 5) = .inl (G.2.2.2.1 0, 4, .inl (fun _ => 0)) := by
        have e : (fun j => sI (aCOVr σ) 22 (sN σ 5) j) = (fun _ => 0) := funext fun j => aCOVr_I22 σ  j
        show zqCEV G (aCOVr σ) (sN σ 5) = _
        unfold zqCEV
        rw [e]
        all_goals rfl
      rw [e8, ec]
      simp
  · obtain ⟨z1, rfl⟩ := z
    obtain ⟨z2, rfl⟩ := z'
    obtain ⟨_, _, _, _, hpw⟩ := h
    simp at hpw
    refine ⟨?_, rfl⟩
    rcases z1 with rfl | rfl <;> rcases z2 with rfl | rfl
    · rfl
    · rw [e7, e8] at he
      exact absurd he (by first | (have q := hpw; simp_all; done) | (intro z; subst z; simp_all; done))
    · rw [e8, e7] at he
      exact absurd he (by first | (have q := hpw; simp_all; done) | (intro z; subst z; simp_all; done))
    · rfl
def aCOVt (σ : zSt) : zSt := wL (wI (uN σ 6 2 10) (fun t o _ => (t == 22) && o == (8 + sN σ 6)) (fun t _ _ =>  0)) (fun t o _ => (t == 2 || t == 3 || t == 4 || t == 5) && o == (8 + sN σ 6))
theorem aCOVt_I (σ : zSt) (t o e : Nat) (h : ¬ ((t = 22) ∧ o = (8 + sN σ 6))) : sI (aCOVt σ) t o e = sI σ t o e := if_neg (by simpa [or_assoc] using h)
theorem aCOVt_L (σ : zSt) (t o e : Nat) (h : ¬ ((t = 2 ∨ t = 3 ∨ t = 4 ∨ t = 5) ∧ o = (8 + sN σ 6))) : sL (aCOVt σ) t o e = sL σ t o e := if_neg (by simpa [or_assoc] using h)
theorem aCOVt_I22 (σ : zSt) (e : Nat) : sI (aCOVt σ) 22 (8 + sN σ 6) e = 0 := by simp [aCOVt, uN, wI, wL, uP, sI, sL, sN]
theorem aCOVt_L2 (σ : zSt) (e : Nat) : sL (aCOVt σ) 2 (8 + sN σ 6) e = 0 := by simp [aCOVt, uN, wI, wL, uP, sI, sL, sN]
theorem aCOVt_L3 (σ : zSt) (e : Nat) : sL (aCOVt σ) 3 (8 + sN σ 6) e = 0 := by simp [aCOVt, uN, wI, wL, uP, sI, sL, sN]
theorem aCOVt_L4 (σ : zSt) (e : Nat) : sL (aCOVt σ) 4 (8 + sN σ 6) e = 0 := by simp [aCOVt, uN, wI, wL, uP, sI, sL, sN]
theorem aCOVt_L5 (σ : zSt) (e : Nat) : sL (aCOVt σ) 5 (8 + sN σ 6) e = 0 := by simp [aCOVt, uN, wI, wL, uP, sI, sL, sN]
theorem aCOVt_l7 {σ : zSt} {ix : Nat} (g : zlv (aCOVt σ) 7 ix) : zlv σ 7 ix ∨ ix = (8 + sN σ 6) := by
  have g : ix < sN σ 5 ∨ (8 ≤ ix ∧ ix < 8 + (sN σ 6 + 1)) := g
  rcases (show (ix < sN σ 5 ∨ (8 ≤ ix ∧ ix < 8 + sN σ 6)) ∨ ix = 8 + sN σ 6 by omega) with q | q
  · exact Or.inl q
  · exact Or.inr q
theorem aCOVt_l8 {σ : zSt} {ix : Nat} (g : zlv (aCOVt σ) 8 ix) : zlv σ 8 ix ∨ ix = (8 + sN σ 6) := by
  have g : ix < sN σ 5 ∨ (8 ≤ ix ∧ ix < 8 + (sN σ 6 + 1)) := g
  rcases (show (ix < sN σ 5 ∨ (8 ≤ ix ∧ ix < 8 + sN σ 6)) ∨ ix = 8 + sN σ 6 by omega) with q | q
  · exact Or.inl q
  · exact Or.inr q
set_option maxHeartbeats 4000000 in
theorem zx_adCOVt {G : zG} {X : zX} {nL k n pc : Nat} {lo : List (Nat × Value)} {st : List Value} {ad : Nat → Nat → Nat} {σ : zSt} (x0 x1 : Nat) (hr : zref σ) (tt : Nat) (hix : (8 + sN σ 6) % 8 = tt) (htt : zlv σ 5 tt) (h8 : sN σ 5 ≤ 8)
    (kk : ∀ ad' : Nat → Nat → Nat, (∀ kd ix, zlv σ kd ix → kd ≠ 29 → ad' kd ix = ad kd ix) → ad' 7 (8 + sN σ 6) = x0 → ad' 8 (8 + sN σ 6) = x1 → zV G X nL (zP G ad' (aCOVt σ)) k n pc lo st) : zV G X nL (zPx G (bZ G ad σ) [(x0, .inr (1, [.ref (ad 5 tt), .ref x1, .long 0, .long 0, .long 0, .long 0])), (x1, .inl (G.2.2.2.1 0, 4, .inl (fun _ => 0)))]) k n pc lo st := by
  have hdead : ∀ kd ix, zlv σ kd ix → ¬ ((kd = 7 ∨ kd = 8) ∧ ix = (8 + sN σ 6)) := fun kd ix hl z => by
    obtain ⟨z1, z2⟩ := z
    subst z2
    rcases z1 with rfl | rfl
    · exact absurd hl ((fun g => by have g2 : 8 + sN σ 6 < sN σ 5 ∨ (8 ≤ 8 + sN σ 6 ∧ 8 + sN σ 6 < 8 + sN σ 6) := g; omega))
    · exact absurd hl ((fun g => by have g2 : 8 + sN σ 6 < sN σ 5 ∨ (8 ≤ 8 + sN σ 6 ∧ 8 + sN σ 6 < 8 + sN σ 6) := g; omega))
  generalize hadp : (fun kd ix => if kd = 7 ∧ ix = (8 + sN σ 6) then x0 else if kd = 8 ∧ ix = (8 + sN σ 6) then x1 else ad kd ix : Nat → Nat → Nat) = ad'
  have hag : ∀ kd ix, zlv σ kd ix → kd ≠ 29 → ad' kd ix = ad kd ix := fun kd ix hl _ => by
    have hd := hdead kd ix hl
    rw [← hadp]
    dsimp only
    rw [if_neg (fun z => hd ⟨by omega, z.2⟩)]
    rw [if_neg (fun z => hd ⟨by omega, z.2⟩)]
  have e7 : ad' 7 (8 + sN σ 6) = x0 := by rw [← hadp]; simp
  have e8 : ad' 8 (8 + sN σ 6) = x1 := by rw [← hadp]; simp
  refine zV.imp (P' := zP G ad' (aCOVt σ)) (fun H h => ?_) (kk ad' hag e7 e8)
  refine zP.adopt (fun kd ix => (kd = 7 ∨ kd = 8) ∧ ix = (8 + sN σ 6)) h (fun kd ix hl => ?_) (fun kd ix z => by rcases z.1 with rfl | rfl <;> decide) hag (fun aa kd ix hl => zct_ext hr hag (fun t o e hl2 => aCOVt_I σ  t o e (fun z => ?_)) (fun t o e hl2 => aCOVt_L σ  t o e (fun z => ?_)) (fun q hq => rfl) rfl rfl rfl rfl kd ix hl) (fun aa kd ix z => ?_) (fun kd ix kd' ix' z z' he => ?_)
  · refine zlv_cases (P := fun kd => zlv (aCOVt σ) kd ix → zlv σ kd ix ∨ ((kd = 7 ∨ kd = 8) ∧ ix = (8 + sN σ 6))) (zlv_lt hl) ⟨?_, ?_, ?_, ?_, ?_, ?_, ?_, ?_, ?_, ?_, ?_, ?_, ?_, ?_, ?_, ?_, ?_, ?_, ?_, ?_, ?_, ?_, ?_, ?_, ?_, ?_, ?_, ?_, ?_, ?_⟩ hl
    · exact Or.inl
    · exact Or.inl
    · exact Or.inl
    · exact Or.inl
    · exact Or.inl
    · exact Or.inl
    · exact Or.inl
    · exact (fun g => (aCOVt_l7 (σ := σ) g).elim Or.inl (fun e => Or.inr ⟨by simp, e⟩))
    · exact (fun g => (aCOVt_l8 (σ := σ) g).elim Or.inl (fun e => Or.inr ⟨by simp, e⟩))
    · exact Or.inl
    · exact Or.inl
    · exact Or.inl
    · exact Or.inl
    · exact Or.inl
    · exact Or.inl
    · exact Or.inl
    · exact Or.inl
    · exact Or.inl
    · exact Or.inl
    · exact Or.inl
    · exact Or.inl
    · exact Or.inl
    · exact Or.inl
    · exact Or.inl
    · exact Or.inl
    · exact Or.inl
    · exact Or.inl
    · exact Or.inl
    · exact Or.inl
    · exact Or.inl
  · obtain ⟨z1, rfl⟩ := z
    rcases z1 with rfl
    · exact absurd hl2 ((fun g => by have g2 : 8 + sN σ 6 < sN σ 5 ∨ (8 ≤ 8 + sN σ 6 ∧ 8 + sN σ 6 < 8 + sN σ 6) := g; omega))
  · obtain ⟨z1, rfl⟩ := z
    rcases z1 with rfl | rfl | rfl | rfl
    · exact absurd hl2 ((fun g => by have g2 : 8 + sN σ 6 < sN σ 5 ∨ (8 ≤ 8 + sN σ 6 ∧ 8 + sN σ 6 < 8 + sN σ 6) := g; omega))
    · exact absurd hl2 ((fun g => by have g2 : 8 + sN σ 6 < sN σ 5 ∨ (8 ≤ 8 + sN σ 6 ∧ 8 + sN σ 6 < 8 + sN σ 6) := g; omega))
    · exact absurd hl2 ((fun g => by have g2 : 8 + sN σ 6 < sN σ 5 ∨ (8 ≤ 8 + sN σ 6 ∧ 8 + sN σ 6 < 8 + sN σ 6) := g; omega))
    · exact absurd hl2 ((fun g => by have g2 : 8 + sN σ 6 < sN σ 5 ∨ (8 ≤ 8 + sN σ 6 ∧ 8 + sN σ 6 < 8 + sN σ 6) := g; omega))
  · obtain ⟨z1, rfl⟩ := z
    rcases z1 with rfl | rfl
    · have ec : zct G ad' aa (aCOVt σ) 7 (8 + sN σ 6) = .inr (1, [.ref (ad 5 tt), .ref x1, .long 0, .long 0, .long 0, .long 0]) := by
        show zqCOV ad' (aCOVt σ) (8 + sN σ 6) = _
        unfold zqCOV
        rw [aCOVt_L2, aCOVt_L3, aCOVt_L4, aCOVt_L5, hix, hag 5 tt htt (by decide), e8]
        all_goals rfl
      rw [e7, ec]
      simp
    · have ec : zct G ad' aa (aCOVt σ) 8 (8 + sN σ 6) = .inl (G.2.2.2.1 0, 4, .inl (fun _ => 0)) := by
        have e : (fun j => sI (aCOVt σ) 22 (8 + sN σ 6) j) = (fun _ => 0) := funext fun j => aCOVt_I22 σ  j
        show zqCEV G (aCOVt σ) (8 + sN σ 6) = _
        unfold zqCEV
        rw [e]
        all_goals rfl
      rw [e8, ec]
      simp
  · obtain ⟨z1, rfl⟩ := z
    obtain ⟨z2, rfl⟩ := z'
    obtain ⟨_, _, _, _, hpw⟩ := h
    simp at hpw
    refine ⟨?_, rfl⟩
    rcases z1 with rfl | rfl <;> rcases z2 with rfl | rfl
    · rfl
    · rw [e7, e8] at he
      exact absurd he (by first | (have q := hpw; simp_all; done) | (intro z; subst z; simp_all; done))
    · rw [e8, e7] at he
      exact absurd he (by first | (have q := hpw; simp_all; done) | (intro z; subst z; simp_all; done))
    · rfl
def aSC (σ : zSt) (v1 v2 : Int32) : zSt := wL (wI (uN σ 3 2 8) (fun t o _ => (t == 23 || t == 24 || t == 25) && o == (sN σ 3)) (fun t _ _ => if t = 23 then v1 else if t = 24 then v2 else 0)) (fun t o _ => (t == 6) && o == (sN σ 3))
theorem aSC_I (σ : zSt) (v1 v2 : Int32) (t o e : Nat) (h : ¬ ((t = 23 ∨ t = 24 ∨ t = 25) ∧ o = (sN σ 3))) : sI (aSC σ v1 v2) t o e = sI σ t o e := if_neg (by simpa [or_assoc] using h)
theorem aSC_L (σ : zSt) (v1 v2 : Int32) (t o e : Nat) (h : ¬ ((t = 6) ∧ o = (sN σ 3))) : sL (aSC σ v1 v2) t o e = sL σ t o e := if_neg (by simpa [or_assoc] using h)
theorem aSC_I23 (σ : zSt) (v1 v2 : Int32) (e : Nat) : sI (aSC σ v1 v2) 23 (sN σ 3) e = v1 := by simp [aSC, uN, wI, wL, uP, sI, sL, sN]
theorem aSC_I24 (σ : zSt) (v1 v2 : Int32) (e : Nat) : sI (aSC σ v1 v2) 24 (sN σ 3) e = v2 := by simp [aSC, uN, wI, wL, uP, sI, sL, sN]
theorem aSC_I25 (σ : zSt) (v1 v2 : Int32) (e : Nat) : sI (aSC σ v1 v2) 25 (sN σ 3) e = 0 := by simp [aSC, uN, wI, wL, uP, sI, sL, sN]
theorem aSC_L6 (σ : zSt) (v1 v2 : Int32) (e : Nat) : sL (aSC σ v1 v2) 6 (sN σ 3) e = 0 := by simp [aSC, uN, wI, wL, uP, sI, sL, sN]
theorem aSC_l9 {σ : zSt} (v1 v2 : Int32) {ix : Nat} (g : zlv (aSC σ v1 v2) 9 ix) : zlv σ 9 ix ∨ ix = (sN σ 3) := by
  have g : ix < sN σ 3 + 1 := g
  rcases Nat.lt_or_ge ix (sN σ 3) with q | q
  · exact Or.inl q
  · exact Or.inr (by omega)
theorem aSC_l10 {σ : zSt} (v1 v2 : Int32) {ix : Nat} (g : zlv (aSC σ v1 v2) 10 ix) : zlv σ 10 ix ∨ ix = (sN σ 3) := by
  have g : ix < sN σ 3 + 1 := g
  rcases Nat.lt_or_ge ix (sN σ 3) with q | q
  · exact Or.inl q
  · exact Or.inr (by omega)
set_option maxHeartbeats 4000000 in
theorem zx_adSC {G : zG} {X : zX} {nL k n pc : Nat} {lo : List (Nat × Value)} {st : List Value} {ad : Nat → Nat → Nat} {σ : zSt} (v1 v2 : Int32) (x0 x1 : Nat) (hr : zref σ) 
    (kk : ∀ ad' : Nat → Nat → Nat, (∀ kd ix, zlv σ kd ix → kd ≠ 29 → ad' kd ix = ad kd ix) → ad' 9 (sN σ 3) = x0 → ad' 10 (sN σ 3) = x1 → zV G X nL (zP G ad' (aSC σ v1 v2)) k n pc lo st) : zV G X nL (zPx G (bZ G ad σ) [(x0, .inr (6, [.int v1, .int v2, .ref x1, .long 0])), (x1, .inl (G.2.2.2.1 0, 4, .inl (fun _ => 0)))]) k n pc lo st := by
  have hdead : ∀ kd ix, zlv σ kd ix → ¬ ((kd = 9 ∨ kd = 10) ∧ ix = (sN σ 3)) := fun kd ix hl z => by
    obtain ⟨z1, z2⟩ := z
    subst z2
    rcases z1 with rfl | rfl
    · exact absurd hl (Nat.lt_irrefl _)
    · exact absurd hl (Nat.lt_irrefl _)
  generalize hadp : (fun kd ix => if kd = 9 ∧ ix = (sN σ 3) then x0 else if kd = 10 ∧ ix = (sN σ 3) then x1 else ad kd ix : Nat → Nat → Nat) = ad'
  have hag : ∀ kd ix, zlv σ kd ix → kd ≠ 29 → ad' kd ix = ad kd ix := fun kd ix hl _ => by
    have hd := hdead kd ix hl
    rw [← hadp]
    dsimp only
    rw [if_neg (fun z => hd ⟨by omega, z.2⟩)]
    rw [if_neg (fun z => hd ⟨by omega, z.2⟩)]
  have e9 : ad' 9 (sN σ 3) = x0 := by rw [← hadp]; simp
  have e10 : ad' 10 (sN σ 3) = x1 := by rw [← hadp]; simp
  refine zV.imp (P' := zP G ad' (aSC σ v1 v2)) (fun H h => ?_) (kk ad' hag e9 e10)
  refine zP.adopt (fun kd ix => (kd = 9 ∨ kd = 10) ∧ ix = (sN σ 3)) h (fun kd ix hl => ?_) (fun kd ix z => by rcases z.1 with rfl | rfl <;> decide) hag (fun aa kd ix hl => zct_ext hr hag (fun t o e hl2 => aSC_I σ v1 v2 t o e (fun z => ?_)) (fun t o e hl2 => aSC_L σ v1 v2 t o e (fun z => ?_)) (fun q hq => rfl) rfl rfl rfl rfl kd ix hl) (fun aa kd ix z => ?_) (fun kd ix kd' ix' z z' he => ?_)
  · refine zlv_cases (P := fun kd => zlv (aSC σ v1 v2) kd ix → zlv σ kd ix ∨ ((kd = 9 ∨ kd = 10) ∧ ix = (sN σ 3))) (zlv_lt hl) ⟨?_, ?_, ?_, ?_, ?_, ?_, ?_, ?_, ?_, ?_, ?_, ?_, ?_, ?_, ?_, ?_, ?_, ?_, ?_, ?_, ?_, ?_, ?_, ?_, ?_, ?_, ?_, ?_, ?_, ?_⟩ hl
    · exact Or.inl
    · exact Or.inl
    · exact Or.inl
    · exact Or.inl
    · exact Or.inl
    · exact Or.inl
    · exact Or.inl
    · exact Or.inl
    · exact Or.inl
    · exact (fun g => (aSC_l9 (σ := σ) v1 v2 g).elim Or.inl (fun e => Or.inr ⟨by simp, e⟩))
    · exact (fun g => (aSC_l10 (σ := σ) v1 v2 g).elim Or.inl (fun e => Or.inr ⟨by simp, e⟩))
    · exact Or.inl
    · exact Or.inl
    · exact Or.inl
    · exact Or.inl
    · exact Or.inl
    · exact Or.inl
    · exact Or.inl
    · exact Or.inl
    · exact Or.inl
    · exact Or.inl
    · exact Or.inl
    · exact Or.inl
    · exact Or.inl
    · exact Or.inl
    · exact Or.inl
    · exact Or.inl
    · exact Or.inl
    · exact Or.inl
    · exact Or.inl
  · obtain ⟨z1, rfl⟩ := z
    rcases z1 with rfl | rfl | rfl
    · exact absurd hl2 (Nat.lt_irrefl _)
    · exact absurd hl2 (Nat.lt_irrefl _)
    · exact absurd hl2 (Nat.lt_irrefl _)
  · obtain ⟨z1, rfl⟩ := z
    rcases z1 with rfl
    · exact absurd hl2 (Nat.lt_irrefl _)
  · obtain ⟨z1, rfl⟩ := z
    rcases z1 with rfl | rfl
    · have ec : zct G ad' aa (aSC σ v1 v2) 9 (sN σ 3) = .inr (6, [.int v1, .int v2, .ref x1, .long 0]) := by
        show zqSC ad' (aSC σ v1 v2) (sN σ 3) = _
        unfold zqSC
        rw [aSC_I23, aSC_I24, aSC_L6, e10]
        all_goals rfl
      rw [e9, ec]
      simp
    · have ec : zct G ad' aa (aSC σ v1 v2) 10 (sN σ 3) = .inl (G.2.2.2.1 0, 4, .inl (fun _ => 0)) := by
        have e : (fun j => sI (aSC σ v1 v2) 25 (sN σ 3) j) = (fun _ => 0) := funext fun j => aSC_I25 σ v1 v2 j
        show zqDMG G (aSC σ v1 v2) (sN σ 3) = _
        unfold zqDMG
        rw [e]
        all_goals rfl
      rw [e10, ec]
      simp
  · obtain ⟨z1, rfl⟩ := z
    obtain ⟨z2, rfl⟩ := z'
    obtain ⟨_, _, _, _, hpw⟩ := h
    simp at hpw
    refine ⟨?_, rfl⟩
    rcases z1 with rfl | rfl <;> rcases z2 with rfl | rfl
    · rfl
    · rw [e9, e10] at he
      exact absurd he (by first | (have q := hpw; simp_all; done) | (intro z; subst z; simp_all; done))
    · rw [e10, e9] at he
      exact absurd he (by first | (have q := hpw; simp_all; done) | (intro z; subst z; simp_all; done))
    · rfl
