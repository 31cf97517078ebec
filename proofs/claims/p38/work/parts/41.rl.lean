/-! all lists in order, all references closed: through growth and new objects -/
def zRL (σ : zSt) : Prop := zref σ ∧ ∀ q, q < 13 → zLC σ q
theorem zW.rl {σ : zSt} (h : zW σ) : zRL σ := by
  have hq : ∀ q, q < 13 → zLC σ q := fun q hq => by
    by_cases e : q < 7 ∨ q = 10
    · exact h.1.1 q e
    · rcases (show q = 7 ∨ q = 8 ∨ q = 9 ∨ q = 11 ∨ q = 12 by omega) with e | e | e | e | e <;> subst e
      · exact h.2.2.2.1.1
      · exact h.2.2.2.2.1
      · exact h.2.2.2.2.2.1.1
      · exact h.2.2.2.2.2.2.1.1
      · exact h.2.2.2.2.2.2.2
  exact ⟨⟨h.P, h.cv, fun q j x hq2 hx => (hq q hq2).1.1.2.2.2.2 j x hx⟩, hq⟩
theorem zRL.add {σ : zSt} {q x : Nat} (h : zRL σ) (hq : q < 13) (hz : sZ σ q < 33) (hx : zlv σ (zeK q) x) : zRL (s_add σ q x) := by
  have e : zSx (fun y => y = q) (s_add σ q x) σ := s_add_sx _ _ _ _ rfl
  have hl : ∀ p, p < 13 → zLC (s_add σ q x) p := fun p hp => by
    by_cases ep : p = q
    · subst ep; exact (zLC_add (h.2 p hp) hz hx).1
    · exact zSx_LC e ep (h.2 p hp)
  refine ⟨⟨fun k hk => ?_, fun j hj => ?_, fun p j y hp hy => (hl p hp).1.1.2.2.2.2 j y hy⟩, hl⟩
  · refine zSx_P e (h.1.1 k ?_)
    unfold zlC at *
    rw [e.1] at hk
    exact hk
  · refine zSx_N e (h.1.2.1 j ?_)
    unfold zlV at *
    rw [e.1] at hj
    exact hj
theorem zRL.ins {σ : zSt} {q i x : Nat} (h : zRL σ) (hq : q < 13) (hi : i ≤ sZ σ q) (hz : sZ σ q < 33) (hx : zlv σ (zeK q) x) : zRL (s_ins σ q i x) := by
  have e : zSx (fun y => y = q) (s_ins σ q i x) σ := s_ins_sx _ _ _ _ _ rfl
  have hl : ∀ p, p < 13 → zLC (s_ins σ q i x) p := fun p hp => by
    by_cases ep : p = q
    · subst ep; exact (zLC_ins (h.2 p hp) hi hz hx).1
    · exact zSx_LC e ep (h.2 p hp)
  refine ⟨⟨fun k hk => ?_, fun j hj => ?_, fun p j y hp hy => (hl p hp).1.1.2.2.2.2 j y hy⟩, hl⟩
  · refine zSx_P e (h.1.1 k ?_)
    unfold zlC at *
    rw [e.1] at hk
    exact hk
  · refine zSx_N e (h.1.2.1 j ?_)
    unfold zlV at *
    rw [e.1] at hj
    exact hj
theorem zRL.mv {σ' σ : zSt} (e : σ'.2.2 = σ.2.2) (h : zRL σ) : zRL σ' := by
  obtain ⟨a, b, c⟩ := σ
  obtain ⟨a', b', c'⟩ := σ'
  cases e
  exact h
theorem zLC.ad {σ' σ : zSt} (h1 : sE σ' = sE σ) (h2 : sZ σ' = sZ σ) (h3 : sC σ' = sC σ) (hm : ∀ kd x, zlv σ kd x → zlv σ' kd x) {q : Nat} (h : zLC σ q) : zLC σ' q := by
  refine ⟨⟨⟨h.1.1.1, by rw [h2, h3]; exact h.1.1.2.1, by rw [h3]; exact h.1.1.2.2.1, fun j hj => ?_, fun j x hx => ?_⟩, fun i hi => ?_⟩, by rw [h3]; exact h.2⟩
  · rw [h1]; exact h.1.1.2.2.2.1 j (by rw [h2] at hj; exact hj)
  · rw [h1] at hx; exact hm _ _ (h.1.1.2.2.2.2 j x hx)
  · rw [h1]; exact h.1.2 i (by rw [h2] at hi; exact hi)
theorem zRL.ad {σ' σ : zSt} (h1 : sE σ' = sE σ) (h2 : sZ σ' = sZ σ) (h3 : sC σ' = sC σ) (hm : ∀ kd x, zlv σ kd x → zlv σ' kd x) (hp : ∀ k, zlC σ' k → sP σ' k < sN σ' 0) (hv : ∀ j, zlV σ' j → j % 8 < sN σ' 2) (h : zRL σ) : zRL σ' :=
  ⟨⟨hp, hv, fun q j x hq hx => by rw [h1] at hx; exact hm _ _ (h.1.2.2 q j x hq hx)⟩, fun q hq => (h.2 q hq).ad h1 h2 h3 hm⟩
theorem zlv_mono {σ' σ : zSt} (h : ∀ q, sN σ q ≤ sN σ' q) (kd ix : Nat) (hl : zlv σ kd ix) (h29 : kd = 29 → sC σ' = sC σ) : zlv σ' kd ix := by
  have h0 := h 0
  have h1 := h 1
  have h2 := h 2
  have h3 := h 3
  have h4 := h 4
  have h5 := h 5
  have h6 := h 6
  refine zlv_cases (P := fun kd => zlv σ kd ix → (kd = 29 → sC σ' = sC σ) → zlv σ' kd ix) (zlv_lt hl) ⟨?_, ?_, ?_, ?_, ?_, ?_, ?_, ?_, ?_, ?_, ?_, ?_, ?_, ?_, ?_, ?_, ?_, ?_, ?_, ?_, ?_, ?_, ?_, ?_, ?_, ?_, ?_, ?_, ?_, ?_⟩ hl h29
  · intro g _; exact g
  · intro g _; exact Nat.lt_of_lt_of_le g h0
  · intro g _
    have g2 : ix < sN σ 1 ∨ (30 ≤ ix ∧ ix < 30 + sN σ 4) := g
    show ix < sN σ' 1 ∨ (30 ≤ ix ∧ ix < 30 + sN σ' 4)
    omega
  · intro g _
    have g2 : ix < sN σ 1 ∨ (30 ≤ ix ∧ ix < 30 + sN σ 4) := g
    show ix < sN σ' 1 ∨ (30 ≤ ix ∧ ix < 30 + sN σ' 4)
    omega
  · intro g _
    have g2 : ix < sN σ 1 ∨ (30 ≤ ix ∧ ix < 30 + sN σ 4) := g
    show ix < sN σ' 1 ∨ (30 ≤ ix ∧ ix < 30 + sN σ' 4)
    omega
  · intro g _; exact Nat.lt_of_lt_of_le g h2
  · intro g _; exact Nat.lt_of_lt_of_le g h2
  · intro g _
    have g2 : ix < sN σ 5 ∨ (8 ≤ ix ∧ ix < 8 + sN σ 6) := g
    show ix < sN σ' 5 ∨ (8 ≤ ix ∧ ix < 8 + sN σ' 6)
    omega
  · intro g _
    have g2 : ix < sN σ 5 ∨ (8 ≤ ix ∧ ix < 8 + sN σ 6) := g
    show ix < sN σ' 5 ∨ (8 ≤ ix ∧ ix < 8 + sN σ' 6)
    omega
  · intro g _; exact Nat.lt_of_lt_of_le g h3
  · intro g _; exact Nat.lt_of_lt_of_le g h3
  · intro g _; exact g
  · intro g _; exact g
  · intro g _; exact g
  · intro g _; exact g
  · intro g _; exact g
  · intro g _; exact g
  · intro g _; exact g
  · intro g _; exact g
  · intro g _; exact g
  · intro g _; exact g
  · intro g _; exact g
  · intro g _; exact g
  · intro g _; exact g
  · intro g _; exact g
  · intro g _; exact g
  · intro g _; exact g
  · intro g _; exact g
  · intro g _; exact g
  · intro g e
    show ix < 13 ∧ 0 < sC σ' ix
    rw [e rfl]
    exact g
theorem uN_le (σ : zSt) (q c s p : Nat) : sN σ p ≤ sN (uN σ q c s) p := by
  show sN σ p ≤ (if p = q then sN σ q + 1 else sN σ p)
  split
  · rename_i e; subst e; omega
  · exact Nat.le_refl _
theorem sNq (σ : zSt) (q c s p : Nat) : sN (uN σ q c s) p = if p = q then sN σ q + 1 else sN σ p := rfl
theorem aPOL_N (σ : zSt) (v1 v2 v3 v4 : Int32) (p : Nat) : sN (aPOL σ v1 v2 v3 v4) p = if p = 0 then sN σ 0 + 1 else sN σ p := rfl
theorem aPOL_mono (σ : zSt) (v1 v2 v3 v4 : Int32) (kd ix : Nat) (h : zlv σ kd ix) : zlv (aPOL σ v1 v2 v3 v4) kd ix := zlv_mono (σ' := (aPOL σ v1 v2 v3 v4)) (fun p => uN_le σ 0 0 0 p) kd ix h (fun _ => rfl)
theorem rl_aPOL {σ : zSt} (v1 v2 v3 v4 : Int32) (h : zRL σ) : zRL (aPOL σ v1 v2 v3 v4) := zRL.ad (σ' := (aPOL σ v1 v2 v3 v4)) (σ := σ) rfl rfl rfl (aPOL_mono σ v1 v2 v3 v4) (fun k hk => Nat.lt_of_lt_of_le (h.1.1 k hk) (uN_le σ 0 0 0 0)) (fun j hj => Nat.lt_of_lt_of_le (h.1.2.1 j hj) (uN_le σ 0 0 0 2)) h
theorem aCLr_N (σ : zSt) (pp : Nat) (p : Nat) : sN (aCLr σ pp) p = if p = 1 then sN σ 1 + 1 else sN σ p := rfl
theorem aCLr_mono (σ : zSt) (pp : Nat) (kd ix : Nat) (h : zlv σ kd ix) : zlv (aCLr σ pp) kd ix := zlv_mono (σ' := (aCLr σ pp)) (fun p => uN_le σ 1 0 0 p) kd ix h (fun _ => rfl)
theorem rl_aCLr {σ : zSt} (pp : Nat) (hpp : pp < sN σ 0) (h : zRL σ) : zRL (aCLr σ pp) := by
  refine zRL.ad (σ' := (aCLr σ pp)) (σ := σ) rfl rfl rfl (aCLr_mono σ pp) (fun k hk => ?_) (fun j hj => h.1.2.1 j hj) h
  · show sP (aCLr σ pp) k < sN σ 0
    by_cases e : k = sN σ 1
    · rw [e, aCLr_P]; exact hpp
    · rw [aCLr_Pn σ pp k e]
      rcases aCLr_l2 pp (σ := σ) (ix := k) hk with g | g
      · exact h.1.1 k g
      · exact absurd g e
theorem aCLd_N (σ : zSt) (pp : Nat) (p : Nat) : sN (aCLd σ pp) p = if p = 4 then sN σ 4 + 1 else sN σ p := rfl
theorem aCLd_mono (σ : zSt) (pp : Nat) (kd ix : Nat) (h : zlv σ kd ix) : zlv (aCLd σ pp) kd ix := zlv_mono (σ' := (aCLd σ pp)) (fun p => uN_le σ 4 0 0 p) kd ix h (fun _ => rfl)
theorem rl_aCLd {σ : zSt} (pp : Nat) (hpp : pp < sN σ 0) (h : zRL σ) : zRL (aCLd σ pp) := by
  refine zRL.ad (σ' := (aCLd σ pp)) (σ := σ) rfl rfl rfl (aCLd_mono σ pp) (fun k hk => ?_) (fun j hj => h.1.2.1 j hj) h
  · show sP (aCLd σ pp) k < sN σ 0
    by_cases e : k = 30 + sN σ 4
    · rw [e, aCLd_P]; exact hpp
    · rw [aCLd_Pn σ pp k e]
      rcases aCLd_l2 pp (σ := σ) (ix := k) hk with g | g
      · exact h.1.1 k g
      · exact absurd g e
theorem aTR_N (σ : zSt) (v2 v3 v4 v5 v6 v7 : Int32) (p : Nat) : sN (aTR σ v2 v3 v4 v5 v6 v7) p = if p = 2 then sN σ 2 + 1 else sN σ p := rfl
theorem aTR_mono (σ : zSt) (v2 v3 v4 v5 v6 v7 : Int32) (kd ix : Nat) (h : zlv σ kd ix) : zlv (aTR σ v2 v3 v4 v5 v6 v7) kd ix := zlv_mono (σ' := (aTR σ v2 v3 v4 v5 v6 v7)) (fun p => uN_le σ 2 0 0 p) kd ix h (fun _ => rfl)
theorem rl_aTR {σ : zSt} (v2 v3 v4 v5 v6 v7 : Int32) (h : zRL σ) : zRL (aTR σ v2 v3 v4 v5 v6 v7) := zRL.ad (σ' := (aTR σ v2 v3 v4 v5 v6 v7)) (σ := σ) rfl rfl rfl (aTR_mono σ v2 v3 v4 v5 v6 v7) (fun k hk => Nat.lt_of_lt_of_le (h.1.1 k hk) (uN_le σ 2 0 0 0)) (fun j hj => Nat.lt_of_lt_of_le (h.1.2.1 j hj) (uN_le σ 2 0 0 2)) h
theorem aCOVr_N (σ : zSt) (p : Nat) : sN (aCOVr σ) p = if p = 5 then sN σ 5 + 1 else sN σ p := rfl
theorem aCOVr_mono (σ : zSt) (kd ix : Nat) (h : zlv σ kd ix) : zlv (aCOVr σ) kd ix := zlv_mono (σ' := (aCOVr σ)) (fun p => uN_le σ 5 0 0 p) kd ix h (fun _ => rfl)
theorem rl_aCOVr {σ : zSt} (ht : sN σ 5 % 8 < sN σ 2) (h : zRL σ) : zRL (aCOVr σ) := by
  refine zRL.ad (σ' := (aCOVr σ)) (σ := σ) rfl rfl rfl (aCOVr_mono σ) (fun k hk => h.1.1 k hk) (fun j hj => ?_) h
  show j % 8 < sN σ 2
  rcases aCOVr_l7 (σ := σ) (ix := j) hj with g | g
  · exact h.1.2.1 j g
  · rw [g]; exact ht
theorem aCOVt_N (σ : zSt) (p : Nat) : sN (aCOVt σ) p = if p = 6 then sN σ 6 + 1 else sN σ p := rfl
theorem aCOVt_mono (σ : zSt) (kd ix : Nat) (h : zlv σ kd ix) : zlv (aCOVt σ) kd ix := zlv_mono (σ' := (aCOVt σ)) (fun p => uN_le σ 6 0 0 p) kd ix h (fun _ => rfl)
theorem rl_aCOVt {σ : zSt} (ht : (8 + sN σ 6) % 8 < sN σ 2) (h : zRL σ) : zRL (aCOVt σ) := by
  refine zRL.ad (σ' := (aCOVt σ)) (σ := σ) rfl rfl rfl (aCOVt_mono σ) (fun k hk => h.1.1 k hk) (fun j hj => ?_) h
  show j % 8 < sN σ 2
  rcases aCOVt_l7 (σ := σ) (ix := j) hj with g | g
  · exact h.1.2.1 j g
  · rw [g]; exact ht
theorem aSC_N (σ : zSt) (v1 v2 : Int32) (p : Nat) : sN (aSC σ v1 v2) p = if p = 3 then sN σ 3 + 1 else sN σ p := rfl
theorem aSC_mono (σ : zSt) (v1 v2 : Int32) (kd ix : Nat) (h : zlv σ kd ix) : zlv (aSC σ v1 v2) kd ix := zlv_mono (σ' := (aSC σ v1 v2)) (fun p => uN_le σ 3 0 0 p) kd ix h (fun _ => rfl)
theorem rl_aSC {σ : zSt} (v1 v2 : Int32) (h : zRL σ) : zRL (aSC σ v1 v2) := zRL.ad (σ' := (aSC σ v1 v2)) (σ := σ) rfl rfl rfl (aSC_mono σ v1 v2) (fun k hk => Nat.lt_of_lt_of_le (h.1.1 k hk) (uN_le σ 3 0 0 0)) (fun j hj => Nat.lt_of_lt_of_le (h.1.2.1 j hj) (uN_le σ 3 0 0 2)) h
