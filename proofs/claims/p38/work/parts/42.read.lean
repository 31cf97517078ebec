/-! lists that grew, objects that joined: what is read of them -/
theorem zV.stv {G : zG} {X : zX} {nL k n pc : Nat} {P : Heap → Prop} {lo : List (Nat × Value)} {st st' : List Value} (e : st' = st) (kk : zV G X nL P k n pc lo st') : zV G X nL P k n pc lo st := e ▸ kk
theorem zqn1 {a A B E c d : Nat} (h1 : a ≤ A) (e : B = A + (c + d)) (h3 : B ≤ E) : A - a + c ≤ E - a := by omega
theorem zqn2 {a A B E c d : Nat} (h1 : a ≤ A) (e : B = A + (c + d)) (h3 : B ≤ E) : A - a + c + d ≤ E - a := by omega
theorem zqn3 {a A B c d : Nat} (h1 : a ≤ A) (e : B = A + (c + d)) : A - a + c + d ≤ B - a := by omega
theorem add_Z (σ : zSt) (q x p : Nat) : sZ (s_add σ q x) p = if p = q then sZ σ q + 1 else sZ σ p := by
  by_cases e : p = q
  · subst e
    rw [if_pos rfl]
    unfold s_add s_addE
    split <;> exact if_pos rfl
  · rw [if_neg e]
    exact ((s_add_sx σ q x (fun y => y = q) rfl).2.2 p e).2.1
theorem add_N (σ : zSt) (q x : Nat) : sN (s_add σ q x) = sN σ := (s_add_sx σ q x (fun y => y = q) rfl).1
theorem add_P (σ : zSt) (q x : Nat) : sP (s_add σ q x) = sP σ := (s_add_sx σ q x (fun y => y = q) rfl).2.1
theorem add_I (σ : zSt) (q x t o e : Nat) : sI (s_add σ q x) t o e = sI σ t o e := sI_1 (s_add_I σ q x).1 t o e
theorem add_L (σ : zSt) (q x t o e : Nat) : sL (s_add σ q x) t o e = sL σ t o e := congrArg (fun f => f t o e) (s_add_I σ q x).2
theorem add_lx (σ : zSt) (q x p i : Nat) : lx (s_add σ q x) p i = if p = q ∧ i = sZ σ q then x else lx σ p i := by
  unfold lx
  by_cases e : p = q
  · subst e
    have hE : sE (s_add σ p x) p i = if i = sZ σ p then some x else sE σ p i := by
      unfold s_add s_addE
      split
      · by_cases f : i = sZ σ p
        · rw [if_pos f]; exact if_pos ⟨rfl, f⟩
        · rw [if_neg f]; exact if_neg (fun z => f z.2)
      · by_cases f : i = sZ σ p
        · rw [if_pos f]; exact if_pos ⟨rfl, f⟩
        · rw [if_neg f]; exact if_neg (fun z => f z.2)
    rw [hE]
    by_cases f : i = sZ σ p
    · rw [if_pos f, if_pos ⟨rfl, f⟩]; rfl
    · rw [if_neg f, if_neg (fun z => f z.2)]
  · rw [if_neg (fun z => e z.1), ((s_add_sx σ q x (fun y => y = q) rfl).2.2 p e).1]
theorem ins_Z (σ : zSt) (q i x p : Nat) : sZ (s_ins σ q i x) p = if p = q then sZ σ q + 1 else sZ σ p := by
  by_cases e : p = q
  · subst e
    rw [if_pos rfl]
    exact (s_ins_Z σ p i x).1
  · rw [if_neg e]
    exact ((s_ins_sx σ q i x (fun y => y = q) rfl).2.2 p e).2.1
theorem ins_N (σ : zSt) (q i x : Nat) : sN (s_ins σ q i x) = sN σ := (s_ins_sx σ q i x (fun y => y = q) rfl).1
theorem ins_P (σ : zSt) (q i x : Nat) : sP (s_ins σ q i x) = sP σ := (s_ins_sx σ q i x (fun y => y = q) rfl).2.1
theorem ins_I (σ : zSt) (q i x t o e : Nat) : sI (s_ins σ q i x) t o e = sI σ t o e := sI_1 (s_ins_I σ q i x).1 t o e
theorem ins_L (σ : zSt) (q i x t o e : Nat) : sL (s_ins σ q i x) t o e = sL σ t o e := congrArg (fun f => f t o e) (s_ins_I σ q i x).2
theorem ins_lx {σ : zSt} {q p : Nat} (h : p ≠ q) (i x j : Nat) : lx (s_ins σ q i x) p j = lx σ p j := by
  unfold lx
  rw [((s_ins_sx σ q i x (fun y => y = q) rfl).2.2 p h).1]
theorem ins_mono (σ : zSt) (q i x : Nat) : sgc σ ≤ sgc (s_ins σ q i x) ∧ sgs σ ≤ sgs (s_ins σ q i x) := by
  rw [(ins_gc σ q i x).1, (ins_gc σ q i x).2]
  omega
theorem aPOL_gc (σ : zSt) (v1 v2 v3 v4 : Int32) : sgc (aPOL σ v1 v2 v3 v4) = sgc σ + (1 + 0) ∧ sgs (aPOL σ v1 v2 v3 v4) = sgs σ + (4 + 0) := ⟨rfl, rfl⟩
theorem aPOL_le (σ : zSt) (v1 v2 v3 v4 : Int32) : sgc σ ≤ sgc (aPOL σ v1 v2 v3 v4) ∧ sgs σ ≤ sgs (aPOL σ v1 v2 v3 v4) := ⟨Nat.le_add_right _ _, Nat.le_add_right _ _⟩
theorem aPOL_Z (σ : zSt) (v1 v2 v3 v4 : Int32) (p : Nat) : sZ (aPOL σ v1 v2 v3 v4) p = sZ σ p := rfl
theorem aPOL_lx (σ : zSt) (v1 v2 v3 v4 : Int32) (p i : Nat) : lx (aPOL σ v1 v2 v3 v4) p i = lx σ p i := rfl
theorem aPOL_Ps (σ : zSt) (v1 v2 v3 v4 : Int32) (k : Nat) : sP (aPOL σ v1 v2 v3 v4) k = sP σ k := rfl
theorem aCLr_gc (σ : zSt) (pp : Nat) : sgc (aCLr σ pp) = sgc σ + (1 + 2) ∧ sgs (aCLr σ pp) = sgs σ + (7 + 16) := ⟨rfl, rfl⟩
theorem aCLr_le (σ : zSt) (pp : Nat) : sgc σ ≤ sgc (aCLr σ pp) ∧ sgs σ ≤ sgs (aCLr σ pp) := ⟨Nat.le_add_right _ _, Nat.le_add_right _ _⟩
theorem aCLr_Z (σ : zSt) (pp : Nat) (p : Nat) : sZ (aCLr σ pp) p = sZ σ p := rfl
theorem aCLr_lx (σ : zSt) (pp : Nat) (p i : Nat) : lx (aCLr σ pp) p i = lx σ p i := rfl
theorem aCLd_gc (σ : zSt) (pp : Nat) : sgc (aCLd σ pp) = sgc σ + (1 + 2) ∧ sgs (aCLd σ pp) = sgs σ + (7 + 16) := ⟨rfl, rfl⟩
theorem aCLd_le (σ : zSt) (pp : Nat) : sgc σ ≤ sgc (aCLd σ pp) ∧ sgs σ ≤ sgs (aCLd σ pp) := ⟨Nat.le_add_right _ _, Nat.le_add_right _ _⟩
theorem aCLd_Z (σ : zSt) (pp : Nat) (p : Nat) : sZ (aCLd σ pp) p = sZ σ p := rfl
theorem aCLd_lx (σ : zSt) (pp : Nat) (p i : Nat) : lx (aCLd σ pp) p i = lx σ p i := rfl
theorem aTR_gc (σ : zSt) (v2 v3 v4 v5 v6 v7 : Int32) : sgc (aTR σ v2 v3 v4 v5 v6 v7) = sgc σ + (1 + 1) ∧ sgs (aTR σ v2 v3 v4 v5 v6 v7) = sgs σ + (15 + 5) := ⟨rfl, rfl⟩
theorem aTR_le (σ : zSt) (v2 v3 v4 v5 v6 v7 : Int32) : sgc σ ≤ sgc (aTR σ v2 v3 v4 v5 v6 v7) ∧ sgs σ ≤ sgs (aTR σ v2 v3 v4 v5 v6 v7) := ⟨Nat.le_add_right _ _, Nat.le_add_right _ _⟩
theorem aTR_Z (σ : zSt) (v2 v3 v4 v5 v6 v7 : Int32) (p : Nat) : sZ (aTR σ v2 v3 v4 v5 v6 v7) p = sZ σ p := rfl
theorem aTR_lx (σ : zSt) (v2 v3 v4 v5 v6 v7 : Int32) (p i : Nat) : lx (aTR σ v2 v3 v4 v5 v6 v7) p i = lx σ p i := rfl
theorem aTR_Ps (σ : zSt) (v2 v3 v4 v5 v6 v7 : Int32) (k : Nat) : sP (aTR σ v2 v3 v4 v5 v6 v7) k = sP σ k := rfl
theorem aCOVr_gc (σ : zSt) : sgc (aCOVr σ) = sgc σ + (1 + 1) ∧ sgs (aCOVr σ) = sgs σ + (6 + 4) := ⟨rfl, rfl⟩
theorem aCOVr_le (σ : zSt) : sgc σ ≤ sgc (aCOVr σ) ∧ sgs σ ≤ sgs (aCOVr σ) := ⟨Nat.le_add_right _ _, Nat.le_add_right _ _⟩
theorem aCOVr_Z (σ : zSt) (p : Nat) : sZ (aCOVr σ) p = sZ σ p := rfl
theorem aCOVr_lx (σ : zSt) (p i : Nat) : lx (aCOVr σ) p i = lx σ p i := rfl
theorem aCOVr_Ps (σ : zSt) (k : Nat) : sP (aCOVr σ) k = sP σ k := rfl
theorem aCOVt_gc (σ : zSt) : sgc (aCOVt σ) = sgc σ + (1 + 1) ∧ sgs (aCOVt σ) = sgs σ + (6 + 4) := ⟨rfl, rfl⟩
theorem aCOVt_le (σ : zSt) : sgc σ ≤ sgc (aCOVt σ) ∧ sgs σ ≤ sgs (aCOVt σ) := ⟨Nat.le_add_right _ _, Nat.le_add_right _ _⟩
theorem aCOVt_Z (σ : zSt) (p : Nat) : sZ (aCOVt σ) p = sZ σ p := rfl
theorem aCOVt_lx (σ : zSt) (p i : Nat) : lx (aCOVt σ) p i = lx σ p i := rfl
theorem aCOVt_Ps (σ : zSt) (k : Nat) : sP (aCOVt σ) k = sP σ k := rfl
theorem aSC_gc (σ : zSt) (v1 v2 : Int32) : sgc (aSC σ v1 v2) = sgc σ + (1 + 1) ∧ sgs (aSC σ v1 v2) = sgs σ + (4 + 4) := ⟨rfl, rfl⟩
theorem aSC_le (σ : zSt) (v1 v2 : Int32) : sgc σ ≤ sgc (aSC σ v1 v2) ∧ sgs σ ≤ sgs (aSC σ v1 v2) := ⟨Nat.le_add_right _ _, Nat.le_add_right _ _⟩
theorem aSC_Z (σ : zSt) (v1 v2 : Int32) (p : Nat) : sZ (aSC σ v1 v2) p = sZ σ p := rfl
theorem aSC_lx (σ : zSt) (v1 v2 : Int32) (p i : Nat) : lx (aSC σ v1 v2) p i = lx σ p i := rfl
theorem aSC_Ps (σ : zSt) (v1 v2 : Int32) (k : Nat) : sP (aSC σ v1 v2) k = sP σ k := rfl
