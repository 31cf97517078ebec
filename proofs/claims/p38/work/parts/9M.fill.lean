/-! what a play lays before its run -/
theorem l_32 {x : Int64} (h1 : -2147483648 ≤ x.toInt) (h2 : x.toInt < 2147483648) : x.toInt32.toInt = x.toInt := by
  rw [Int64.toInt_toInt32]
  exact Int.bmod_eq_of_le (by omega) (by omega)
theorem damage_c {S σ : zSt} (h : ∀ t, t ≤ 3 ∨ (23 ≤ t ∧ t ≤ 25) → ∀ o e, sI S t o e = sI σ t o e) (c p : Nat) : v_damageOf S c p = v_damageOf σ c p := by
  unfold v_damageOf v_inForce
  simp only [fun o e => h 0 (by omega) o e, fun o e => h 1 (by omega) o e, fun o e => h 2 (by omega) o e, fun o e => h 3 (by omega) o e, fun o e => h 23 (by omega) o e, fun o e => h 25 (by omega) o e]
theorem damage_b {σ : zSt} {f : Nat → Int32} {cm : Int64} (h : zJ σ f cm) {c p : Nat} (hc : c < sN σ 3) (hp : p < sN σ 0) : 0 ≤ (v_damageOf σ c p).toInt ∧ (v_damageOf σ c p).toInt ≤ 1000000 := by
  have g1 := h.2.1.1 p hp
  have g2 := (h.2.1.2.2.2.2 c hc).2.2 _ (h.1.2.2.1.2.1 p hp).2
  have o100 : (100 : Int64).toInt = 100 := rfl
  have o0 : (0 : Int32).toInt = 0 := rfl
  unfold v_damageOf
  split
  · rw [o0]
    exact ⟨by decide, by decide⟩
  · have m0 : 0 ≤ (sI σ 0 p 0).toInt * (sI σ 25 c (sI σ 1 p 0).toNatClampNeg).toInt := Int.mul_nonneg (by omega) g2.1
    have m1 : (sI σ 0 p 0).toInt * (sI σ 25 c (sI σ 1 p 0).toNatClampNeg).toInt ≤ 1000000 * 100 := Int.mul_le_mul g1.2 g2.2 g2.1 (by decide)
    have e : ((sI σ 0 p 0).toInt64 * (sI σ 25 c (sI σ 1 p 0).toNatClampNeg).toInt64).toInt = (sI σ 0 p 0).toInt * (sI σ 25 c (sI σ 1 p 0).toNatClampNeg).toInt := by
      rw [l_mul (by rw [l_of, l_of]; omega) (by rw [l_of, l_of]; omega), l_of, l_of]
    have e2 : ((sI σ 0 p 0).toInt64 * (sI σ 25 c (sI σ 1 p 0).toNatClampNeg).toInt64 / 100).toInt = (sI σ 0 p 0).toInt * (sI σ 25 c (sI σ 1 p 0).toNatClampNeg).toInt / 100 := by
      rw [l_div (by rw [e]; exact m0) (by rw [o100]; decide), e, o100]
    rw [l_32 (by rw [e2]; omega) (by rw [e2]; omega), e2]
    omega
theorem happen_r (S : zSt) (k : Nat) (a b c : Int32) (t o e : Nat) : sI (s_happen S k a b c) t o e = if t = 6 ∧ o = k ∧ e = 0 then c else if t = 5 ∧ o = k ∧ e = 0 then b else if t = 4 ∧ o = k ∧ e = 0 then a else sI S t o e := by
  unfold s_happen
  rw [qI_r, qI_r, qI_r]
/-- the losses that a play lays -/
def zPf (σ S : zSt) (c i : Nat) : Prop := ∃ g : Nat → Nat, (∀ y, y < sZ S 9 → g y < i ∧ lx S 9 y = 30 + g y ∧ sI S 4 (30 + g y) 0 = sI σ 23 c 0 ∧ sI S 5 (30 + g y) 0 = sI σ 23 c 0 ∧ sI S 6 (30 + g y) 0 = v_damageOf σ c (g y) ∧ ¬ v_damageOf σ c (g y) ≤ 0) ∧ ∀ y y', y < y' → y' < sZ S 9 → g y < g y'
theorem plI_v {σ : zSt} {c : Nat} (hw : zW σ) (h0 : sZ σ 9 = 0) : ∀ i, i ≤ sZ σ 4 → (plI σ c i).2.1 = σ.2.1 ∧ (∀ t o e, ¬ (4 ≤ t ∧ t ≤ 6 ∧ 30 ≤ o) → sI (plI σ c i) t o e = sI σ t o e) ∧ zPf σ (plI σ c i) c i ∧ zGq (plI σ c i) σ
  | 0, _ => ⟨rfl, fun _ _ _ _ => rfl, ⟨fun _ => 0, fun y hy => absurd (show y < sZ σ 9 from hy) (by rw [h0]; exact Nat.not_lt_zero _), fun y y' _ hy => absurd (show y' < sZ σ 9 from hy) (by rw [h0]; exact Nat.not_lt_zero _)⟩, zGq.rf⟩
  | i + 1, hi => by
    obtain ⟨a1, a2, ⟨g, g1, g2⟩, a4⟩ := plI_v hw h0 i (by omega)
    obtain ⟨b1, b2, b3⟩ := plI_ok (c := c) hw h0 i (by omega)
    obtain ⟨x1, x2, x3, x4⟩ := hw.x4 (show i < sZ σ 4 by omega)
    have dm : ∀ p, v_damageOf (plI σ c i) c p = v_damageOf σ c p := fun p => damage_c (fun t ht o e => a2 t o e (by omega)) c p
    have e23 : sI (plI σ c i) 23 c 0 = sI σ 23 c 0 := a2 23 c 0 (by omega)
    have eP : sP (plI σ c i) (30 + i) = i := by
      rw [b2.1.2.1]
      exact hw.2.1.2.2.2.2.2.2.2.1 i x4
    simp only [plI]
    rw [x1, eP, dm i, e23]
    split
    · exact ⟨a1, a2, ⟨g, fun y hy => ⟨by have := (g1 y hy).1; omega, (g1 y hy).2⟩, g2⟩, a4⟩
    · rename_i hd
      have cl : zlC (plI σ c i) (30 + i) := by
        have := x2
        rw [x1] at this
        exact zSx_C b2.1 this
      generalize plI σ c i = S at *
      obtain ⟨A, hA⟩ : ∃ A, A = s_happen S (30 + i) (sI σ 23 c 0) (sI σ 23 c 0) (v_damageOf σ c i) := ⟨_, rfl⟩
      have rA := fun t o e => happen_r S (30 + i) (sI σ 23 c 0) (sI σ 23 c 0) (v_damageOf σ c i) t o e
      rw [← hA] at rA ⊢
      have A2 : A.2 = S.2 := by rw [hA]; rfl
      have zA : ∀ q, sZ A q = sZ S q := fun q => congrArg (fun z => z.2.2.1 q) A2
      have xA : ∀ q y, lx A q y = lx S q y := fun q y => by unfold lx; rw [show sE A = sE S from congrArg (fun z => z.2.1) A2]
      have hI := s_add_I A 9 (30 + i)
      have rB : ∀ t o e, sI (s_add A 9 (30 + i)) t o e = sI A t o e := fun t o e => sI_1 hI.1 t o e
      have zB : sZ (s_add A 9 (30 + i)) 9 = sZ S 9 + 1 := by rw [addZq, zA]
      have xB : ∀ y, lx (s_add A 9 (30 + i)) 9 y = if y = sZ S 9 then 30 + i else lx S 9 y := fun y => by rw [addXq, zA, xA]
      have gA : zGq A S := zGq.of (congrArg (fun z => z.2) A2)
      obtain ⟨g', hg1, hg2⟩ : ∃ g' : Nat → Nat, g' (sZ S 9) = i ∧ ∀ y, y ≠ sZ S 9 → g' y = g y := ⟨fun y => if y = sZ S 9 then i else g y, if_pos rfl, fun y q => if_neg q⟩
      refine ⟨hI.2.trans ((congrArg (fun z => z.1) A2).trans a1), fun t o e ht => ?_, ⟨g', fun y hy => ?_, fun y y' h1 h2 => ?_⟩, ?_⟩
      · rw [rB, rA, if_neg (fun q => ht (by omega)), if_neg (fun q => ht (by omega)), if_neg (fun q => ht (by omega))]
        exact a2 t o e ht
      · rw [zB] at hy
        rw [xB]
        by_cases q : y = sZ S 9
        · rw [q, hg1, if_pos rfl, rB, rB, rB, rA, rA, rA, if_neg (fun z => by omega), if_neg (fun z => by omega), if_pos ⟨rfl, rfl, rfl⟩, if_neg (fun z => by omega), if_pos ⟨rfl, rfl, rfl⟩, if_pos ⟨rfl, rfl, rfl⟩]
          exact ⟨by omega, rfl, rfl, rfl, rfl, hd⟩
        · rw [hg2 y q, if_neg q]
          obtain ⟨c1, c2, c3, c4, c5, c6⟩ := g1 y (by omega)
          have ne : ∀ t, sI (s_add A 9 (30 + i)) t (30 + g y) 0 = sI S t (30 + g y) 0 := fun t => by
            rw [rB, rA, if_neg (fun z => by omega), if_neg (fun z => by omega), if_neg (fun z => by omega)]
          rw [ne, ne, ne]
          exact ⟨by omega, c2, c3, c4, c5, c6⟩
      · rw [zB] at h2
        rw [hg2 y (by omega)]
        by_cases q : y' = sZ S 9
        · rw [q, hg1]
          exact (g1 y (by omega)).1
        · rw [hg2 y' q]
          exact g2 y y' h1 (by omega)
      · have lc : zLC A 9 := zLC_mv (congrArg (fun z => z.2) A2) b1.2.2.2.2.2.1.1
        have hz : sZ A 9 < 33 := by
          rw [zA]
          have := b1.2.2.2.2.2.1.2
          omega
        have cl' : zlC A (30 + i) := by
          unfold zlC
          rw [show sN A = sN S from congrArg (fun z => z.2.2.2.2.2.1) A2]
          exact cl
        exact ((zGq.add (by decide) lc hz cl').trans gA).trans a4
/-- two states alike lay alike -/
theorem plI_a {σ τ : zSt} {c : Nat} (hw : zW σ) (h0 : sZ σ 9 = 0) (hw' : zW τ) (h0' : sZ τ 9 = 0) (hN : sN σ = sN τ) (hx : ∀ i, i < sZ σ 4 → lx σ 4 i = lx τ 4 i) (hI : ∀ t, t ≤ 3 ∨ (23 ≤ t ∧ t ≤ 25) → ∀ o e, sI σ t o e = sI τ t o e) : ∀ i, i ≤ sZ σ 4 → zAq 9 (plI σ c i) (plI τ c i)
  | 0, _ => ⟨h0.trans h0'.symm, fun i hi => absurd (show i < sZ σ 9 from hi) (by rw [h0]; exact Nat.not_lt_zero _)⟩
  | i + 1, hi => by
    have ih := plI_a (c := c) hw h0 hw' h0' hN hx hI i (by omega)
    have z4 : sZ τ 4 = sZ σ 4 := by rw [hw.1.2.2.2.2.2.1.1, hw'.1.2.2.2.2.2.1.1, hN]
    obtain ⟨a1, a2, a3, a4⟩ := plI_v (c := c) hw h0 i (by omega)
    obtain ⟨a1', a2', a3', a4'⟩ := plI_v (c := c) hw' h0' i (by omega)
    obtain ⟨b1, b2, b3⟩ := plI_ok (c := c) hw h0 i (by omega)
    obtain ⟨b1', b2', b3'⟩ := plI_ok (c := c) hw' h0' i (by omega)
    obtain ⟨x1, x2, x3, x4⟩ := hw.x4 (show i < sZ σ 4 by omega)
    obtain ⟨y1, y2, y3, y4⟩ := hw'.x4 (show i < sZ τ 4 by omega)
    have dm : v_damageOf (plI σ c i) c (sP (plI σ c i) (30 + i)) = v_damageOf σ c i := by
      rw [b2.1.2.1, hw.2.1.2.2.2.2.2.2.2.1 i x4]
      exact damage_c (fun t ht o e => a2 t o e (by omega)) c i
    have dm' : v_damageOf (plI τ c i) c (sP (plI τ c i) (30 + i)) = v_damageOf σ c i := by
      rw [b2'.1.2.1, hw'.2.1.2.2.2.2.2.2.2.1 i y4, damage_c (fun t ht o e => a2' t o e (by omega)) c i]
      exact (damage_c hI c i).symm
    simp only [plI]
    rw [x1, y1, dm, dm']
    split
    · exact ih
    · exact zAq.add (zAq.mv (s_happen_22 _ _ _ _ _) (s_happen_22 _ _ _ _ _) ih)
