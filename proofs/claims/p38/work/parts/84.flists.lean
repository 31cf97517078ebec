/-! what the flow's lists hold -/
theorem clearZq (σ : zSt) (q : Nat) : sZ (s_clear σ q) q = 0 := by
  unfold s_clear
  have h : ∀ (S : zSt) (i : Nat), sZ (zclr S q i) = sZ S := fun S i => by
    induction i with
    | zero => rfl
    | succ i ih => exact ih
  rw [h]
  exact if_pos rfl
theorem addZq (σ : zSt) (q x : Nat) : sZ (s_add σ q x) q = sZ σ q + 1 := by
  unfold s_add s_addE
  split
  · show (if q = q then _ else _) = _
    rw [if_pos rfl]
    rfl
  · show (if q = q then _ else _) = _
    rw [if_pos rfl]
    rfl
theorem addEq (σ : zSt) (q x p i : Nat) : sE (s_add σ q x) p i = if p = q ∧ i = sZ σ q then some x else sE σ p i := by
  unfold s_add s_addE
  split <;> rfl
theorem addXq (σ : zSt) (q x i : Nat) : lx (s_add σ q x) q i = if i = sZ σ q then x else lx σ q i := by
  unfold lx
  rw [addEq]
  by_cases h : i = sZ σ q
  · rw [if_pos ⟨rfl, h⟩, if_pos h]
    rfl
  · rw [if_neg (fun z => h z.2), if_neg h]
/-- the list q holds some of the first i of the list p, in their order, such as P says -/
def zSb (σ : zSt) (q p i : Nat) (P : Nat → Prop) : Prop := ∃ g : Nat → Nat, (∀ y, y < sZ σ q → g y < i ∧ lx σ q y = lx σ p (g y) ∧ P (lx σ q y)) ∧ ∀ y y', y < y' → y' < sZ σ q → g y < g y'
theorem zSb.up {σ : zSt} {q p i : Nat} {P : Nat → Prop} (h : zSb σ q p i P) : zSb σ q p (i + 1) P := by
  obtain ⟨g, h1, h2⟩ := h
  exact ⟨g, fun y hy => ⟨by have := (h1 y hy).1; omega, (h1 y hy).2⟩, h2⟩
theorem zSb.add {σ : zSt} {q p i x : Nat} {P : Nat → Prop} (h : zSb σ q p i P) (hpq : p ≠ q) (hx : x = lx σ p i) (hP : P x) : zSb (s_add σ q x) q p (i + 1) P := by
  obtain ⟨g, h1, h2⟩ := h
  have hp : ∀ y, lx (s_add σ q x) p y = lx σ p y := fun y => by
    unfold lx
    rw [addEq, if_neg (fun z => hpq z.1)]
  refine ⟨fun y => if y = sZ σ q then i else g y, fun y hy => ?_, fun y y' hy hy' => ?_⟩
  · rw [addZq] at hy
    rw [addXq, hp]
    by_cases e : y = sZ σ q
    · simp only [if_pos e]
      exact ⟨Nat.lt_succ_self _, hx, hP⟩
    · simp only [if_neg e]
      have := h1 y (by omega)
      exact ⟨by omega, this.2⟩
  · rw [addZq] at hy'
    by_cases e : y' = sZ σ q
    · simp only [if_pos e, if_neg (show ¬ y = sZ σ q by omega)]
      exact (h1 y (by omega)).1
    · simp only [if_neg e, if_neg (show ¬ y = sZ σ q by omega)]
      exact h2 y y' hy (by omega)
theorem foI_IL (σ : zSt) (b j : Nat) : ∀ i, (foI σ b j i).1 = σ.1 ∧ (foI σ b j i).2.1 = σ.2.1
  | 0 => ⟨(s_clear_I σ _).1, (s_clear_I σ _).2.1⟩
  | i + 1 => by
    have ih := foI_IL σ b j i
    simp only [foI]
    split
    · split
      · exact ih
      · exact ⟨(s_add_I _ _ _).1.trans ih.1, (s_add_I _ _ _).2.trans ih.2⟩
    · exact ih
theorem covers_22 {σ' σ : zSt} (h1 : σ'.1 = σ.1) (h2 : sP σ' = sP σ) (t k : Nat) : v_covers σ' t k = v_covers σ t k := by
  unfold v_covers
  rw [show sI σ' = sI σ from h1, h2]
/-- what is open -/
theorem fo_ok {σ : zSt} {b j : Nat} : ∀ i, zSb (foI σ b j i) (7 + 4 * b) (5 + 4 * b) i (fun k => 0 < (sL σ 0 k 0).toInt ∧ ¬ v_covers σ (j % 8) k = 0)
  | 0 => ⟨fun y => y, fun y hy => by
      have e : sZ (foI σ b j 0) (7 + 4 * b) = 0 := clearZq σ _
      omega, fun y y' h h2 => h⟩
  | i + 1 => by
    have ih := fo_ok (σ := σ) (b := b) (j := j) i
    have e := foI_IL σ b j i
    have hsx : zSx (fun y => y = 7 + 4 * b) (foI σ b j i) σ := foI_sx i
    have hp : ∀ y, lx (foI σ b j i) (5 + 4 * b) y = lx σ (5 + 4 * b) y := zSx_lx hsx (by omega)
    simp only [foI]
    split
    · rename_i h1
      split
      · exact ih.up
      · rename_i h2
        refine ih.add (by omega) (hp i).symm ⟨?_, ?_⟩
        · have := l_lt.mp h1
          rw [l_0, show sL (foI σ b j i) = sL σ from e.2] at this
          exact this
        · rw [← covers_22 e.1 hsx.2.1]
          exact h2
    · exact ih.up
theorem gaI_IL (σ : zSt) (b : Nat) (z f l : Int32) : ∀ i, (gaI σ b z f l i).1 = σ.1 ∧ (gaI σ b z f l i).2.1 = σ.2.1
  | 0 => ⟨(s_clear_I σ _).1, (s_clear_I σ _).2.1⟩
  | i + 1 => by
    have ih := gaI_IL σ b z f l i
    have ha := fun x => s_add_I (gaI σ b z f l i) (8 + 4 * b) x
    simp only [gaI]
    (repeat' split) <;> first | exact ih | exact ⟨(ha _).1.trans ih.1, (ha _).2.trans ih.2⟩
theorem gaI_sx {σ : zSt} {b : Nat} {z f l : Int32} : ∀ i, zSx (fun y => y = 8 + 4 * b) (gaI σ b z f l i) σ
  | 0 => s_clear_sx σ _ _ rfl
  | i + 1 => by
    have ih := gaI_sx (σ := σ) (b := b) (z := z) (f := f) (l := l) i
    have ha := fun x => (s_add_sx (gaI σ b z f l i) (8 + 4 * b) x (fun y => y = 8 + 4 * b) rfl).trans ih
    simp only [gaI]
    (repeat' split) <;> first | exact ih | exact ha _
/-- a group: of the open losses, by zone and days -/
theorem ga_ok {σ : zSt} {b : Nat} {z f l : Int32} : ∀ i, zSb (gaI σ b z f l i) (8 + 4 * b) (7 + 4 * b) i (fun k => (z = -1 ∨ sI σ 1 (sP σ k) 0 = z) ∧ ¬ sI σ 4 k 0 < f ∧ ¬ l < sI σ 4 k 0)
  | 0 => ⟨fun y => y, fun y hy => by
      have e : sZ (gaI σ b z f l 0) (8 + 4 * b) = 0 := clearZq σ _
      omega, fun y y' h h2 => h⟩
  | i + 1 => by
    have ih := ga_ok (σ := σ) (b := b) (z := z) (f := f) (l := l) i
    have e := gaI_IL σ b z f l i
    have hsx : zSx (fun y => y = 8 + 4 * b) (gaI σ b z f l i) σ := gaI_sx i
    have hp : ∀ y, lx (gaI σ b z f l i) (7 + 4 * b) y = lx σ (7 + 4 * b) y := zSx_lx hsx (by omega)
    have eI : sI (gaI σ b z f l i) = sI σ := e.1
    have eP : sP (gaI σ b z f l i) = sP σ := hsx.2.1
    simp only [gaI]
    rw [eI, eP]
    split
    · rename_i h1
      split
      · exact ih.up
      · rename_i h2
        split
        · exact ih.up
        · rename_i h3
          exact ih.add (by omega) (hp i).symm ⟨Or.inl h1, h2, h3⟩
    · split
      · rename_i h1
        split
        · exact ih.up
        · rename_i h2
          split
          · exact ih.up
          · rename_i h3
            exact ih.add (by omega) (hp i).symm ⟨Or.inr h1, h2, h3⟩
      · exact ih.up
/-- a part of a part -/
theorem zSb.gr {σ : zSt} {b : Nat} {P Q : Nat → Prop} {m : Nat} (h7 : zSb σ (7 + 4 * b) (5 + 4 * b) (sZ σ (5 + 4 * b)) P) (h8 : zSb σ (8 + 4 * b) (7 + 4 * b) m Q) (hm : m ≤ sZ σ (7 + 4 * b)) : zGr b σ ∧ ∀ y, y < sZ σ (8 + 4 * b) → P (lx σ (8 + 4 * b) y) ∧ Q (lx σ (8 + 4 * b) y) ∧ ∃ y', y' < sZ σ (7 + 4 * b) ∧ lx σ (8 + 4 * b) y = lx σ (7 + 4 * b) y' := by
  obtain ⟨g7, a1, a2⟩ := h7
  obtain ⟨g8, c1, c2⟩ := h8
  refine ⟨⟨fun y => g7 (g8 y), fun y hy => ?_, fun y y' h1 h2 => ?_⟩, fun y hy => ?_⟩
  · have := c1 y hy
    have h := a1 (g8 y) (by omega)
    exact ⟨h.1, this.2.1.trans h.2.1⟩
  · have := c1 y' h2
    exact a2 _ _ (c2 y y' h1 h2) (by omega)
  · have := c1 y hy
    have h := a1 (g8 y) (by omega)
    exact ⟨by rw [this.2.1]; exact h.2.2, this.2.2, g8 y, by omega, this.2.1⟩
