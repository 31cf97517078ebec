/-! two states that agree on what isn't scratch give runs that agree -/
def zatt (t : Nat) : Prop := t ≤ 3 ∨ (8 ≤ t ∧ t ≤ 21)
/-- a list alike -/
def zAq (q : Nat) (σ τ : zSt) : Prop := sZ σ q = sZ τ q ∧ ∀ i, i < sZ σ q → lx σ q i = lx τ q i
/-- what a run only reads, alike -/
def zAs (b : Nat) (K : Nat → Prop) (σ τ : zSt) : Prop := (sN σ = sN τ ∧ sP σ = sP τ) ∧ (zAq (5 + 4 * b) σ τ ∧ zAq (6 + 4 * b) σ τ) ∧ (∀ t, zatt t → ∀ o e, sI σ t o e = sI τ t o e) ∧ (∀ t, 4 ≤ t → t ≤ 6 → ∀ o, K o → sI σ t o 0 = sI τ t o 0) ∧ ∀ i, i < sZ σ (5 + 4 * b) → K (lx σ (5 + 4 * b) i)
/-- what a run writes, alike; the losses of others, as they were -/
def zAd (K U : Nat → Prop) (F x y : Nat → Nat → Nat → Int64) : Prop := (∀ o, K o → x 0 o 0 = y 0 o 0 ∧ ∀ e, e < 8 → x 1 o e = y 1 o e) ∧ (∀ j, U j → ∀ q, 2 ≤ q → q ≤ 5 → x q j 0 = y q j 0) ∧ ∀ o, ¬ K o → ∀ q, q < 2 → ∀ e, x q o e = F q o e
theorem zAq.fr {b q : Nat} {S T σ τ : zSt} (h1 : zFr b S σ) (h2 : zFr b T τ) (hq : ¬ zQb b q) (h : zAq q σ τ) : zAq q S T := by
  have z1 : sZ S q = sZ σ q := zSx_Z h1.1 hq
  have z2 : sZ T q = sZ τ q := zSx_Z h2.1 hq
  refine ⟨by rw [z1, z2]; exact h.1, fun i hi => ?_⟩
  rw [zSx_lx h1.1 hq, zSx_lx h2.1 hq]
  exact h.2 i (by rw [← z1]; exact hi)
theorem zAs.fr {b : Nat} {K : Nat → Prop} {S T σ τ : zSt} (h1 : zFr b S σ) (h2 : zFr b T τ) (h : zAs b K σ τ) : zAs b K S T := by
  refine ⟨⟨?_, ?_⟩, ⟨h.2.1.1.fr h1 h2 (zQb_no (Or.inl rfl)), h.2.1.2.fr h1 h2 (zQb_no (Or.inr rfl))⟩, fun t ht o e => ?_, fun t t1 t2 o ho => ?_, fun i hi => ?_⟩
  · rw [h1.1.1, h2.1.1]
    exact h.1.1
  · rw [h1.1.2.1, h2.1.2.1]
    exact h.1.2
  · rw [h1.2.2.1 t (by unfold zatt at ht; unfold zst; omega), h2.2.2.1 t (by unfold zatt at ht; unfold zst; omega)]
    exact h.2.2.1 t ht o e
  · rw [h1.2.2.1 t (by unfold zst; omega), h2.2.2.1 t (by unfold zst; omega)]
    exact h.2.2.2.1 t t1 t2 o ho
  · rw [zSx_lx h1.1 (zQb_no (Or.inl rfl))]
    exact h.2.2.2.2 i (by rw [← zSx_Z h1.1 (zQb_no (Or.inl rfl))]; exact hi)
section ZAG
variable {b : Nat} {K U : Nat → Prop} {F : Nat → Nat → Nat → Int64} {σ τ : zSt}
theorem zAs.r (h : zAs b K σ τ) (t : Nat) (ht : zatt t) (o e : Nat) : sI σ t o e = sI τ t o e := h.2.2.1 t ht o e
theorem limited_a (h : zAs b K σ τ) (t : Nat) : v_isLimited σ t = v_isLimited τ t := by
  unfold v_isLimited
  rw [h.r 8 (by unfold zatt; omega)]
theorem whole_a (h : zAs b K σ τ) (t : Nat) : v_wholeLimit σ t = v_wholeLimit τ t := by
  unfold v_wholeLimit
  rw [limited_a h, h.r 13 (by unfold zatt; omega), h.r 15 (by unfold zatt; omega)]
theorem forEach_a (h : zAs b K σ τ) (t : Nat) : v_forEach σ t = v_forEach τ t := by
  unfold v_forEach
  rw [h.r 8 (by unfold zatt; omega)]
theorem covers_a (h : zAs b K σ τ) (t : Nat) {k : Nat} (hk : K k) : v_covers σ t k = v_covers τ t k := by
  unfold v_covers
  rw [h.r 9 (by unfold zatt; omega), h.r 19 (by unfold zatt; omega), h.r 10 (by unfold zatt; omega), h.r 11 (by unfold zatt; omega), h.r 2 (by unfold zatt; omega), h.1.2, h.2.2.2.1 4 (by decide) (by decide) k hk, h.2.2.2.1 5 (by decide) (by decide) k hk]
theorem layer_a (h : zAs b K σ τ) (t : Nat) (x : Int64) : v_layerOf σ t x = v_layerOf τ t x := by
  unfold v_layerOf
  rw [h.r 12 (by unfold zatt; omega), h.r 13 (by unfold zatt; omega)]
theorem wanted_a (h : zAs b K σ τ) (t : Nat) {k : Nat} (hx : sL σ 0 k 0 = sL τ 0 k 0) : v_wantedOf σ t k = v_wantedOf τ t k := by
  unfold v_wantedOf
  rw [layer_a h, h.r 8 (by unfold zatt; omega), h.r 12 (by unfold zatt; omega), h.r 13 (by unfold zatt; omega), h.r 0 (by unfold zatt; omega), h.1.2, hx]
theorem price_a (h : zAs b K σ τ) (t : Nat) (x : Int64) (d : Int32) : v_priceOf σ t x d = v_priceOf τ t x d := by
  unfold v_priceOf
  rw [h.r 17 (by unfold zatt; omega), h.r 18 (by unfold zatt; omega), h.r 16 (by unfold zatt; omega), h.r 13 (by unfold zatt; omega), h.r 11 (by unfold zatt; omega), h.r 10 (by unfold zatt; omega)]
theorem take_r0 (σ : zSt) (j k : Nat) (x : Int64) (o : Nat) : sL (s_takeFrom σ j k x) 0 o 0 = if o = k then sL σ 0 k 0 - x else sL σ 0 o 0 := by
  rw [take_L, if_neg (fun z => by omega), if_neg (fun z => by omega), if_neg (fun z => by omega)]
  by_cases c : o = k
  · rw [if_pos ⟨rfl, c, rfl⟩, if_pos c]
  · rw [if_neg (fun z => c z.2.1), if_neg c]
theorem take_r1 (σ : zSt) (j k : Nat) (x : Int64) (o e : Nat) : sL (s_takeFrom σ j k x) 1 o e = if o = k ∧ e = j % 8 then sL σ 1 k (j % 8) + x else sL σ 1 o e := by
  rw [take_L, if_neg (fun z => by omega), if_neg (fun z => by omega)]
  by_cases c : o = k ∧ e = j % 8
  · rw [if_pos ⟨rfl, c⟩, if_pos c]
  · rw [if_neg (fun z => c z.2), if_neg (fun z => by omega), if_neg c]
theorem take_r2 (σ : zSt) (j k : Nat) (x : Int64) {q : Nat} (hq : 2 ≤ q) (o : Nat) : sL (s_takeFrom σ j k x) q o 0 = if q = 3 ∧ o = j then sL σ 3 j 0 + x else if q = 2 ∧ o = j then sL σ 2 j 0 - x else sL σ q o 0 := by
  rw [take_L]
  by_cases c3 : q = 3 ∧ o = j
  · rw [if_pos ⟨c3.1, c3.2, rfl⟩, if_pos c3]
  · rw [if_neg (fun z => c3 ⟨z.1, z.2.1⟩), if_neg c3]
    by_cases c2 : q = 2 ∧ o = j
    · rw [if_pos ⟨c2.1, c2.2, rfl⟩, if_pos c2]
    · rw [if_neg (fun z => c2 ⟨z.1, z.2.1⟩), if_neg c2, if_neg (fun z => by omega), if_neg (fun z => by omega)]
theorem take_d (h : zAd K U F (sL σ) (sL τ)) {j k : Nat} (x : Int64) (hk : K k) (hj : U j) : zAd K U F (sL (s_takeFrom σ j k x)) (sL (s_takeFrom τ j k x)) := by
  refine ⟨fun o ho => ⟨?_, fun e he => ?_⟩, fun j' hj' q q1 q2 => ?_, fun o ho q hq e => ?_⟩
  · rw [take_r0 σ, take_r0 τ, (h.1 k hk).1, (h.1 o ho).1]
  · rw [take_r1 σ, take_r1 τ, (h.1 k hk).2 (j % 8) (Nat.mod_lt _ (by decide)), (h.1 o ho).2 e he]
  · rw [take_r2 σ _ _ _ q1, take_r2 τ _ _ _ q1, h.2.1 j hj 3 (by decide) (by decide), h.2.1 j hj 2 (by decide) (by decide), h.2.1 j' hj' q q1 q2]
  · rw [take_L, if_neg (fun z => by omega), if_neg (fun z => by omega), if_neg (fun z => by exact ho (z.2.1 ▸ hk)), if_neg (fun z => by exact ho (z.2.1 ▸ hk))]
    exact h.2.2 o ho q hq e
theorem refill_d (hs : zAs b K σ τ) (h : zAd K U F (sL σ) (sL τ)) {j : Nat} (x : Int64) (d : Int32) (hj : U j) : zAd K U F (sL (s_refill σ j x d)) (sL (s_refill τ j x d)) := by
  have ez : zag σ j x = zag τ j x := by
    unfold zag
    rw [hs.r 13 (by unfold zatt; omega), hs.r 15 (by unfold zatt; omega), h.2.1 j hj 4 (by decide) (by decide)]
  have r : ∀ q o e, sL (s_refill σ j x d) q o e = if v_isLimited τ (j % 8) = 0 then sL σ q o e else if q = 5 ∧ o = j ∧ e = 0 then sL τ 5 j 0 + v_priceOf τ (j % 8) (zag τ j x) d else if q = 4 ∧ o = j ∧ e = 0 then sL τ 4 j 0 + zag τ j x else sL σ q o e := fun q o e => by
    rw [refill_L, limited_a hs, ez, price_a hs, h.2.1 j hj 4 (by decide) (by decide), h.2.1 j hj 5 (by decide) (by decide)]
  refine ⟨fun o ho => ⟨?_, fun e he => ?_⟩, fun j' hj' q q1 q2 => ?_, fun o ho q hq e => ?_⟩
  · rw [r, refill_L τ, (h.1 o ho).1]
  · rw [r, refill_L τ, (h.1 o ho).2 e he]
  · rw [r, refill_L τ, h.2.1 j' hj' q q1 q2]
  · rw [r]
    by_cases c : v_isLimited τ (j % 8) = 0
    · rw [if_pos c]
      exact h.2.2 o ho q hq e
    · rw [if_neg c, if_neg (fun z => by omega), if_neg (fun z => by omega)]
      exact h.2.2 o ho q hq e
/-- one loss through the treaties for each loss -/
theorem slI_d (hs : zAs b K σ τ) (h8 : sN σ 2 ≤ 8) (hZ : sZ σ (6 + 4 * b) = sN σ 2) (hx : ∀ i, i < sN σ 2 → lx σ (6 + 4 * b) i = 8 * b + i) (hU : ∀ t, t < sN σ 2 → sI σ 19 t 0 = 0 → U (8 * b + t)) {k : Nat} (hk : K k) (h : zAd K U F (sL σ) (sL τ)) : ∀ i, i ≤ sN σ 2 → zAd K U F (sL (slI σ b k i)) (sL (slI τ b k i))
  | 0, _ => h
  | i + 1, hi => by
    have ih := slI_d hs h8 hZ hx hU hk h i (by omega)
    have hS : zAs b K (slI σ b k i) (slI τ b k i) := hs.fr (fr_1 (slI_1 σ b k i) (slI_22 σ b k i)) (fr_1 (slI_1 τ b k i) (slI_22 τ b k i))
    have x1 := hx i (by omega)
    have x2 : lx τ (6 + 4 * b) i = 8 * b + i := by rw [← hs.2.1.2.2 i (by omega)]; exact x1
    have hm8 : (8 * b + i) % 8 = i := by omega
    have e19 : sI (slI σ b k i) 19 i 0 = sI σ 19 i 0 := sI_1 (slI_1 σ b k i) 19 i 0
    simp only [slI]
    rw [x1, x2, hm8]
    generalize slI σ b k i = S at *
    generalize slI τ b k i = T at *
    have c1 := covers_c (σ := S) (t := i) (k := k)
    rw [forEach_a hS, wanted_a hS i (ih.1 k hk).1]
    rw [covers_a hS i hk] at c1 ⊢
    by_cases g1 : v_forEach T i = 0
    · rw [if_pos g1, if_pos g1]
      exact ih
    · rw [if_neg g1, if_neg g1]
      by_cases g2 : v_covers T i k = 0
      · rw [if_pos g2, if_pos g2]
        exact ih
      · rw [if_neg g2, if_neg g2]
        have hUj : U (8 * b + i) := hU i (by omega) (by rw [← e19]; exact c1 g2)
        rw [ih.2.1 _ hUj 2 (by decide) (by decide)]
        have e4 : sI (s_takeFrom S (8 * b + i) k (zmnl (v_wantedOf T i k) (sL T 2 (8 * b + i) 0))) 4 k 0 = sI (s_takeFrom T (8 * b + i) k (zmnl (v_wantedOf T i k) (sL T 2 (8 * b + i) 0))) 4 k 0 := hS.2.2.2.1 4 (by decide) (by decide) k hk
        rw [e4]
        exact refill_d (hS.fr (fr_1 (take_I _ _ _ _) (take_2 _ _ _ _)) (fr_1 (take_I _ _ _ _) (take_2 _ _ _ _))) (take_d ih _ hk hUj) _ _ hUj
theorem rnC_d (hs : zAs b K σ τ) (h8 : sN σ 2 ≤ 8) (hZ : sZ σ (6 + 4 * b) = sN σ 2) (hx : ∀ i, i < sN σ 2 → lx σ (6 + 4 * b) i = 8 * b + i) (hU : ∀ t, t < sN σ 2 → sI σ 19 t 0 = 0 → U (8 * b + t)) (h : zAd K U F (sL σ) (sL τ)) : ∀ i, i ≤ sZ σ (5 + 4 * b) → zAd K U F (sL (rnC σ b i)) (sL (rnC τ b i))
  | 0, _ => h
  | i + 1, hi => by
    have ih := rnC_d hs h8 hZ hx hU h i (by omega)
    have f1 : zFr b (rnC σ b i) σ := fr_1 (rnC_1 σ b i) (rnC_22 σ b i)
    have hS : zAs b K (rnC σ b i) (rnC τ b i) := hs.fr f1 (fr_1 (rnC_1 τ b i) (rnC_22 τ b i))
    have n1 : sN (rnC σ b i) = sN σ := f1.1.1
    have z1 : sZ (rnC σ b i) (6 + 4 * b) = sN σ 2 := (zSx_Z f1.1 (zQb_no (Or.inr rfl))).trans hZ
    have z2 : sZ (rnC τ b i) (6 + 4 * b) = sN σ 2 := by rw [← hS.2.1.2.1]; exact z1
    show zAd K U F (sL (slI (rnC σ b i) b (lx σ (5 + 4 * b) i) (sZ (rnC σ b i) (6 + 4 * b)))) (sL (slI (rnC τ b i) b (lx τ (5 + 4 * b) i) (sZ (rnC τ b i) (6 + 4 * b))))
    rw [← hs.2.1.1.2 i (by omega), z1, z2]
    exact slI_d hS (by rw [n1]; exact h8) (by rw [z1, n1]) (fun i' hi' => by rw [zSx_lx f1.1 (zQb_no (Or.inr rfl))]; exact hx i' (by rw [← n1]; exact hi')) (fun t ht hc => hU t (by rw [← n1]; exact ht) (by rw [← f1.2.2.1 19 (by unfold zst; omega)]; exact hc)) (hs.2.2.2.2 i (by omega)) ih (sN σ 2) (by rw [n1]; exact Nat.le_refl _)
theorem zAq.add {q : Nat} {x : Nat} (h : zAq q σ τ) : zAq q (s_add σ q x) (s_add τ q x) := by
  refine ⟨by rw [addZq, addZq, h.1], fun i hi => ?_⟩
  rw [addZq] at hi
  rw [addXq, addXq, h.1]
  by_cases c : i = sZ τ q
  · rw [if_pos c, if_pos c]
  · rw [if_neg c, if_neg c]
    exact h.2 i (by have := h.1; omega)
theorem zAq_clear (q : Nat) (σ τ : zSt) : zAq q (s_clear σ q) (s_clear τ q) := ⟨by rw [clearZq, clearZq], fun i hi => by rw [clearZq] at hi; exact absurd hi (Nat.not_lt_zero _)⟩
/-- what is open -/
theorem fo_a (hs : zAs b K σ τ) (h : zAd K U F (sL σ) (sL τ)) (j : Nat) : ∀ i, i ≤ sZ σ (5 + 4 * b) → zAq (7 + 4 * b) (foI σ b j i) (foI τ b j i)
  | 0, _ => zAq_clear _ _ _
  | i + 1, hi => by
    have ih := fo_a hs h j i (by omega)
    have e1 := foI_IL σ b j i
    have e2 := foI_IL τ b j i
    have p1 : sP (foI σ b j i) = sP σ := (foI_sx (σ := σ) (b := b) (j := j) i).2.1
    have p2 : sP (foI τ b j i) = sP τ := (foI_sx (σ := τ) (b := b) (j := j) i).2.1
    have hk := hs.2.2.2.2 i (by omega)
    simp only [foI]
    rw [← hs.2.1.1.2 i (by omega), covers_22 e1.1 p1, covers_22 e2.1 p2, covers_a hs _ hk, show sL (foI σ b j i) = sL σ from e1.2, show sL (foI τ b j i) = sL τ from e2.2, (h.1 _ hk).1]
    split
    · split
      · exact ih
      · exact ih.add
    · exact ih
/-- a group -/
theorem ga_a (hs : zAs b K σ τ) (h7 : zAq (7 + 4 * b) σ τ) (hK : ∀ i, i < sZ σ (7 + 4 * b) → K (lx σ (7 + 4 * b) i)) (z f l : Int32) : ∀ i, i ≤ sZ σ (7 + 4 * b) → zAq (8 + 4 * b) (gaI σ b z f l i) (gaI τ b z f l i)
  | 0, _ => zAq_clear _ _ _
  | i + 1, hi => by
    have ih := ga_a hs h7 hK z f l i (by omega)
    have e1 := gaI_IL σ b z f l i
    have e2 := gaI_IL τ b z f l i
    have p1 : sP (gaI σ b z f l i) = sP σ := (gaI_sx (σ := σ) (b := b) (z := z) (f := f) (l := l) i).2.1
    have p2 : sP (gaI τ b z f l i) = sP τ := (gaI_sx (σ := τ) (b := b) (z := z) (f := f) (l := l) i).2.1
    have hk := hK i (by omega)
    simp only [gaI]
    rw [← h7.2 i (by omega), show sI (gaI σ b z f l i) = sI σ from e1.1, show sI (gaI τ b z f l i) = sI τ from e2.1, p1, p2, hs.1.2, hs.2.2.2.1 4 (by decide) (by decide) _ hk, hs.r 1 (by unfold zatt; omega)]
    (repeat' split) <;> first | exact ih | exact ih.add
theorem zsumL_c {f g : Nat → Int64} : ∀ {n : Nat}, (∀ i, i < n → f i = g i) → zsumL f n = zsumL g n
  | 0, _ => rfl
  | n + 1, h => by
    show zsumL f n + f n = zsumL g n + g n
    rw [zsumL_c (fun i hi => h i (by omega)), h n (by omega)]
theorem zsubL_c {f g : Nat → Int64} {a : Int64} : ∀ {n : Nat}, (∀ i, i < n → f i = g i) → zsubL a f n = zsubL a g n
  | 0, _ => rfl
  | n + 1, h => by
    show zsubL a f n - f n = zsubL a g n - g n
    rw [zsubL_c (fun i hi => h i (by omega)), h n (by omega)]
theorem sgI_d (h8 : zAq (8 + 4 * b) σ τ) (hK : ∀ i, i < sZ σ (8 + 4 * b) → K (lx σ (8 + 4 * b) i)) {j : Nat} (hj : U j) (h : zAd K U F (sL σ) (sL τ)) (am rs sm : Int64) : ∀ i, i ≤ sZ σ (8 + 4 * b) → zAd K U F (sL (sgI σ b j am rs sm i)) (sL (sgI τ b j am rs sm i))
  | 0, _ => h
  | i + 1, hi => by
    have ih := sgI_d h8 hK hj h am rs sm i (by omega)
    have hk := hK i (by omega)
    simp only [sgI]
    rw [← h8.2 i (by omega), (ih.1 _ hk).1]
    split
    · exact take_d ih _ hk hj
    · exact take_d ih _ hk hj
theorem group_d (hs : zAs b K σ τ) (h8 : zAq (8 + 4 * b) σ τ) (hK : ∀ i, i < sZ σ (8 + 4 * b) → K (lx σ (8 + 4 * b) i)) {j : Nat} (hj : 0 < sZ σ (8 + 4 * b) → U j) (h : zAd K U F (sL σ) (sL τ)) : zAd K U F (sL (s_serveGroup σ b j)) (sL (s_serveGroup τ b j)) ∧ (U j → v_serveGroup σ b j = v_serveGroup τ b j) := by
  have es : zsumL (fun y => sL σ 0 (lx σ (8 + 4 * b) y) 0) (sZ σ (8 + 4 * b)) = zsumL (fun y => sL τ 0 (lx τ (8 + 4 * b) y) 0) (sZ τ (8 + 4 * b)) := by
    rw [← h8.1]
    refine zsumL_c (fun i hi => ?_)
    show sL σ 0 (lx σ (8 + 4 * b) i) 0 = sL τ 0 (lx τ (8 + 4 * b) i) 0
    rw [← h8.2 i hi]
    exact (h.1 _ (hK i hi)).1
  unfold s_serveGroup v_serveGroup
  rw [es]
  by_cases c : 0 < zsumL (fun y => sL τ 0 (lx τ (8 + 4 * b) y) 0) (sZ τ (8 + 4 * b))
  · rw [if_pos c, if_pos c, if_pos c, if_pos c]
    have h0 : 0 < sZ σ (8 + 4 * b) := by
      rcases Nat.eq_zero_or_pos (sZ σ (8 + 4 * b)) with w | w
      · rw [← h8.1, w] at c
        exact absurd c (show ¬ (0 : Int64) < 0 by decide)
      · exact w
    have hU := hj h0
    rw [layer_a hs, h.2.1 j hU 2 (by decide) (by decide)]
    refine ⟨?_, fun _ => rfl⟩
    generalize zsumL (fun y => sL τ 0 (lx τ (8 + 4 * b) y) 0) (sZ τ (8 + 4 * b)) = sm at *
    generalize zmnl (v_layerOf τ (j % 8) sm) (sL τ 2 j 0) = am at *
    have e2 : zsubL am (fun y => am * sL σ 0 (lx σ (8 + 4 * b) y) 0 / sm) (sZ σ (8 + 4 * b)) = zsubL am (fun y => am * sL τ 0 (lx τ (8 + 4 * b) y) 0 / sm) (sZ τ (8 + 4 * b)) := by
      rw [← h8.1]
      refine zsubL_c (fun i hi => ?_)
      show am * sL σ 0 (lx σ (8 + 4 * b) i) 0 / sm = am * sL τ 0 (lx τ (8 + 4 * b) i) 0 / sm
      rw [← h8.2 i hi, (h.1 _ (hK i hi)).1]
    rw [e2, ← h8.1]
    exact sgI_d h8 hK hU h _ _ _ _ (Nat.le_refl _)
  · rw [if_neg c, if_neg c, if_neg c, if_neg c]
    exact ⟨h, fun _ => rfl⟩
end ZAG
