/-! agreement through zones' events, through a whole run -/
section ZAH
variable {b : Nat} {K U : Nat → Prop} {F : Nat → Nat → Nat → Int64} {σ τ : zSt}
/-- rows of days and sums, alike -/
def zAr (b n : Nat) (σ τ : zSt) : Prop := ∀ e, e < n → sI σ 28 b e = sI τ 28 b e ∧ sL σ 7 b e = sL τ 7 b e
theorem lyAdd_r (S : zSt) {b k n : Nat} (hn : n < 30) (c : Prop) (hc : c ↔ (n = 0 ∨ ¬ sI S 28 b (n - 1) = sI S 4 k 0)) : (c → s_lyAdd S b k n = uI (uL (uI S 28 b n (sI S 4 k 0)) 7 b n (sL S 0 k 0)) 27 b 0 (nI n + 1)) ∧ (¬ c → 0 < n ∧ s_lyAdd S b k n = uL S 7 b (n - 1) (sL S 7 b (n - 1) + sL S 0 k 0)) := by
  refine ⟨fun h => lyN hn (hc.mp h), fun h => ?_⟩
  have h' : ¬ (n = 0 ∨ ¬ sI S 28 b (n - 1) = sI S 4 k 0) := fun z => h (hc.mpr z)
  have h0 : 0 < n := by
    rcases Nat.eq_zero_or_pos n with q | q
    · exact absurd (Or.inl q) h'
    · exact q
  exact ⟨h0, lyO' hn h0 (Classical.byContradiction (fun q => h' (Or.inr q)))⟩
theorem zf_a (hs : zAs b K σ τ) (h : zAd K U F (sL σ) (sL τ)) (h7 : zAq (7 + 4 * b) σ τ) (hK : ∀ i, i < sZ σ (7 + 4 * b) → K (lx σ (7 + 4 * b) i)) (z : Nat) (h0 : sI σ 27 b 0 = 0) (h0' : sI τ 27 b 0 = 0) (h30 : sZ σ (7 + 4 * b) ≤ 30) : ∀ i, i ≤ sZ σ (7 + 4 * b) → ∃ n, n ≤ i ∧ sI (szA σ b z i) 27 b 0 = nI n ∧ sI (szA τ b z i) 27 b 0 = nI n ∧ zAr b n (szA σ b z i) (szA τ b z i)
  | 0, _ => ⟨0, Nat.le_refl _, h0, h0', fun e he => absurd he (Nat.not_lt_zero _)⟩
  | i + 1, hi => by
    obtain ⟨n, hn, e1, e2, hr⟩ := zf_a hs h h7 hK z h0 h0' h30 i (by omega)
    have hk := hK i (by omega)
    have a2 := szA_22 σ b z i
    have b2 := szA_22 τ b z i
    have aI : ∀ t, t ≠ 27 → t ≠ 28 → ∀ o x, sI (szA σ b z i) t o x = sI σ t o x := fun t q1 q2 o x => szA_I σ b z i q1 q2 o x
    have bI : ∀ t, t ≠ 27 → t ≠ 28 → ∀ o x, sI (szA τ b z i) t o x = sI τ t o x := fun t q1 q2 o x => szA_I τ b z i q1 q2 o x
    have aP : sP (szA σ b z i) = sP σ := congrArg (fun z => z.2.2.2.2.2.1) a2
    have bP : sP (szA τ b z i) = sP τ := congrArg (fun z => z.2.2.2.2.2.1) b2
    have aL : sL (szA σ b z i) 0 (lx σ (7 + 4 * b) i) 0 = sL (szA τ b z i) 0 (lx σ (7 + 4 * b) i) 0 := by
      rw [szA_L σ b z i 0 (by decide), szA_L τ b z i 0 (by decide)]
      exact (h.1 _ hk).1
    have a4 : sI (szA σ b z i) 4 (lx σ (7 + 4 * b) i) 0 = sI (szA τ b z i) 4 (lx σ (7 + 4 * b) i) 0 := by
      rw [aI 4 (by decide) (by decide), bI 4 (by decide) (by decide)]
      exact hs.2.2.2.1 4 (by decide) (by decide) _ hk
    show ∃ n, n ≤ i + 1 ∧ sI (if sI (szA σ b z i) 1 (sP (szA σ b z i) (lx σ (7 + 4 * b) i)) 0 = nI z then s_lyAdd (szA σ b z i) b (lx σ (7 + 4 * b) i) (szN (szA σ b z i) b) else szA σ b z i) 27 b 0 = nI n ∧ sI (if sI (szA τ b z i) 1 (sP (szA τ b z i) (lx τ (7 + 4 * b) i)) 0 = nI z then s_lyAdd (szA τ b z i) b (lx τ (7 + 4 * b) i) (szN (szA τ b z i) b) else szA τ b z i) 27 b 0 = nI n ∧ zAr b n (if sI (szA σ b z i) 1 (sP (szA σ b z i) (lx σ (7 + 4 * b) i)) 0 = nI z then s_lyAdd (szA σ b z i) b (lx σ (7 + 4 * b) i) (szN (szA σ b z i) b) else szA σ b z i) (if sI (szA τ b z i) 1 (sP (szA τ b z i) (lx τ (7 + 4 * b) i)) 0 = nI z then s_lyAdd (szA τ b z i) b (lx τ (7 + 4 * b) i) (szN (szA τ b z i) b) else szA τ b z i)
    rw [← h7.2 i (by omega), szN_eq e1 (by omega), szN_eq e2 (by omega), aP, bP, hs.1.2, aI 1 (by decide) (by decide), bI 1 (by decide) (by decide), hs.r 1 (by unfold zatt; omega)]
    clear aI bI a2 b2 aP bP
    generalize lx σ (7 + 4 * b) i = k at *
    generalize szA σ b z i = S at *
    generalize szA τ b z i = T at *
    by_cases c : sI τ 1 (sP τ k) 0 = nI z
    · rw [if_pos c, if_pos c]
      have hcc : (n = 0 ∨ ¬ sI S 28 b (n - 1) = sI S 4 k 0) ↔ (n = 0 ∨ ¬ sI T 28 b (n - 1) = sI T 4 k 0) := by
        rcases Nat.eq_zero_or_pos n with w | w
        · exact ⟨fun _ => Or.inl w, fun _ => Or.inl w⟩
        · rw [(hr (n - 1) (by omega)).1, a4]
      obtain ⟨s1, s2⟩ := lyAdd_r S (b := b) (k := k) (n := n) (by omega) _ Iff.rfl
      obtain ⟨t1, t2⟩ := lyAdd_r T (b := b) (k := k) (n := n) (by omega) _ hcc
      by_cases c2 : n = 0 ∨ ¬ sI S 28 b (n - 1) = sI S 4 k 0
      · rw [s1 c2, t1 c2, a4, aL]
        refine ⟨n + 1, by omega, ?_, ?_, fun e he => ⟨?_, ?_⟩⟩
        · rw [qI_r, if_pos ⟨rfl, rfl, rfl⟩]
          exact nI_add n 1
        · rw [qI_r, if_pos ⟨rfl, rfl, rfl⟩]
          exact nI_add n 1
        · have r : ∀ (Z : zSt) (v : Int32) (w : Int64) (u : Int32), sI (uI (uL (uI Z 28 b n v) 7 b n w) 27 b 0 u) 28 b e = if e = n then v else sI Z 28 b e := fun Z v w u => by
            rw [qI_r, if_neg (fun q => by omega)]
            show sI (uI Z 28 b n v) 28 b e = _
            rw [qI_r]
            by_cases q : e = n
            · rw [if_pos ⟨rfl, rfl, q⟩, if_pos q]
            · rw [if_neg (fun z => q z.2.2), if_neg q]
          rw [r, r]
          by_cases q : e = n
          · rw [if_pos q, if_pos q]
          · rw [if_neg q, if_neg q]
            exact (hr e (by omega)).1
        · have r : ∀ (Z : zSt) (v : Int32) (w : Int64) (u : Int32), sL (uI (uL (uI Z 28 b n v) 7 b n w) 27 b 0 u) 7 b e = if e = n then w else sL Z 7 b e := fun Z v w u => by
            show sL (uL (uI Z 28 b n v) 7 b n w) 7 b e = _
            rw [qL_r]
            by_cases q : e = n
            · rw [if_pos ⟨rfl, rfl, q⟩, if_pos q]
            · rw [if_neg (fun z => q z.2.2), if_neg q]
              rfl
          rw [r, r]
          by_cases q : e = n
          · rw [if_pos q, if_pos q]
          · rw [if_neg q, if_neg q]
            exact (hr e (by omega)).2
      · obtain ⟨p0, p1⟩ := s2 c2
        rw [p1, (t2 c2).2, (hr (n - 1) (by omega)).2, aL]
        refine ⟨n, by omega, e1, e2, fun e he => ⟨(hr e he).1, ?_⟩⟩
        rw [qL_r, qL_r, (hr e he).2]
    · rw [if_neg c, if_neg c]
      exact ⟨n, by omega, e1, e2, hr⟩
/-- rows of a laying from f on, alike -/
def zAl (b f n : Nat) (σ τ : zSt) : Prop := (∀ q, f ≤ q → q ≤ n → sL σ 8 b q = sL τ 8 b q ∧ sI σ 30 b q = sI τ 30 b q) ∧ ∀ q, f ≤ q → q < n → sI σ 29 b q = sI τ 29 b q
theorem lyA_rf (S : zSt) (b t f e : Nat) (w : Int64) (v : Int64) (c : Int32) (hv : v = v_layerOf S t w + sL S 8 b (e + 1)) (hc : c = 1 + sI S 30 b (e + 1)) : lyA S b t f e w = if nI e = nI f ∨ sL S 8 b f < v ∨ (v = sL S 8 b f ∧ ¬ sI S 30 b f < c) then lyU S b f e v c else S := by
  unfold lyA
  rw [← hv, ← hc]
  by_cases c1 : nI e = nI f
  · rw [if_pos c1, if_pos (Or.inl c1)]
  · rw [if_neg c1]
    by_cases c2 : sL S 8 b f < v
    · rw [if_pos c2, if_pos (Or.inr (Or.inl c2))]
    · rw [if_neg c2]
      by_cases c3 : v = sL S 8 b f
      · rw [if_pos c3]
        by_cases c4 : sI S 30 b f < c
        · rw [if_pos c4, if_neg (fun z => by
            rcases z with z | z | z
            · exact c1 z
            · exact c2 z
            · exact z.2 c4)]
        · rw [if_neg c4, if_pos (Or.inr (Or.inr ⟨c3, c4⟩))]
      · rw [if_neg c3, if_neg (fun z => by
          rcases z with z | z | z
          · exact c1 z
          · exact c2 z
          · exact c3 z.1)]
theorem lyP_a {t f n : Nat} (hn : n ≤ 30) (hs : ∀ q, zatt q → ∀ o e, sI σ q o e = sI τ q o e) (hr : zAr b n σ τ) (hl : zAl b (f + 1) n σ τ) : ∀ k, f + k ≤ n → (lyP σ b t f k).2 = (lyP τ b t f k).2 ∧ zAl b (f + 1) n (lyP σ b t f k).1 (lyP τ b t f k).1 ∧ (1 ≤ k → zAl b f n (lyP σ b t f k).1 (lyP τ b t f k).1)
  | 0, _ => ⟨rfl, hl, fun h => absurd h (by decide)⟩
  | k + 1, hk => by
    obtain ⟨i1, i2, i3⟩ := lyP_a (t := t) hn hs hr hl k (by omega)
    have eP : ∀ Z : zSt, lyP Z b t f (k + 1) = (lyA (lyP Z b t f k).1 b t f (f + k) ((lyP Z b t f k).2 + sL (lyP Z b t f k).1 7 b (f + k)), (lyP Z b t f k).2 + sL (lyP Z b t f k).1 7 b (f + k)) := fun _ => rfl
    have e7 : sL (lyP σ b t f k).1 7 b (f + k) = sL (lyP τ b t f k).1 7 b (f + k) := by
      rw [lyP_L _ _ _ _ _ (by decide), lyP_L _ _ _ _ _ (by decide)]
      exact (hr _ (by omega)).2
    have ely : ∀ x, v_layerOf (lyP σ b t f k).1 t x = v_layerOf (lyP τ b t f k).1 t x := fun x => by
      unfold v_layerOf
      rw [lyP_I _ _ _ _ _ (by decide) (by decide), lyP_I _ _ _ _ _ (by decide) (by decide), lyP_I _ _ _ _ _ (by decide) (by decide), lyP_I _ _ _ _ _ (by decide) (by decide), hs 12 (by unfold zatt; omega), hs 13 (by unfold zatt; omega)]
    rw [eP, eP]
    refine ⟨by show _ + _ = _ + _; rw [i1, e7], ?_⟩
    have r1 := (i2.1 (f + k + 1) (by omega) (by omega)).1
    have r2 := (i2.1 (f + k + 1) (by omega) (by omega)).2
    rw [i1, e7]
    generalize (lyP τ b t f k).2 + sL (lyP τ b t f k).1 7 b (f + k) = w
    clear eP e7 i1
    have hk0 : nI (f + k) = nI f → k = 0 := fun z => by
      have := nI_inj z (by omega) (by omega)
      omega
    generalize (lyP σ b t f k).1 = S at *
    generalize (lyP τ b t f k).1 = T at *
    show zAl b (f + 1) n (lyA S b t f (f + k) w) (lyA T b t f (f + k) w) ∧ (1 ≤ k + 1 → zAl b f n (lyA S b t f (f + k) w) (lyA T b t f (f + k) w))
    rw [lyA_rf S b t f (f + k) w (v_layerOf S t w + sL S 8 b (f + k + 1)) (1 + sI S 30 b (f + k + 1)) rfl rfl, lyA_rf T b t f (f + k) w (v_layerOf S t w + sL S 8 b (f + k + 1)) (1 + sI S 30 b (f + k + 1)) (by rw [ely, r1]) (by rw [r2])]
    generalize v_layerOf S t w + sL S 8 b (f + k + 1) = v
    generalize 1 + sI S 30 b (f + k + 1) = c
    have up : zAl b f n (lyU S b f (f + k) v c) (lyU T b f (f + k) v c) := by
      refine ⟨fun q q1 q2 => ?_, fun q q1 q2 => ?_⟩
      · have rS := lyU_r S b f (f + k) v c q
        have rT := lyU_r T b f (f + k) v c q
        rw [rS.1, rT.1, rS.2.1, rT.2.1]
        by_cases e : q = f
        · rw [if_pos e, if_pos e, if_pos e, if_pos e]
          exact ⟨rfl, rfl⟩
        · rw [if_neg e, if_neg e, if_neg e, if_neg e]
          exact i2.1 q (by omega) q2
      · rw [(lyU_r S b f (f + k) v c q).2.2, (lyU_r T b f (f + k) v c q).2.2]
        by_cases e : q = f
        · rw [if_pos e, if_pos e]
        · rw [if_neg e, if_neg e]
          exact i2.2 q (by omega) q2
    have wk : ∀ {X Y : zSt}, zAl b f n X Y → zAl b (f + 1) n X Y := fun g => ⟨fun q q1 q2 => g.1 q (by omega) q2, fun q q1 q2 => g.2 q (by omega) q2⟩
    by_cases c1 : nI (f + k) = nI f
    · rw [if_pos (Or.inl c1), if_pos (Or.inl c1)]
      exact ⟨wk up, fun _ => up⟩
    · have hk1 : 1 ≤ k := by
        rcases Nat.eq_zero_or_pos k with w | w
        · subst w
          exact absurd rfl c1
        · exact w
      have i3 := i3 hk1
      have f1 := i3.1 f (Nat.le_refl _) (by omega)
      rw [f1.1, f1.2]
      by_cases c2 : nI (f + k) = nI f ∨ sL T 8 b f < v ∨ (v = sL T 8 b f ∧ ¬ sI T 30 b f < c)
      · rw [if_pos c2, if_pos c2]
        exact ⟨wk up, fun _ => up⟩
      · rw [if_neg c2, if_neg c2]
        exact ⟨wk i3, fun _ => i3⟩
theorem lyK_a {t f n : Nat} (hn : n ≤ 30) (hf : f < n) (hs : ∀ q, zatt q → ∀ o e, sI σ q o e = sI τ q o e) (hr : zAr b n σ τ) : ∀ r k, f + k ≤ n → lyK σ b t f n r k = lyK τ b t f n r k
  | 0, _, _ => rfl
  | r + 1, k, hk => by
    unfold lyK
    rw [lyP_I σ _ _ _ _ (by decide) (by decide), lyP_I σ _ _ _ _ (by decide) (by decide), lyP_I σ _ _ _ _ (by decide) (by decide), lyP_I τ _ _ _ _ (by decide) (by decide), lyP_I τ _ _ _ _ (by decide) (by decide), lyP_I τ _ _ _ _ (by decide) (by decide), hs 14 (by unfold zatt; omega), (hr f hf).1]
    by_cases c : nI n ≤ nI (f + k)
    · rw [if_pos c, if_pos c]
    · rw [if_neg c, if_neg c]
      have hlt : f + k < n := by
        rcases Nat.lt_or_ge (f + k) n with w | w
        · exact w
        · exact absurd (nI_le w (by omega)) c
      rw [(hr (f + k) hlt).1, lyK_a hn hf hs hr r (k + 1) (by omega)]
theorem lyO_a {t n : Nat} (hn : n ≤ 30) (hs : ∀ q, zatt q → ∀ o e, sI σ q o e = sI τ q o e) (hW : ¬ sI σ 14 t 0 ≤ 0) (hr : zAr b n σ τ) : ∀ i, i ≤ n → zAl b (n - i) n (lyO σ b t n i) (lyO τ b t n i)
  | 0, _ => by
    refine ⟨fun q q1 q2 => ?_, fun q q1 q2 => by omega⟩
    have : q = n := by omega
    subst this
    refine ⟨?_, ?_⟩
    · show sL (uL σ 8 b q 0) 8 b q = sL (uL τ 8 b q 0) 8 b q
      rw [qL_r, qL_r, if_pos ⟨rfl, rfl, rfl⟩, if_pos ⟨rfl, rfl, rfl⟩]
    · show sI (uI (uL σ 8 b q 0) 30 b q 0) 30 b q = sI (uI (uL τ 8 b q 0) 30 b q 0) 30 b q
      rw [qI_r, qI_r, if_pos ⟨rfl, rfl, rfl⟩, if_pos ⟨rfl, rfl, rfl⟩]
  | i + 1, hi => by
    have ih := lyO_a hn hs hW hr i (by omega)
    have mI : ∀ (Z : zSt), ∀ q, q ≠ 29 → q ≠ 30 → ∀ o x, sI (lyO Z b t n i) q o x = sI Z q o x := fun Z q h1 h2 o x => lyO_I _ _ _ _ _ h1 h2 o x
    have hs' : ∀ q, zatt q → ∀ o e, sI (lyO σ b t n i) q o e = sI (lyO τ b t n i) q o e := fun q hq o e => by
      rw [mI σ q (by unfold zatt at hq; omega) (by unfold zatt at hq; omega), mI τ q (by unfold zatt at hq; omega) (by unfold zatt at hq; omega)]
      exact hs q hq o e
    have hr' : zAr b n (lyO σ b t n i) (lyO τ b t n i) := fun e he => by
      rw [mI σ 28 (by decide) (by decide), mI τ 28 (by decide) (by decide), lyO_L _ _ _ _ _ (by decide), lyO_L _ _ _ _ _ (by decide)]
      exact hr e he
    have hW' : ¬ sI (lyO σ b t n i) 14 t 0 ≤ 0 := by rw [mI σ 14 (by decide) (by decide)]; exact hW
    have e1 : n - i = n - (i + 1) + 1 := by omega
    rw [e1] at ih
    show zAl b (n - (i + 1)) n (lyE (lyO σ b t n i) b t (n - (i + 1)) n) (lyE (lyO τ b t n i) b t (n - (i + 1)) n)
    have k1 := lyK_pos (lyO σ b t n i) b t (n - (i + 1)) n n (by omega) hn hW'
    have k2 := lyK_in (lyO σ b t n i) b t (n - (i + 1)) n (n + 1) hn 0 (by omega)
    unfold lyE
    rw [← lyK_a hn (by omega) hs' hr' (n + 1) 0 (by omega)]
    exact (lyP_a hn hs' hr' ih _ k2.2).2.2 k1
end ZAH
