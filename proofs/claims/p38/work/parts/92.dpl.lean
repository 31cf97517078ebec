/-! the rows of a laying are a best laying -/
theorem nI_inj {a b : Nat} (h : nI a = nI b) (ha : a < 2 ^ 31) (hb : b < 2 ^ 31) : a = b := by
  by_cases c : a = b
  · exact c
  · exact absurd h (nI_ne c ha hb)
theorem lyI_b {S : zSt} {t : Nat} (hv : zVt S t) (x : Int) : 0 ≤ lyI S t x ∧ lyI S t x ≤ 1000000 := by
  unfold lyI
  have := hv.2.2.1
  omega
theorem lyU_r (S : zSt) (b f e : Nat) (m : Int64) (c : Int32) (q : Nat) : sL (lyU S b f e m c) 8 b q = (if q = f then m else sL S 8 b q) ∧ sI (lyU S b f e m c) 30 b q = (if q = f then c else sI S 30 b q) ∧ sI (lyU S b f e m c) 29 b q = (if q = f then nI e else sI S 29 b q) := by
  unfold lyU
  refine ⟨?_, ?_, ?_⟩
  · show sL (uL S 8 b f m) 8 b q = _
    rw [qL_r]
    by_cases h : q = f
    · rw [if_pos ⟨rfl, rfl, h⟩, if_pos h]
    · rw [if_neg (fun z => h z.2.2), if_neg h]
  · rw [qI_r, if_neg (fun z => by omega), qI_r]
    by_cases h : q = f
    · rw [if_pos ⟨rfl, rfl, h⟩, if_pos h]
    · rw [if_neg (fun z => h z.2.2), if_neg h]
      rfl
  · rw [qI_r]
    by_cases h : q = f
    · rw [if_pos ⟨rfl, rfl, h⟩, if_pos h]
    · rw [if_neg (fun z => h z.2.2), if_neg h, qI_r, if_neg (fun z => by omega)]
      rfl
/-- the bounds of what is behind -/
def zLB (S : zSt) (b f n : Nat) : Prop := ∀ q, f < q → q ≤ n → (0 ≤ (sL S 8 b q).toInt ∧ (sL S 8 b q).toInt ≤ (n - q : Nat) * 1000000) ∧ 0 ≤ (sI S 30 b q).toInt ∧ (sI S 30 b q).toInt ≤ (n - q : Nat)
/-- worth and number of an event from f to e with the best behind it -/
def vWo (S : zSt) (b t f e : Nat) : Int := GI S b t f e + (sL S 8 b (e + 1)).toInt
def vNo (S : zSt) (b e : Nat) : Int := 1 + (sI S 30 b (e + 1)).toInt
theorem lyP_ok {S : zSt} {b t f n : Nat} (h : zDr S b t n) (hB : zLB S b f n) : ∀ k, f + k ≤ n → (∀ q, q ≠ f → sL (lyP S b t f k).1 8 b q = sL S 8 b q ∧ sI (lyP S b t f k).1 30 b q = sI S 30 b q) ∧ (lyP S b t f k).2.toInt = zSm (smI S b) (f + k) - zSm (smI S b) f ∧
    (1 ≤ k → ∃ e0, f ≤ e0 ∧ e0 < f + k ∧ sI (lyP S b t f k).1 29 b f = nI e0 ∧ (sL (lyP S b t f k).1 8 b f).toInt = vWo S b t f e0 ∧ (sI (lyP S b t f k).1 30 b f).toInt = vNo S b e0 ∧ ∀ e, f ≤ e → e < f + k → vWo S b t f e ≤ vWo S b t f e0 ∧ (vWo S b t f e = vWo S b t f e0 → vNo S b e0 ≤ vNo S b e ∧ (vNo S b e0 = vNo S b e → e ≤ e0)))
  | 0, _ => ⟨fun _ _ => ⟨rfl, rfl⟩, by show (0 : Int64).toInt = _; rw [l_0, Nat.add_zero]; omega, fun z => absurd z (by decide)⟩
  | k + 1, hk => by
    obtain ⟨h1, h2, h3⟩ := lyP_ok h hB k (by omega)
    have hn12 := h.1
    have e7 : sL (lyP S b t f k).1 7 b (f + k) = sL S 7 b (f + k) := lyP_L _ _ _ _ _ (by decide) _ _
    have sm := h.2.2.2.2 (f + k) (by omega)
    have sum := sm_up h.2.2.2.2 (f + k) f (by omega) (by omega)
    have hs : zSm (smI S b) (f + k + 1) = zSm (smI S b) (f + k) + smI S b (f + k) := rfl
    have hw : ((lyP S b t f k).2 + sL (lyP S b t f k).1 7 b (f + k)).toInt = zSm (smI S b) (f + (k + 1)) - zSm (smI S b) f := by
      rw [e7, l_add (by have : (sL S 7 b (f + k)).toInt = smI S b (f + k) := rfl; omega) (by have : (sL S 7 b (f + k)).toInt = smI S b (f + k) := rfl; omega), h2]
      show zSm (smI S b) (f + k) - zSm (smI S b) f + smI S b (f + k) = zSm (smI S b) (f + k + 1) - zSm (smI S b) f
      omega
    have ely : ∀ x, v_layerOf (lyP S b t f k).1 t x = v_layerOf S t x := fun x => by
      unfold v_layerOf
      rw [lyP_I _ _ _ _ _ (by decide) (by decide), lyP_I _ _ _ _ _ (by decide) (by decide)]
    have r8 : sL (lyP S b t f k).1 8 b (f + k + 1) = sL S 8 b (f + k + 1) := (h1 _ (by omega)).1
    have r30 : sI (lyP S b t f k).1 30 b (f + k + 1) = sI S 30 b (f + k + 1) := (h1 _ (by omega)).2
    have hb := hB (f + k + 1) (by omega) (by omega)
    have sum2 := sm_up h.2.2.2.2 (f + (k + 1)) f (by omega) hk
    have hly := ly_int h.2.1 hw (by omega) (by omega)
    have o1 : (1 : Int32).toInt = 1 := rfl
    show (∀ q, q ≠ f → sL (lyA (lyP S b t f k).1 b t f (f + k) ((lyP S b t f k).2 + sL (lyP S b t f k).1 7 b (f + k))) 8 b q = sL S 8 b q ∧ sI (lyA (lyP S b t f k).1 b t f (f + k) ((lyP S b t f k).2 + sL (lyP S b t f k).1 7 b (f + k))) 30 b q = sI S 30 b q) ∧ ((lyP S b t f k).2 + sL (lyP S b t f k).1 7 b (f + k)).toInt = _ ∧ (1 ≤ k + 1 → ∃ e0, f ≤ e0 ∧ e0 < f + (k + 1) ∧ sI (lyA (lyP S b t f k).1 b t f (f + k) ((lyP S b t f k).2 + sL (lyP S b t f k).1 7 b (f + k))) 29 b f = nI e0 ∧ (sL (lyA (lyP S b t f k).1 b t f (f + k) ((lyP S b t f k).2 + sL (lyP S b t f k).1 7 b (f + k))) 8 b f).toInt = vWo S b t f e0 ∧ (sI (lyA (lyP S b t f k).1 b t f (f + k) ((lyP S b t f k).2 + sL (lyP S b t f k).1 7 b (f + k))) 30 b f).toInt = vNo S b e0 ∧ _)
    obtain ⟨w, hwd⟩ : ∃ w, w = (lyP S b t f k).2 + sL (lyP S b t f k).1 7 b (f + k) := ⟨_, rfl⟩
    rw [← hwd] at hw hly ⊢
    have hc : (v_layerOf S t w + sL S 8 b (f + k + 1)).toInt = vWo S b t f (f + k) := by
      rw [l_add (by omega) (by omega), hly.1]
      rfl
    have hcn : (1 + sI S 30 b (f + k + 1)).toInt = vNo S b (f + k) := by
      rw [w_add' (by omega) (by omega), o1]
      rfl
    clear hwd
    unfold lyA
    rw [ely, r8, r30]
    generalize (v_layerOf S t w + sL S 8 b (f + k + 1)) = cd at *
    generalize (1 + sI S 30 b (f + k + 1)) = cn at *
    generalize (lyP S b t f k).1 = P at *
    -- the new one is taken
    have taken : (∀ e, f ≤ e → e < f + k → vWo S b t f e ≤ vWo S b t f (f + k) ∧ (vWo S b t f e = vWo S b t f (f + k) → vNo S b (f + k) ≤ vNo S b e)) → (∀ q, q ≠ f → sL (lyU P b f (f + k) cd cn) 8 b q = sL S 8 b q ∧ sI (lyU P b f (f + k) cd cn) 30 b q = sI S 30 b q) ∧ w.toInt = zSm (smI S b) (f + (k + 1)) - zSm (smI S b) f ∧ (1 ≤ k + 1 → ∃ e0, f ≤ e0 ∧ e0 < f + (k + 1) ∧ sI (lyU P b f (f + k) cd cn) 29 b f = nI e0 ∧ (sL (lyU P b f (f + k) cd cn) 8 b f).toInt = vWo S b t f e0 ∧ (sI (lyU P b f (f + k) cd cn) 30 b f).toInt = vNo S b e0 ∧ ∀ e, f ≤ e → e < f + (k + 1) → vWo S b t f e ≤ vWo S b t f e0 ∧ (vWo S b t f e = vWo S b t f e0 → vNo S b e0 ≤ vNo S b e ∧ (vNo S b e0 = vNo S b e → e ≤ e0))) := fun ht => by
      refine ⟨fun q hq => ?_, hw, fun _ => ⟨f + k, by omega, by omega, ?_, ?_, ?_, fun e g1 g2 => ?_⟩⟩
      · have r := lyU_r P b f (f + k) cd cn q
        rw [if_neg hq, if_neg hq] at r
        rw [r.1, r.2.1]
        exact h1 q hq
      · have r := (lyU_r P b f (f + k) cd cn f).2.2
        rw [if_pos rfl] at r
        exact r
      · have r := (lyU_r P b f (f + k) cd cn f).1
        rw [if_pos rfl] at r
        rw [r]
        exact hc
      · have r := (lyU_r P b f (f + k) cd cn f).2.1
        rw [if_pos rfl] at r
        rw [r]
        exact hcn
      · by_cases e1 : e = f + k
        · subst e1
          exact ⟨Int.le_refl _, fun _ => ⟨Int.le_refl _, fun _ => Nat.le_refl _⟩⟩
        · have g := ht e g1 (by omega)
          exact ⟨g.1, fun z => ⟨g.2 z, fun _ => by omega⟩⟩
    by_cases c1 : nI (f + k) = nI f
    · rw [if_pos c1]
      refine taken (fun e g1 g2 => ?_)
      have := nI_inj c1 (by omega) (by omega)
      omega
    · rw [if_neg c1]
      have hk1 : 1 ≤ k := by
        rcases Nat.eq_zero_or_pos k with z | z
        · subst z
          exact absurd rfl c1
        · exact z
      obtain ⟨e0, p1, p2, p3, p4, p5, p6⟩ := h3 hk1
      have kept : (vWo S b t f (f + k) ≤ vWo S b t f e0 ∧ (vWo S b t f (f + k) = vWo S b t f e0 → vNo S b e0 < vNo S b (f + k))) → (∀ q, q ≠ f → sL P 8 b q = sL S 8 b q ∧ sI P 30 b q = sI S 30 b q) ∧ w.toInt = zSm (smI S b) (f + (k + 1)) - zSm (smI S b) f ∧ (1 ≤ k + 1 → ∃ e0, f ≤ e0 ∧ e0 < f + (k + 1) ∧ sI P 29 b f = nI e0 ∧ (sL P 8 b f).toInt = vWo S b t f e0 ∧ (sI P 30 b f).toInt = vNo S b e0 ∧ ∀ e, f ≤ e → e < f + (k + 1) → vWo S b t f e ≤ vWo S b t f e0 ∧ (vWo S b t f e = vWo S b t f e0 → vNo S b e0 ≤ vNo S b e ∧ (vNo S b e0 = vNo S b e → e ≤ e0))) := fun ht => by
        refine ⟨h1, hw, fun _ => ⟨e0, p1, by omega, p3, p4, p5, fun e g1 g2 => ?_⟩⟩
        by_cases e1 : e = f + k
        · subst e1
          refine ⟨ht.1, fun z => ?_⟩
          have := ht.2 z
          exact ⟨by omega, fun y => by omega⟩
        · exact p6 e g1 (by omega)
      by_cases c2 : sL P 8 b f < cd
      · have c2' := l_lt.mp c2
        rw [if_pos c2]
        refine taken (fun e g1 g2 => ?_)
        have := p6 e g1 g2
        exact ⟨by omega, fun z => by omega⟩
      · have c2' : ¬ (sL P 8 b f).toInt < cd.toInt := fun z => c2 (l_lt.mpr z)
        rw [if_neg c2]
        by_cases c3 : cd = sL P 8 b f
        · have c3' := l_eq.mp c3
          rw [if_pos c3]
          by_cases c4 : sI P 30 b f < cn
          · have c4' := w_lt.mp c4
            rw [if_pos c4]
            exact kept ⟨by omega, fun _ => by omega⟩
          · have c4' : ¬ (sI P 30 b f).toInt < cn.toInt := fun z => c4 (w_lt.mpr z)
            rw [if_neg c4]
            refine taken (fun e g1 g2 => ?_)
            have := p6 e g1 g2
            refine ⟨by omega, fun z => ?_⟩
            have := (this.2 (by omega)).1
            omega
        · have c3' : ¬ cd.toInt = (sL P 8 b f).toInt := fun z => c3 (l_eq.mpr z)
          rw [if_neg c3]
          exact kept ⟨by omega, fun z => by omega⟩
/-- how far an event may last -/
theorem lyK_ok {S : zSt} {b t f n : Nat} (h : zDr S b t n) : ∀ r k, f + k ≤ n → n < f + k + r → (∀ e, f + k ≤ e → e < f + lyK S b t f n r k → dyI S b e - dyI S b f < (sI S 14 t 0).toInt) ∧ (f + lyK S b t f n r k = n ∨ (f + lyK S b t f n r k < n ∧ (sI S 14 t 0).toInt ≤ dyI S b (f + lyK S b t f n r k) - dyI S b f))
  | 0, k, h1, h2 => by omega
  | r + 1, k, h1, h2 => by
    have hn12 := h.1
    unfold lyK
    by_cases c1 : f + k = n
    · rw [if_pos (nI_le (by omega) (by omega))]
      exact ⟨fun e g1 g2 => by omega, Or.inl c1⟩
    · rw [if_neg (fun z => absurd ((nIle (m := n) (i := f + k) (by omega) (by omega)).mp z) (by omega)), lyP_I _ _ _ _ _ (by decide) (by decide), lyP_I _ _ _ _ _ (by decide) (by decide), lyP_I _ _ _ _ _ (by decide) (by decide)]
      have d1 := h.2.2.1 (f + k) (by omega)
      have d2 := h.2.2.1 f (by omega)
      have e0 : (sI S 28 b (f + k) - sI S 28 b f).toInt = dyI S b (f + k) - dyI S b f := w_sub' (show -2147483648 ≤ dyI S b (f + k) - dyI S b f by omega) (show dyI S b (f + k) - dyI S b f < 2147483648 by omega)
      by_cases c2 : sI S 14 t 0 ≤ sI S 28 b (f + k) - sI S 28 b f
      · rw [if_pos c2]
        have c2' := w_le.mp c2
        rw [e0] at c2'
        exact ⟨fun e g1 g2 => by omega, Or.inr ⟨by omega, c2'⟩⟩
      · rw [if_neg c2]
        have c2' : ¬ (sI S 14 t 0).toInt ≤ dyI S b (f + k) - dyI S b f := fun z => c2 (w_le.mpr (by rw [e0]; exact z))
        obtain ⟨g1, g2⟩ := lyK_ok (f := f) h r (k + 1) (by omega) (by omega)
        refine ⟨fun e a1 a2 => ?_, g2⟩
        by_cases q : e = f + k
        · rw [q]
          omega
        · exact g1 e (by omega) a2
/-- the rows from f on are best ones -/
def zLQ (S : zSt) (b t f n : Nat) : Prop := (sL S 8 b n = 0 ∧ sI S 30 b n = 0) ∧ ∀ p, f ≤ p → p < n → ((0 ≤ (sL S 8 b p).toInt ∧ (sL S 8 b p).toInt ≤ (n - p : Nat) * 1000000) ∧ 0 ≤ (sI S 30 b p).toInt ∧ (sI S 30 b p).toInt ≤ (n - p : Nat)) ∧
  ∃ e0, p ≤ e0 ∧ e0 < n ∧ sI S 29 b p = nI e0 ∧ dyI S b e0 - dyI S b p < (sI S 14 t 0).toInt ∧ (sL S 8 b p).toInt = vWo S b t p e0 ∧ (sI S 30 b p).toInt = vNo S b e0 ∧ ∀ e, p ≤ e → e < n → dyI S b e - dyI S b p < (sI S 14 t 0).toInt → vWo S b t p e ≤ vWo S b t p e0 ∧ (vWo S b t p e = vWo S b t p e0 → vNo S b e0 ≤ vNo S b e ∧ (vNo S b e0 = vNo S b e → e ≤ e0))
theorem zDr.mv {S σ : zSt} {b t n : Nat} (hI : ∀ q, q ≠ 29 → q ≠ 30 → ∀ o x, sI S q o x = sI σ q o x) (hL : ∀ q, q ≠ 8 → ∀ o x, sL S q o x = sL σ q o x) (h : zDr σ b t n) : zDr S b t n ∧ dyI S b = dyI σ b ∧ smI S b = smI σ b ∧ GI S b t = GI σ b t := by
  have e1 : dyI S b = dyI σ b := funext (fun p => by unfold dyI; rw [hI 28 (by decide) (by decide)])
  have e2 : smI S b = smI σ b := funext (fun p => by unfold smI; rw [hL 7 (by decide)])
  have e3 : GI S b t = GI σ b t := funext (fun i => funext (fun e => by unfold GI lyI; rw [e2, hI 12 (by decide) (by decide), hI 13 (by decide) (by decide)]))
  refine ⟨?_, e1, e2, e3⟩
  unfold zDr
  rw [e1, e2]
  exact ⟨h.1, h.2.1.fr (fun q hq o x => hI q (by unfold zst at hq; omega) (by unfold zst at hq; omega) o x), h.2.2⟩
theorem lyO_ok {σ : zSt} {b t n : Nat} (h : zDr σ b t n) (hW : 0 < (sI σ 14 t 0).toInt) : ∀ i, i ≤ n → zLQ (lyO σ b t n i) b t (n - i) n
  | 0, _ => by
    refine ⟨⟨?_, ?_⟩, fun p h1 h2 => by omega⟩
    · show sL (uI (uL σ 8 b n 0) 30 b n 0) 8 b n = 0
      show sL (uL σ 8 b n 0) 8 b n = 0
      rw [qL_r, if_pos ⟨rfl, rfl, rfl⟩]
    · show sI (uI (uL σ 8 b n 0) 30 b n 0) 30 b n = 0
      rw [qI_r, if_pos ⟨rfl, rfl, rfl⟩]
  | i + 1, hi => by
    have ih := lyO_ok h hW i (by omega)
    have hn12 := h.1
    have mI : ∀ q, q ≠ 29 → q ≠ 30 → ∀ o x, sI (lyO σ b t n i) q o x = sI σ q o x := fun q h1 h2 o x => lyO_I _ _ _ _ _ h1 h2 o x
    have mL : ∀ q, q ≠ 8 → ∀ o x, sL (lyO σ b t n i) q o x = sL σ q o x := fun q h1 o x => lyO_L _ _ _ _ _ h1 o x
    obtain ⟨hS, -, -, -⟩ := h.mv mI mL
    have hWS : 0 < (sI (lyO σ b t n i) 14 t 0).toInt := by rw [mI 14 (by decide) (by decide)]; exact hW
    show zLQ (lyE (lyO σ b t n i) b t (n - (i + 1)) n) b t (n - (i + 1)) n
    obtain ⟨f, hf⟩ : ∃ f, f = n - (i + 1) := ⟨_, rfl⟩
    have hf1 : n - i = f + 1 := by omega
    rw [hf1] at ih
    rw [← hf]
    clear mI mL
    generalize lyO σ b t n i = S at *
    have z1 : zLB S b f n := fun q h1 h2 => by
      by_cases e : q = n
      · subst e
        have o0 : (0 : Int32).toInt = 0 := rfl
        rw [ih.1.1, ih.1.2, l_0, o0]
        exact ⟨⟨Int.le_refl _, by omega⟩, Int.le_refl _, by omega⟩
      · exact (ih.2 q (by omega) (by omega)).1
    have hK := lyK_ok (f := f) hS (n + 1) 0 (by omega) (by omega)
    have hK2 := lyK_in S b t f n (n + 1) (by omega) 0 (by omega)
    have hK1 := lyK_pos S b t f n n (by omega) (by omega) (fun z => by
      have := w_le.mp z
      have o0 : (0 : Int32).toInt = 0 := rfl
      omega)
    unfold lyE
    generalize lyK S b t f n (n + 1) 0 = K at *
    obtain ⟨k1, k2, k3⟩ := lyP_ok hS z1 K hK2.2
    obtain ⟨e0, p1, p2, p3, p4, p5, p6⟩ := k3 hK1
    have nI' : ∀ q, q ≠ 29 → q ≠ 30 → ∀ o x, sI (lyP S b t f K).1 q o x = sI S q o x := fun q h1 h2 o x => lyP_I _ _ _ _ _ h1 h2 o x
    have nL' : ∀ q, q ≠ 8 → ∀ o x, sL (lyP S b t f K).1 q o x = sL S q o x := fun q h1 o x => lyP_L _ _ _ _ _ h1 o x
    obtain ⟨hS', ed, es, eG⟩ := hS.mv nI' nL'
    have e29 : ∀ q, q ≠ f → sI (lyP S b t f K).1 29 b q = sI S 29 b q := fun q hq => lyP_ne _ _ _ _ _ hq
    have e14 : sI (lyP S b t f K).1 14 t 0 = sI S 14 t 0 := nI' 14 (by decide) (by decide) _ _
    generalize (lyP S b t f K).1 = S' at *
    have eW : ∀ p e, f ≤ e → vWo S' b t p e = vWo S b t p e := fun p e he => by
      unfold vWo
      rw [eG, (k1 (e + 1) (by omega)).1]
    have eN : ∀ e, f ≤ e → vNo S' b e = vNo S b e := fun e he => by
      unfold vNo
      rw [(k1 (e + 1) (by omega)).2]
    refine ⟨⟨by rw [(k1 n (by omega)).1]; exact ih.1.1, by rw [(k1 n (by omega)).2]; exact ih.1.2⟩, fun p h1 h2 => ?_⟩
    by_cases c : p = f
    · subst c
      refine ⟨?_, e0, p1, by omega, p3, ?_, ?_, ?_, fun e g1 g2 g3 => ?_⟩
      · have hb := z1 (e0 + 1) (by omega) (by omega)
        rw [p4, p5]
        unfold vWo vNo
        have sum := sm_up hS.2.2.2.2 (e0 + 1) p (by omega) (by omega)
        have hg : 0 ≤ GI S b t p e0 ∧ GI S b t p e0 ≤ 1000000 := lyI_b hS.2.1 _
        exact ⟨⟨by omega, by omega⟩, by omega, by omega⟩
      · rw [ed, e14]
        by_cases q : e0 = p
        · rw [q]
          omega
        · exact hK.1 e0 (by omega) p2
      · rw [p4, eW _ _ p1]
      · rw [p5, eN _ p1]
      · rw [eW _ _ g1, eW _ _ p1, eN _ g1, eN _ p1]
        refine p6 e g1 ?_
        rw [ed, e14] at g3
        rcases hK.2 with w | w
        · omega
        · rcases Nat.lt_or_ge e (p + K) with y | y
          · exact y
          · have : dyI S b (p + K) ≤ dyI S b e := by
              by_cases q : p + K = e
              · rw [q]
                exact Int.le_refl _
              · have := hS.2.2.2.1 (p + K) e (by omega) g2
                omega
            omega
    · obtain ⟨q1, e1, q2, q3, q4, q5, q6, q7, q8⟩ := ih.2 p (by omega) h2
      rw [(k1 p c).1, (k1 p c).2, e29 p c, ed, e14]
      refine ⟨q1, e1, q2, q3, q4, q5, by rw [eW _ _ (by omega)]; exact q6, by rw [eN _ (by omega)]; exact q7, fun e g1 g2 g3 => ?_⟩
      rw [eW _ _ (by omega), eW _ _ (by omega), eN _ (by omega), eN _ (by omega)]
      exact q8 e g1 g2 g3
/-- what is found best is the best of all -/
theorem hb_ok (b : Nat) : zHB b := by
  intro S t z N n hN hv hy hd
  unfold v_bestA
  by_cases c0 : n = 0
  · rw [if_pos c0]
    decide
  · rw [if_neg c0]
    by_cases c1 : 12 < n
    · rw [if_pos c1]
      decide
    · rw [if_neg c1]
      have hr : zDr S b t n := ⟨by omega, hv, hd, hy.2.2.1, fun p hp => by
        have := hy.2.2.2.1 p hp
        exact ⟨this.1, by have := this.2; show (sL S 7 b p).toInt ≤ _; omega⟩⟩
      have hW : 0 < (sI S 14 t 0).toInt := by
        have := hv.2.2.2.2
        omega
      have h := lyO_ok hr hW n (Nat.le_refl _)
      rw [Nat.sub_self] at h
      have h : zLQ (s_lay S b t n) b t 0 n := h
      obtain ⟨hS', -, -, -⟩ := hr.mv (S := s_lay S b t n) (fun q h1 h2 o x => lyO_I _ _ _ _ _ h1 h2 o x) (fun q h1 o x => lyO_L _ _ _ _ _ h1 o x)
      generalize s_lay S b t n = T at *
      obtain ⟨m, rfl⟩ : ∃ m, n = m + 1 := ⟨n - 1, by omega⟩
      have hC : ∀ q, q ≤ m + 1 → (((sI T 30 b q).toNatClampNeg : Nat) : Int) = (sI T 30 b q).toInt := fun q hq => by
        have : 0 ≤ (sI T 30 b q).toInt := by
          by_cases e : q = m + 1
          · rw [e, h.1.2]
            decide
          · exact (h.2 q (Nat.zero_le _) (by omega)).1.2.1
        exact Int.toNat_of_nonneg this
      have hE : ∀ p, p < m + 1 → ∃ e0, (sI T 29 b p).toNatClampNeg = e0 ∧ sI T 29 b p = nI e0 ∧ e0 < m + 1 := fun p hp => by
        obtain ⟨-, e0, g1, g2, g3, -⟩ := h.2 p (Nat.zero_le _) hp
        exact ⟨e0, by rw [g3, nI_clamp (by omega)], g3, g2⟩
      have hdp : zDP (m + 1) (sI T 14 t 0).toInt (dyI T b) (GI T b t) (fun p => (sI T 29 b p).toNatClampNeg) (fun p => (sL T 8 b p).toInt) (fun p => (sI T 30 b p).toNatClampNeg) := by
        refine ⟨⟨?_, ?_⟩, fun p hp => ?_, fun p e g1 g2 g3 => ?_⟩
        · show (sL T 8 b (m + 1)).toInt = 0
          rw [h.1.1, l_0]
        · show (sI T 30 b (m + 1)).toNatClampNeg = 0
          rw [h.1.2]
          rfl
        · obtain ⟨-, e0, a1, a2, a3, a4, a5, a6, -⟩ := h.2 p (Nat.zero_le _) hp
          obtain ⟨e1, b1, b2, b3⟩ := hE p hp
          have : e0 = e1 := nI_inj (a3.symm.trans b2) (by omega) (by omega)
          subst this
          simp only [b1]
          refine ⟨⟨a1, a2⟩, a4, a5, ?_⟩
          have c1 := hC p (by omega)
          have c2 := hC (e0 + 1) (by omega)
          unfold vNo at a6
          omega
        · obtain ⟨-, e0, a1, a2, a3, a4, a5, a6, a7⟩ := h.2 p (Nat.zero_le _) (by omega)
          obtain ⟨e1, b1, b2, b3⟩ := hE p (by omega)
          have : e0 = e1 := nI_inj (a3.symm.trans b2) (by omega) (by omega)
          subst this
          simp only [b1]
          have k := a7 e g1 g2 g3
          have c1 := hC p (by omega)
          have c2 := hC (e + 1) (by omega)
          unfold vNo at a6 k
          unfold vWo at a5 k
          refine ⟨by omega, fun q => ?_⟩
          have k2 := k.2 (by omega)
          exact ⟨by omega, fun q2 => k2.2 (by omega)⟩
      rw [show m + 1 - 1 = m from rfl, best_ok hS' hdp (fun p hp => by
        obtain ⟨e0, a1, a2, a3⟩ := hE p hp
        rw [a2, nI_clamp (by omega)])]
      decide
