/-! the law's invariant: values in their ranges, losses in their order, what is commuted, what is settled, cells -/
def zjP (σ : zSt) : Prop := ∀ p, p < sN σ 0 → 1 ≤ (sI σ 0 p 0).toInt ∧ (sI σ 0 p 0).toInt ≤ 1000000
def zjK (σ : zSt) : Prop := ∀ k, k < sN σ 1 → (0 ≤ (sI σ 4 k 0).toInt ∧ (sI σ 4 k 0).toInt ≤ 999) ∧ 0 ≤ (sI σ 6 k 0).toInt ∧ (sI σ 6 k 0).toInt ≤ 1000000
def zjT (σ : zSt) : Prop := ∀ t, t < sN σ 2 → zVt σ t ∧ ((∀ r, r < 5 → 0 ≤ (sI σ 21 t r).toInt) ∧ zSm (fun r => (sI σ 21 t r).toInt) 5 ≤ 100) ∧ 0 ≤ (sI σ 20 t 0).toInt ∧ (sI σ 20 t 0).toInt ≤ 1000000
def zjS (σ : zSt) : Prop := ∀ c, c < sN σ 3 → (0 ≤ (sI σ 23 c 0).toInt ∧ (sI σ 23 c 0).toInt ≤ 999) ∧ (1 ≤ (sI σ 24 c 0).toInt ∧ (sI σ 24 c 0).toInt ≤ 9) ∧ ∀ z, z < 4 → 0 ≤ (sI σ 25 c z).toInt ∧ (sI σ 25 c z).toInt ≤ 100
/-- the losses by their days: each once -/
def zjL (σ : zSt) : Prop := (∀ g : Nat → Int, zSm (fun i => g (lx σ (5 + 4 * 0) i)) (sN σ 1) = zSm g (sN σ 1)) ∧ ∀ i i', i < i' → i' < sN σ 1 → (sI σ 4 (lx σ (5 + 4 * 0) i) 0).toInt ≤ (sI σ 4 (lx σ (5 + 4 * 0) i') 0).toInt
/-- what is commuted -/
def zjC (σ : zSt) (f : Nat → Int32) (c : Int64) : Prop := (∀ t, t < sN σ 2 → (f t = 0 ↔ sI σ 19 t 0 = 0)) ∧ (∀ t, sN σ 2 ≤ t → f t = 0) ∧ (∀ t, t < sN σ 2 → sI σ 19 t 0 ≠ 0 → (0 ≤ (sL σ 4 t 0).toInt ∧ (sL σ 4 t 0).toInt ≤ (sL σ 3 t 0).toInt ∧ (sL σ 3 t 0).toInt ≤ 30000000) ∧ 0 ≤ (sL σ 5 t 0).toInt ∧ (sL σ 5 t 0).toInt ≤ 2000000000 * (sL σ 3 t 0).toInt) ∧
  c = zsumL (fun t => if sI σ 19 t 0 = 0 then 0 else sL σ 3 t 0 + (sI σ 20 t 0).toInt64) (sN σ 2)
/-- what is settled -/
def zjF (σ : zSt) : Prop := sI σ 35 0 0 ≠ 0 → zFi 0 σ ∧ ∀ t z, t < sN σ 2 → z < 4 → 0 ≤ (sI σ 22 t z).toInt ∧ (sI σ 22 t z).toInt ≤ sN σ 1
/-- rooms of lists, as cells and as slots -/
def zcz (σ : zSt) : Int := zSm (fun q => (zpc (sC σ q) : Int)) 13
def zcs (σ : zSt) : Int := zSm (fun q => (zps (sC σ q) : Int)) 13
def zjG (σ : zSt) : Prop := (sgc σ : Int) ≤ 39 + 4 * sN σ 0 + 3 * sN σ 1 + 6 * sN σ 2 + 2 * sN σ 3 + zcz σ ∧ (sgs σ : Int) ≤ 438 + 27 * sN σ 0 + 23 * sN σ 1 + 40 * sN σ 2 + 8 * sN σ 3 + zcs σ
def zJ (σ : zSt) (f : Nat → Int32) (c : Int64) : Prop := zW σ ∧ (zjP σ ∧ zjK σ ∧ zjT σ ∧ zVp σ ∧ zjS σ) ∧ zjL σ ∧ zjC σ f c ∧ zjF σ ∧ zjG σ
theorem zcz_b (σ : zSt) : 0 ≤ zcz σ ∧ zcz σ ≤ 52 := by
  unfold zcz
  refine ⟨zSm_nn (fun i _ => by omega), ?_⟩
  have := zSm_ub (f := fun q => (zpc (sC σ q) : Int)) (n := 13) (c := 4) (fun i _ => by have := zpc_le (sC σ i); show (zpc (sC σ i) : Int) ≤ 4; omega)
  omega
theorem zcs_b (σ : zSt) : 0 ≤ zcs σ ∧ zcs σ ≤ 1040 := by
  unfold zcs
  refine ⟨zSm_nn (fun i _ => by omega), ?_⟩
  have := zSm_ub (f := fun q => (zps (sC σ q) : Int)) (n := 13) (c := 80) (fun i _ => by have := zps_le (sC σ i); show (zps (sC σ i) : Int) ≤ 80; omega)
  omega
/-- room of one list -/
theorem zcz_1 {S σ : zSt} {q : Nat} (hq : q < 13) (h : ∀ p, p ≠ q → sC S p = sC σ p) : zcz S = zcz σ + zpc (sC S q) - zpc (sC σ q) ∧ zcs S = zcs σ + zps (sC S q) - zps (sC σ q) := by
  refine ⟨?_, ?_⟩
  · exact zSm_upd (f := fun q => (zpc (sC S q) : Int)) (g := fun q => (zpc (sC σ q) : Int)) hq (fun i _ hi => by show (zpc (sC S i) : Int) = zpc (sC σ i); rw [h i hi])
  · exact zSm_upd (f := fun q => (zps (sC S q) : Int)) (g := fun q => (zps (sC σ q) : Int)) hq (fun i _ hi => by show (zps (sC S i) : Int) = zps (sC σ i); rw [h i hi])
/-- what was made, but for lists' rooms, alike -/
def zGq (S σ : zSt) : Prop := (sgc S : Int) - zcz S = sgc σ - zcz σ ∧ (sgs S : Int) - zcs S = sgs σ - zcs σ
theorem zGq.rf {σ : zSt} : zGq σ σ := ⟨rfl, rfl⟩
theorem zGq.trans {x y z : zSt} (h : zGq x y) (k : zGq y z) : zGq x z := ⟨h.1.trans k.1, h.2.trans k.2⟩
theorem zGq.of {S σ : zSt} (e : S.2.2 = σ.2.2) : zGq S σ := by
  obtain ⟨a, x, c⟩ := S
  obtain ⟨a', x', c'⟩ := σ
  cases e
  exact zGq.rf
theorem zGq.fr {b : Nat} {S σ : zSt} (hb : b < 2) (e : zFr b S σ) : zGq S σ := by
  have hc : ∀ p, ¬ zQb b p → sC S p = sC σ p := fun p hp => (e.1.2.2 p hp).2.2
  have hm : ∀ z : Nat → Int, zSm (fun q => z (sC S q)) 13 = zSm (fun q => z (sC σ q)) 13 + z (sC S (7 + 4 * b)) + z (sC S (8 + 4 * b)) - z (sC σ (7 + 4 * b)) - z (sC σ (8 + 4 * b)) := fun z => by
    have h1 := zSm_upd (f := fun q => z (sC S q)) (g := fun q => if q = 7 + 4 * b then z (sC S q) else z (sC σ q)) (k := 8 + 4 * b) (n := 13) (by omega) (fun i _ hi => by
      show z (sC S i) = if i = 7 + 4 * b then z (sC S i) else z (sC σ i)
      by_cases c : i = 7 + 4 * b
      · rw [if_pos c]
      · rw [if_neg c, hc i (by unfold zQb; omega)])
    have h2 := zSm_upd (f := fun q => if q = 7 + 4 * b then z (sC S q) else z (sC σ q)) (g := fun q => z (sC σ q)) (k := 7 + 4 * b) (n := 13) (by omega) (fun i _ hi => if_neg hi)
    simp only [if_neg (show ¬ 8 + 4 * b = 7 + 4 * b by omega), if_true] at h1 h2
    omega
  have e1 := e.2.2.2.1
  have e2 := e.2.2.2.2
  have m1 := hm (fun n => (zpc n : Int))
  have m2 := hm (fun n => (zps n : Int))
  unfold zGq zcz zcs
  omega
theorem zjG.mv {S σ : zSt} (hN : sN S = sN σ) (e : zGq S σ) (h : zjG σ) : zjG S := by
  unfold zjG at *
  unfold zGq at e
  rw [hN]
  omega
/-- what is settled of the first flow, where nothing of it is touched -/
theorem zFi0_mv {S σ : zSt} (hZ : sZ S (5 + 4 * 0) = sZ σ (5 + 4 * 0)) (hx : ∀ i, lx S (5 + 4 * 0) i = lx σ (5 + 4 * 0) i) (hN : sN S 2 = sN σ 2) (hk : ∀ i, i < sZ σ (5 + 4 * 0) → lx σ (5 + 4 * 0) i < 30) (hI : ∀ q, q = 8 ∨ q = 13 ∨ q = 15 ∨ q = 19 → ∀ t, sI S q t 0 = sI σ q t 0) (h6 : ∀ k, k < 30 → sI S 6 k 0 = sI σ 6 k 0) (hL : ∀ k, k < 30 → sL S 0 k 0 = sL σ 0 k 0 ∧ ∀ e, sL S 1 k e = sL σ 1 k e) (hV : ∀ t, t < 8 → ∀ q, 2 ≤ q → q ≤ 5 → sL S q t 0 = sL σ q t 0) (h8 : sN σ 2 ≤ 8) (h : zFi 0 σ) : zFi 0 S := by
  have hlm : ∀ t, v_isLimited S t = v_isLimited σ t ∧ v_wholeLimit S t = v_wholeLimit σ t := fun t => by
    unfold v_wholeLimit v_isLimited
    rw [hI 8 (by omega), hI 13 (by omega), hI 15 (by omega)]
    exact ⟨rfl, rfl⟩
  refine ⟨fun i hi => ?_, fun t ht hc => ?_, fun t ht hd i hi => ?_⟩
  · rw [hZ] at hi
    have hki := hk i hi
    have g := h.1 i hi
    unfold zF1 at *
    rw [hx, (hL _ hki).1, h6 _ hki]
    simp only [(hL _ hki).2]
    exact g
  · rw [hN] at ht
    rw [hI 19 (by omega)] at hc
    have g := h.2.1 t ht hc
    have hm8 : (8 * 0 + t) % 8 = t := by omega
    have e8 : 8 * 0 + t < 8 := by omega
    refine ⟨?_, ?_⟩
    · have g1 := g.1
      unfold zF2 at *
      rw [hV _ e8 2 (by decide) (by decide), hV _ e8 3 (by decide) (by decide), hV _ e8 4 (by decide) (by decide), hV _ e8 5 (by decide) (by decide), (hlm _).1, (hlm _).2, hI 13 (by omega), hI 15 (by omega)]
      exact g1
    · rw [hV _ e8 3 (by decide) (by decide), hZ, g.2]
      exact zSm_congr (fun i hi => by
        show (sL σ 1 (lx σ (5 + 4 * 0) i) t).toInt = (sL S 1 (lx S (5 + 4 * 0) i) t).toInt
        rw [hx, (hL _ (hk i hi)).2])
  · rw [hZ] at hi
    rw [hN, hI 19 (by omega)] at hd
    rw [hx, (hL _ (hk i hi)).2]
    exact h.2.2 t ht hd i hi
theorem zVt.of {S σ : zSt} {t : Nat} (h : ∀ q, 8 ≤ q → q ≤ 18 → sI S q t 0 = sI σ q t 0) (hv : zVt σ t) : zVt S t := by
  unfold zVt at *
  rw [h 8 (by decide) (by decide), h 10 (by decide) (by decide), h 11 (by decide) (by decide), h 12 (by decide) (by decide), h 13 (by decide) (by decide), h 14 (by decide) (by decide), h 15 (by decide) (by decide), h 16 (by decide) (by decide), h 18 (by decide) (by decide)]
  exact hv
theorem zVp.of {S σ : zSt} (h : ∀ q, 32 ≤ q → q ≤ 34 → ∀ e, sI S q 0 e = sI σ q 0 e) (hv : zVp σ) : zVp S := by
  unfold zVp kR at *
  simp only [h 32 (by decide) (by decide), h 33 (by decide) (by decide), h 34 (by decide) (by decide)]
  exact hv
/-- the losses' places: none twice, all of them losses -/
theorem zSm_two {f : Nat → Int} {i i' n : Nat} (h : i < i') (h2 : i' < n) (h0 : ∀ j, j < n → 0 ≤ f j) : f i + f i' ≤ zSm f n := by
  induction n with
  | zero => omega
  | succ n ih =>
    have hs : zSm f (n + 1) = zSm f n + f n := rfl
    by_cases c : i' = n
    · subst c
      have := zSm_le1 h (fun j hj => h0 j (by omega))
      omega
    · have := ih (by omega) (fun j hj => h0 j (by omega))
      have := h0 n (by omega)
      omega
theorem perm_in {x : Nat → Nat} {n : Nat} (h : ∀ g : Nat → Int, zSm (fun i => g (x i)) n = zSm g n) : (∀ i, i < n → x i < n) ∧ ∀ i i', i < i' → i' < n → x i ≠ x i' := by
  refine ⟨fun i hi => ?_, fun i i' h1 h2 e => ?_⟩
  · have e := h (fun k => if n ≤ k then 1 else 0)
    rw [zSm0 (f := fun k => if n ≤ k then (1 : Int) else 0) (n := n) (fun k hk => if_neg (by omega))] at e
    rcases Nat.lt_or_ge (x i) n with w | w
    · exact w
    · have := zSm_le1 (f := fun i => if n ≤ x i then (1 : Int) else 0) hi (fun j _ => by
        show (0 : Int) ≤ if n ≤ x j then 1 else 0
        split <;> decide)
      have g1 : (if n ≤ x i then (1 : Int) else 0) = 1 := if_pos w
      simp only [g1] at this
      omega
  · have e1 := h (fun k => if k = x i then 1 else 0)
    have e2 := zSm_two (f := fun j => if x j = x i then (1 : Int) else 0) h1 h2 (fun j _ => by
      show (0 : Int) ≤ if x j = x i then 1 else 0
      split <;> decide)
    have e3 : zSm (fun k => if k = x i then (1 : Int) else 0) n ≤ 1 := by
      rcases Nat.lt_or_ge (x i) n with w | w
      · rw [zSm_congr (g := fun k => if x i = k then (1 : Int) else 0) (fun k _ => by
          show (if k = x i then (1 : Int) else 0) = if x i = k then 1 else 0
          by_cases q : k = x i
          · rw [if_pos q, if_pos q.symm]
          · rw [if_neg q, if_neg (fun z => q z.symm)]), zSm_pick (x i) (fun _ => 1) w]
        exact Int.le_refl _
      · rw [zSm0 (fun k hk => if_neg (by omega))]
        decide
    simp only [if_true, if_pos e.symm] at e2
    omega
theorem zJ.in {σ : zSt} {f : Nat → Int32} {c : Int64} (h : zJ σ f c) : (∀ i, i < sN σ 1 → lx σ (5 + 4 * 0) i < sN σ 1) ∧ (∀ i i', i < i' → i' < sN σ 1 → lx σ (5 + 4 * 0) i ≠ lx σ (5 + 4 * 0) i') ∧ sZ σ (5 + 4 * 0) = sN σ 1 ∧ sN σ 1 ≤ 30 ∧ sN σ 2 ≤ 8 := by
  have g := perm_in h.2.2.1.1
  exact ⟨g.1, g.2, h.1.1.2.2.2.2.2.2.1, h.1.1.2.2.1.2, h.1.1.2.2.2.1.2⟩
theorem zJ.mv {σ S : zSt} {f : Nat → Int32} {c : Int64} (h : zJ σ f c) (hw : zW S) (e : zFs S σ) (hc : ∀ t, t < sN σ 2 → sI σ 19 t 0 ≠ 0 → ∀ q, 3 ≤ q → q ≤ 5 → sL S q t 0 = sL σ q t 0) (hf : zjF S) (hg : zGq S σ) : zJ S f c := by
  have hN : sN S = sN σ := e.1.1
  have r : ∀ t, zsT t → ∀ o x, sI S t o x = sI σ t o x := e.2.2.1
  have x5 : ∀ i, lx S (5 + 4 * 0) i = lx σ (5 + 4 * 0) i := zSx_lx e.1 (zQn 5 (by omega))
  obtain ⟨hin, -, -, h30, -⟩ := h.in
  obtain ⟨w, ⟨hP, hK, hT, hV, hS⟩, hL, hC, hF, hG⟩ := h
  refine ⟨hw, ⟨fun p hp => ?_, fun k hk => ?_, fun t ht => ?_, hV.of (fun q q1 q2 e => r q (by unfold zsT; omega) _ _), fun c hc => ?_⟩, ⟨fun g => ?_, fun i i' h1 h2 => ?_⟩, ⟨fun t ht => ?_, fun t ht => ?_, fun t ht hct => ?_, ?_⟩, hf, hG.mv hN hg⟩
  · rw [r 0 (by unfold zsT; omega)]
    exact hP p (by rw [← hN]; exact hp)
  · rw [hN] at hk
    rw [e.2.2.2 4 (by omega) k (by omega), e.2.2.2 6 (by omega) k (by omega)]
    exact hK k hk
  · rw [hN] at ht
    have g := hT t ht
    refine ⟨g.1.of (fun q q1 q2 => r q (by unfold zsT; omega) _ _), ?_⟩
    simp only [r 21 (by unfold zsT; omega), r 20 (by unfold zsT; omega)]
    exact g.2
  · rw [hN] at hc
    simp only [r 23 (by unfold zsT; omega), r 24 (by unfold zsT; omega), r 25 (by unfold zsT; omega)]
    exact hS c hc
  · rw [hN]
    simp only [x5]
    exact hL.1 g
  · rw [hN] at h2
    rw [x5, x5, e.2.2.2 4 (by omega) _ (by have := hin i (by omega); omega), e.2.2.2 4 (by omega) _ (by have := hin i' h2; omega)]
    exact hL.2 i i' h1 h2
  · rw [hN] at ht
    rw [r 19 (by unfold zsT; omega)]
    exact hC.1 t ht
  · exact hC.2.1 t (by rw [← hN]; exact ht)
  · rw [hN] at ht
    rw [r 19 (by unfold zsT; omega)] at hct
    rw [hc t ht hct 3 (by decide) (by decide), hc t ht hct 4 (by decide) (by decide), hc t ht hct 5 (by decide) (by decide)]
    exact hC.2.2.1 t ht hct
  · rw [hC.2.2.2, hN]
    refine zsumL_c (fun t ht => ?_)
    show (if sI σ 19 t 0 = 0 then (0 : Int64) else sL σ 3 t 0 + (sI σ 20 t 0).toInt64) = if sI S 19 t 0 = 0 then 0 else sL S 3 t 0 + (sI S 20 t 0).toInt64
    rw [r 19 (by unfold zsT; omega), r 20 (by unfold zsT; omega)]
    by_cases q : sI σ 19 t 0 = 0
    · rw [if_pos q, if_pos q]
    · rw [if_neg q, if_neg q, hc t ht q 3 (by decide) (by decide)]
/-- settled things stay settled where the first flow isn't touched -/
theorem zjF.mv {S σ : zSt} (hw : zW σ) (e : zFs S σ) (h35 : sI S 35 0 0 = sI σ 35 0 0) (hin : ∀ i, i < sN σ 1 → lx σ (5 + 4 * 0) i < sN σ 1) (hL : ∀ k, k < 30 → sL S 0 k 0 = sL σ 0 k 0 ∧ ∀ e, sL S 1 k e = sL σ 1 k e) (hV : ∀ t, t < 8 → ∀ q, 2 ≤ q → q ≤ 5 → sL S q t 0 = sL σ q t 0) (h22 : ∀ t z, t < 8 → sI S 22 t z = sI σ 22 t z) (h : zjF σ) : zjF S := fun hs => by
  rw [h35] at hs
  obtain ⟨h1, h2⟩ := h hs
  have hN : sN S = sN σ := e.1.1
  have h8 : sN σ 2 ≤ 8 := hw.1.2.2.2.1.2
  have h30 : sN σ 1 ≤ 30 := hw.1.2.2.1.2
  have hZ : sZ σ (5 + 4 * 0) = sN σ 1 := hw.1.2.2.2.2.2.2.1
  refine ⟨zFi0_mv (zSx_Z e.1 (zQn 5 (by omega))) (fun i => zSx_lx e.1 (zQn 5 (by omega)) i) (by rw [hN]) (fun i hi => by have := hin i (by omega); omega) (fun q hq t => e.2.2.1 q (by unfold zsT; omega) _ _) (fun k hk => e.2.2.2 6 (by omega) k hk 0) hL hV h8 h1, fun t z ht hz => ?_⟩
  rw [hN] at ht ⊢
  rw [h22 t z (by omega)]
  exact h2 t z ht hz
