/-! losses of which something is taken together -/
theorem sg_ones {r : Int} (h0 : 0 ≤ r) : ∀ n : Nat, zSm (fun y => if (y : Int) < r then 1 else 0) n = min r n
  | 0 => by
    show (0 : Int) = min r ((0 : Nat) : Int)
    omega
  | n + 1 => by
    show zSm (fun y => if (y : Int) < r then 1 else 0) n + (if (n : Int) < r then 1 else 0) = _
    rw [sg_ones h0 n]
    split <;> omega
theorem sg_fl {am S : Int} {l : Nat → Int} (hS : 0 < S) : ∀ n : Nat, zSm (fun y => am * l y / S) n * S ≤ am * zSm l n ∧ am * zSm l n ≤ (zSm (fun y => am * l y / S) n + n) * S
  | 0 => by
    show (0 : Int) * S ≤ am * 0 ∧ am * 0 ≤ (0 + ((0 : Nat) : Int)) * S
    constructor <;> simp
  | n + 1 => by
    obtain ⟨h1, h2⟩ := sg_fl (am := am) (l := l) hS n
    have h3 := Int.ediv_mul_le (am * l n) (show S ≠ 0 by omega)
    have h4 := Int.lt_ediv_add_one_mul_self (am * l n) hS
    show (zSm (fun y => am * l y / S) n + am * l n / S) * S ≤ am * (zSm l n + l n) ∧ am * (zSm l n + l n) ≤ (zSm (fun y => am * l y / S) n + am * l n / S + ((n + 1 : Nat) : Int)) * S
    have e1 : (zSm (fun y => am * l y / S) n + am * l n / S) * S = zSm (fun y => am * l y / S) n * S + am * l n / S * S := Int.add_mul ..
    have e2 : am * (zSm l n + l n) = am * zSm l n + am * l n := Int.mul_add ..
    have e3 : (zSm (fun y => am * l y / S) n + am * l n / S + ((n + 1 : Nat) : Int)) * S = (zSm (fun y => am * l y / S) n + n) * S + (am * l n / S + 1) * S := by
      rw [← Int.add_mul]
      congr 1
      omega
    rw [e1, e2, e3]
    omega
theorem sg_rest {am S : Int} {l : Nat → Int} {n : Nat} (hS : 0 < S) (e : zSm l n = S) : zSm (fun y => am * l y / S) n ≤ am ∧ am ≤ zSm (fun y => am * l y / S) n + n := by
  obtain ⟨h1, h2⟩ := sg_fl (am := am) (l := l) hS n
  rw [e] at h1 h2
  exact ⟨Int.le_of_mul_le_mul_right h1 hS, Int.le_of_mul_le_mul_right h2 hS⟩
/-- the group is a part of the flow's losses, in their order -/
def zGr (b : Nat) (σ : zSt) : Prop := ∃ g : Nat → Nat, (∀ y, y < sZ σ (8 + 4 * b) → g y < sZ σ (5 + 4 * b) ∧ lx σ (8 + 4 * b) y = lx σ (5 + 4 * b) (g y)) ∧ ∀ y y', y < y' → y' < sZ σ (8 + 4 * b) → g y < g y'
theorem inc_le {g : Nat → Nat} {n m : Nat} (h1 : ∀ y, y < n → g y < m) (h2 : ∀ y y', y < y' → y' < n → g y < g y') : n ≤ m := by
  have h : ∀ y, y < n → y ≤ g y := by
    intro y
    induction y with
    | zero => intro _; exact Nat.zero_le _
    | succ y ih =>
      intro hy
      have := ih (by omega)
      have := h2 y (y + 1) (by omega) hy
      omega
  rcases Nat.eq_zero_or_pos n with e | e
  · omega
  · have := h (n - 1) (by omega)
    have := h1 (n - 1) (by omega)
    omega
theorem zsubL_int {a : Int64} {f : Nat → Int64} : ∀ {n : Nat}, (∀ i, i < n → 0 ≤ (f i).toInt ∧ (f i).toInt ≤ 1000000000) → (0 ≤ a.toInt ∧ a.toInt ≤ 1000000000) → n ≤ 100 → (zsubL a f n).toInt = a.toInt - zSm (fun i => (f i).toInt) n
  | 0, _, _, _ => (Int.sub_zero _).symm
  | n + 1, h, ha, hn => by
    have ih := zsubL_int (n := n) (fun i hi => h i (by omega)) ha (by omega)
    have h0 := zSm_nn (f := fun i => (f i).toInt) (n := n) (fun i hi => (h i (by omega)).1)
    have h1 := zSm_ub (f := fun i => (f i).toInt) (n := n) (c := 1000000000) (fun i hi => (h i (by omega)).2)
    have h2 := h n (by omega)
    show (zsubL a f n - f n).toInt = a.toInt - (zSm (fun i => (f i).toInt) n + (f n).toInt)
    rw [l_sub (by omega) (by omega), ih]
    omega
/-- the parts that each of the group gives -/
theorem sgI_ok {b t : Nat} {σ : zSt} (hq : zQf b σ) (h : zFi b σ) (hg : zGr b σ) (ht : t < sN σ 2) (hc : sI σ 19 t 0 = 0) {am rs sm : Int64} {p : Nat → Int}
    (hp0 : ∀ y, y < sZ σ (8 + 4 * b) → 0 ≤ p y ∧ p y ≤ (sL σ 0 (lx σ (8 + 4 * b) y) 0).toInt) (hpe : ∀ y, y < sZ σ (8 + 4 * b) → (am * sL σ 0 (lx σ (8 + 4 * b) y) 0 / sm + (if (nI y).toInt64 < rs then (1 : Int32).toInt64 else (0 : Int32).toInt64)).toInt = p y) (hpl : zSm p (sZ σ (8 + 4 * b)) ≤ (sL σ 2 (8 * b + t) 0).toInt) :
    ∀ i, i ≤ sZ σ (8 + 4 * b) → zQf b (sgI σ b (8 * b + t) am rs sm i) ∧ zFi b (sgI σ b (8 * b + t) am rs sm i) ∧ (∀ k, (∀ y, y < i → k ≠ lx σ (8 + 4 * b) y) → sL (sgI σ b (8 * b + t) am rs sm i) 0 k 0 = sL σ 0 k 0) ∧
      (sL (sgI σ b (8 * b + t) am rs sm i) 2 (8 * b + t) 0).toInt = (sL σ 2 (8 * b + t) 0).toInt - zSm p i ∧ (sL (sgI σ b (8 * b + t) am rs sm i) 3 (8 * b + t) 0).toInt = (sL σ 3 (8 * b + t) 0).toInt + zSm p i ∧ ∀ q o e, q ≠ 0 → q ≠ 1 → q ≠ 2 → q ≠ 3 → sL (sgI σ b (8 * b + t) am rs sm i) q o e = sL σ q o e
  | 0, _ => ⟨hq, h, fun _ _ => rfl, (Int.sub_zero _).symm, (Int.add_zero _).symm, fun _ _ _ _ _ _ _ => rfl⟩
  | i + 1, hi => by
    obtain ⟨q1, f1, k1, l1, t1, o1⟩ := sgI_ok hq h hg ht hc hp0 hpe hpl i (by omega)
    obtain ⟨g, hg1, hg2⟩ := hg
    have e1 := sgI_1 σ b (8 * b + t) am rs sm i
    have e2 := sgI_22 σ b (8 * b + t) am rs sm i
    have hin : i < sZ σ (8 + 4 * b) := by omega
    have hgi := hg1 i hin
    have hk : sL (sgI σ b (8 * b + t) am rs sm i) 0 (lx σ (8 + 4 * b) i) 0 = sL σ 0 (lx σ (8 + 4 * b) i) 0 := k1 _ (fun y hy => by
      rw [hgi.2, (hg1 y (by omega)).2]
      exact fun z => hq.2.2.1 (g y) (g i) (hg2 y i hy hin) hgi.1 z.symm)
    have hdef : sgI σ b (8 * b + t) am rs sm (i + 1) = s_takeFrom (sgI σ b (8 * b + t) am rs sm i) (8 * b + t) (lx σ (8 + 4 * b) i) (am * sL σ 0 (lx σ (8 + 4 * b) i) 0 / sm + (if (nI i).toInt64 < rs then (1 : Int32).toInt64 else (0 : Int32).toInt64)) := by
      show (if (nI i).toInt64 < rs then _ else _) = _
      rw [hk]
      split <;> rfl
    have hp := hpe i hin
    have hp1 := hp0 i hin
    have hsum : zSm p (i + 1) ≤ zSm p (sZ σ (8 + 4 * b)) := by
      have : ∀ m, zSm p (i + 1) ≤ zSm p (i + 1 + m) ∨ sZ σ (8 + 4 * b) < i + 1 + m := by
        intro m
        induction m with
        | zero => exact Or.inl (Int.le_refl _)
        | succ m ih =>
          rcases ih with ih | ih
          · by_cases c : i + 1 + m < sZ σ (8 + 4 * b)
            · refine Or.inl ?_
              have := (hp0 _ c).1
              show _ ≤ zSm p (i + 1 + m) + p (i + 1 + m)
              omega
            · exact Or.inr (by omega)
          · exact Or.inr (by omega)
      have := this (sZ σ (8 + 4 * b) - (i + 1))
      rw [show i + 1 + (sZ σ (8 + 4 * b) - (i + 1)) = sZ σ (8 + 4 * b) by omega] at this
      omega
    have hss : zSm p (i + 1) = zSm p i + p i := rfl
    generalize (am * sL σ 0 (lx σ (8 + 4 * b) i) 0 / sm + (if (nI i).toInt64 < rs then (1 : Int32).toInt64 else (0 : Int32).toInt64)) = A at hdef hp
    rw [hdef]
    generalize sgI σ b (8 * b + t) am rs sm i = S at *
    have ex : ∀ q i, lx S q i = lx σ q i := fun q i => by unfold lx; rw [show sE S = sE σ from congrArg (fun z => z.1) e2]
    have eZ : sZ S = sZ σ := congrArg (fun z => z.2.1) e2
    have eN : sN S = sN σ := congrArg (fun z => z.2.2.2.2.1) e2
    have eI : sI S = sI σ := e1
    have tS : t < sN S 2 := by rw [eN]; exact ht
    have cS : sI S 19 t 0 = 0 := by rw [eI]; exact hc
    have hF2 := (f1.2.1 t tS cS).1
    have hv := q1.2.2.2.2.2 t tS
    have hwl := (wl_int hv).2.2
    have ht8 : t < 8 := Nat.lt_of_lt_of_le ht hq.1.2.1
    have hm8 : (8 * b + t) % 8 = t := by omega
    unfold zF2 at hF2
    rw [hm8] at hF2
    have hgS : g i < sZ S (5 + 4 * b) := by rw [eZ]; exact hgi.1
    have hxx : lx σ (8 + 4 * b) i = lx S (5 + 4 * b) (g i) := by rw [ex]; exact hgi.2
    have tk := take_ok q1 f1 (i := g i) (x := A) hgS tS cS (by omega) (by rw [← hxx, hk]; omega) (by omega)
    rw [← hxx] at tk
    refine ⟨q1.fr (fr_1 (take_I _ _ _ _) (take_2 _ _ _ _)), tk, fun k hk' => ?_, ?_, ?_, fun q o e h0 h1 h2 h3 => ?_⟩
    · rw [take_L, if_neg (fun q => by omega), if_neg (fun q => by omega), if_neg (fun q => by omega), if_neg (fun q => hk' i (Nat.lt_succ_self _) q.2.1)]
      exact k1 k (fun y hy => hk' y (by omega))
    · rw [take_L, if_neg (fun q => by omega), if_pos ⟨rfl, rfl, rfl⟩, l_sub (by omega) (by omega)]
      omega
    · rw [take_L, if_pos ⟨rfl, rfl, rfl⟩, l_add (by omega) (by omega)]
      omega
    · rw [take_L, if_neg (fun z => h3 z.1), if_neg (fun z => h2 z.1), if_neg (fun z => h1 z.1), if_neg (fun z => h0 z.1)]
      exact o1 q o e h0 h1 h2 h3
theorem serveGroup_2 (σ : zSt) (b j : Nat) : (s_serveGroup σ b j).2.2 = σ.2.2 := by
  unfold s_serveGroup
  split
  · exact sgI_22 _ _ _ _ _ _ _
  · rfl
/-- what is taken from a group -/
theorem grp_ok {b t : Nat} {σ : zSt} (hq : zQf b σ) (h : zFi b σ) (hg : zGr b σ) (hl : ∀ y, y < sZ σ (8 + 4 * b) → 0 < (sL σ 0 (lx σ (8 + 4 * b) y) 0).toInt) (ht : t < sN σ 2) (hc : sI σ 19 t 0 = 0) :
    zQf b (s_serveGroup σ b (8 * b + t)) ∧ zFi b (s_serveGroup σ b (8 * b + t)) ∧ (∀ k, (∀ y, y < sZ σ (8 + 4 * b) → k ≠ lx σ (8 + 4 * b) y) → sL (s_serveGroup σ b (8 * b + t)) 0 k 0 = sL σ 0 k 0) ∧
      0 ≤ (v_serveGroup σ b (8 * b + t)).toInt ∧ (sL (s_serveGroup σ b (8 * b + t)) 4 (8 * b + t) 0).toInt + (v_serveGroup σ b (8 * b + t)).toInt ≤ (sL (s_serveGroup σ b (8 * b + t)) 3 (8 * b + t) 0).toInt ∧ ∀ q o e, q ≠ 0 → q ≠ 1 → q ≠ 2 → q ≠ 3 → sL (s_serveGroup σ b (8 * b + t)) q o e = sL σ q o e := by
  have hgg := hg
  obtain ⟨g, hg1, hg2⟩ := hgg
  have hn30 : sZ σ (8 + 4 * b) ≤ 30 := Nat.le_trans (inc_le (fun y hy => (hg1 y hy).1) hg2) hq.2.1
  have hlb : ∀ y, y < sZ σ (8 + 4 * b) → (sL σ 0 (lx σ (8 + 4 * b) y) 0).toInt ≤ 1000000 := fun y hy => by
    rw [(hg1 y hy).2]
    exact ((h.1 _ (hg1 y hy).1).b (hq.2.2.2.2.1 _ (hg1 y hy).1).2.1.2).1
  have ht8 : t < 8 := Nat.lt_of_lt_of_le ht hq.1.2.1
  have hm8 : (8 * b + t) % 8 = t := by omega
  have hF2 := (h.2.1 t ht hc).1
  have hv := hq.2.2.2.2.2 t ht
  have hwl := (wl_int hv).2.2
  unfold zF2 at hF2
  rw [hm8] at hF2
  have hs64 := zsumL_int (f := fun y => sL σ 0 (lx σ (8 + 4 * b) y) 0) (M := 1000000) (n := sZ σ (8 + 4 * b)) (by decide) (fun y hy => ⟨by have := hl y hy; omega, hlb y hy⟩) (by omega)
  have hs0 := zSm_nn (f := fun y => (sL σ 0 (lx σ (8 + 4 * b) y) 0).toInt) (n := sZ σ (8 + 4 * b)) (fun y hy => by have := hl y hy; omega)
  have hs1 := zSm_ub (f := fun y => (sL σ 0 (lx σ (8 + 4 * b) y) 0).toInt) (n := sZ σ (8 + 4 * b)) (c := 1000000) hlb
  unfold s_serveGroup v_serveGroup
  rw [hm8]
  by_cases c : 0 < zsumL (fun y => sL σ 0 (lx σ (8 + 4 * b) y) 0) (sZ σ (8 + 4 * b))
  · rw [if_pos c, if_pos c]
    have c' := l_lt.mp c
    rw [l_0, hs64] at c'
    have hla := layer_int hv (x := zsumL (fun y => sL σ 0 (lx σ (8 + 4 * b) y) 0) (sZ σ (8 + 4 * b))) (by omega) (by omega)
    rw [hs64] at hla
    have hmn := l_mn (v_layerOf σ t (zsumL (fun y => sL σ 0 (lx σ (8 + 4 * b) y) 0) (sZ σ (8 + 4 * b)))) (sL σ 2 (8 * b + t) 0)
    generalize zmnl (v_layerOf σ t (zsumL (fun y => sL σ 0 (lx σ (8 + 4 * b) y) 0) (sZ σ (8 + 4 * b)))) (sL σ 2 (8 * b + t) 0) = am at hmn ⊢
    generalize zsumL (fun y => sL σ 0 (lx σ (8 + 4 * b) y) 0) (sZ σ (8 + 4 * b)) = sm at hs64 hla hmn ⊢
    have hv12 := hv.2.1
    have hv13 := hv.2.2.1
    have ham : 0 ≤ am.toInt ∧ am.toInt ≤ sm.toInt ∧ am.toInt ≤ 1000000 ∧ am.toInt ≤ (sL σ 2 (8 * b + t) 0).toInt := by omega
    have hfe : ∀ y, y < sZ σ (8 + 4 * b) → (am * sL σ 0 (lx σ (8 + 4 * b) y) 0 / sm).toInt = am.toInt * (sL σ 0 (lx σ (8 + 4 * b) y) 0).toInt / sm.toInt ∧ 0 ≤ am.toInt * (sL σ 0 (lx σ (8 + 4 * b) y) 0).toInt / sm.toInt ∧ am.toInt * (sL σ 0 (lx σ (8 + 4 * b) y) 0).toInt / sm.toInt ≤ (sL σ 0 (lx σ (8 + 4 * b) y) 0).toInt := fun y hy => by
      have a0 := hl y hy
      have a1 := hlb y hy
      have m0 : 0 ≤ am.toInt * (sL σ 0 (lx σ (8 + 4 * b) y) 0).toInt := Int.mul_nonneg ham.1 (by omega)
      have m1 : am.toInt * (sL σ 0 (lx σ (8 + 4 * b) y) 0).toInt ≤ 1000000 * 1000000 := Int.mul_le_mul ham.2.2.1 a1 (by omega) (by decide)
      have e1 : (am * sL σ 0 (lx σ (8 + 4 * b) y) 0).toInt = am.toInt * (sL σ 0 (lx σ (8 + 4 * b) y) 0).toInt := l_mul (by omega) (by omega)
      refine ⟨?_, Int.ediv_nonneg m0 (by omega), ?_⟩
      · rw [l_div (by rw [e1]; exact m0) (by omega), e1]
      · refine Int.ediv_le_of_le_mul (by omega) ?_
        rw [Int.mul_comm]
        exact Int.mul_le_mul_of_nonneg_left ham.2.1 (by omega)
    have hrest := sg_rest (am := am.toInt) (S := sm.toInt) (l := fun y => (sL σ 0 (lx σ (8 + 4 * b) y) 0).toInt) (n := sZ σ (8 + 4 * b)) (by omega) hs64.symm
    have hzs := zsubL_int (a := am) (f := fun y => am * sL σ 0 (lx σ (8 + 4 * b) y) 0 / sm) (n := sZ σ (8 + 4 * b)) (fun y hy => by rw [(hfe y hy).1]; have := (hfe y hy).2; have := hlb y hy; omega) (by omega) (by omega)
    rw [zSm_congr (f := fun y => (am * sL σ 0 (lx σ (8 + 4 * b) y) 0 / sm).toInt) (fun y hy => (hfe y hy).1)] at hzs
    generalize zsubL am (fun y => am * sL σ 0 (lx σ (8 + 4 * b) y) 0 / sm) (sZ σ (8 + 4 * b)) = rs at hzs ⊢
    have hsum : zSm (fun y => am.toInt * (sL σ 0 (lx σ (8 + 4 * b) y) 0).toInt / sm.toInt + (if (y : Int) < rs.toInt then 1 else 0)) (sZ σ (8 + 4 * b)) = am.toInt := by
      rw [zSm_add, sg_ones (by omega)]
      omega
    have key := sgI_ok hq h hg ht hc (am := am) (rs := rs) (sm := sm) (p := fun y => am.toInt * (sL σ 0 (lx σ (8 + 4 * b) y) 0).toInt / sm.toInt + (if (y : Int) < rs.toInt then 1 else 0)) (fun y hy => by
      have g1 := hfe y hy
      have g2 := hl y hy
      show 0 ≤ am.toInt * (sL σ 0 (lx σ (8 + 4 * b) y) 0).toInt / sm.toInt + (if (y : Int) < rs.toInt then 1 else 0) ∧ am.toInt * (sL σ 0 (lx σ (8 + 4 * b) y) 0).toInt / sm.toInt + (if (y : Int) < rs.toInt then 1 else 0) ≤ _
      by_cases cy : (y : Int) < rs.toInt
      · rw [if_pos cy]
        by_cases ce : am.toInt = sm.toInt
        · exfalso
          have : zSm (fun y => am.toInt * (sL σ 0 (lx σ (8 + 4 * b) y) 0).toInt / sm.toInt) (sZ σ (8 + 4 * b)) = zSm (fun y => (sL σ 0 (lx σ (8 + 4 * b) y) 0).toInt) (sZ σ (8 + 4 * b)) := zSm_congr (fun z hz => by
            rw [ce, Int.mul_ediv_cancel_left _ (by omega)])
          omega
        · have lt : am.toInt * (sL σ 0 (lx σ (8 + 4 * b) y) 0).toInt / sm.toInt < (sL σ 0 (lx σ (8 + 4 * b) y) 0).toInt := by
            refine Int.ediv_lt_of_lt_mul (by omega) ?_
            rw [Int.mul_comm]
            exact Int.mul_lt_mul_of_pos_left (by omega) g2
          omega
      · rw [if_neg cy]
        omega) (fun y hy => by
      have g1 := hfe y hy
      have g2 := hlb y hy
      show _ = am.toInt * (sL σ 0 (lx σ (8 + 4 * b) y) 0).toInt / sm.toInt + (if (y : Int) < rs.toInt then 1 else 0)
      have hy2 : (nI y).toInt64.toInt = (y : Int) := by rw [l_of, nI_toInt (by omega)]
      have o1 : (1 : Int32).toInt64.toInt = 1 := rfl
      have o0 : (0 : Int32).toInt64.toInt = 0 := rfl
      by_cases cy : (y : Int) < rs.toInt
      · rw [if_pos cy, if_pos (l_lt.mpr (by rw [hy2]; exact cy)), l_add (by omega) (by omega), g1.1, o1]
      · rw [if_neg cy, if_neg (fun q => cy (by have := l_lt.mp q; rw [hy2] at this; exact this)), l_add (by omega) (by omega), g1.1, o0]) (by rw [hsum]; exact ham.2.2.2) (sZ σ (8 + 4 * b)) (Nat.le_refl _)
    obtain ⟨k1, k2, k3, k4, k5, k6⟩ := key
    rw [hsum] at k5
    refine ⟨k1, k2, k3, ham.1, ?_, k6⟩
    rw [k5, k6 4 _ _ (by decide) (by decide) (by decide) (by decide)]
    omega
  · rw [if_neg c, if_neg c]
    refine ⟨hq, h, fun _ _ => rfl, Int.le_refl _, ?_, fun _ _ _ _ _ _ _ => rfl⟩
    rw [l_0]
    omega
