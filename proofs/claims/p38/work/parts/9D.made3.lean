/-! the invariant is kept: a loss -/
theorem abI_ok (σ : zSt) (b k : Nat) : ∀ r m, m < r → (abI σ b k r m = 0 ∨ (sI σ 4 (lx σ (5 + 4 * b) (abI σ b k r m - 1)) 0).toInt ≤ (sI σ 4 k 0).toInt) ∧ ∀ j, abI σ b k r m ≤ j → j < m → (sI σ 4 k 0).toInt < (sI σ 4 (lx σ (5 + 4 * b) j) 0).toInt
  | 0, _, h => absurd h (Nat.not_lt_zero _)
  | r + 1, m, h => by
    unfold abI
    by_cases c0 : m = 0
    · rw [if_pos c0]
      exact ⟨Or.inl rfl, fun j _ hj => by omega⟩
    · rw [if_neg c0]
      by_cases c1 : sI σ 4 (lx σ (5 + 4 * b) (m - 1)) 0 ≤ sI σ 4 k 0
      · rw [if_pos c1]
        exact ⟨Or.inr (w_le.mp c1), fun j h1 h2 => by omega⟩
      · rw [if_neg c1]
        obtain ⟨k1, k2⟩ := abI_ok σ b k r (m - 1) (by omega)
        refine ⟨k1, fun j h1 h2 => ?_⟩
        by_cases q : j = m - 1
        · rw [q]
          have : ¬ (sI σ 4 (lx σ (5 + 4 * b) (m - 1)) 0).toInt ≤ (sI σ 4 k 0).toInt := fun z => c1 (w_le.mpr z)
          omega
        · exact k2 j h1 (by omega)
theorem zSm_ins (h : Nat → Int) (a : Int) (i : Nat) : ∀ n, i ≤ n → zSm (fun j => if j = i then a else if i < j then h (j - 1) else h j) (n + 1) = zSm h n + a
  | 0, hi => by
    have : i = 0 := by omega
    subst this
    show (0 : Int) + (if 0 = 0 then a else _) = 0 + a
    rw [if_pos rfl]
  | n + 1, hi => by
    show zSm (fun j => if j = i then a else if i < j then h (j - 1) else h j) (n + 1) + (if n + 1 = i then a else if i < n + 1 then h (n + 1 - 1) else h (n + 1)) = zSm h n + h n + a
    by_cases c : n + 1 = i
    · rw [if_pos c]
      have : zSm (fun j => if j = i then a else if i < j then h (j - 1) else h j) (n + 1) = zSm h (n + 1) := zSm_congr (fun j hj => by
        show (if j = i then a else if i < j then h (j - 1) else h j) = h j
        rw [if_neg (by omega), if_neg (by omega)])
      rw [this]
      rfl
    · rw [if_neg c, if_pos (by omega), zSm_ins h a i n (by omega), show n + 1 - 1 = n from rfl]
      omega
theorem loss_r {σ : zSt} (p : Nat) (v2 v3 v4 : Int32) (h : zW σ) (hp : p < sN σ 0) (h30 : sN σ 1 < 30) (hin : ∀ i, i < sN σ 1 → lx σ (5 + 4 * 0) i < sN σ 1) : ∃ S, ∃ i0, S = s_loss σ p v2 v3 v4 ∧ zRL S ∧ (sN S = fun q => if q = 1 then sN σ q + 1 else sN σ q) ∧ (∀ q, sZ S q = if q = 1 ∨ q = 5 then sZ σ q + 1 else sZ σ q) ∧ (∀ q, q ≠ 5 → ∀ i, lx S q i = if q = 1 ∧ i = sN σ 1 then sN σ 1 else lx σ q i) ∧ (i0 ≤ sN σ 1 ∧ (∀ j, j ≤ sN σ 1 → lx S (5 + 4 * 0) j = if j = i0 then sN σ 1 else if i0 < j then lx σ (5 + 4 * 0) (j - 1) else lx σ (5 + 4 * 0) j) ∧ (i0 = 0 ∨ (sI σ 4 (lx σ (5 + 4 * 0) (i0 - 1)) 0).toInt ≤ v2.toInt) ∧ ∀ j, i0 ≤ j → j < sN σ 1 → v2.toInt < (sI σ 4 (lx σ (5 + 4 * 0) j) 0).toInt) ∧ (∀ k, sP S k = if k = sN σ 1 then p else sP σ k) ∧
    (∀ t o e, ¬ (4 ≤ t ∧ t ≤ 7 ∧ o = sN σ 1) → ¬ (t = 35 ∧ o = 0 ∧ e = 0) → sI S t o e = sI σ t o e) ∧ (∀ t o e, ¬ (t ≤ 1 ∧ o = sN σ 1) → sL S t o e = sL σ t o e) ∧ (sI S 4 (sN σ 1) 0 = v2 ∧ sI S 6 (sN σ 1) 0 = v4 ∧ sI S 35 0 0 = 0) ∧ zGd S σ 3 23 := by
  obtain ⟨⟨r1, r2, r3, r4, r5⟩, ⟨l1, l2, l3⟩, -, -⟩ := loss_pre p v2 v3 v4 h hp h30
  have hz1 : sZ σ 1 = sN σ 1 := h.1.2.2.1.1
  have hz5 : sZ σ (5 + 4 * 0) = sN σ 1 := h.1.2.2.2.2.2.2.1
  have hI : ∀ t o e, sI (s_happen (aCLr σ p) (sN σ 1) v2 v3 v4) t o e = if t = 6 ∧ o = sN σ 1 ∧ e = 0 then v4 else if t = 5 ∧ o = sN σ 1 ∧ e = 0 then v3 else if t = 4 ∧ o = sN σ 1 ∧ e = 0 then v2 else sI (aCLr σ p) t o e := fun t o e => by
    unfold s_happen
    rw [qI_r, qI_r, qI_r]
  have gz : ∀ q, sZ (s_happen (aCLr σ p) (sN σ 1) v2 v3 v4) q = sZ σ q := fun q => (zZ_mv (s_happen_22 _ _ _ _ _) q).trans (aCLr_Z _ _ _)
  have gx : ∀ q i, lx (s_happen (aCLr σ p) (sN σ 1) v2 v3 v4) q i = lx σ q i := fun q i => rfl
  have gN : ∀ q, sN (s_happen (aCLr σ p) (sN σ 1) v2 v3 v4) q = if q = 1 then sN σ 1 + 1 else sN σ q := fun q => aCLr_N σ p q
  have gP : ∀ k, sP (s_happen (aCLr σ p) (sN σ 1) v2 v3 v4) k = sP (aCLr σ p) k := fun k => rfl
  have gL : ∀ t o e, sL (s_happen (aCLr σ p) (sN σ 1) v2 v3 v4) t o e = sL (aCLr σ p) t o e := fun t o e => rfl
  have gC : zGq (s_happen (aCLr σ p) (sN σ 1) v2 v3 v4) (aCLr σ p) := zGq.of (s_happen_22 _ _ _ _ _)
  have g1 : zGd (aCLr σ p) σ (3 : Nat) (23 : Nat) := zGd.nw rfl (aCLr_gc σ p).1 (aCLr_gc σ p).2
  have ga := (zGq.add (by decide) (r2.2 1 (by decide)) (by rw [gz]; omega) l2)
  unfold s_loss
  generalize s_happen (aCLr σ p) (sN σ 1) v2 v3 v4 = A at *
  -- the list of all
  have bI : ∀ t o e, sI (s_add A 1 (sN σ 1)) t o e = sI A t o e := fun t o e => add_I A 1 (sN σ 1) t o e
  have bL : ∀ t o e, sL (s_add A 1 (sN σ 1)) t o e = sL A t o e := fun t o e => add_L A 1 (sN σ 1) t o e
  have bZ : ∀ q, sZ (s_add A 1 (sN σ 1)) q = if q = 1 then sZ σ q + 1 else sZ σ q := fun q => by
    rw [add_Z]
    by_cases c : q = 1
    · rw [if_pos c, if_pos c, gz, c]
    · rw [if_neg c, if_neg c, gz]
  have bx : ∀ q i, lx (s_add A 1 (sN σ 1)) q i = if q = 1 ∧ i = sN σ 1 then sN σ 1 else lx σ q i := fun q i => by rw [add_lx, gz, hz1, gx]
  have bN : sN (s_add A 1 (sN σ 1)) = sN A := add_N _ _ _
  have bP : sP (s_add A 1 (sN σ 1)) = sP A := add_P _ _ _
  have b5 : sZ (s_add A 1 (sN σ 1)) (5 + 4 * 0) = sN σ 1 := by rw [bZ, if_neg (by decide)]; exact hz5
  generalize s_add A 1 (sN σ 1) = B at *
  have ab := abI_ok B 0 (sN σ 1) (sZ B (5 + 4 * 0) + 1) (sZ B (5 + 4 * 0)) (Nat.lt_succ_self _)
  have al := abI_le B 0 (sN σ 1) (sZ B (5 + 4 * 0) + 1) (sZ B (5 + 4 * 0))
  have gi := zGq.ins (x := sN σ 1) (by decide) (r3.2 (5 + 4 * 0) (by decide)) al (by rw [b5]; omega) l3
  generalize abI B 0 (sN σ 1) (sZ B (5 + 4 * 0) + 1) (sZ B (5 + 4 * 0)) = i0 at *
  have hE := s_ins_E B (5 + 4 * 0) i0 (sN σ 1) al
  have d4 : ∀ k, k < sN σ 1 → sI B 4 k 0 = sI σ 4 k 0 := fun k hk => by
    rw [bI, hI, if_neg (fun z => by omega), if_neg (fun z => by omega), if_neg (fun z => by omega), aCLr_I _ _ _ _ _ (by omega)]
  have dN : sI B 4 (sN σ 1) 0 = v2 := by rw [bI, hI, if_neg (fun z => by omega), if_neg (fun z => by omega), if_pos ⟨rfl, rfl, rfl⟩]
  have x5 : ∀ i, lx B (5 + 4 * 0) i = lx σ (5 + 4 * 0) i := fun i => by rw [bx, if_neg (fun z => by omega)]
  rw [b5] at al
  have rI : ∀ t o e, sI (uI (s_ins B (5 + 4 * 0) i0 (sN σ 1)) 35 0 0 0) t o e = if t = 35 ∧ o = 0 ∧ e = 0 then 0 else sI B t o e := fun t o e => by rw [qI_r, ins_I]
  refine ⟨_, i0, rfl, r5, ?_, ?_, ?_, ⟨al, ?_, ?_, ?_⟩, ?_, ?_, ?_, ⟨?_, ?_, ?_⟩, ?_⟩
  · show sN (s_ins B (5 + 4 * 0) i0 (sN σ 1)) = _
    rw [ins_N, bN]
    funext q
    rw [gN]
    by_cases c : q = 1
    · rw [if_pos c, if_pos c, c]
    · rw [if_neg c, if_neg c]
  · intro q
    show sZ (s_ins B (5 + 4 * 0) i0 (sN σ 1)) q = _
    rw [ins_Z]
    by_cases c : q = 5 + 4 * 0
    · rw [if_pos c, if_pos (by omega), bZ, if_neg (by decide), c]
    · rw [if_neg c, bZ]
      by_cases d : q = 1
      · rw [if_pos d, if_pos (by omega)]
      · rw [if_neg d, if_neg (by omega)]
  · intro q hq i
    show lx (s_ins B (5 + 4 * 0) i0 (sN σ 1)) q i = _
    rw [ins_lx hq, bx]
  · intro j hj
    show lx (s_ins B (5 + 4 * 0) i0 (sN σ 1)) (5 + 4 * 0) j = _
    have e1 : lx (s_ins B (5 + 4 * 0) i0 (sN σ 1)) (5 + 4 * 0) j = (sE (s_ins B (5 + 4 * 0) i0 (sN σ 1)) (5 + 4 * 0) j).getD 0 := rfl
    rw [e1, hE, b5]
    by_cases c : j = i0
    · rw [if_pos c, if_pos c]
      rfl
    · rw [if_neg c, if_neg c]
      by_cases d : i0 < j
      · rw [if_pos ⟨d, hj⟩, if_pos d]
        exact x5 _
      · rw [if_neg (fun z => d z.1), if_neg d]
        exact x5 _
  · rcases ab.1 with q | q
    · exact Or.inl q
    · rw [dN, x5] at q
      rcases Nat.eq_zero_or_pos i0 with w | w
      · exact Or.inl w
      · rw [d4 _ (hin _ (by omega))] at q
        exact Or.inr q
  · intro j h1 h2
    have := ab.2 j h1 (by rw [b5]; exact h2)
    rw [dN, x5, d4 _ (hin j h2)] at this
    exact this
  · intro k
    show sP (s_ins B (5 + 4 * 0) i0 (sN σ 1)) k = _
    rw [ins_P, bP, gP]
    by_cases c : k = sN σ 1
    · rw [if_pos c, c, aCLr_P]
    · rw [if_neg c, aCLr_Pn _ _ _ c]
  · intro t o e g1 g2
    rw [rI, if_neg g2, bI, hI, if_neg (fun z => by omega), if_neg (fun z => by omega), if_neg (fun z => by omega), aCLr_I _ _ _ _ _ (by omega)]
  · intro t o e g
    show sL (s_ins B (5 + 4 * 0) i0 (sN σ 1)) t o e = _
    rw [ins_L, bL, gL, aCLr_L _ _ _ _ _ (by omega)]
  · rw [rI, if_neg (fun z => by omega)]
    exact dN
  · rw [rI, if_neg (fun z => by omega), bI, hI, if_pos ⟨rfl, rfl, rfl⟩]
  · rw [rI, if_pos ⟨rfl, rfl, rfl⟩]
  · have gu : zGq (uI (s_ins B (5 + 4 * 0) i0 (sN σ 1)) 35 0 0 0) (s_ins B (5 + 4 * 0) i0 (sN σ 1)) := zGq.of (uI_22 _ _ _ _ _)
    have g := (gu.trans (gi.trans (ga.trans gC))).d.trans g1
    have e1 : ((3 : Nat) : Int) + 0 = 3 := by decide
    have e2 : ((23 : Nat) : Int) + 0 = 23 := by decide
    rw [e1, e2] at g
    exact g
theorem zhL_ok : zhL zJ := fun σ f c h h30' p d t v hp hd hdt ht hv hif => by
  obtain ⟨hin, hdist, hZ5, h30, h8⟩ := h.in
  obtain ⟨S, i0, eS, rl, hN, hZ, hx, ⟨hi0, hx5, hlo, hhi⟩, hP, hI, hL, ⟨v4, v6, v35⟩, hg⟩ := loss_r p (nI d) (nI t) (nI v) h.1 hp h30' hin
  rw [← eS]
  clear eS
  refine ⟨?_, hN⟩
  have n1 : sN S 1 = sN σ 1 + 1 := by rw [hN]; rfl
  have no : ∀ q, q ≠ 1 → sN S q = sN σ q := fun q q1 => by rw [hN]; exact if_neg q1
  have z1 : sZ S 1 = sZ σ 1 + 1 := hZ 1
  have z5 : sZ S 5 = sZ σ 5 + 1 := hZ 5
  have zo : ∀ q, q ≠ 1 → q ≠ 5 → sZ S q = sZ σ q := fun q q1 q2 => by rw [hZ, if_neg (by omega)]
  have xo : ∀ q, q ≠ 1 → q ≠ 5 → ∀ i, lx S q i = lx σ q i := fun q q1 q2 i => by rw [hx q q2, if_neg (fun z => q1 z.1)]
  obtain ⟨⟨w1, ⟨w20, w21⟩, ⟨w30, w31⟩, ⟨w40, w41⟩, ⟨w50, w51⟩, ⟨w60, w61⟩, w7, ⟨w80, w81⟩, ⟨w90, w91⟩⟩, ⟨e0, e1, e2, e3, e4, e6, e10, ep, ek⟩, ⟨b1, b2, b3, b4, b5⟩, ⟨d1, d2, d3, d4, d5⟩⟩ := h.1
  have I1 : ∀ t o e, ¬ (4 ≤ t ∧ t ≤ 7) → t ≠ 35 → sI S t o e = sI σ t o e := fun t o e q q2 => hI t o e (fun z => q ⟨z.1, z.2.1⟩) (fun z => q2 z.1)
  have I4 : ∀ t o e, 4 ≤ t → t ≤ 7 → o ≠ sN σ 1 → sI S t o e = sI σ t o e := fun t o e q1 q2 q3 => hI t o e (fun z => q3 z.2.2) (fun z => by omega)
  have m0 := no 0 (by decide)
  have m2 := no 2 (by decide)
  have m3 := no 3 (by decide)
  have hw : zW S := by
    refine ⟨⟨fun q hq => rl.2 q (by omega), ⟨by rw [zo 0 (by decide) (by decide), m0]; exact w20, by omega⟩, ⟨by omega, by omega⟩, ⟨by rw [zo 2 (by decide) (by decide), m2]; exact w40, by omega⟩, ⟨by rw [zo 3 (by decide) (by decide), m3]; exact w50, by omega⟩, ⟨by rw [zo 4 (by decide) (by decide), m0]; exact w60, by rw [no 4 (by decide), m0]; exact w61⟩, by omega, ⟨by rw [zo 6 (by decide) (by decide), m2]; exact w80, by rw [no 5 (by decide), m2]; exact w81⟩, ⟨by rw [zo 10 (by decide) (by decide), m2]; exact w90, by rw [no 6 (by decide), m2]; exact w91⟩⟩, ⟨fun i hi => ?_, fun i hi => ?_, fun i hi => ?_, fun i hi => ?_, fun i hi => ?_, fun i hi => ?_, fun i hi => ?_, fun i hi => ?_, fun k hk => ?_⟩, ⟨fun p hp => ?_, fun p hp => ?_, fun t ht => ?_, fun i hi => ?_, fun i hi => ?_⟩, ⟨⟨rl.2 7 (by decide), by rw [zo 7 (by decide) (by decide)]; exact d1.2⟩, rl.2 8 (by decide), ⟨rl.2 9 (by decide), by rw [zo 9 (by decide) (by decide)]; exact d3.2⟩, ⟨rl.2 11 (by decide), by rw [zo 11 (by decide) (by decide)]; exact d4.2⟩, rl.2 12 (by decide)⟩⟩
    · rw [xo 0 (by decide) (by decide)]
      exact e0 i (by omega)
    · rw [hx 1 (by decide)]
      by_cases q : i = sN σ 1
      · rw [if_pos ⟨rfl, q⟩, q]
      · rw [if_neg (fun z => q z.2)]
        exact e1 i (by omega)
    · rw [xo 2 (by decide) (by decide)]
      exact e2 i (by omega)
    · rw [xo 3 (by decide) (by decide)]
      exact e3 i (by omega)
    · rw [xo 4 (by decide) (by decide)]
      exact e4 i (by omega)
    · rw [xo 6 (by decide) (by decide)]
      exact e6 i (by omega)
    · rw [xo 10 (by decide) (by decide)]
      exact e10 i (by omega)
    · rw [hP, if_neg (by omega)]
      exact ep i (by omega)
    · rw [hP, m0]
      by_cases q : k = sN σ 1
      · rw [if_pos q]
        exact hp
      · rw [if_neg q]
        exact ek k (by omega)
    · rw [I1 0 _ _ (by decide) (by decide)]
      exact b1 p (by omega)
    · rw [I1 1 _ _ (by decide) (by decide)]
      exact b2 p (by omega)
    · have g := b3 t (by omega)
      unfold zTz at *
      rw [I1 13 _ _ (by decide) (by decide), I1 11 _ _ (by decide) (by decide), I1 10 _ _ (by decide) (by decide), I1 14 _ _ (by decide) (by decide)]
      exact g
    · rw [I1 32 _ _ (by decide) (by decide)]
      exact b4 i hi
    · rw [I1 31 _ _ (by decide) (by decide)]
      exact b5 i hi
  have o900 : (nI d).toInt = d := nI_toInt (by omega)
  refine h.new hw (fun t o e g1 g2 g3 g4 g5 => hI t o e (fun z => by have := g2 z.1 z.2.1; omega) (fun z => g5 z.1)) (fun t o e q1 q2 ho => hL t o e (fun z => by omega)) (Or.inl m2) (fun p hp q => absurd hp (by omega)) (fun k hk q => ?_) (fun t ht q => absurd ht (by omega)) (fun c hc q => absurd hc (by omega)) ⟨fun g => ?_, fun i i' g1 g2 => ?_⟩ (zjF.no v35) ?_
  · have : k = sN σ 1 := by omega
    rw [this, v4, v6, nI_toInt (by omega), nI_toInt (by omega)]
    exact ⟨by omega, by omega⟩
  · rw [n1]
    have e : zSm (fun i => g (lx S (5 + 4 * 0) i)) (sN σ 1 + 1) = zSm (fun j => if j = i0 then g (sN σ 1) else if i0 < j then g (lx σ (5 + 4 * 0) (j - 1)) else g (lx σ (5 + 4 * 0) j)) (sN σ 1 + 1) := zSm_congr (fun j hj => by
      show g (lx S (5 + 4 * 0) j) = if j = i0 then g (sN σ 1) else if i0 < j then g (lx σ (5 + 4 * 0) (j - 1)) else g (lx σ (5 + 4 * 0) j)
      rw [hx5 j (by omega)]
      by_cases c1 : j = i0
      · rw [if_pos c1, if_pos c1]
      · rw [if_neg c1, if_neg c1]
        by_cases c2 : i0 < j
        · rw [if_pos c2, if_pos c2]
        · rw [if_neg c2, if_neg c2])
    rw [e, zSm_ins (fun j => g (lx σ (5 + 4 * 0) j)) (g (sN σ 1)) i0 _ hi0, h.2.2.1.1 g]
    rfl
  · rw [n1] at g2
    have srt := h.2.2.1.2
    rw [hx5 i (by omega), hx5 i' (by omega)]
    have old : ∀ j, j < sN σ 1 → sI S 4 (lx σ (5 + 4 * 0) j) 0 = sI σ 4 (lx σ (5 + 4 * 0) j) 0 := fun j hj => I4 4 _ 0 (by decide) (by decide) (by have := hin j hj; omega)
    have lo : ∀ j, j < i0 → (sI σ 4 (lx σ (5 + 4 * 0) j) 0).toInt ≤ d := fun j hj => by
      rcases hlo with q | q
      · omega
      · by_cases w : j = i0 - 1
        · rw [w]
          omega
        · have := srt j (i0 - 1) (by omega) (by omega)
          omega
    have hi : ∀ j, i0 ≤ j → j < sN σ 1 → (d : Int) < (sI σ 4 (lx σ (5 + 4 * 0) j) 0).toInt := fun j h1 h2 => by
      have := hhi j h1 h2
      omega
    by_cases c1 : i = i0
    · rw [if_pos c1, if_neg (by omega), if_pos (by omega), v4, old _ (by omega), o900]
      have := hi (i' - 1) (by omega) (by omega)
      omega
    · rw [if_neg c1]
      by_cases c2 : i' = i0
      · rw [if_pos c2, if_neg (by omega), v4, old _ (by omega), o900]
        exact lo i (by omega)
      · rw [if_neg c2]
        by_cases c3 : i0 < i
        · rw [if_pos c3, if_pos (by omega), old _ (by omega), old _ (by omega)]
          exact srt (i - 1) (i' - 1) (by omega) (by omega)
        · rw [if_neg c3]
          by_cases c4 : i0 < i'
          · rw [if_pos c4, old _ (by omega), old _ (by omega)]
            have g1 := lo i (by omega)
            have g2 := hi (i' - 1) (by omega) (by omega)
            omega
          · rw [if_neg c4, old _ (by omega), old _ (by omega)]
            exact srt i i' g1 (by omega)
  · have g := h.2.2.2.2.2
    unfold zjG at *
    unfold zGd at hg
    omega
