/-! what the law finds kept, in full -/
theorem zsumL_add (f g : Nat → Int64) : ∀ n : Nat, zsumL (fun i => f i + g i) n = zsumL f n + zsumL g n
  | 0 => (Int64.add_zero (0 : Int64)).symm
  | n + 1 => by
    show zsumL (fun i => f i + g i) n + (f n + g n) = zsumL f n + f n + (zsumL g n + g n)
    rw [zsumL_add f g n]
    ac_rfl
theorem zsumL_sub (f g : Nat → Int64) : ∀ n : Nat, zsumL (fun i => f i - g i) n = zsumL f n - zsumL g n
  | 0 => (Int64.sub_zero (0 : Int64)).symm
  | n + 1 => by
    show zsumL (fun i => f i - g i) n + (f n - g n) = zsumL f n + f n - (zsumL g n + g n)
    rw [zsumL_sub f g n]
    simp only [Int64.sub_eq_add_neg, Int64.neg_add]
    ac_rfl
theorem l_nn {x : Int64} (h : 0 ≤ x.toInt) : ¬ x < 0 := fun q => by
  have := l_lt.mp q
  rw [l_0] at this
  omega
section ZKQ
variable {τ : zSt} {f : Nat → Int32} {c : Int64}
theorem al_int (h : zJ τ f c) (hs : sI τ 35 0 0 ≠ 0) : v_allLeft τ 0 = kL τ (sN τ 1) ∧ 0 ≤ (v_allLeft τ 0).toInt ∧ (v_allLeft τ 0).toInt ≤ 30000000 := by
  obtain ⟨hin, hd, hZ, h30, h8⟩ := h.in
  have g := zsumL_nn (f := fun y => sL τ 0 (lx τ (5 + 4 * 0) y) 0) (n := sZ τ (5 + 4 * 0)) (M := 1000000) (by decide) (fun i hi => (h.one hs (hin i (by rw [← hZ]; exact hi))).1) (by rw [hZ]; omega)
  have e1 : v_allLeft τ 0 = zsumL (fun y => sL τ 0 (lx τ (5 + 4 * 0) y) 0) (sZ τ (5 + 4 * 0)) := rfl
  have g2 := zsumL_nn (f := fun k => sL τ 0 k 0) (n := sN τ 1) (M := 1000000) (by decide) (fun i hi => (h.one hs hi).1) (by omega)
  rw [← e1, hZ] at g
  have e2 : zSm (fun i => (sL τ 0 (lx τ (5 + 4 * 0) i) 0).toInt) (sN τ 1) = zSm (fun k => (sL τ 0 k 0).toInt) (sN τ 1) := h.2.2.1.1 (fun k => (sL τ 0 k 0).toInt)
  have e3 : (v_allLeft τ 0).toInt = zSm (fun k => (sL τ 0 k 0).toInt) (sN τ 1) := g.1.trans e2
  refine ⟨l_eq.mpr ?_, g.2.1, by have := g.2.2; omega⟩
  rw [kL_z, e3]
  exact g2.1.symm
theorem whole_kept (h : zJ τ f c) (hs : sI τ 35 0 0 ≠ 0) : kA τ (sN τ 2) (sN τ 1) = v_allLosses τ := by
  obtain ⟨hin, hd, hZ, h30, h8⟩ := h.in
  have hz1 : sZ τ 1 = sN τ 1 := h.1.1.2.2.1.1
  show _ = zsumL (fun y => (sI τ 6 (lx τ 1 y) 0).toInt64) (sZ τ 1)
  rw [kA_z, hz1]
  refine zsumL_c (fun k hk => ?_)
  have g := h.one hs hk
  have g2 := zsumL_nn (f := fun t => sL τ 1 k t) (n := sN τ 2) (M := 1000000) (by decide) (fun t ht => g.2.1 t (by omega)) (by omega)
  have e : lx τ 1 k = k := h.1.2.1.2.1 k hk
  show sL τ 0 k 0 + zsumL (fun t => sL τ 1 k t) (sN τ 2) = (sI τ 6 (lx τ 1 k) 0).toInt64
  rw [e]
  refine l_eq.mpr ?_
  have b := g2.2
  have b1 := g.1
  rw [l_add (by omega) (by omega), l_of, g2.1]
  exact g.2.2.1
theorem parts_le (h : zJ τ f c) (hs : sI τ 35 0 0 ≠ 0) {t : Nat} (ht : t < sN τ 2) : zSm (fun r => (v_partOf τ 0 t r).toInt) 5 ≤ (kU τ t (sN τ 1)).toInt := by
  obtain ⟨hin, hd, hZ, h30, h8⟩ := h.in
  have g := (h.2.1.2.2.1 t ht).2.1
  rw [(kU_int h hs ht).1, zSm_congr (g := fun r => zSm (fun k => (sL τ 1 k t).toInt * (sI τ 21 t r).toInt / 100) (sN τ 1)) (fun r hr => (pt_int h hs ht hr).1), zSm_swap (fun r k => (sL τ 1 k t).toInt * (sI τ 21 t r).toInt / 100) (sN τ 1)]
  exact zSm_le (fun k hk => part_le (a := (sL τ 1 k t).toInt) (s := fun r => (sI τ 21 t r).toInt) ((h.one hs hk).2.1 t (by omega)).1 g.1 g.2)
theorem kS_int (h : zJ τ f c) (hs : sI τ 35 0 0 ≠ 0) : ¬ kS τ (sN τ 1) (sN τ 2) < kZ τ 5 := by
  obtain ⟨hin, hd, hZ, h30, h8⟩ := h.in
  have g := zsumL_nn (f := fun t => kU τ t (sN τ 1)) (n := sN τ 2) (M := 30000000) (by decide) (fun t ht => (kU_int h hs ht).2.1) (by omega)
  rw [← kS_z] at g
  have zl : ∀ r, r < 5 → (0 ≤ (zls τ r).toInt ∧ (zls τ r).toInt ≤ 240000000) ∧ (zls τ r).toInt ≤ (v_allPartsOf τ 0 r).toInt := fun r hr => by
    have a := ap_int h hs hr
    unfold zls
    split
    · rw [l_0]
      exact ⟨⟨by decide, by decide⟩, a.2.1⟩
    · exact ⟨a.2, Int.le_refl _⟩
  have g2 := zsumL_nn (f := zls τ) (n := 5) (M := 240000000) (by decide) (fun r hr => (zl r hr).1) (by decide)
  rw [← kZ_z] at g2
  have e1 : (kS τ (sN τ 1) (sN τ 2)).toInt = zSm (fun t => (kU τ t (sN τ 1)).toInt) (sN τ 2) := g.1
  have e2 : (kZ τ 5).toInt = zSm (fun r => (zls τ r).toInt) 5 := g2.1
  intro q
  have q2 := l_lt.mp q
  rw [e1, e2] at q2
  have s1 : zSm (fun r => (zls τ r).toInt) 5 ≤ zSm (fun r => zSm (fun t => (v_partOf τ 0 t r).toInt) (sN τ 2)) 5 := zSm_le (fun r hr => by
    show (zls τ r).toInt ≤ zSm (fun t => (v_partOf τ 0 t r).toInt) (sN τ 2)
    rw [← (ap_int h hs hr).1]
    exact (zl r hr).2)
  rw [zSm_swap (fun r t => (v_partOf τ 0 t r).toInt) (sN τ 2)] at s1
  have s2 : zSm (fun t => zSm (fun r => (v_partOf τ 0 t r).toInt) 5) (sN τ 2) ≤ zSm (fun t => (kU τ t (sN τ 1)).toInt) (sN τ 2) := zSm_le (fun t ht => parts_le h hs ht)
  exact absurd q2 (Int.not_lt.mpr (Int.le_trans s1 s2))
theorem stays_paid (h : zJ τ f c) (hs : sI τ 35 0 0 ≠ 0) : kY τ 5 = kP τ (sN τ 2) := by
  obtain ⟨p1, p2, -, -⟩ := pool_ok h hs
  have g := zsumL_nn (f := zsy τ) (n := 5) (M := 1000000000000) (by decide) (fun r hr => by have := p1 r hr; omega) (by decide)
  refine l_eq.mpr ?_
  rw [kY_z, (own_int h hs).1]
  exact g.1.trans p2
theorem own_eq (h : zJ τ f c) (hs : sI τ 35 0 0 ≠ 0) : (zsumL (fun r => if sI τ 31 0 r = 0 then v_allPartsOf τ 0 r else 0) 5).toInt = zSm (ownQ τ) 5 ∧ 0 ≤ (zsumL (fun r => if sI τ 31 0 r = 0 then v_allPartsOf τ 0 r else 0) 5).toInt ∧ (zsumL (fun r => if sI τ 31 0 r = 0 then v_allPartsOf τ 0 r else 0) 5).toInt ≤ 1200000000 := by
  have g := zsumL_nn (f := fun r => if sI τ 31 0 r = 0 then v_allPartsOf τ 0 r else 0) (n := 5) (M := 240000000) (by decide) (fun r hr => by
    have a := ap_int h hs hr
    show 0 ≤ (if sI τ 31 0 r = 0 then v_allPartsOf τ 0 r else 0).toInt ∧ (if sI τ 31 0 r = 0 then v_allPartsOf τ 0 r else 0).toInt ≤ 240000000
    by_cases q : sI τ 31 0 r = 0
    · rw [if_pos q]
      exact a.2
    · rw [if_neg q, l_0]
      exact ⟨by decide, by decide⟩) (by decide)
  refine ⟨?_, g.2.1, g.2.2⟩
  rw [g.1]
  refine zSm_congr (fun r hr => ?_)
  show (if sI τ 31 0 r = 0 then v_allPartsOf τ 0 r else 0).toInt = ownQ τ r
  unfold ownQ
  by_cases q : sI τ 31 0 r = 0
  · rw [if_pos q, if_pos q]
  · rw [if_neg q, if_neg q, l_0]
theorem znet_f (h : zJ τ f c) (hs : sI τ 35 0 0 ≠ 0) : znet τ = v_allLeft τ 0 + zsumL (fun t => if sI τ 19 t 0 = 0 then sL τ 5 t 0 + sL τ 3 t 0 else sL τ 5 t 0 - (sL τ 3 t 0 + (sI τ 20 t 0).toInt64)) (sN τ 2) - zsumL (fun r => if sI τ 31 0 r = 0 then v_allPartsOf τ 0 r else 0) 5 := by
  obtain ⟨hin, hd, hZ, h30, h8⟩ := h.in
  have hZ6 : sZ τ 6 = sN τ 2 := h.1.1.2.2.2.2.2.2.2.1.1
  have hx6 : ∀ i, i < sN τ 2 → lx τ 6 i = i := h.1.2.1.2.2.2.2.2.1
  unfold znet
  rw [nr_z, hZ6, nt_z _ _ hx6 h8]
theorem net_kept (h : zJ τ f c) (hs : sI τ 35 0 0 ≠ 0) : znet τ = kL τ (sN τ 1) + kS τ (sN τ 1) (sN τ 2) - kP τ (sN τ 2) + kO τ (sN τ 2) - c := by
  rw [znet_f h hs, (al_int h hs).1]
  have e1 : zsumL (fun r => if sI τ 31 0 r = 0 then v_allPartsOf τ 0 r else 0) 5 = kP τ (sN τ 2) := l_eq.mpr ((own_eq h hs).1.trans (own_int h hs).1.symm)
  have hc := h.2.2.2.1.2.2.2
  have e2 : zsumL (fun t => if sI τ 19 t 0 = 0 then sL τ 5 t 0 + sL τ 3 t 0 else sL τ 5 t 0 - (sL τ 3 t 0 + (sI τ 20 t 0).toInt64)) (sN τ 2) = kS τ (sN τ 1) (sN τ 2) + kO τ (sN τ 2) - zsumL (fun t => if sI τ 19 t 0 = 0 then 0 else sL τ 3 t 0 + (sI τ 20 t 0).toInt64) (sN τ 2) := by
    rw [kS_z, kO_z, ← zsumL_add, ← zsumL_sub]
    refine zsumL_c (fun t ht => ?_)
    show (if sI τ 19 t 0 = 0 then sL τ 5 t 0 + sL τ 3 t 0 else sL τ 5 t 0 - (sL τ 3 t 0 + (sI τ 20 t 0).toInt64)) = kU τ t (sN τ 1) + sL τ 5 t 0 - (if sI τ 19 t 0 = 0 then 0 else sL τ 3 t 0 + (sI τ 20 t 0).toInt64)
    have u := kU_int h hs ht
    by_cases q : sI τ 19 t 0 = 0
    · have e : kU τ t (sN τ 1) = sL τ 3 t 0 := l_eq.mpr (u.2.2.1 q).symm
      rw [if_pos q, if_pos q, e, Int64.sub_zero, Int64.add_comm]
    · have e : kU τ t (sN τ 1) = 0 := l_eq.mpr ((u.2.2.2 q).trans l_0.symm)
      rw [if_neg q, if_neg q, e, Int64.zero_add]
  rw [e1, e2, ← hc]
  simp only [Int64.sub_eq_add_neg]
  ac_rfl
theorem kept_ok (h : zJ τ f c) (hs : sI τ 35 0 0 ≠ 0) : zKM τ (sN τ 1) (sN τ 2) c := by
  obtain ⟨hin, hd, hZ, h30, h8⟩ := h.in
  have pl := (pool_ok h hs).1
  refine ⟨⟨rfl, h30, rfl, h8⟩, fun k hk => l_nn (h.one hs hk).1.1, fun k t hk ht => l_nn ((h.one hs hk).2.1 t (by omega)).1, fun t ht => ?_, fun t ht => ?_, fun r hr => ⟨l_nn (pl r hr).2.1, fun q => ?_⟩, fun r hr q z => ?_, whole_kept h hs, stays_paid h hs, kS_int h hs, net_kept h hs⟩
  · have e : t % 8 = t := Nat.mod_eq_of_lt (by omega)
    unfold zlm
    rw [e]
    by_cases a : v_isLimited τ t = 0
    · rw [if_pos a]
      exact Or.inl rfl
    · rw [if_neg a]
      by_cases b : sI τ 19 t 0 = 0
      · rw [if_pos b]
        obtain ⟨g1, g2⟩ := (h.2.2.2.2.1 hs).1.2.1 t ht b
        rw [show 8 * 0 + t = t by omega] at g1
        exact Or.inr (Or.inr ⟨l_nn g1.1.1, fun q => by have := l_lt.mp q; have := g1.2.1.2; omega⟩)
      · rw [if_neg b]
        exact Or.inr (Or.inl rfl)
  · have u := kU_int h hs ht
    by_cases b : sI τ 19 t 0 = 0
    · have g := h.cov hs ht b
      exact ⟨fun q => by have := l_lt.mp q; have := u.2.2.1 b; omega, l_nn g.2.1⟩
    · have g := h.2.2.2.1.2.2.1 t ht b
      exact ⟨fun q => by have := l_lt.mp q; have := u.2.2.2 b; have := g.1; omega, l_nn g.2.1⟩
  · have := l_lt.mp q
    have := (pl r hr).2.2
    omega
  · unfold zls at q
    rw [if_pos z] at q
    exact absurd q (by decide)
end ZKQ
theorem zhJk_ok : zhJk zJ := fun σ f c h => by
  obtain ⟨s1, s2, -⟩ := h.settle
  have hN : sN (s_settle σ) = sN σ := (settle_W h.1).2.1.1
  have g := kept_ok s1 s2
  rw [hN] at g
  exact g
