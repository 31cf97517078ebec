/-! the law's end: what is sound -/
theorem zall_of {p : Nat → Bool} : ∀ {n : Nat}, (∀ i, i < n → p i = true) → zall p n = true
  | 0, _ => rfl
  | _ + 1, h => zall_s (zall_of (fun i hi => h i (Nat.lt_succ_of_lt hi))) (h _ (Nat.lt_succ_self _))
theorem zaccL_z (a : Int64) (f : Nat → Int64) : ∀ n : Nat, zaccL a f n = a + zsumL f n
  | 0 => (Int64.add_zero a).symm
  | n + 1 => by
    show zaccL a f n + f n = a + (zsumL f n + f n)
    rw [zaccL_z a f n, Int64.add_assoc]
theorem rings_9 (σ : zSt) (e : Nat) : sL (s_rings σ) 9 0 e = sL σ 9 0 e := by
  unfold s_rings s_goR_PABV s_goR_PCOM s_fill_PABV s_fill_PCOM
  rw [rgL_r, if_neg (fun q => by have := q.1; omega), gR_o _ _ _ (fun q => by have := q.1; omega) (fun q => by have := q.1; omega), zfL_r, if_neg (fun q => by have := q.1; omega), gR_o _ _ _ (fun q => by have := q.1; omega) (fun q => by have := q.1; omega), cp_r, if_neg (fun q => by have := q.1; omega), gR_o _ _ _ (fun q => by have := q.1; omega) (fun q => by have := q.1; omega), zfL_r, if_neg (fun q => by have := q.1; omega)]
theorem fitsP_ok {S : zSt} (hv : zVp S) (ho : zVo S) : v_fits (s_rings S) = 1 := by
  have ro := fun i hi => rings_ok hv ho i hi
  have i1 := rings_1 S
  have r9 : ∀ e, sL (s_rings S) 9 0 e = sL S 9 0 e := rings_9 S
  generalize s_rings S = P at *
  obtain ⟨C, hC⟩ : ∃ C, C = zcpr P 12 10 := ⟨_, rfl⟩
  have c12 : ∀ e, e < 5 → sL C 12 0 e = sL P 10 0 e := fun e he => by rw [hC, cp_r, if_pos ⟨rfl, rfl, he⟩]
  have co : ∀ t e, t ≠ 12 → sL C t 0 e = sL P t 0 e := fun t e ht => by rw [hC, cp_r, if_neg (fun q => ht q.1)]
  have ic : C.1 = S.1 := by rw [hC]; exact (zcpr_1 _ _ _).trans i1
  have kc := kk_i ic
  have wc : kW C = kW S := funext fun e => by
    unfold kW
    rw [co 9 e (by decide), r9 e]
  have g := gR_int (hv.mv ic) (fun e he => by rw [co 9 e (by decide), r9 e]; exact ho e he) (td := 12) (by decide) (by decide) (fun e he => by rw [c12 e he]; exact (ro e he).2) 1
  rw [kc.1, kc.2.1, kc.2.2.1, kc.2.2.2, wc] at g
  have key : ∀ e, e < 5 → sL (gR C 12 1) 12 0 e = sL (gR C 12 1) 10 0 e := fun e he => by
    refine l_eq.mpr ?_
    rw [(g e he).1, gR_o _ _ _ (fun q => by have := q.1; omega) (fun q => by have := q.1; omega), co 10 e (by decide), ← (ro e he).1]
    exact rI_cong (y := fun e => (sL P 10 0 e).toInt) (fun j hj => by show (sL C 12 0 j).toInt = (sL P 10 0 j).toInt; rw [c12 j hj]) 1 e he
  unfold v_fits
  refine if_pos (zall_of (fun e he => ?_))
  show (sL (gR (zcpr P 12 10) 12 1) 12 0 e == sL (gR (zcpr P 12 10) 12 1) 10 0 e) = true
  rw [← hC, key e he]
  exact beq_self_eq_true _
section ZEN
variable {τ : zSt} {f : Nat → Int32} {c : Int64}
theorem lossWhole_ok (h : zJ τ f c) (hs : sI τ 35 0 0 ≠ 0) : v_lossWhole τ 0 = 1 := by
  obtain ⟨hin, hd, hZ, h30, h8⟩ := h.in
  unfold v_lossWhole
  refine if_pos (zall_of (fun i hi => ?_))
  have g1 := (h.2.2.2.2.1 hs).1.1 i hi
  have gb := g1.b (h.2.1.2.1 _ (hin i (by rw [← hZ]; exact hi))).2.2
  have g := zsumL_nn (f := fun e => sL τ 1 (lx τ (5 + 4 * 0) i) e) (n := 8) (M := 1000000) (by decide) (fun t ht => ⟨g1.2.1 t ht, gb.2 t ht⟩) (by decide)
  have e : zaccL (sL τ 0 (lx τ (5 + 4 * 0) i) 0) (fun e => sL τ 1 (lx τ (5 + 4 * 0) i) e) 8 = (sI τ 6 (lx τ (5 + 4 * 0) i) 0).toInt64 := by
    rw [zaccL_z]
    refine l_eq.mpr ?_
    have b := g.2
    have b0 := g1.1
    have b1 := gb.1
    rw [l_add (by omega) (by omega), l_of, g.1]
    exact g1.2.2
  show (zaccL (sL τ 0 (lx τ (5 + 4 * 0) i) 0) (fun e => sL τ 1 (lx τ (5 + 4 * 0) i) e) 8 == (sI τ 6 (lx τ (5 + 4 * 0) i) 0).toInt64) = true
  rw [e]
  exact beq_self_eq_true _
theorem limKept_ok (h : zJ τ f c) (hs : sI τ 35 0 0 ≠ 0) : v_limKept τ 0 = 1 := by
  obtain ⟨hin, hd, hZ, h30, h8⟩ := h.in
  have hZ6 : sZ τ (6 + 4 * 0) = sN τ 2 := h.1.1.2.2.2.2.2.2.2.1.1
  unfold v_limKept
  refine if_pos (zall_of (fun i hi => ?_))
  rw [hZ6] at hi
  have hx : lx τ (6 + 4 * 0) i = i := h.1.2.1.2.2.2.2.2.1 i hi
  have e8 : i % 8 = i := Nat.mod_eq_of_lt (by omega)
  show (if sI τ 19 (lx τ (6 + 4 * 0) i % 8) 0 = 0 then (if v_wholeLimit τ (lx τ (6 + 4 * 0) i % 8) < sL τ 3 (lx τ (6 + 4 * 0) i) 0 then false else true) else true) = true
  rw [hx, e8]
  by_cases q : sI τ 19 i 0 = 0
  · rw [if_pos q]
    obtain ⟨g1, g2⟩ := (h.2.2.2.2.1 hs).1.2.1 i hi q
    rw [show 8 * 0 + i = i by omega] at g1
    have e := g1.1
    rw [e8] at e
    exact if_neg (fun z => by have := l_lt.mp z; omega)
  · rw [if_neg q]
end ZEN
theorem zhEnd_ok : zhEnd zJ := fun σ f c h ρ hw hp => by
  have j1 := zhJp_ok _ _ _ _ h.settle.1 hw hp
  have hN : sN ρ = sN σ := (zPo.sN hp).trans (settle_W h.1).2.1.1
  have hs : sI ρ 35 0 0 ≠ 0 := by
    rw [sI_1 hp.1]
    exact settle_flag σ
  have ew : s_settle ρ = ρ := settle_id hs
  obtain ⟨-, -, p3, p4⟩ := pool_ok j1 hs
  have eP : s_settlePool ρ = s_rings (s_spLoop ρ) := by
    unfold s_settlePool
    rw [ew]
  have ft := fitsP_ok p4 p3
  rw [← eP] at ft
  have po := settlePool_po ρ
  rw [ew] at po
  have pw := (settlePool_W hw).1
  have fp := fits_po (s_settlePool ρ)
  have fw := (fits_W pw).1
  have jp := zhJp_ok _ _ _ _ j1 pw po
  have ps : sI (s_settlePool ρ) 35 0 0 ≠ 0 := by
    rw [sI_1 po.1]
    exact hs
  have l1 := lossWhole_ok jp ps
  have l2 := limKept_ok jp ps
  have ev : v_isSound ρ = 1 := by
    unfold v_isSound
    rw [l1, l2, ft, if_neg (by decide), if_neg (by decide), if_neg (by decide)]
  have es : s_isSound ρ = s_fits (s_settlePool ρ) := by
    unfold s_isSound
    rw [l1, l2, ft, if_neg (by decide), if_neg (by decide), if_neg (by decide)]
  refine ⟨by rw [ev]; decide, ?_, ?_⟩
  · rw [es]
    exact zhJp_ok _ _ _ _ jp fw fp
  · rw [es]
    exact (zPo.sN fp).trans ((zPo.sN po).trans hN)
