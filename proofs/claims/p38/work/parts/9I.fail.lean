/-! a reinsurer fails and pays again -/
theorem uI_same {T : zSt} {t o e : Nat} {v : Int32} (h : sI T t o e = v) : (uI T t o e v).1 = T.1 := by
  funext t' o' e'
  show sI (uI T t o e v) t' o' e' = sI T t' o' e'
  rw [qI_r]
  by_cases q : t' = t ∧ o' = o ∧ e' = e
  · rw [if_pos q, q.1, q.2.1, q.2.2, h]
  · rw [if_neg q]
theorem uI_over {x y : zSt} {t o e : Nat} {v w : Int32} (h : x.1 = (uI y t o e v).1) : (uI x t o e w).1 = (uI y t o e w).1 := by
  funext t' o' e'
  have g := congrFun (congrFun (congrFun h t') o') e'
  show sI (uI x t o e w) t' o' e' = sI (uI y t o e w) t' o' e'
  rw [qI_r, qI_r]
  by_cases q : t' = t ∧ o' = o ∧ e' = e
  · rw [if_pos q, if_pos q]
  · rw [if_neg q, if_neg q]
    have g2 : sI x t' o' e' = sI (uI y t o e v) t' o' e' := g
    rw [g2, qI_r, if_neg q]
section ZFA
variable {σ : zSt} {f : Nat → Int32} {c : Int64}
theorem fail_J (h : zJ σ f c) {r : Nat} {z : Int32} (hz : zB01 z) : zJ (uI σ 31 0 r z) f c := by
  have n : ∀ q o x, q ≠ 31 → sI (uI σ 31 0 r z) q o x = sI σ q o x := fun q o x hq => by rw [qI_r, if_neg (fun y => hq y.1)]
  obtain ⟨s1, s2, s3⟩ := h.setv (S := uI σ 31 0 r z) rfl (fun q hq o x => n q o x (by omega))
  refine h.I (σ := σ) rfl (h.sv (σ := σ) rfl (fun q hq o x => n q o x (by omega)) (fun i hi => by rw [n 32 _ _ (by decide)]; exact h.1.2.2.1.2.2.2.1 i hi) (fun i hi => ?_)) ⟨s1, fun k' hk' => ?_, s2, h.2.1.2.2.2.1.of (fun q q1 q2 x => n q _ _ (by omega)), s3⟩ (fun k' => n 4 _ _ (by decide)) (fun t => n 19 _ _ (by decide)) (fun t => n 20 _ _ (by decide)) (h.2.2.2.2.1.I h.1 rfl (n 35 _ _ (by decide)) h.in.1 (fun q hq o x => n q o x (by omega)))
  · rw [qI_r]
    by_cases q : i = r
    · rw [if_pos ⟨rfl, rfl, q⟩]
      exact hz
    · rw [if_neg (fun y => q y.2.2)]
      exact h.1.2.2.1.2.2.2.2 i hi
  · rw [n 4 _ _ (by decide), n 6 _ _ (by decide)]
    exact h.2.1.2.1 k' hk'
/-- the net's size -/
theorem znet_b (h : zJ σ f c) (hs : sI σ 35 0 0 ≠ 0) : -1000000000000000000 ≤ (znet σ).toInt ∧ (znet σ).toInt ≤ 1000000000000000000 := by
  obtain ⟨hin, hd, hZ, h30, h8⟩ := h.in
  have a1 := (al_int h hs).2
  have a2 := (own_eq h hs).2
  have key : ∀ t, t < sN σ 2 → -60000000100000000 ≤ (if sI σ 19 t 0 = 0 then sL σ 5 t 0 + sL σ 3 t 0 else sL σ 5 t 0 - (sL σ 3 t 0 + (sI σ 20 t 0).toInt64)).toInt ∧ (if sI σ 19 t 0 = 0 then sL σ 5 t 0 + sL σ 3 t 0 else sL σ 5 t 0 - (sL σ 3 t 0 + (sI σ 20 t 0).toInt64)).toInt ≤ 60000000100000000 := fun t ht => by
    by_cases b : sI σ 19 t 0 = 0
    · obtain ⟨⟨g1, g2, g3⟩, g4, g5⟩ := h.cov hs ht b
      rw [if_pos b, l_add (by omega) (by omega)]
      omega
    · obtain ⟨⟨g1, g2, g3⟩, g4, g5⟩ := h.2.2.2.1.2.2.1 t ht b
      have g6 := (h.2.1.2.2.1 t ht).2.2
      have e : (sL σ 3 t 0 + (sI σ 20 t 0).toInt64).toInt = (sL σ 3 t 0).toInt + (sI σ 20 t 0).toInt := by
        rw [l_add (by rw [l_of]; omega) (by rw [l_of]; omega), l_of]
      rw [if_neg b, l_sub (by rw [e]; omega) (by rw [e]; omega), e]
      omega
  have g := zsumL_ints (f := fun t => if sI σ 19 t 0 = 0 then sL σ 5 t 0 + sL σ 3 t 0 else sL σ 5 t 0 - (sL σ 3 t 0 + (sI σ 20 t 0).toInt64)) (M := 60000000100000000) (by decide) (n := sN σ 2) key (by omega)
  have g1 := g.2.1
  have g2 := g.2.2
  clear g key
  rw [znet_f h hs]
  have e1 : (v_allLeft σ 0 + zsumL (fun t => if sI σ 19 t 0 = 0 then sL σ 5 t 0 + sL σ 3 t 0 else sL σ 5 t 0 - (sL σ 3 t 0 + (sI σ 20 t 0).toInt64)) (sN σ 2)).toInt = _ := l_add (by omega) (by omega)
  rw [l_sub (by rw [e1]; omega) (by rw [e1]; omega), e1]
  omega
/-- one more fails: what he owes is the cedent's -/
theorem fail_net (h : zJ σ f c) (hs : sI σ 35 0 0 ≠ 0) {r : Nat} (hr : r < 5) : znet (uI σ 31 0 r 1) = znet (uI σ 31 0 r 0) + v_allPartsOf σ 0 r := by
  have h0 := fail_J h (r := r) zb0
  have h1 := fail_J h (r := r) zb1
  have n : ∀ z q o x, q ≠ 31 → sI (uI σ 31 0 r z) q o x = sI σ q o x := fun z q o x hq => by rw [qI_r, if_neg (fun y => hq y.1)]
  have r31 : ∀ z i, sI (uI σ 31 0 r z) 31 0 i = if i = r then z else sI σ 31 0 i := fun z i => by
    rw [qI_r]
    by_cases q : i = r
    · rw [if_pos ⟨rfl, rfl, q⟩, if_pos q]
    · rw [if_neg (fun y => q y.2.2), if_neg q]
  have pp : ∀ z i, v_allPartsOf (uI σ 31 0 r z) 0 i = v_allPartsOf σ 0 i := fun z i => by
    show zsumL (fun y => zsumL (fun u => sL σ 1 (lx σ (5 + 4 * 0) u) (lx σ (6 + 4 * 0) y % 8) * (sI (uI σ 31 0 r z) 21 (lx σ (6 + 4 * 0) y % 8) i).toInt64 / 100) (sZ σ (5 + 4 * 0))) (sZ σ (6 + 4 * 0)) = zsumL (fun y => zsumL (fun u => sL σ 1 (lx σ (5 + 4 * 0) u) (lx σ (6 + 4 * 0) y % 8) * (sI σ 21 (lx σ (6 + 4 * 0) y % 8) i).toInt64 / 100) (sZ σ (5 + 4 * 0))) (sZ σ (6 + 4 * 0))
    simp only [fun o x => n z 21 o x (by decide)]
  have base : ∀ z, zB01 z → znet (uI σ 31 0 r z) = v_allLeft σ 0 + zsumL (fun t => if sI σ 19 t 0 = 0 then sL σ 5 t 0 + sL σ 3 t 0 else sL σ 5 t 0 - (sL σ 3 t 0 + (sI σ 20 t 0).toInt64)) (sN σ 2) - zsumL (fun i => if (if i = r then z else sI σ 31 0 i) = 0 then v_allPartsOf σ 0 i else 0) 5 := fun z hz => by
    have e := znet_f (fail_J h (r := r) hz) (by rw [n z 35 _ _ (by decide)]; exact hs)
    simp only [pp, r31, fun o x => n z 19 o x (by decide), fun o x => n z 20 o x (by decide)] at e
    exact e
  rw [base 1 zb1, base 0 zb0, zsumL_upd (f := fun i => if (if i = r then (0 : Int32) else sI σ 31 0 i) = 0 then v_allPartsOf σ 0 i else 0) (g := fun i => if (if i = r then (1 : Int32) else sI σ 31 0 i) = 0 then v_allPartsOf σ 0 i else 0) hr (fun i _ hi => by
    show (if (if i = r then (0 : Int32) else sI σ 31 0 i) = 0 then v_allPartsOf σ 0 i else 0) = if (if i = r then (1 : Int32) else sI σ 31 0 i) = 0 then v_allPartsOf σ 0 i else 0
    rw [if_neg hi, if_neg hi]) (by
    show (if (if r = r then (1 : Int32) else sI σ 31 0 r) = 0 then v_allPartsOf σ 0 r else 0) = 0
    rw [if_pos rfl, if_neg (by decide)])]
  simp only [eq_self, if_true]
  generalize v_allPartsOf σ 0 r = p
  generalize zsumL _ 5 = s
  generalize v_allLeft σ 0 + _ = x
  have ez : ∀ p : Int64, -p + p = 0 := fun p => by rw [Int64.add_comm, ← Int64.sub_eq_add_neg, Int64.sub_self]
  rw [Int64.sub_eq_add_neg, Int64.sub_eq_add_neg, Int64.neg_add, Int64.sub_eq_add_neg, Int64.add_assoc, Int64.add_assoc, ez, Int64.add_zero]
end ZFA
theorem zhF_ok : zhF zJ := fun σ f c h r hr => by
  obtain ⟨s1, s2, -⟩ := h.settle
  have w1 := (settle_W h.1).2
  have hN : sN (s_settle σ) = sN σ := w1.1.1
  have e31 : sI (s_settle σ) 31 0 r = sI σ 31 0 r := w1.2.2.1 31 (by unfold zsT; omega) 0 r
  have hz0 := h.1.2.2.1.2.2.2.2 r hr
  clear w1
  generalize hT : s_settle σ = T at *
  have f0 := fail_J s1 (r := r) zb0
  have f1 := fail_J s1 (r := r) zb1
  have g35 : ∀ (x : zSt) z, sI (uI x 31 0 r z) 35 0 0 = sI x 35 0 0 := fun x z => by rw [qI_r, if_neg (fun y => absurd y.1 (by decide))]
  have g31 : ∀ (x : zSt) z, sI (uI x 31 0 r z) 31 0 r = z := fun x z => by rw [qI_r, if_pos ⟨rfl, rfl, rfl⟩]
  have fn := fail_net s1 s2 hr
  have nb0 := znet_b f0 (by rw [g35]; exact s2)
  have ap := ap_int s1 s2 hr
  have fl : ∀ z, zls (uI T 31 0 r z) r = if z = 0 then 0 else v_allPartsOf T 0 r := fun z => by
    unfold zls
    rw [g31]
    rfl
  -- states that belong to z
  have stp : ∀ z ρ S, (zB01 z ∧ zJ ρ f c ∧ sN ρ = sN σ ∧ sI ρ 31 0 r = z ∧ zPo (s_settle ρ) (uI T 31 0 r z)) → zW S → zPo S (s_settle ρ) → (zB01 z ∧ zJ S f c ∧ sN S = sN σ ∧ sI S 31 0 r = z ∧ zPo (s_settle S) (uI T 31 0 r z)) := fun z ρ S hE hw hp => by
    obtain ⟨a1, a2, a3, a4, a5⟩ := hE
    have w := (settle_W a2.1).2
    refine ⟨a1, zhJp_ok _ _ _ _ a2.settle.1 hw hp, (zPo.sN hp).trans (w.1.1.trans a3), ?_, ?_⟩
    · rw [sI_1 hp.1, w.2.2.1 31 (by unfold zsT; omega)]
      exact a4
    · rw [hp.settled]
      exact hp.trans a5
  refine ⟨fun z => znet (uI T 31 0 r z), fun z => zcm (uI T 31 0 r z) r, fun z => zsy (uI T 31 0 r z) r, fun z => zls (uI T 31 0 r z) r, fun z ρ => zB01 z ∧ zJ ρ f c ∧ sN ρ = sN σ ∧ sI ρ 31 0 r = z ∧ zPo (s_settle ρ) (uI T 31 0 r z), sI σ 31 0 r, hz0, ⟨hz0, h, rfl, rfl, ?_⟩, fun z ρ hE => ⟨hE.2.1, hE.2.2.1⟩, fun z ρ hE => hE.2.2.2.1, fun z ρ hE => ?_, fun z ρ hE => ?_, fun z ρ hE hτ z2 hz2 => ?_, fun τ ρ hE hw hp => stp 1 τ ρ hE hw hp, fun z ρ hE => net_eq hE.2.2.2.2, fun z ρ hE => comes_eq hE.2.1.1 hE.2.2.2.2 hr, fun z ρ hE => stays_eq hE.2.1.1 hE.2.2.2.2 hr, fun z ρ hE => lost_eq hE.2.2.2.2 r, ?_, ?_, ?_⟩
  · rw [hT]
    exact ⟨(uI_same e31).symm, rfl, fun _ _ => rfl, fun _ a => a.elim⟩
  · exact stp z ρ _ hE (settle_W hE.2.1.1).1 zPr.rf
  · exact stp z ρ _ hE (settlePool_W hE.2.1.1).1 (settlePool_po ρ)
  · obtain ⟨a1, a2, a3, a4, a5⟩ := hE
    obtain ⟨τ, hτ⟩ := hτ
    have e := hτ.settled
    rw [e] at a5
    have es : s_settle (s_fail ρ r z2) = s_fail ρ r z2 := settle_id (by
      show sI (uI ρ 31 0 r z2) 35 0 0 ≠ 0
      rw [g35, sI_1 hτ.1]
      exact settle_flag τ)
    refine ⟨hz2, fail_J a2 hz2, a3, g31 ρ z2, ?_⟩
    rw [es]
    exact ⟨uI_over a5.1, a5.2.1, a5.2.2.1, fun _ a => a.elim⟩
  · intro q
    have q2 := l_lt.mp q
    simp only [fn] at q2
    rw [l_add (by omega) (by omega)] at q2
    omega
  · show zls (uI T 31 0 r 1) r = znet (uI T 31 0 r 1) - znet (uI T 31 0 r 0)
    rw [fl, if_neg (by decide), fn]
    generalize v_allPartsOf T 0 r = p
    generalize znet _ = x
    rw [Int64.add_comm, Int64.sub_eq_add_neg, Int64.add_assoc, ← Int64.sub_eq_add_neg, Int64.sub_self, Int64.add_zero]
  · show zsy (uI T 31 0 r 1) r = zcm (uI T 31 0 r 1) r
    unfold zsy
    have e : ∀ x, v_handedOn (uI T 31 0 r 1) r x = 0 := fun x => by
      unfold v_handedOn
      rw [g31]
      exact if_neg (by decide)
    rw [e, Int64.sub_zero]
