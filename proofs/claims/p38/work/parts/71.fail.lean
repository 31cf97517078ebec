/-! the law's branch of a reinsurer that fails and pays again -/
theorem zb0 : zB01 0 := Or.inl rfl
theorem zb1 : zB01 1 := Or.inr rfl
set_option maxRecDepth 100000 in
set_option maxHeartbeats 8000000 in
theorem b_fail {G : zG} {X : zX} {bs Ls o a : Nat} {ys : Nat → Int32} {σ : zSt} {f : Nat → Int32} {B i : Nat} {cmt : Int64} {rm : Room} (K : zK G X cL_law "LayertreatyLaw" 21 (some .boolean) rm) (Y : zY G bs Ls ys (xs X)) (hL9 : Ls ≤ 260) (hi9 : i < 50) (hR9 : 60 ≤ rm.frames ∧ 2000 ≤ rm.locals) (hw : zW σ) {r : Nat} (vN vC vS vL : Int32 → Int64) (E : Int32 → zSt → Prop) {z0 : Int32} (hz0 : zB01 z0) (hEσ : E z0 σ) (hr : r < 5) (hE1 : ∀ z ρ, E z ρ → zW ρ ∧ sgc ρ + (B + 24) ≤ rm.cells ∧ sgs ρ + 6 * (B + 24) ≤ rm.slots) (hEv : ∀ z ρ, E z ρ → sI ρ 31 0 r = z) (hEs : ∀ z ρ, E z ρ → E z (s_settle ρ)) (hEp : ∀ z ρ, E z ρ → E z (s_settlePool ρ)) (hEf : ∀ z ρ, E z ρ → (∃ τ, zPo ρ (s_settle τ)) → ∀ z2, zB01 z2 → E z2 (s_fail ρ r z2)) (hEk : ∀ τ ρ, E 1 τ → zW ρ → zPo ρ (s_settle τ) → E 1 ρ)
    (hVn : ∀ z ρ, E z ρ → v_net ρ = vN z) (hVc : ∀ z ρ, E z ρ → v_comes ρ r = vC z) (hVs : ∀ z ρ, E z ρ → v_stays ρ r = vS z) (hVl : ∀ z ρ, E z ρ → v_lost ρ r = vL z) (hVk : ∀ ρ, E 1 ρ → zKM (s_settle ρ) (sN σ 1) (sN σ 2) cmt) (hx1 : ¬ vN 1 < vN 0) (hx2 : vL 1 = vN 1 - vN 0) (hx3 : vS 1 = vC 1)
    (kk : ∀ z ρ, E z ρ → zVf G X 21 (zLw G o a ρ f (B + 24)) 1296 [(0, .ref bs), (1, .ref a), (2, .int (nI (sN σ 0))), (3, .int (nI (sN σ 1))), (4, .int (nI (sN σ 2))), (5, .int (nI (sN σ 3))), (6, .long cmt), (8, .ref o), (9, .int (nI i))] []) : zVf G X 21 (zLw G o a σ f B) 592 [(0, .ref bs), (1, .ref a), (2, .int (nI (sN σ 0))), (3, .int (nI (sN σ 1))), (4, .int (nI (sN σ 2))), (5, .int (nI (sN σ 3))), (6, .long cmt), (8, .ref o), (9, .int (nI i)), (10, .int (nI (8 * i))), (13, .int (nI r))] [] := by
  intro k n
  rcases hz0 with hz0 | hz0
  · subst hz0
    refine zi_aload_n K (dL_law_p6 25 rfl) 1 rfl ?_
    refine zw_callV K (f := f) (B := B) (σ := σ) (σ' := s_settle σ) (As := []) (na := 0) [] [.long (v_net σ)] (e_net (hE1 _ _ hEσ).1) (dL_law_p6 26 rfl) w_542 w_543 w_544 w_25 w_545 (by decide +kernel) rfl rfl ⟨by omega, by omega⟩ ⟨by have := (hE1 _ _ (hEs _ _ hEσ)).2.1; omega, by have := (hE1 _ _ (hEs _ _ hEσ)).2.2; omega⟩ (Nat.le_of_ble_eq_true rfl) rfl rfl ?_ k n
    show zVf G X 21 (zLw G o a (s_settle σ) f B) 596 [(0, .ref bs), (1, .ref a), (2, .int (nI (sN σ 0))), (3, .int (nI (sN σ 1))), (4, .int (nI (sN σ 2))), (5, .int (nI (sN σ 3))), (6, .long cmt), (8, .ref o), (9, .int (nI i)), (10, .int (nI (8 * i))), (13, .int (nI r))] [.long (v_net σ)]
    intro k n
    rw [hVn _ _ hEσ]
    refine zi_lstore K [(14, .long (vN 0)), (0, .ref bs), (1, .ref a), (2, .int (nI (sN σ 0))), (3, .int (nI (sN σ 1))), (4, .int (nI (sN σ 2))), (5, .int (nI (sN σ 3))), (6, .long cmt), (8, .ref o), (9, .int (nI i)), (10, .int (nI (8 * i))), (13, .int (nI r))] (dL_law_p6 27 rfl) (by decide) rfl ?_
    refine zi_aload_n K (dL_law_p6 28 rfl) 2 rfl ?_
    refine zi_iload K (dL_law_p6 29 rfl) 11 rfl ?_
    refine zw_callSW K (f := f) (B := B) (σ := s_settle σ) (σ' := s_settlePool (s_settle σ)) (As := [.ref a, .int (nI r)]) (na := 2) [] [.long (v_comes (s_settle σ) r)] (e_comes r (hE1 _ _ (hEs _ _ hEσ)).1 hr) (dL_law_p6 30 rfl) w_1285 w_1286 w_24 w_1287 (by decide +kernel) rfl ⟨by omega, by omega⟩ ⟨by have := (hE1 _ _ (hEp _ _ (hEs _ _ hEσ))).2.1; omega, by have := (hE1 _ _ (hEp _ _ (hEs _ _ hEσ))).2.2; omega⟩ (Nat.le_of_ble_eq_true rfl) rfl rfl ?_ k n
    show zVf G X 21 (zLw G o a (s_settlePool (s_settle σ)) f B) 604 [(14, .long (vN 0)), (0, .ref bs), (1, .ref a), (2, .int (nI (sN σ 0))), (3, .int (nI (sN σ 1))), (4, .int (nI (sN σ 2))), (5, .int (nI (sN σ 3))), (6, .long cmt), (8, .ref o), (9, .int (nI i)), (10, .int (nI (8 * i))), (13, .int (nI r))] [.long (v_comes (s_settle σ) r)]
    intro k n
    rw [hVc _ _ (hEs _ _ hEσ)]
    refine zi_lstore K [(16, .long (vC 0)), (14, .long (vN 0)), (0, .ref bs), (1, .ref a), (2, .int (nI (sN σ 0))), (3, .int (nI (sN σ 1))), (4, .int (nI (sN σ 2))), (5, .int (nI (sN σ 3))), (6, .long cmt), (8, .ref o), (9, .int (nI i)), (10, .int (nI (8 * i))), (13, .int (nI r))] (dL_law_p6 31 rfl) (by decide) rfl ?_
    refine zi_aload_n K (dL_law_p6 32 rfl) 3 rfl ?_
    refine zi_iload K (dL_law_p6 33 rfl) 12 rfl ?_
    refine zw_callSW K (f := f) (B := B) (σ := s_settlePool (s_settle σ)) (σ' := s_settle (s_settlePool (s_settle σ))) (As := [.ref a, .int (nI r)]) (na := 2) [] [.long (v_lost (s_settlePool (s_settle σ)) r)] (e_lost r (hE1 _ _ (hEp _ _ (hEs _ _ hEσ))).1 hr) (dL_law_p6 34 rfl) w_1278 w_1279 w_24 w_1280 (by decide +kernel) rfl ⟨by omega, by omega⟩ ⟨by have := (hE1 _ _ (hEs _ _ (hEp _ _ (hEs _ _ hEσ)))).2.1; omega, by have := (hE1 _ _ (hEs _ _ (hEp _ _ (hEs _ _ hEσ)))).2.2; omega⟩ (Nat.le_of_ble_eq_true rfl) rfl rfl ?_ k n
    show zVf G X 21 (zLw G o a (s_settle (s_settlePool (s_settle σ))) f B) 612 [(16, .long (vC 0)), (14, .long (vN 0)), (0, .ref bs), (1, .ref a), (2, .int (nI (sN σ 0))), (3, .int (nI (sN σ 1))), (4, .int (nI (sN σ 2))), (5, .int (nI (sN σ 3))), (6, .long cmt), (8, .ref o), (9, .int (nI i)), (10, .int (nI (8 * i))), (13, .int (nI r))] [.long (v_lost (s_settlePool (s_settle σ)) r)]
    intro k n
    rw [hVl _ _ (hEp _ _ (hEs _ _ hEσ))]
    refine zi_lstore K [(18, .long (vL 0)), (16, .long (vC 0)), (14, .long (vN 0)), (0, .ref bs), (1, .ref a), (2, .int (nI (sN σ 0))), (3, .int (nI (sN σ 1))), (4, .int (nI (sN σ 2))), (5, .int (nI (sN σ 3))), (6, .long cmt), (8, .ref o), (9, .int (nI i)), (10, .int (nI (8 * i))), (13, .int (nI r))] (dL_law_p6 35 rfl) (by decide) rfl ?_
    refine zi_aload_n K (dL_law_p6 36 rfl) 4 rfl ?_
    refine zi_iload K (dL_law_p6 37 rfl) 13 rfl ?_
    refine zi_iconst K (dL_law_p6 38 rfl) zk_i1 ?_
    refine zw_callSW K (f := f) (B := B) (σ := s_settle (s_settlePool (s_settle σ))) (σ' := s_fail (s_settle (s_settlePool (s_settle σ))) r 1) (As := [.ref a, .int (nI r), .int 1]) (na := 3) [] [.int (if v_fail (s_settle (s_settlePool (s_settle σ))) r 1 = 0 then 0 else 1)] (e_fail r 1 (hE1 _ _ (hEs _ _ (hEp _ _ (hEs _ _ hEσ)))).1 hr ⟨rfl, rfl⟩) (dL_law_p6 39 rfl) w_1390 w_1391 w_24 w_1392 (by decide +kernel) rfl ⟨by omega, by omega⟩ ⟨by have := (hE1 _ _ (hEf _ _ (hEs _ _ (hEp _ _ (hEs _ _ hEσ))) ⟨_, zPr.rf⟩ 1 zb1)).2.1; omega, by have := (hE1 _ _ (hEf _ _ (hEs _ _ (hEp _ _ (hEs _ _ hEσ))) ⟨_, zPr.rf⟩ 1 zb1)).2.2; omega⟩ (Nat.le_of_ble_eq_true rfl) rfl rfl ?_ k n
    show zVf G X 21 (zLw G o a (s_fail (s_settle (s_settlePool (s_settle σ))) r 1) f B) 621 [(18, .long (vL 0)), (16, .long (vC 0)), (14, .long (vN 0)), (0, .ref bs), (1, .ref a), (2, .int (nI (sN σ 0))), (3, .int (nI (sN σ 1))), (4, .int (nI (sN σ 2))), (5, .int (nI (sN σ 3))), (6, .long cmt), (8, .ref o), (9, .int (nI i)), (10, .int (nI (8 * i))), (13, .int (nI r))] [.int (if v_fail (s_settle (s_settlePool (s_settle σ))) r 1 = 0 then 0 else 1)]
    intro k n
    refine zi_eqi (v := 0) (by unfold v_fail; rw [hEv _ _ (hEs _ _ (hEp _ _ (hEs _ _ hEσ)))]; rfl) ?_
    refine zi_istore K [(20, .int 0), (18, .long (vL 0)), (16, .long (vC 0)), (14, .long (vN 0)), (0, .ref bs), (1, .ref a), (2, .int (nI (sN σ 0))), (3, .int (nI (sN σ 1))), (4, .int (nI (sN σ 2))), (5, .int (nI (sN σ 3))), (6, .long cmt), (8, .ref o), (9, .int (nI i)), (10, .int (nI (8 * i))), (13, .int (nI r))] (dL_law_p6 40 rfl) (by decide) rfl ?_
    refine zi_iload K (dL_law_p6 41 rfl) 0 rfl ?_
    refine zi_if_ne K 671 (dL_law_p6 42 rfl) rfl (fun h625_0 => ?_) (fun h625_0 => ?_)
    · exact absurd h625_0 (by decide)
    refine zi_aload_n K (dL_law_p6 43 rfl) 5 rfl ?_
    refine zw_callV K (f := f) (B := B) (σ := s_fail (s_settle (s_settlePool (s_settle σ))) r 1) (σ' := s_settle (s_fail (s_settle (s_settlePool (s_settle σ))) r 1)) (As := []) (na := 0) [] [.long (v_net (s_fail (s_settle (s_settlePool (s_settle σ))) r 1))] (e_net (hE1 _ _ (hEf _ _ (hEs _ _ (hEp _ _ (hEs _ _ hEσ))) ⟨_, zPr.rf⟩ 1 zb1)).1) (dL_law_p6 44 rfl) w_542 w_543 w_544 w_25 w_545 (by decide +kernel) rfl rfl ⟨by omega, by omega⟩ ⟨by have := (hE1 _ _ (hEs _ _ (hEf _ _ (hEs _ _ (hEp _ _ (hEs _ _ hEσ))) ⟨_, zPr.rf⟩ 1 zb1))).2.1; omega, by have := (hE1 _ _ (hEs _ _ (hEf _ _ (hEs _ _ (hEp _ _ (hEs _ _ hEσ))) ⟨_, zPr.rf⟩ 1 zb1))).2.2; omega⟩ (Nat.le_of_ble_eq_true rfl) rfl rfl ?_ k n
    show zVf G X 21 (zLw G o a (s_settle (s_fail (s_settle (s_settlePool (s_settle σ))) r 1)) f B) 632 [(20, .int 0), (18, .long (vL 0)), (16, .long (vC 0)), (14, .long (vN 0)), (0, .ref bs), (1, .ref a), (2, .int (nI (sN σ 0))), (3, .int (nI (sN σ 1))), (4, .int (nI (sN σ 2))), (5, .int (nI (sN σ 3))), (6, .long cmt), (8, .ref o), (9, .int (nI i)), (10, .int (nI (8 * i))), (13, .int (nI r))] [.long (v_net (s_fail (s_settle (s_settlePool (s_settle σ))) r 1))]
    intro k n
    rw [hVn _ _ (hEf _ _ (hEs _ _ (hEp _ _ (hEs _ _ hEσ))) ⟨_, zPr.rf⟩ 1 zb1)]
    refine zi_lload K (dL_law_p6 45 rfl) 3 rfl ?_
    refine zi_lif_lt K 738 (dL_law_p6 46 rfl) (dL_law_p6 47 rfl) rfl (fun h634_0 => ?_) (fun h634_0 => ?_)
    · exact absurd h634_0 hx1
    refine zi_aload_n K (dL_law_p6 48 rfl) 5 rfl ?_
    refine zi_iload K (dL_law_p6 49 rfl) 14 rfl ?_
    refine zw_callSW K (f := f) (B := B) (σ := s_settle (s_fail (s_settle (s_settlePool (s_settle σ))) r 1)) (σ' := s_settle (s_settle (s_fail (s_settle (s_settlePool (s_settle σ))) r 1))) (As := [.ref a, .int (nI r)]) (na := 2) [] [.long (v_lost (s_settle (s_fail (s_settle (s_settlePool (s_settle σ))) r 1)) r)] (e_lost r (hE1 _ _ (hEs _ _ (hEf _ _ (hEs _ _ (hEp _ _ (hEs _ _ hEσ))) ⟨_, zPr.rf⟩ 1 zb1))).1 hr) (dL_law_p7 0 rfl) w_1278 w_1279 w_24 w_1280 (by decide +kernel) rfl ⟨by omega, by omega⟩ ⟨by have := (hE1 _ _ (hEs _ _ (hEs _ _ (hEf _ _ (hEs _ _ (hEp _ _ (hEs _ _ hEσ))) ⟨_, zPr.rf⟩ 1 zb1)))).2.1; omega, by have := (hE1 _ _ (hEs _ _ (hEs _ _ (hEf _ _ (hEs _ _ (hEp _ _ (hEs _ _ hEσ))) ⟨_, zPr.rf⟩ 1 zb1)))).2.2; omega⟩ (Nat.le_of_ble_eq_true rfl) rfl rfl ?_ k n
    show zVf G X 21 (zLw G o a (s_settle (s_settle (s_fail (s_settle (s_settlePool (s_settle σ))) r 1))) f B) 644 [(20, .int 0), (18, .long (vL 0)), (16, .long (vC 0)), (14, .long (vN 0)), (0, .ref bs), (1, .ref a), (2, .int (nI (sN σ 0))), (3, .int (nI (sN σ 1))), (4, .int (nI (sN σ 2))), (5, .int (nI (sN σ 3))), (6, .long cmt), (8, .ref o), (9, .int (nI i)), (10, .int (nI (8 * i))), (13, .int (nI r))] [.long (v_lost (s_settle (s_fail (s_settle (s_settlePool (s_settle σ))) r 1)) r)]
    intro k n
    rw [hVl _ _ (hEs _ _ (hEf _ _ (hEs _ _ (hEp _ _ (hEs _ _ hEσ))) ⟨_, zPr.rf⟩ 1 zb1))]
    refine zi_aload_n K (dL_law_p7 1 rfl) 5 rfl ?_
    refine zw_callV K (f := f) (B := B) (σ := s_settle (s_settle (s_fail (s_settle (s_settlePool (s_settle σ))) r 1))) (σ' := s_settle (s_settle (s_settle (s_fail (s_settle (s_settlePool (s_settle σ))) r 1)))) (As := []) (na := 0) [.long (vL 1)] [.long (v_net (s_settle (s_settle (s_fail (s_settle (s_settlePool (s_settle σ))) r 1)))), .long (vL 1)] (e_net (hE1 _ _ (hEs _ _ (hEs _ _ (hEf _ _ (hEs _ _ (hEp _ _ (hEs _ _ hEσ))) ⟨_, zPr.rf⟩ 1 zb1)))).1) (dL_law_p7 2 rfl) w_542 w_543 w_544 w_25 w_545 (by decide +kernel) rfl rfl ⟨by omega, by omega⟩ ⟨by have := (hE1 _ _ (hEs _ _ (hEs _ _ (hEs _ _ (hEf _ _ (hEs _ _ (hEp _ _ (hEs _ _ hEσ))) ⟨_, zPr.rf⟩ 1 zb1))))).2.1; omega, by have := (hE1 _ _ (hEs _ _ (hEs _ _ (hEs _ _ (hEf _ _ (hEs _ _ (hEp _ _ (hEs _ _ hEσ))) ⟨_, zPr.rf⟩ 1 zb1))))).2.2; omega⟩ (Nat.le_of_ble_eq_true rfl) rfl rfl ?_ k n
    show zVf G X 21 (zLw G o a (s_settle (s_settle (s_settle (s_fail (s_settle (s_settlePool (s_settle σ))) r 1)))) f B) 648 [(20, .int 0), (18, .long (vL 0)), (16, .long (vC 0)), (14, .long (vN 0)), (0, .ref bs), (1, .ref a), (2, .int (nI (sN σ 0))), (3, .int (nI (sN σ 1))), (4, .int (nI (sN σ 2))), (5, .int (nI (sN σ 3))), (6, .long cmt), (8, .ref o), (9, .int (nI i)), (10, .int (nI (8 * i))), (13, .int (nI r))] [.long (v_net (s_settle (s_settle (s_fail (s_settle (s_settlePool (s_settle σ))) r 1)))), .long (vL 1)]
    intro k n
    rw [hVn _ _ (hEs _ _ (hEs _ _ (hEf _ _ (hEs _ _ (hEp _ _ (hEs _ _ hEσ))) ⟨_, zPr.rf⟩ 1 zb1)))]
    refine zi_lload K (dL_law_p7 3 rfl) 3 rfl ?_
    refine zi_lsub K (dL_law_p7 4 rfl) ?_
    refine zi_lif_ne K 738 (dL_law_p7 5 rfl) (dL_law_p7 6 rfl) rfl (fun h651_0 => ?_) (fun h651_0 => ?_)
    · exact absurd hx2 h651_0
    refine zi_aload_n K (dL_law_p7 7 rfl) 5 rfl ?_
    refine zi_iload K (dL_law_p7 8 rfl) 14 rfl ?_
    refine zw_callSW K (f := f) (B := B) (σ := s_settle (s_settle (s_settle (s_fail (s_settle (s_settlePool (s_settle σ))) r 1)))) (σ' := s_settlePool (s_settle (s_settle (s_settle (s_fail (s_settle (s_settlePool (s_settle σ))) r 1))))) (As := [.ref a, .int (nI r)]) (na := 2) [] [.long (v_stays (s_settle (s_settle (s_settle (s_fail (s_settle (s_settlePool (s_settle σ))) r 1)))) r)] (e_stays r (hE1 _ _ (hEs _ _ (hEs _ _ (hEs _ _ (hEf _ _ (hEs _ _ (hEp _ _ (hEs _ _ hEσ))) ⟨_, zPr.rf⟩ 1 zb1))))).1 hr) (dL_law_p7 9 rfl) w_1292 w_1293 w_24 w_1294 (by decide +kernel) rfl ⟨by omega, by omega⟩ ⟨by have := (hE1 _ _ (hEp _ _ (hEs _ _ (hEs _ _ (hEs _ _ (hEf _ _ (hEs _ _ (hEp _ _ (hEs _ _ hEσ))) ⟨_, zPr.rf⟩ 1 zb1)))))).2.1; omega, by have := (hE1 _ _ (hEp _ _ (hEs _ _ (hEs _ _ (hEs _ _ (hEf _ _ (hEs _ _ (hEp _ _ (hEs _ _ hEσ))) ⟨_, zPr.rf⟩ 1 zb1)))))).2.2; omega⟩ (Nat.le_of_ble_eq_true rfl) rfl rfl ?_ k n
    show zVf G X 21 (zLw G o a (s_settlePool (s_settle (s_settle (s_settle (s_fail (s_settle (s_settlePool (s_settle σ))) r 1))))) f B) 661 [(20, .int 0), (18, .long (vL 0)), (16, .long (vC 0)), (14, .long (vN 0)), (0, .ref bs), (1, .ref a), (2, .int (nI (sN σ 0))), (3, .int (nI (sN σ 1))), (4, .int (nI (sN σ 2))), (5, .int (nI (sN σ 3))), (6, .long cmt), (8, .ref o), (9, .int (nI i)), (10, .int (nI (8 * i))), (13, .int (nI r))] [.long (v_stays (s_settle (s_settle (s_settle (s_fail (s_settle (s_settlePool (s_settle σ))) r 1)))) r)]
    intro k n
    rw [hVs _ _ (hEs _ _ (hEs _ _ (hEs _ _ (hEf _ _ (hEs _ _ (hEp _ _ (hEs _ _ hEσ))) ⟨_, zPr.rf⟩ 1 zb1))))]
    refine zi_aload_n K (dL_law_p7 10 rfl) 5 rfl ?_
    refine zi_iload K (dL_law_p7 11 rfl) 14 rfl ?_
    refine zw_callSW K (f := f) (B := B) (σ := s_settlePool (s_settle (s_settle (s_settle (s_fail (s_settle (s_settlePool (s_settle σ))) r 1))))) (σ' := s_settlePool (s_settlePool (s_settle (s_settle (s_settle (s_fail (s_settle (s_settlePool (s_settle σ))) r 1)))))) (As := [.ref a, .int (nI r)]) (na := 2) [.long (vS 1)] [.long (v_comes (s_settlePool (s_settle (s_settle (s_settle (s_fail (s_settle (s_settlePool (s_settle σ))) r 1))))) r), .long (vS 1)] (e_comes r (hE1 _ _ (hEp _ _ (hEs _ _ (hEs _ _ (hEs _ _ (hEf _ _ (hEs _ _ (hEp _ _ (hEs _ _ hEσ))) ⟨_, zPr.rf⟩ 1 zb1)))))).1 hr) (dL_law_p7 12 rfl) w_1285 w_1286 w_24 w_1287 (by decide +kernel) rfl ⟨by omega, by omega⟩ ⟨by have := (hE1 _ _ (hEp _ _ (hEp _ _ (hEs _ _ (hEs _ _ (hEs _ _ (hEf _ _ (hEs _ _ (hEp _ _ (hEs _ _ hEσ))) ⟨_, zPr.rf⟩ 1 zb1))))))).2.1; omega, by have := (hE1 _ _ (hEp _ _ (hEp _ _ (hEs _ _ (hEs _ _ (hEs _ _ (hEf _ _ (hEs _ _ (hEp _ _ (hEs _ _ hEσ))) ⟨_, zPr.rf⟩ 1 zb1))))))).2.2; omega⟩ (Nat.le_of_ble_eq_true rfl) rfl rfl ?_ k n
    show zVf G X 21 (zLw G o a (s_settlePool (s_settlePool (s_settle (s_settle (s_settle (s_fail (s_settle (s_settlePool (s_settle σ))) r 1)))))) f B) 667 [(20, .int 0), (18, .long (vL 0)), (16, .long (vC 0)), (14, .long (vN 0)), (0, .ref bs), (1, .ref a), (2, .int (nI (sN σ 0))), (3, .int (nI (sN σ 1))), (4, .int (nI (sN σ 2))), (5, .int (nI (sN σ 3))), (6, .long cmt), (8, .ref o), (9, .int (nI i)), (10, .int (nI (8 * i))), (13, .int (nI r))] [.long (v_comes (s_settlePool (s_settle (s_settle (s_settle (s_fail (s_settle (s_settlePool (s_settle σ))) r 1))))) r), .long (vS 1)]
    intro k n
    rw [hVc _ _ (hEp _ _ (hEs _ _ (hEs _ _ (hEs _ _ (hEf _ _ (hEs _ _ (hEp _ _ (hEs _ _ hEσ))) ⟨_, zPr.rf⟩ 1 zb1)))))]
    refine zi_lif_ne K 738 (dL_law_p7 13 rfl) (dL_law_p7 14 rfl) rfl (fun h667_0 => ?_) (fun h667_0 => ?_)
    · exact absurd hx3 h667_0
    refine zi_aload_n K (dL_law_p7 15 rfl) 5 rfl ?_
    refine zi_iload_n K (dL_law_p7 16 rfl) 7 rfl ?_
    refine zi_iload K (dL_law_p7 17 rfl) 8 rfl ?_
    refine zi_lload K (dL_law_p7 18 rfl) 10 rfl ?_
    refine zw_kept (σ := s_settlePool (s_settlePool (s_settle (s_settle (s_settle (s_fail (s_settle (s_settlePool (s_settle σ))) r 1)))))) (f := f) (B := B) K (L := sN σ 1) (T := sN σ 2) (cmt := cmt) [] [.int 1] (hE1 _ _ (hEp _ _ (hEp _ _ (hEs _ _ (hEs _ _ (hEs _ _ (hEf _ _ (hEs _ _ (hEp _ _ (hEs _ _ hEσ))) ⟨_, zPr.rf⟩ 1 zb1))))))).1 (hVk _ (hEp _ _ (hEp _ _ (hEs _ _ (hEs _ _ (hEs _ _ (hEf _ _ (hEs _ _ (hEp _ _ (hEs _ _ hEσ))) ⟨_, zPr.rf⟩ 1 zb1))))))) (dL_law_p7 19 rfl) w_1397 ⟨by omega, by omega⟩ ⟨by have := (hE1 _ _ (hEs _ _ (hEp _ _ (hEp _ _ (hEs _ _ (hEs _ _ (hEs _ _ (hEf _ _ (hEs _ _ (hEp _ _ (hEs _ _ hEσ))) ⟨_, zPr.rf⟩ 1 zb1)))))))).2.1; omega, by have := (hE1 _ _ (hEs _ _ (hEp _ _ (hEp _ _ (hEs _ _ (hEs _ _ (hEs _ _ (hEf _ _ (hEs _ _ (hEp _ _ (hEs _ _ hEσ))) ⟨_, zPr.rf⟩ 1 zb1)))))))).2.2; omega⟩ (Nat.le_of_ble_eq_true rfl) rfl rfl (fun ρ hwρ hρ => ?_) k n
    have hEρ := hEk _ ρ (hEp _ _ (hEp _ _ (hEs _ _ (hEs _ _ (hEs _ _ (hEf _ _ (hEs _ _ (hEp _ _ (hEs _ _ hEσ))) ⟨_, zPr.rf⟩ 1 zb1)))))) hwρ hρ
    intro k n
    refine zi_if_eq K 738 (dL_law_p7 20 rfl) rfl (fun h680_0 => ?_) (fun h680_0 => ?_)
    · exact absurd h680_0 (by decide)
    refine zi_aload_n K (dL_law_p7 21 rfl) 5 rfl ?_
    refine zi_iload K (dL_law_p7 22 rfl) 14 rfl ?_
    refine zi_iload K (dL_law_p7 23 rfl) 0 rfl ?_
    refine zi_iconst K (dL_law_p7 24 rfl) zk_i1 ?_
    refine zi_icmp_ne K 696 (dL_law_p7 25 rfl) rfl (fun h689_0 => ?_) (fun h689_0 => ?_)
    rotate_left
    · exact absurd h689_0 (by decide)
    refine zi_iconst K (dL_law_p7 28 rfl) zk_i0 ?_
    refine zw_callSW K (f := f) (B := (B + 24)) (σ := ρ) (σ' := s_fail ρ r 0) (As := [.ref a, .int (nI r), .int 0]) (na := 3) [] [.int (if v_fail ρ r 0 = 0 then 0 else 1)] (e_fail r 0 (hE1 _ _ hEρ).1 hr ⟨rfl, rfl⟩) (dL_law_p7 29 rfl) w_1390 w_1391 w_24 w_1392 (by decide +kernel) rfl ⟨by omega, by omega⟩ ⟨by have := (hE1 _ _ (hEf _ _ hEρ ⟨_, hρ⟩ 0 zb0)).2.1; omega, by have := (hE1 _ _ (hEf _ _ hEρ ⟨_, hρ⟩ 0 zb0)).2.2; omega⟩ (Nat.le_of_ble_eq_true rfl) rfl rfl ?_ k n
    show zVf G X 21 (zLw G o a (s_fail ρ r 0) f (B + 24)) 700 [(20, .int 0), (18, .long (vL 0)), (16, .long (vC 0)), (14, .long (vN 0)), (0, .ref bs), (1, .ref a), (2, .int (nI (sN σ 0))), (3, .int (nI (sN σ 1))), (4, .int (nI (sN σ 2))), (5, .int (nI (sN σ 3))), (6, .long cmt), (8, .ref o), (9, .int (nI i)), (10, .int (nI (8 * i))), (13, .int (nI r))] [.int (if v_fail ρ r 0 = 0 then 0 else 1)]
    intro k n
    refine zi_eqi (v := 1) (by unfold v_fail; rw [hEv _ _ hEρ]; rfl) ?_
    refine zi_iconst K (dL_law_p7 30 rfl) zk_i1 ?_
    refine zi_icmp_ne K 738 (dL_law_p7 31 rfl) rfl (fun h701_0 => ?_) (fun h701_0 => ?_)
    · exact absurd rfl h701_0
    refine zi_aload_n K (dL_law_p7 32 rfl) 5 rfl ?_
    refine zw_callV K (f := f) (B := (B + 24)) (σ := s_fail ρ r 0) (σ' := s_settle (s_fail ρ r 0)) (As := []) (na := 0) [] [.long (v_net (s_fail ρ r 0))] (e_net (hE1 _ _ (hEf _ _ hEρ ⟨_, hρ⟩ 0 zb0)).1) (dL_law_p7 33 rfl) w_542 w_543 w_544 w_25 w_545 (by decide +kernel) rfl rfl ⟨by omega, by omega⟩ ⟨by have := (hE1 _ _ (hEs _ _ (hEf _ _ hEρ ⟨_, hρ⟩ 0 zb0))).2.1; omega, by have := (hE1 _ _ (hEs _ _ (hEf _ _ hEρ ⟨_, hρ⟩ 0 zb0))).2.2; omega⟩ (Nat.le_of_ble_eq_true rfl) rfl rfl ?_ k n
    show zVf G X 21 (zLw G o a (s_settle (s_fail ρ r 0)) f (B + 24)) 708 [(20, .int 0), (18, .long (vL 0)), (16, .long (vC 0)), (14, .long (vN 0)), (0, .ref bs), (1, .ref a), (2, .int (nI (sN σ 0))), (3, .int (nI (sN σ 1))), (4, .int (nI (sN σ 2))), (5, .int (nI (sN σ 3))), (6, .long cmt), (8, .ref o), (9, .int (nI i)), (10, .int (nI (8 * i))), (13, .int (nI r))] [.long (v_net (s_fail ρ r 0))]
    intro k n
    rw [hVn _ _ (hEf _ _ hEρ ⟨_, hρ⟩ 0 zb0)]
    refine zi_lload K (dL_law_p7 34 rfl) 3 rfl ?_
    refine zi_lif_ne K 738 (dL_law_p7 35 rfl) (dL_law_p7 36 rfl) rfl (fun h710_0 => ?_) (fun h710_0 => ?_)
    · exact absurd rfl h710_0
    refine zi_aload_n K (dL_law_p7 37 rfl) 5 rfl ?_
    refine zi_iload K (dL_law_p7 38 rfl) 14 rfl ?_
    refine zw_callSW K (f := f) (B := (B + 24)) (σ := s_settle (s_fail ρ r 0)) (σ' := s_settlePool (s_settle (s_fail ρ r 0))) (As := [.ref a, .int (nI r)]) (na := 2) [] [.long (v_comes (s_settle (s_fail ρ r 0)) r)] (e_comes r (hE1 _ _ (hEs _ _ (hEf _ _ hEρ ⟨_, hρ⟩ 0 zb0))).1 hr) (dL_law_p7 39 rfl) w_1285 w_1286 w_24 w_1287 (by decide +kernel) rfl ⟨by omega, by omega⟩ ⟨by have := (hE1 _ _ (hEp _ _ (hEs _ _ (hEf _ _ hEρ ⟨_, hρ⟩ 0 zb0)))).2.1; omega, by have := (hE1 _ _ (hEp _ _ (hEs _ _ (hEf _ _ hEρ ⟨_, hρ⟩ 0 zb0)))).2.2; omega⟩ (Nat.le_of_ble_eq_true rfl) rfl rfl ?_ k n
    show zVf G X 21 (zLw G o a (s_settlePool (s_settle (s_fail ρ r 0))) f (B + 24)) 720 [(20, .int 0), (18, .long (vL 0)), (16, .long (vC 0)), (14, .long (vN 0)), (0, .ref bs), (1, .ref a), (2, .int (nI (sN σ 0))), (3, .int (nI (sN σ 1))), (4, .int (nI (sN σ 2))), (5, .int (nI (sN σ 3))), (6, .long cmt), (8, .ref o), (9, .int (nI i)), (10, .int (nI (8 * i))), (13, .int (nI r))] [.long (v_comes (s_settle (s_fail ρ r 0)) r)]
    intro k n
    rw [hVc _ _ (hEs _ _ (hEf _ _ hEρ ⟨_, hρ⟩ 0 zb0))]
    refine zi_lload K (dL_law_p7 40 rfl) 2 rfl ?_
    refine zi_lif_ne K 738 (dL_law_p7 41 rfl) (dL_law_p7 42 rfl) rfl (fun h722_0 => ?_) (fun h722_0 => ?_)
    · exact absurd rfl h722_0
    refine zi_aload_n K (dL_law_p7 43 rfl) 5 rfl ?_
    refine zi_iload K (dL_law_p7 44 rfl) 14 rfl ?_
    refine zw_callSW K (f := f) (B := (B + 24)) (σ := s_settlePool (s_settle (s_fail ρ r 0))) (σ' := s_settle (s_settlePool (s_settle (s_fail ρ r 0)))) (As := [.ref a, .int (nI r)]) (na := 2) [] [.long (v_lost (s_settlePool (s_settle (s_fail ρ r 0))) r)] (e_lost r (hE1 _ _ (hEp _ _ (hEs _ _ (hEf _ _ hEρ ⟨_, hρ⟩ 0 zb0)))).1 hr) (dL_law_p7 45 rfl) w_1278 w_1279 w_24 w_1280 (by decide +kernel) rfl ⟨by omega, by omega⟩ ⟨by have := (hE1 _ _ (hEs _ _ (hEp _ _ (hEs _ _ (hEf _ _ hEρ ⟨_, hρ⟩ 0 zb0))))).2.1; omega, by have := (hE1 _ _ (hEs _ _ (hEp _ _ (hEs _ _ (hEf _ _ hEρ ⟨_, hρ⟩ 0 zb0))))).2.2; omega⟩ (Nat.le_of_ble_eq_true rfl) rfl rfl ?_ k n
    show zVf G X 21 (zLw G o a (s_settle (s_settlePool (s_settle (s_fail ρ r 0)))) f (B + 24)) 732 [(20, .int 0), (18, .long (vL 0)), (16, .long (vC 0)), (14, .long (vN 0)), (0, .ref bs), (1, .ref a), (2, .int (nI (sN σ 0))), (3, .int (nI (sN σ 1))), (4, .int (nI (sN σ 2))), (5, .int (nI (sN σ 3))), (6, .long cmt), (8, .ref o), (9, .int (nI i)), (10, .int (nI (8 * i))), (13, .int (nI r))] [.long (v_lost (s_settlePool (s_settle (s_fail ρ r 0))) r)]
    intro k n
    rw [hVl _ _ (hEp _ _ (hEs _ _ (hEf _ _ hEρ ⟨_, hρ⟩ 0 zb0)))]
    refine zi_lload K (dL_law_p7 46 rfl) 1 rfl ?_
    refine zi_lif_eq K 740 (dL_law_p7 47 rfl) (dL_law_p7 48 rfl) rfl (fun h734_0 => ?_) (fun h734_0 => ?_)
    rotate_left
    · exact absurd rfl h734_0
    have hrm9 := (hE1 _ _ (hEs _ _ (hEp _ _ (hEs _ _ (hEf _ _ hEρ ⟨_, hρ⟩ 0 zb0))))).2
    refine zi_aload_n K (dL_law_p8 1 rfl) 4 rfl ?_
    refine zi_iload K (dL_law_p8 2 rfl) 13 rfl ?_
    refine zi_iconst K (dL_law_p8 3 rfl) zk_i4 ?_
    refine zi_iadd K (dL_law_p8 4 rfl) ?_
    refine zi_eqi (v := nI ((8 * i) + 4)) (nI_add (8 * i) 4) ?_
    refine zi_iconst K (dL_law_p8 5 rfl) zk_i2 ?_
    refine zV.rmk (fun H h => h.1) (fun hk9 => ?_)
    refine zl_some K Y hL9 ((8 * i) + 4) 2 (by omega) (by omega) (by omega) (dL_law_p8 6 rfl) ⟨by omega, by omega, by omega, by omega⟩ (Nat.le_of_ble_eq_true rfl) ?_
    refine zi_if_ne K 775 (dL_law_p8 7 rfl) rfl (fun h749_0 => ?_) (fun h749_0 => ?_)
    · skip
      refine zi_goto K 1296 (dL_law_p8 20 rfl) rfl ?_
      refine zV.pick [4, 5, 6, 7, 8, 9, 10, 11, 12] (lo' := [(0, .ref bs), (1, .ref a), (2, .int (nI (sN σ 0))), (3, .int (nI (sN σ 1))), (4, .int (nI (sN σ 2))), (5, .int (nI (sN σ 3))), (6, .long cmt), (8, .ref o), (9, .int (nI i))]) rfl ?_
      exact (kk _ _ (hEs _ _ (hEp _ _ (hEs _ _ (hEf _ _ hEρ ⟨_, hρ⟩ 0 zb0))))) k n
    · skip
      refine zi_aload_n K (dL_law_p8 8 rfl) 5 rfl ?_
      refine zi_iload K (dL_law_p8 9 rfl) 14 rfl ?_
      refine zi_iload K (dL_law_p8 10 rfl) 0 rfl ?_
      refine zi_if_ne K 764 (dL_law_p8 11 rfl) rfl (fun h757_1 => ?_) (fun h757_1 => ?_)
      · exact absurd h757_1 (by decide)
      refine zi_iconst K (dL_law_p8 12 rfl) zk_i1 ?_
      refine zi_goto K 765 (dL_law_p8 13 rfl) rfl ?_
      refine zw_callSW K (f := f) (B := (B + 24)) (σ := s_settle (s_settlePool (s_settle (s_fail ρ r 0)))) (σ' := s_fail (s_settle (s_settlePool (s_settle (s_fail ρ r 0)))) r 1) (As := [.ref a, .int (nI r), .int 1]) (na := 3) [] [.int (if v_fail (s_settle (s_settlePool (s_settle (s_fail ρ r 0)))) r 1 = 0 then 0 else 1)] (e_fail r 1 (hE1 _ _ (hEs _ _ (hEp _ _ (hEs _ _ (hEf _ _ hEρ ⟨_, hρ⟩ 0 zb0))))).1 hr ⟨rfl, rfl⟩) (dL_law_p8 15 rfl) w_1390 w_1391 w_24 w_1392 (by decide +kernel) rfl ⟨by omega, by omega⟩ ⟨by have := (hE1 _ _ (hEf _ _ (hEs _ _ (hEp _ _ (hEs _ _ (hEf _ _ hEρ ⟨_, hρ⟩ 0 zb0)))) ⟨_, zPr.rf⟩ 1 zb1)).2.1; omega, by have := (hE1 _ _ (hEf _ _ (hEs _ _ (hEp _ _ (hEs _ _ (hEf _ _ hEρ ⟨_, hρ⟩ 0 zb0)))) ⟨_, zPr.rf⟩ 1 zb1)).2.2; omega⟩ (Nat.le_of_ble_eq_true rfl) rfl rfl ?_ k n
      show zVf G X 21 (zLw G o a (s_fail (s_settle (s_settlePool (s_settle (s_fail ρ r 0)))) r 1) f (B + 24)) 768 [(20, .int 0), (18, .long (vL 0)), (16, .long (vC 0)), (14, .long (vN 0)), (0, .ref bs), (1, .ref a), (2, .int (nI (sN σ 0))), (3, .int (nI (sN σ 1))), (4, .int (nI (sN σ 2))), (5, .int (nI (sN σ 3))), (6, .long cmt), (8, .ref o), (9, .int (nI i)), (10, .int (nI (8 * i))), (13, .int (nI r))] [.int (if v_fail (s_settle (s_settlePool (s_settle (s_fail ρ r 0)))) r 1 = 0 then 0 else 1)]
      intro k n
      refine zi_eqi (v := 0) (by unfold v_fail; rw [hEv _ _ (hEs _ _ (hEp _ _ (hEs _ _ (hEf _ _ hEρ ⟨_, hρ⟩ 0 zb0))))]; rfl) ?_
      refine zi_iload K (dL_law_p8 16 rfl) 0 rfl ?_
      refine zi_icmp_eq K 775 (dL_law_p8 17 rfl) rfl (fun h770_1 => ?_) (fun h770_1 => ?_)
      rotate_left
      · exact absurd rfl h770_1
      refine zi_goto K 1296 (dL_law_p8 20 rfl) rfl ?_
      refine zV.pick [4, 5, 6, 7, 8, 9, 10, 11, 12] (lo' := [(0, .ref bs), (1, .ref a), (2, .int (nI (sN σ 0))), (3, .int (nI (sN σ 1))), (4, .int (nI (sN σ 2))), (5, .int (nI (sN σ 3))), (6, .long cmt), (8, .ref o), (9, .int (nI i))]) rfl ?_
      exact (kk _ _ (hEf _ _ (hEs _ _ (hEp _ _ (hEs _ _ (hEf _ _ hEρ ⟨_, hρ⟩ 0 zb0)))) ⟨_, zPr.rf⟩ 1 zb1)) k n
  · subst hz0
    refine zi_aload_n K (dL_law_p6 25 rfl) 1 rfl ?_
    refine zw_callV K (f := f) (B := B) (σ := σ) (σ' := s_settle σ) (As := []) (na := 0) [] [.long (v_net σ)] (e_net (hE1 _ _ hEσ).1) (dL_law_p6 26 rfl) w_542 w_543 w_544 w_25 w_545 (by decide +kernel) rfl rfl ⟨by omega, by omega⟩ ⟨by have := (hE1 _ _ (hEs _ _ hEσ)).2.1; omega, by have := (hE1 _ _ (hEs _ _ hEσ)).2.2; omega⟩ (Nat.le_of_ble_eq_true rfl) rfl rfl ?_ k n
    show zVf G X 21 (zLw G o a (s_settle σ) f B) 596 [(0, .ref bs), (1, .ref a), (2, .int (nI (sN σ 0))), (3, .int (nI (sN σ 1))), (4, .int (nI (sN σ 2))), (5, .int (nI (sN σ 3))), (6, .long cmt), (8, .ref o), (9, .int (nI i)), (10, .int (nI (8 * i))), (13, .int (nI r))] [.long (v_net σ)]
    intro k n
    rw [hVn _ _ hEσ]
    refine zi_lstore K [(14, .long (vN 1)), (0, .ref bs), (1, .ref a), (2, .int (nI (sN σ 0))), (3, .int (nI (sN σ 1))), (4, .int (nI (sN σ 2))), (5, .int (nI (sN σ 3))), (6, .long cmt), (8, .ref o), (9, .int (nI i)), (10, .int (nI (8 * i))), (13, .int (nI r))] (dL_law_p6 27 rfl) (by decide) rfl ?_
    refine zi_aload_n K (dL_law_p6 28 rfl) 2 rfl ?_
    refine zi_iload K (dL_law_p6 29 rfl) 11 rfl ?_
    refine zw_callSW K (f := f) (B := B) (σ := s_settle σ) (σ' := s_settlePool (s_settle σ)) (As := [.ref a, .int (nI r)]) (na := 2) [] [.long (v_comes (s_settle σ) r)] (e_comes r (hE1 _ _ (hEs _ _ hEσ)).1 hr) (dL_law_p6 30 rfl) w_1285 w_1286 w_24 w_1287 (by decide +kernel) rfl ⟨by omega, by omega⟩ ⟨by have := (hE1 _ _ (hEp _ _ (hEs _ _ hEσ))).2.1; omega, by have := (hE1 _ _ (hEp _ _ (hEs _ _ hEσ))).2.2; omega⟩ (Nat.le_of_ble_eq_true rfl) rfl rfl ?_ k n
    show zVf G X 21 (zLw G o a (s_settlePool (s_settle σ)) f B) 604 [(14, .long (vN 1)), (0, .ref bs), (1, .ref a), (2, .int (nI (sN σ 0))), (3, .int (nI (sN σ 1))), (4, .int (nI (sN σ 2))), (5, .int (nI (sN σ 3))), (6, .long cmt), (8, .ref o), (9, .int (nI i)), (10, .int (nI (8 * i))), (13, .int (nI r))] [.long (v_comes (s_settle σ) r)]
    intro k n
    rw [hVc _ _ (hEs _ _ hEσ)]
    refine zi_lstore K [(16, .long (vC 1)), (14, .long (vN 1)), (0, .ref bs), (1, .ref a), (2, .int (nI (sN σ 0))), (3, .int (nI (sN σ 1))), (4, .int (nI (sN σ 2))), (5, .int (nI (sN σ 3))), (6, .long cmt), (8, .ref o), (9, .int (nI i)), (10, .int (nI (8 * i))), (13, .int (nI r))] (dL_law_p6 31 rfl) (by decide) rfl ?_
    refine zi_aload_n K (dL_law_p6 32 rfl) 3 rfl ?_
    refine zi_iload K (dL_law_p6 33 rfl) 12 rfl ?_
    refine zw_callSW K (f := f) (B := B) (σ := s_settlePool (s_settle σ)) (σ' := s_settle (s_settlePool (s_settle σ))) (As := [.ref a, .int (nI r)]) (na := 2) [] [.long (v_lost (s_settlePool (s_settle σ)) r)] (e_lost r (hE1 _ _ (hEp _ _ (hEs _ _ hEσ))).1 hr) (dL_law_p6 34 rfl) w_1278 w_1279 w_24 w_1280 (by decide +kernel) rfl ⟨by omega, by omega⟩ ⟨by have := (hE1 _ _ (hEs _ _ (hEp _ _ (hEs _ _ hEσ)))).2.1; omega, by have := (hE1 _ _ (hEs _ _ (hEp _ _ (hEs _ _ hEσ)))).2.2; omega⟩ (Nat.le_of_ble_eq_true rfl) rfl rfl ?_ k n
    show zVf G X 21 (zLw G o a (s_settle (s_settlePool (s_settle σ))) f B) 612 [(16, .long (vC 1)), (14, .long (vN 1)), (0, .ref bs), (1, .ref a), (2, .int (nI (sN σ 0))), (3, .int (nI (sN σ 1))), (4, .int (nI (sN σ 2))), (5, .int (nI (sN σ 3))), (6, .long cmt), (8, .ref o), (9, .int (nI i)), (10, .int (nI (8 * i))), (13, .int (nI r))] [.long (v_lost (s_settlePool (s_settle σ)) r)]
    intro k n
    rw [hVl _ _ (hEp _ _ (hEs _ _ hEσ))]
    refine zi_lstore K [(18, .long (vL 1)), (16, .long (vC 1)), (14, .long (vN 1)), (0, .ref bs), (1, .ref a), (2, .int (nI (sN σ 0))), (3, .int (nI (sN σ 1))), (4, .int (nI (sN σ 2))), (5, .int (nI (sN σ 3))), (6, .long cmt), (8, .ref o), (9, .int (nI i)), (10, .int (nI (8 * i))), (13, .int (nI r))] (dL_law_p6 35 rfl) (by decide) rfl ?_
    refine zi_aload_n K (dL_law_p6 36 rfl) 4 rfl ?_
    refine zi_iload K (dL_law_p6 37 rfl) 13 rfl ?_
    refine zi_iconst K (dL_law_p6 38 rfl) zk_i1 ?_
    refine zw_callSW K (f := f) (B := B) (σ := s_settle (s_settlePool (s_settle σ))) (σ' := s_fail (s_settle (s_settlePool (s_settle σ))) r 1) (As := [.ref a, .int (nI r), .int 1]) (na := 3) [] [.int (if v_fail (s_settle (s_settlePool (s_settle σ))) r 1 = 0 then 0 else 1)] (e_fail r 1 (hE1 _ _ (hEs _ _ (hEp _ _ (hEs _ _ hEσ)))).1 hr ⟨rfl, rfl⟩) (dL_law_p6 39 rfl) w_1390 w_1391 w_24 w_1392 (by decide +kernel) rfl ⟨by omega, by omega⟩ ⟨by have := (hE1 _ _ (hEf _ _ (hEs _ _ (hEp _ _ (hEs _ _ hEσ))) ⟨_, zPr.rf⟩ 1 zb1)).2.1; omega, by have := (hE1 _ _ (hEf _ _ (hEs _ _ (hEp _ _ (hEs _ _ hEσ))) ⟨_, zPr.rf⟩ 1 zb1)).2.2; omega⟩ (Nat.le_of_ble_eq_true rfl) rfl rfl ?_ k n
    show zVf G X 21 (zLw G o a (s_fail (s_settle (s_settlePool (s_settle σ))) r 1) f B) 621 [(18, .long (vL 1)), (16, .long (vC 1)), (14, .long (vN 1)), (0, .ref bs), (1, .ref a), (2, .int (nI (sN σ 0))), (3, .int (nI (sN σ 1))), (4, .int (nI (sN σ 2))), (5, .int (nI (sN σ 3))), (6, .long cmt), (8, .ref o), (9, .int (nI i)), (10, .int (nI (8 * i))), (13, .int (nI r))] [.int (if v_fail (s_settle (s_settlePool (s_settle σ))) r 1 = 0 then 0 else 1)]
    intro k n
    refine zi_eqi (v := 1) (by unfold v_fail; rw [hEv _ _ (hEs _ _ (hEp _ _ (hEs _ _ hEσ)))]; rfl) ?_
    refine zi_istore K [(20, .int 1), (18, .long (vL 1)), (16, .long (vC 1)), (14, .long (vN 1)), (0, .ref bs), (1, .ref a), (2, .int (nI (sN σ 0))), (3, .int (nI (sN σ 1))), (4, .int (nI (sN σ 2))), (5, .int (nI (sN σ 3))), (6, .long cmt), (8, .ref o), (9, .int (nI i)), (10, .int (nI (8 * i))), (13, .int (nI r))] (dL_law_p6 40 rfl) (by decide) rfl ?_
    refine zi_iload K (dL_law_p6 41 rfl) 0 rfl ?_
    refine zi_if_ne K 671 (dL_law_p6 42 rfl) rfl (fun h625_0 => ?_) (fun h625_0 => ?_)
    rotate_left
    · exact absurd h625_0 (by decide)
    refine zi_aload_n K (dL_law_p7 15 rfl) 5 rfl ?_
    refine zi_iload_n K (dL_law_p7 16 rfl) 7 rfl ?_
    refine zi_iload K (dL_law_p7 17 rfl) 8 rfl ?_
    refine zi_lload K (dL_law_p7 18 rfl) 10 rfl ?_
    refine zw_kept (σ := s_fail (s_settle (s_settlePool (s_settle σ))) r 1) (f := f) (B := B) K (L := sN σ 1) (T := sN σ 2) (cmt := cmt) [] [.int 1] (hE1 _ _ (hEf _ _ (hEs _ _ (hEp _ _ (hEs _ _ hEσ))) ⟨_, zPr.rf⟩ 1 zb1)).1 (hVk _ (hEf _ _ (hEs _ _ (hEp _ _ (hEs _ _ hEσ))) ⟨_, zPr.rf⟩ 1 zb1)) (dL_law_p7 19 rfl) w_1397 ⟨by omega, by omega⟩ ⟨by have := (hE1 _ _ (hEs _ _ (hEf _ _ (hEs _ _ (hEp _ _ (hEs _ _ hEσ))) ⟨_, zPr.rf⟩ 1 zb1))).2.1; omega, by have := (hE1 _ _ (hEs _ _ (hEf _ _ (hEs _ _ (hEp _ _ (hEs _ _ hEσ))) ⟨_, zPr.rf⟩ 1 zb1))).2.2; omega⟩ (Nat.le_of_ble_eq_true rfl) rfl rfl (fun ρ hwρ hρ => ?_) k n
    have hEρ := hEk _ ρ (hEf _ _ (hEs _ _ (hEp _ _ (hEs _ _ hEσ))) ⟨_, zPr.rf⟩ 1 zb1) hwρ hρ
    intro k n
    refine zi_if_eq K 738 (dL_law_p7 20 rfl) rfl (fun h680_0 => ?_) (fun h680_0 => ?_)
    · exact absurd h680_0 (by decide)
    refine zi_aload_n K (dL_law_p7 21 rfl) 5 rfl ?_
    refine zi_iload K (dL_law_p7 22 rfl) 14 rfl ?_
    refine zi_iload K (dL_law_p7 23 rfl) 0 rfl ?_
    refine zi_iconst K (dL_law_p7 24 rfl) zk_i1 ?_
    refine zi_icmp_ne K 696 (dL_law_p7 25 rfl) rfl (fun h689_0 => ?_) (fun h689_0 => ?_)
    · exact absurd rfl h689_0
    refine zi_iconst K (dL_law_p7 26 rfl) zk_i1 ?_
    refine zi_goto K 697 (dL_law_p7 27 rfl) rfl ?_
    refine zw_callSW K (f := f) (B := (B + 24)) (σ := ρ) (σ' := s_fail ρ r 1) (As := [.ref a, .int (nI r), .int 1]) (na := 3) [] [.int (if v_fail ρ r 1 = 0 then 0 else 1)] (e_fail r 1 (hE1 _ _ hEρ).1 hr ⟨rfl, rfl⟩) (dL_law_p7 29 rfl) w_1390 w_1391 w_24 w_1392 (by decide +kernel) rfl ⟨by omega, by omega⟩ ⟨by have := (hE1 _ _ (hEf _ _ hEρ ⟨_, hρ⟩ 1 zb1)).2.1; omega, by have := (hE1 _ _ (hEf _ _ hEρ ⟨_, hρ⟩ 1 zb1)).2.2; omega⟩ (Nat.le_of_ble_eq_true rfl) rfl rfl ?_ k n
    show zVf G X 21 (zLw G o a (s_fail ρ r 1) f (B + 24)) 700 [(20, .int 1), (18, .long (vL 1)), (16, .long (vC 1)), (14, .long (vN 1)), (0, .ref bs), (1, .ref a), (2, .int (nI (sN σ 0))), (3, .int (nI (sN σ 1))), (4, .int (nI (sN σ 2))), (5, .int (nI (sN σ 3))), (6, .long cmt), (8, .ref o), (9, .int (nI i)), (10, .int (nI (8 * i))), (13, .int (nI r))] [.int (if v_fail ρ r 1 = 0 then 0 else 1)]
    intro k n
    refine zi_eqi (v := 1) (by unfold v_fail; rw [hEv _ _ hEρ]; rfl) ?_
    refine zi_iconst K (dL_law_p7 30 rfl) zk_i1 ?_
    refine zi_icmp_ne K 738 (dL_law_p7 31 rfl) rfl (fun h701_0 => ?_) (fun h701_0 => ?_)
    · exact absurd rfl h701_0
    refine zi_aload_n K (dL_law_p7 32 rfl) 5 rfl ?_
    refine zw_callV K (f := f) (B := (B + 24)) (σ := s_fail ρ r 1) (σ' := s_settle (s_fail ρ r 1)) (As := []) (na := 0) [] [.long (v_net (s_fail ρ r 1))] (e_net (hE1 _ _ (hEf _ _ hEρ ⟨_, hρ⟩ 1 zb1)).1) (dL_law_p7 33 rfl) w_542 w_543 w_544 w_25 w_545 (by decide +kernel) rfl rfl ⟨by omega, by omega⟩ ⟨by have := (hE1 _ _ (hEs _ _ (hEf _ _ hEρ ⟨_, hρ⟩ 1 zb1))).2.1; omega, by have := (hE1 _ _ (hEs _ _ (hEf _ _ hEρ ⟨_, hρ⟩ 1 zb1))).2.2; omega⟩ (Nat.le_of_ble_eq_true rfl) rfl rfl ?_ k n
    show zVf G X 21 (zLw G o a (s_settle (s_fail ρ r 1)) f (B + 24)) 708 [(20, .int 1), (18, .long (vL 1)), (16, .long (vC 1)), (14, .long (vN 1)), (0, .ref bs), (1, .ref a), (2, .int (nI (sN σ 0))), (3, .int (nI (sN σ 1))), (4, .int (nI (sN σ 2))), (5, .int (nI (sN σ 3))), (6, .long cmt), (8, .ref o), (9, .int (nI i)), (10, .int (nI (8 * i))), (13, .int (nI r))] [.long (v_net (s_fail ρ r 1))]
    intro k n
    rw [hVn _ _ (hEf _ _ hEρ ⟨_, hρ⟩ 1 zb1)]
    refine zi_lload K (dL_law_p7 34 rfl) 3 rfl ?_
    refine zi_lif_ne K 738 (dL_law_p7 35 rfl) (dL_law_p7 36 rfl) rfl (fun h710_0 => ?_) (fun h710_0 => ?_)
    · exact absurd rfl h710_0
    refine zi_aload_n K (dL_law_p7 37 rfl) 5 rfl ?_
    refine zi_iload K (dL_law_p7 38 rfl) 14 rfl ?_
    refine zw_callSW K (f := f) (B := (B + 24)) (σ := s_settle (s_fail ρ r 1)) (σ' := s_settlePool (s_settle (s_fail ρ r 1))) (As := [.ref a, .int (nI r)]) (na := 2) [] [.long (v_comes (s_settle (s_fail ρ r 1)) r)] (e_comes r (hE1 _ _ (hEs _ _ (hEf _ _ hEρ ⟨_, hρ⟩ 1 zb1))).1 hr) (dL_law_p7 39 rfl) w_1285 w_1286 w_24 w_1287 (by decide +kernel) rfl ⟨by omega, by omega⟩ ⟨by have := (hE1 _ _ (hEp _ _ (hEs _ _ (hEf _ _ hEρ ⟨_, hρ⟩ 1 zb1)))).2.1; omega, by have := (hE1 _ _ (hEp _ _ (hEs _ _ (hEf _ _ hEρ ⟨_, hρ⟩ 1 zb1)))).2.2; omega⟩ (Nat.le_of_ble_eq_true rfl) rfl rfl ?_ k n
    show zVf G X 21 (zLw G o a (s_settlePool (s_settle (s_fail ρ r 1))) f (B + 24)) 720 [(20, .int 1), (18, .long (vL 1)), (16, .long (vC 1)), (14, .long (vN 1)), (0, .ref bs), (1, .ref a), (2, .int (nI (sN σ 0))), (3, .int (nI (sN σ 1))), (4, .int (nI (sN σ 2))), (5, .int (nI (sN σ 3))), (6, .long cmt), (8, .ref o), (9, .int (nI i)), (10, .int (nI (8 * i))), (13, .int (nI r))] [.long (v_comes (s_settle (s_fail ρ r 1)) r)]
    intro k n
    rw [hVc _ _ (hEs _ _ (hEf _ _ hEρ ⟨_, hρ⟩ 1 zb1))]
    refine zi_lload K (dL_law_p7 40 rfl) 2 rfl ?_
    refine zi_lif_ne K 738 (dL_law_p7 41 rfl) (dL_law_p7 42 rfl) rfl (fun h722_0 => ?_) (fun h722_0 => ?_)
    · exact absurd rfl h722_0
    refine zi_aload_n K (dL_law_p7 43 rfl) 5 rfl ?_
    refine zi_iload K (dL_law_p7 44 rfl) 14 rfl ?_
    refine zw_callSW K (f := f) (B := (B + 24)) (σ := s_settlePool (s_settle (s_fail ρ r 1))) (σ' := s_settle (s_settlePool (s_settle (s_fail ρ r 1)))) (As := [.ref a, .int (nI r)]) (na := 2) [] [.long (v_lost (s_settlePool (s_settle (s_fail ρ r 1))) r)] (e_lost r (hE1 _ _ (hEp _ _ (hEs _ _ (hEf _ _ hEρ ⟨_, hρ⟩ 1 zb1)))).1 hr) (dL_law_p7 45 rfl) w_1278 w_1279 w_24 w_1280 (by decide +kernel) rfl ⟨by omega, by omega⟩ ⟨by have := (hE1 _ _ (hEs _ _ (hEp _ _ (hEs _ _ (hEf _ _ hEρ ⟨_, hρ⟩ 1 zb1))))).2.1; omega, by have := (hE1 _ _ (hEs _ _ (hEp _ _ (hEs _ _ (hEf _ _ hEρ ⟨_, hρ⟩ 1 zb1))))).2.2; omega⟩ (Nat.le_of_ble_eq_true rfl) rfl rfl ?_ k n
    show zVf G X 21 (zLw G o a (s_settle (s_settlePool (s_settle (s_fail ρ r 1)))) f (B + 24)) 732 [(20, .int 1), (18, .long (vL 1)), (16, .long (vC 1)), (14, .long (vN 1)), (0, .ref bs), (1, .ref a), (2, .int (nI (sN σ 0))), (3, .int (nI (sN σ 1))), (4, .int (nI (sN σ 2))), (5, .int (nI (sN σ 3))), (6, .long cmt), (8, .ref o), (9, .int (nI i)), (10, .int (nI (8 * i))), (13, .int (nI r))] [.long (v_lost (s_settlePool (s_settle (s_fail ρ r 1))) r)]
    intro k n
    rw [hVl _ _ (hEp _ _ (hEs _ _ (hEf _ _ hEρ ⟨_, hρ⟩ 1 zb1)))]
    refine zi_lload K (dL_law_p7 46 rfl) 1 rfl ?_
    refine zi_lif_eq K 740 (dL_law_p7 47 rfl) (dL_law_p7 48 rfl) rfl (fun h734_0 => ?_) (fun h734_0 => ?_)
    rotate_left
    · exact absurd rfl h734_0
    have hrm9 := (hE1 _ _ (hEs _ _ (hEp _ _ (hEs _ _ (hEf _ _ hEρ ⟨_, hρ⟩ 1 zb1))))).2
    refine zi_aload_n K (dL_law_p8 1 rfl) 4 rfl ?_
    refine zi_iload K (dL_law_p8 2 rfl) 13 rfl ?_
    refine zi_iconst K (dL_law_p8 3 rfl) zk_i4 ?_
    refine zi_iadd K (dL_law_p8 4 rfl) ?_
    refine zi_eqi (v := nI ((8 * i) + 4)) (nI_add (8 * i) 4) ?_
    refine zi_iconst K (dL_law_p8 5 rfl) zk_i2 ?_
    refine zV.rmk (fun H h => h.1) (fun hk9 => ?_)
    refine zl_some K Y hL9 ((8 * i) + 4) 2 (by omega) (by omega) (by omega) (dL_law_p8 6 rfl) ⟨by omega, by omega, by omega, by omega⟩ (Nat.le_of_ble_eq_true rfl) ?_
    refine zi_if_ne K 775 (dL_law_p8 7 rfl) rfl (fun h749_0 => ?_) (fun h749_0 => ?_)
    · skip
      refine zi_goto K 1296 (dL_law_p8 20 rfl) rfl ?_
      refine zV.pick [4, 5, 6, 7, 8, 9, 10, 11, 12] (lo' := [(0, .ref bs), (1, .ref a), (2, .int (nI (sN σ 0))), (3, .int (nI (sN σ 1))), (4, .int (nI (sN σ 2))), (5, .int (nI (sN σ 3))), (6, .long cmt), (8, .ref o), (9, .int (nI i))]) rfl ?_
      exact (kk _ _ (hEs _ _ (hEp _ _ (hEs _ _ (hEf _ _ hEρ ⟨_, hρ⟩ 1 zb1))))) k n
    · skip
      refine zi_aload_n K (dL_law_p8 8 rfl) 5 rfl ?_
      refine zi_iload K (dL_law_p8 9 rfl) 14 rfl ?_
      refine zi_iload K (dL_law_p8 10 rfl) 0 rfl ?_
      refine zi_if_ne K 764 (dL_law_p8 11 rfl) rfl (fun h757_1 => ?_) (fun h757_1 => ?_)
      rotate_left
      · exact absurd h757_1 (by decide)
      refine zi_iconst K (dL_law_p8 14 rfl) zk_i0 ?_
      refine zw_callSW K (f := f) (B := (B + 24)) (σ := s_settle (s_settlePool (s_settle (s_fail ρ r 1)))) (σ' := s_fail (s_settle (s_settlePool (s_settle (s_fail ρ r 1)))) r 0) (As := [.ref a, .int (nI r), .int 0]) (na := 3) [] [.int (if v_fail (s_settle (s_settlePool (s_settle (s_fail ρ r 1)))) r 0 = 0 then 0 else 1)] (e_fail r 0 (hE1 _ _ (hEs _ _ (hEp _ _ (hEs _ _ (hEf _ _ hEρ ⟨_, hρ⟩ 1 zb1))))).1 hr ⟨rfl, rfl⟩) (dL_law_p8 15 rfl) w_1390 w_1391 w_24 w_1392 (by decide +kernel) rfl ⟨by omega, by omega⟩ ⟨by have := (hE1 _ _ (hEf _ _ (hEs _ _ (hEp _ _ (hEs _ _ (hEf _ _ hEρ ⟨_, hρ⟩ 1 zb1)))) ⟨_, zPr.rf⟩ 0 zb0)).2.1; omega, by have := (hE1 _ _ (hEf _ _ (hEs _ _ (hEp _ _ (hEs _ _ (hEf _ _ hEρ ⟨_, hρ⟩ 1 zb1)))) ⟨_, zPr.rf⟩ 0 zb0)).2.2; omega⟩ (Nat.le_of_ble_eq_true rfl) rfl rfl ?_ k n
      show zVf G X 21 (zLw G o a (s_fail (s_settle (s_settlePool (s_settle (s_fail ρ r 1)))) r 0) f (B + 24)) 768 [(20, .int 1), (18, .long (vL 1)), (16, .long (vC 1)), (14, .long (vN 1)), (0, .ref bs), (1, .ref a), (2, .int (nI (sN σ 0))), (3, .int (nI (sN σ 1))), (4, .int (nI (sN σ 2))), (5, .int (nI (sN σ 3))), (6, .long cmt), (8, .ref o), (9, .int (nI i)), (10, .int (nI (8 * i))), (13, .int (nI r))] [.int (if v_fail (s_settle (s_settlePool (s_settle (s_fail ρ r 1)))) r 0 = 0 then 0 else 1)]
      intro k n
      refine zi_eqi (v := 1) (by unfold v_fail; rw [hEv _ _ (hEs _ _ (hEp _ _ (hEs _ _ (hEf _ _ hEρ ⟨_, hρ⟩ 1 zb1))))]; rfl) ?_
      refine zi_iload K (dL_law_p8 16 rfl) 0 rfl ?_
      refine zi_icmp_eq K 775 (dL_law_p8 17 rfl) rfl (fun h770_1 => ?_) (fun h770_1 => ?_)
      rotate_left
      · exact absurd rfl h770_1
      refine zi_goto K 1296 (dL_law_p8 20 rfl) rfl ?_
      refine zV.pick [4, 5, 6, 7, 8, 9, 10, 11, 12] (lo' := [(0, .ref bs), (1, .ref a), (2, .int (nI (sN σ 0))), (3, .int (nI (sN σ 1))), (4, .int (nI (sN σ 2))), (5, .int (nI (sN σ 3))), (6, .long cmt), (8, .ref o), (9, .int (nI i))]) rfl ?_
      exact (kk _ _ (hEf _ _ (hEs _ _ (hEp _ _ (hEs _ _ (hEf _ _ hEρ ⟨_, hρ⟩ 1 zb1)))) ⟨_, zPr.rf⟩ 0 zb0)) k n
