/-! the law's block of tails, its rest -/
def zpv : Nat → Nat
  | 0 => 0
  | z + 1 => 9 + 10 * z
set_option maxRecDepth 100000 in
set_option maxHeartbeats 8000000 in
theorem b_tailB {G : zG} {X : zX} {bs Ls o a : Nat} {ys : Nat → Int32} {σ : zSt} {f : Nat → Int32} {B i : Nat} {cmt : Int64} {rm : Room} (K : zK G X cL_law "LayertreatyLaw" 21 (some .boolean) rm) (Y : zY G bs Ls ys (xs X)) (hL9 : Ls ≤ 260) (hi9 : i < 50) (hR9 : 60 ≤ rm.frames ∧ 2000 ≤ rm.locals) (hw : zW σ) (E : zSt → Prop) (tl nn : Nat → Int64) (hEσ : E σ) (hN3 : sN σ 3 ≤ 12) (hE1 : ∀ ρ, E ρ → zW ρ ∧ sgc ρ + (B + 0) ≤ rm.cells ∧ sgs ρ + 6 * (B + 0) ≤ rm.slots ∧ sN ρ 3 = sN σ 3 ∧ v_isEmpty ρ 3 = 0) (hEa : ∀ ρ, E ρ → E (s_playAll ρ)) (hEp : ∀ ρ, E ρ → ∀ z, z < sN σ 3 → E (s_play ρ z)) (hT : ∀ ρ, E ρ → ∀ h, h < 100 → v_tail ρ (nI h) = tl h) (hN : ∀ ρ, E ρ → ∀ z, z < sN σ 3 → v_scNet ρ z = nn z) {w9 : Int32} (hw9 : ¬ w9 = 0) (hmo : ∀ z, 9 + 10 * z < 100 → ¬ tl (zpv z) < tl (9 + 10 * z)) (hM : ∀ ρ, E ρ → vf_n64 (FP.ddiv (FP.l2d (mnS (s_playAll ρ) (sZ (s_playAll ρ) 3))) (FP.l2d (mnW (s_playAll ρ) (sZ (s_playAll ρ) 3)))) ∧ Op.cmpValue (FP.dcmp (v_meanNet ρ) (FP.l2d (tl 0))) .l ≤ 0)
    (kk : ∀ ρ, E ρ → zVf G X 21 (zLw G o a ρ f B) 1438 [(0, .ref bs), (1, .ref a), (2, .int (nI (sN σ 0))), (3, .int (nI (sN σ 1))), (4, .int (nI (sN σ 2))), (5, .int (nI (sN σ 3))), (6, .long cmt), (8, .ref o), (9, .int (nI i))] []) : zVf G X 21 (zLw G o a σ f B) 1378 [(0, .ref bs), (1, .ref a), (2, .int (nI (sN σ 0))), (3, .int (nI (sN σ 1))), (4, .int (nI (sN σ 2))), (5, .int (nI (sN σ 3))), (6, .long cmt), (8, .ref o), (9, .int (nI i)), (14, .long (tl 0)), (16, .int w9)] [] := by
  intro k n
  refine zi_bipush K (dL_law_p14 36 rfl) zk_b9 ?_
  refine zi_istore K [(17, .int 9), (0, .ref bs), (1, .ref a), (2, .int (nI (sN σ 0))), (3, .int (nI (sN σ 1))), (4, .int (nI (sN σ 2))), (5, .int (nI (sN σ 3))), (6, .long cmt), (8, .ref o), (9, .int (nI i)), (14, .long (tl 0)), (16, .int w9)] (dL_law_p14 37 rfl) (by decide) rfl ?_
  refine zV.pick [1, 2, 3, 4, 5, 6, 7, 8, 9, 10, 11, 0] (lo' := [(0, .ref bs), (1, .ref a), (2, .int (nI (sN σ 0))), (3, .int (nI (sN σ 1))), (4, .int (nI (sN σ 2))), (5, .int (nI (sN σ 3))), (6, .long cmt), (8, .ref o), (9, .int (nI i)), (14, .long (tl 0)), (16, .int w9), (17, .int 9)]) rfl ?_
  suffices hloop1382 : ∀ (r9 z : Nat), z ≤ 10 → 10 - z < r9 → ∀ ρ, E ρ → zVf G X 21 (zLw G o a ρ f B) 1382 [(0, .ref bs), (1, .ref a), (2, .int (nI (sN σ 0))), (3, .int (nI (sN σ 1))), (4, .int (nI (sN σ 2))), (5, .int (nI (sN σ 3))), (6, .long cmt), (8, .ref o), (9, .int (nI i)), (14, .long (tl (zpv z))), (16, .int w9), (17, .int (nI (9 + 10 * z)))] [] from hloop1382 (10 + 1) 0 (Nat.zero_le _) (Nat.lt_succ_of_le (Nat.sub_le _ _)) σ hEσ k n
  intro r9
  induction r9 with
  | zero => intro z _ h; exact absurd h (Nat.not_lt_zero _)
  | succ r9 ih1382 =>
    intro z hi1382 hr1382 ρ hE k n
    refine zi_iload K (dL_law_p14 38 rfl) 11 rfl ?_
    refine zi_bipush K (dL_law_p14 39 rfl) zk_b100 ?_
    refine zi_icmp_ge K 1417 (dL_law_p14 40 rfl) rfl (fun h1386_0 => ?_) (fun h1386_0 => ?_)
    · skip
      refine zi_iload K (dL_law_p15 5 rfl) 10 rfl ?_
      refine zi_if_eq K 1436 (dL_law_p15 6 rfl) rfl (fun h1419_1 => ?_) (fun h1419_1 => ?_)
      · exact absurd h1419_1 hw9
      refine zi_aload_n K (dL_law_p15 7 rfl) 1 rfl ?_
      refine zw_callV K (f := f) (B := B) (σ := ρ) (σ' := s_playAll ρ) (As := []) (na := 0) [] [.double (v_meanNet ρ)] (e_meanNet (hE1 _ hE).1 (hE1 _ hE).2.2.2.2 (hM _ hE).1) (dL_law_p15 8 rfl) w_569 w_570 w_571 w_25 w_572 (by decide +kernel) rfl rfl ⟨by omega, by omega⟩ ⟨(hE1 _ (hEa _ hE)).2.1, (hE1 _ (hEa _ hE)).2.2.1⟩ (Nat.le_of_ble_eq_true rfl) rfl rfl ?_ k n
      show zVf G X 21 (zLw G o a (s_playAll ρ) f B) 1426 [(0, .ref bs), (1, .ref a), (2, .int (nI (sN σ 0))), (3, .int (nI (sN σ 1))), (4, .int (nI (sN σ 2))), (5, .int (nI (sN σ 3))), (6, .long cmt), (8, .ref o), (9, .int (nI i)), (14, .long (tl (zpv z))), (16, .int w9), (17, .int (nI (9 + 10 * z)))] [.double (v_meanNet ρ)]
      intro k n
      refine zi_aload_n K (dL_law_p15 9 rfl) 1 rfl ?_
      refine zi_iconst K (dL_law_p15 10 rfl) zk_i0 ?_
      refine zw_callSW K (f := f) (B := B) (σ := s_playAll ρ) (σ' := s_playAll (s_playAll ρ)) (As := [.ref a, .int 0]) (na := 2) [.double (v_meanNet ρ)] [.long (v_tail (s_playAll ρ) (nI (0))), .double (v_meanNet ρ)] (e_tail (nI (0)) (hE1 _ (hEa _ hE)).1 (isOut_nI (lo := 0) (hi := 99) (by omega) (by omega) (by omega)) (hE1 _ (hEa _ hE)).2.2.2.2) (dL_law_p15 11 rfl) w_1351 w_1352 w_24 w_1353 (by decide +kernel) rfl ⟨by omega, by omega⟩ ⟨(hE1 _ (hEa _ (hEa _ hE))).2.1, (hE1 _ (hEa _ (hEa _ hE))).2.2.1⟩ (Nat.le_of_ble_eq_true rfl) rfl rfl ?_ k n
      show zVf G X 21 (zLw G o a (s_playAll (s_playAll ρ)) f B) 1431 [(0, .ref bs), (1, .ref a), (2, .int (nI (sN σ 0))), (3, .int (nI (sN σ 1))), (4, .int (nI (sN σ 2))), (5, .int (nI (sN σ 3))), (6, .long cmt), (8, .ref o), (9, .int (nI i)), (14, .long (tl (zpv z))), (16, .int w9), (17, .int (nI (9 + 10 * z)))] [.long (v_tail (s_playAll ρ) (nI (0))), .double (v_meanNet ρ)]
      intro k n
      rw [hT _ (hEa _ hE) (0) (by omega)]
      refine zi_l2d K (dL_law_p15 12 rfl) ?_
      refine zi_dcmp K (dL_law_p15 13 rfl) ?_
      refine zi_if_le K 1438 (dL_law_p15 14 rfl) rfl (fun h1433_1 => ?_) (fun h1433_1 => ?_)
      rotate_left
      · exact absurd (hM _ hE).2 h1433_1
      refine zV.pick [0, 1, 2, 3, 4, 5, 6, 7, 8] (lo' := [(0, .ref bs), (1, .ref a), (2, .int (nI (sN σ 0))), (3, .int (nI (sN σ 1))), (4, .int (nI (sN σ 2))), (5, .int (nI (sN σ 3))), (6, .long cmt), (8, .ref o), (9, .int (nI i))]) rfl ?_
      exact (kk _ (hEa _ (hEa _ hE))) k n
    · skip
      refine zi_aload_n K (dL_law_p14 41 rfl) 1 rfl ?_
      refine zi_iload K (dL_law_p14 42 rfl) 11 rfl ?_
      have hz9 := Nat.not_le.mp (fun q => h1386_0 (nI_le (a := 100) (b := 9 + 10 * z) q (by omega)))
      refine zw_callSW K (f := f) (B := B) (σ := ρ) (σ' := s_playAll ρ) (As := [.ref a, .int (nI (9 + 10 * z))]) (na := 2) [] [.long (v_tail ρ (nI (9 + 10 * z)))] (e_tail (nI (9 + 10 * z)) (hE1 _ hE).1 (isOut_nI (lo := 0) (hi := 99) (by omega) (by omega) (by omega)) (hE1 _ hE).2.2.2.2) (dL_law_p14 43 rfl) w_1351 w_1352 w_24 w_1353 (by decide +kernel) rfl ⟨by omega, by omega⟩ ⟨(hE1 _ (hEa _ hE)).2.1, (hE1 _ (hEa _ hE)).2.2.1⟩ (Nat.le_of_ble_eq_true rfl) rfl rfl ?_ k n
      show zVf G X 21 (zLw G o a (s_playAll ρ) f B) 1395 [(0, .ref bs), (1, .ref a), (2, .int (nI (sN σ 0))), (3, .int (nI (sN σ 1))), (4, .int (nI (sN σ 2))), (5, .int (nI (sN σ 3))), (6, .long cmt), (8, .ref o), (9, .int (nI i)), (14, .long (tl (zpv z))), (16, .int w9), (17, .int (nI (9 + 10 * z)))] [.long (v_tail ρ (nI (9 + 10 * z)))]
      intro k n
      rw [hT _ hE (9 + 10 * z) (by omega)]
      refine zi_lload K (dL_law_p14 44 rfl) 9 rfl ?_
      refine zi_lif_le K 1403 (dL_law_p14 45 rfl) (dL_law_p14 46 rfl) rfl (fun h1397_1 => ?_) (fun h1397_1 => ?_)
      rotate_left
      · exact absurd h1397_1 (hmo z hz9)
      refine zi_aload_n K (dL_law_p14 49 rfl) 1 rfl ?_
      refine zi_iload K (dL_law_p15 0 rfl) 11 rfl ?_
      refine zw_callSW K (f := f) (B := B) (σ := s_playAll ρ) (σ' := s_playAll (s_playAll ρ)) (As := [.ref a, .int (nI (9 + 10 * z))]) (na := 2) [] [.long (v_tail (s_playAll ρ) (nI (9 + 10 * z)))] (e_tail (nI (9 + 10 * z)) (hE1 _ (hEa _ hE)).1 (isOut_nI (lo := 0) (hi := 99) (by omega) (by omega) (by omega)) (hE1 _ (hEa _ hE)).2.2.2.2) (dL_law_p15 1 rfl) w_1351 w_1352 w_24 w_1353 (by decide +kernel) rfl ⟨by omega, by omega⟩ ⟨(hE1 _ (hEa _ (hEa _ hE))).2.1, (hE1 _ (hEa _ (hEa _ hE))).2.2.1⟩ (Nat.le_of_ble_eq_true rfl) rfl rfl ?_ k n
      show zVf G X 21 (zLw G o a (s_playAll (s_playAll ρ)) f B) 1409 [(0, .ref bs), (1, .ref a), (2, .int (nI (sN σ 0))), (3, .int (nI (sN σ 1))), (4, .int (nI (sN σ 2))), (5, .int (nI (sN σ 3))), (6, .long cmt), (8, .ref o), (9, .int (nI i)), (14, .long (tl (zpv z))), (16, .int w9), (17, .int (nI (9 + 10 * z)))] [.long (v_tail (s_playAll ρ) (nI (9 + 10 * z)))]
      intro k n
      rw [hT _ (hEa _ hE) (9 + 10 * z) (by omega)]
      refine zi_lstore K [(14, .long (tl (9 + 10 * z))), (0, .ref bs), (1, .ref a), (2, .int (nI (sN σ 0))), (3, .int (nI (sN σ 1))), (4, .int (nI (sN σ 2))), (5, .int (nI (sN σ 3))), (6, .long cmt), (8, .ref o), (9, .int (nI i)), (16, .int w9), (17, .int (nI (9 + 10 * z)))] (dL_law_p15 2 rfl) (by decide) rfl ?_
      refine zi_iinc K (v := nI (9 + 10 * (z + 1))) [(17, .int (nI (9 + 10 * (z + 1)))), (14, .long (tl (9 + 10 * z))), (0, .ref bs), (1, .ref a), (2, .int (nI (sN σ 0))), (3, .int (nI (sN σ 1))), (4, .int (nI (sN σ 2))), (5, .int (nI (sN σ 3))), (6, .long cmt), (8, .ref o), (9, .int (nI i)), (16, .int w9)] (dL_law_p15 3 rfl) 11 rfl (nI_add (9 + 10 * z) 10) (by decide) rfl ?_
      refine zi_goto K 1382 (dL_law_p15 4 rfl) rfl ?_
      refine zV.pick [2, 3, 4, 5, 6, 7, 8, 9, 10, 1, 11, 0] (lo' := [(0, .ref bs), (1, .ref a), (2, .int (nI (sN σ 0))), (3, .int (nI (sN σ 1))), (4, .int (nI (sN σ 2))), (5, .int (nI (sN σ 3))), (6, .long cmt), (8, .ref o), (9, .int (nI i)), (14, .long (tl (9 + 10 * z))), (16, .int w9), (17, .int (nI (9 + 10 * (z + 1))))]) rfl ?_
      exact ih1382 (z + 1) (by omega) (by omega) (s_playAll (s_playAll ρ)) (hEa _ (hEa _ hE)) k n
