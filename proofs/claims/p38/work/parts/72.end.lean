/-! the law's end -/
theorem e_leftX {G : zG} {o a : Nat} {σ : zSt} {L : Nat} (hw : zW σ) (hL : L = sN σ 1) : zWS G o a σ σ yL_left cL_left 3 (some FieldType.long) [(0, 5, 6, 28)] 15 425 1 ([.ref a, .int (nI L)] : List Value) (some (.long (-2500000))) := by
  subst hL
  refine zWS.mk1 (fun ad ha => ?_)
  subst ha
  have h := l_left_IOB (t_left (G := zGo G o) (ad := ad) hw)
  exact h
theorem e_takenX {G : zG} {o a : Nat} {σ : zSt} {T : Nat} (hw : zW σ) (hT : T = sN σ 2) : zWS G o a σ (s_settle σ) yL_taken cL_taken 3 (some FieldType.long) [(0, 5, 6, 28)] 15 424 1 ([.ref a, .int (nI T)] : List Value) (some (.long (-2500000))) := fun ad ha => by
  subst hT
  subst ha
  have hle := (settle_W hw).2.2.1
  have h := l_taken_IOB (t_taken (G := zGo G o) (ad := ad) hw)
  exact ⟨_, _, _, ⟨by omega, by omega⟩, h, fun H hH => ⟨ad, rfl, hH⟩⟩
set_option maxRecDepth 100000 in
set_option maxHeartbeats 8000000 in
theorem b_end {G : zG} {X : zX} {bs Ls o a : Nat} {ys : Nat → Int32} {σ : zSt} {f : Nat → Int32} {B i : Nat} {cmt : Int64} {rm : Room} (K : zK G X cL_law "LayertreatyLaw" 21 (some .boolean) rm) (Y : zY G bs Ls ys (xs X)) (hL9 : Ls ≤ 260) (hi9 : i < 51) (hR9 : 60 ≤ rm.frames ∧ 2000 ≤ rm.locals) (hw : zW σ) (hm : zKM (s_settle σ) (sN σ 1) (sN σ 2) cmt) (hB : sgc (s_settle σ) + (B + 24) ≤ rm.cells ∧ sgs (s_settle σ) + 6 * (B + 24) ≤ rm.slots) (hok : ∀ ρ, zW ρ → zPo ρ (s_settle σ) → ¬ v_isSound ρ = 0 ∧ zW (s_isSound ρ) ∧ sN (s_isSound ρ) 1 = sN σ 1 ∧ sN (s_isSound ρ) 2 = sN σ 2 ∧ (sgc (s_isSound ρ) + (B + 24 + 1 + 1) ≤ rm.cells ∧ sgs (s_isSound ρ) + 6 * (B + 24 + 1 + 1) ≤ rm.slots) ∧ (sgc (s_settle (s_isSound ρ)) + (B + 24 + 1 + 1) ≤ rm.cells ∧ sgs (s_settle (s_isSound ρ)) + 6 * (B + 24 + 1 + 1) ≤ rm.slots))
    (kk : ∀ ρ, zW ρ → zPo ρ (s_settle σ) → zVf G X 21 (zLw G o a (s_settle (s_isSound ρ)) f (B + 24 + 1 + 1)) 1501 [] [.int 1]) : zVf G X 21 (zLw G o a σ f B) 1444 [(0, .ref bs), (1, .ref a), (2, .int (nI (sN σ 0))), (3, .int (nI (sN σ 1))), (4, .int (nI (sN σ 2))), (5, .int (nI (sN σ 3))), (6, .long cmt), (8, .ref o), (9, .int (nI i))] [] := by
  intro k n
  refine zi_aload_n K (dL_law_p15 19 rfl) 1 rfl ?_
  refine zi_iload_n K (dL_law_p15 20 rfl) 3 rfl ?_
  refine zi_iload K (dL_law_p15 21 rfl) 4 rfl ?_
  refine zi_lload K (dL_law_p15 22 rfl) 6 rfl ?_
  refine zw_kept (σ := σ) (f := f) (B := B) K (L := sN σ 1) (T := sN σ 2) (cmt := cmt) [] [.int 1] hw hm (dL_law_p15 23 rfl) w_1397 ⟨by omega, by omega⟩ ⟨by omega, by omega⟩ (Nat.le_of_ble_eq_true rfl) rfl rfl (fun ρ hwρ hρ => ?_) k n
  obtain ⟨hS, hw1, hN1, hN2, hB1, hB2⟩ := hok ρ hwρ hρ
  intro k n
  refine zi_if_eq K 1500 (dL_law_p15 24 rfl) rfl (fun h1453_0 => ?_) (fun h1453_0 => ?_)
  · exact absurd h1453_0 (by decide)
  refine zi_aload_n K (dL_law_p15 25 rfl) 1 rfl ?_
  refine zw_callV K (f := f) (B := (B + 24)) (σ := ρ) (σ' := s_isSound ρ) (As := []) (na := 0) [] [.int (v_isSound ρ)] (e_isSound hwρ) (dL_law_p15 26 rfl) w_618 w_619 w_620 w_25 w_621 (by decide +kernel) rfl rfl ⟨by omega, by omega⟩ ⟨by omega, by omega⟩ (Nat.le_of_ble_eq_true rfl) rfl rfl ?_ k n
  show zVf G X 21 (zLw G o a (s_isSound ρ) f (B + 24)) 1460 [(0, .ref bs), (1, .ref a), (2, .int (nI (sN σ 0))), (3, .int (nI (sN σ 1))), (4, .int (nI (sN σ 2))), (5, .int (nI (sN σ 3))), (6, .long cmt), (8, .ref o), (9, .int (nI i))] [.int (v_isSound ρ)]
  intro k n
  refine zi_if_eq K 1500 (dL_law_p15 27 rfl) rfl (fun h1460_0 => ?_) (fun h1460_0 => ?_)
  · exact absurd h1460_0 hS
  refine zi_aload_n K (dL_law_p15 28 rfl) 1 rfl ?_
  refine zw_callV K (f := f) (B := (B + 24)) (σ := s_isSound ρ) (σ' := s_isSound ρ) (As := []) (na := 0) [] [.int (nI (sN (s_isSound ρ) 1))] (e_losses hw1) (dL_law_p15 29 rfl) w_565 w_566 w_567 w_25 w_568 (by decide +kernel) rfl rfl ⟨by omega, by omega⟩ ⟨by omega, by omega⟩ (Nat.le_of_ble_eq_true rfl) rfl rfl ?_ k n
  show zVf G X 21 (zLw G o a (s_isSound ρ) f (B + 24)) 1467 [(0, .ref bs), (1, .ref a), (2, .int (nI (sN σ 0))), (3, .int (nI (sN σ 1))), (4, .int (nI (sN σ 2))), (5, .int (nI (sN σ 3))), (6, .long cmt), (8, .ref o), (9, .int (nI i))] [.int (nI (sN (s_isSound ρ) 1))]
  intro k n
  rw [hN1]
  refine zi_iload_n K (dL_law_p15 30 rfl) 3 rfl ?_
  refine zi_icmp_ne K 1500 (dL_law_p15 31 rfl) rfl (fun h1468_0 => ?_) (fun h1468_0 => ?_)
  · exact absurd rfl h1468_0
  refine zi_aload_n K (dL_law_p15 32 rfl) 1 rfl ?_
  refine zi_iload_n K (dL_law_p15 33 rfl) 3 rfl ?_
  refine zw_callSW K (f := f) (B := (B + 24)) (σ := s_isSound ρ) (σ' := s_isSound ρ) (As := [.ref a, .int (nI (sN σ 1))]) (na := 2) [] [.long (-2500000)] (e_leftX hw1 hN1.symm) (dL_law_p15 34 rfl) w_1249 w_1250 w_24 w_1251 (by decide +kernel) rfl ⟨by omega, by omega⟩ ⟨by omega, by omega⟩ (Nat.le_of_ble_eq_true rfl) rfl rfl ?_ k n
  show zVf G X 21 (zLw G o a (s_isSound ρ) f (B + 24 + 1)) 1476 [(0, .ref bs), (1, .ref a), (2, .int (nI (sN σ 0))), (3, .int (nI (sN σ 1))), (4, .int (nI (sN σ 2))), (5, .int (nI (sN σ 3))), (6, .long cmt), (8, .ref o), (9, .int (nI i))] [.long (-2500000)]
  intro k n
  refine zi_ldc2 K (dL_law_p15 35 rfl) w_1246 ?_
  refine zi_lif_ne K 1500 (dL_law_p15 36 rfl) (dL_law_p15 37 rfl) rfl (fun h1479_0 => ?_) (fun h1479_0 => ?_)
  · exact absurd rfl h1479_0
  refine zi_aload_n K (dL_law_p15 38 rfl) 1 rfl ?_
  refine zi_iload K (dL_law_p15 39 rfl) 4 rfl ?_
  refine zw_callSW K (f := f) (B := (B + 24 + 1)) (σ := s_isSound ρ) (σ' := s_settle (s_isSound ρ)) (As := [.ref a, .int (nI (sN σ 2))]) (na := 2) [] [.long (-2500000)] (e_takenX hw1 hN2.symm) (dL_law_p15 40 rfl) w_1256 w_1257 w_24 w_1258 (by decide +kernel) rfl ⟨by omega, by omega⟩ ⟨by omega, by omega⟩ (Nat.le_of_ble_eq_true rfl) rfl rfl ?_ k n
  show zVf G X 21 (zLw G o a (s_settle (s_isSound ρ)) f (B + 24 + 1 + 1)) 1489 [(0, .ref bs), (1, .ref a), (2, .int (nI (sN σ 0))), (3, .int (nI (sN σ 1))), (4, .int (nI (sN σ 2))), (5, .int (nI (sN σ 3))), (6, .long cmt), (8, .ref o), (9, .int (nI i))] [.long (-2500000)]
  intro k n
  refine zi_ldc2 K (dL_law_p15 41 rfl) w_1246 ?_
  refine zi_lif_ne K 1500 (dL_law_p15 42 rfl) (dL_law_p15 43 rfl) rfl (fun h1492_0 => ?_) (fun h1492_0 => ?_)
  · exact absurd rfl h1492_0
  refine zi_iconst K (dL_law_p15 44 rfl) zk_i1 ?_
  refine zi_goto K 1501 (dL_law_p15 45 rfl) rfl ?_
  refine zV.pick [] (lo' := []) rfl ?_
  exact (kk ρ hwρ hρ) k n
