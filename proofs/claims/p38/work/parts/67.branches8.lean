/-! the law's block of tails -/
def zis (nn : Nat → Int64) (t0 : Int64) : Nat → Int32
  | 0 => 0
  | k + 1 => zis nn t0 k ||| (if nn k = t0 then 1 else 0)
theorem zis_01 (nn : Nat → Int64) (t0 : Int64) (k : Nat) : zis nn t0 k = 0 ∨ zis nn t0 k = 1 := by
  induction k with
  | zero => exact Or.inl rfl
  | succ k ih =>
    unfold zis
    split
    · rcases ih with h | h
      · rw [h]; exact Or.inr (by decide)
      · rw [h]; exact Or.inr (by decide)
    · rcases ih with h | h
      · rw [h]; exact Or.inl (by decide)
      · rw [h]; exact Or.inr (by decide)
theorem zis_ne {nn : Nat → Int64} {t0 : Int64} {m k : Nat} (hk : k < m) (h : nn k = t0) : ¬ zis nn t0 m = 0 := by
  induction m with
  | zero => exact absurd hk (Nat.not_lt_zero _)
  | succ m ih =>
    unfold zis
    by_cases e : k = m
    · subst e
      rw [if_pos h]
      rcases zis_01 nn t0 k with g | g
      · rw [g]; decide
      · rw [g]; decide
    · have g := (zis_01 nn t0 m).resolve_left (ih (by omega))
      rw [g]
      split
      · decide
      · decide
set_option maxRecDepth 100000 in
set_option maxHeartbeats 8000000 in
theorem b_tailA {G : zG} {X : zX} {bs Ls o a : Nat} {ys : Nat → Int32} {σ : zSt} {f : Nat → Int32} {B i : Nat} {cmt : Int64} {rm : Room} (K : zK G X cL_law "LayertreatyLaw" 21 (some .boolean) rm) (Y : zY G bs Ls ys (xs X)) (hL9 : Ls ≤ 260) (hi9 : i < 50) (hR9 : 60 ≤ rm.frames ∧ 2000 ≤ rm.locals) (hw : zW σ) (E : zSt → Prop) (tl nn : Nat → Int64) (hEσ : E σ) (hN3 : sN σ 3 ≤ 12) (hE1 : ∀ ρ, E ρ → zW ρ ∧ sgc ρ + (B + 0) ≤ rm.cells ∧ sgs ρ + 6 * (B + 0) ≤ rm.slots ∧ sN ρ 3 = sN σ 3 ∧ v_isEmpty ρ 3 = 0) (hEa : ∀ ρ, E ρ → E (s_playAll ρ)) (hEp : ∀ ρ, E ρ → ∀ z, z < sN σ 3 → E (s_play ρ z)) (hT : ∀ ρ, E ρ → ∀ h, h < 100 → v_tail ρ (nI h) = tl h) (hN : ∀ ρ, E ρ → ∀ z, z < sN σ 3 → v_scNet ρ z = nn z)
    (kk : ∀ ρ, E ρ → zVf G X 21 (zLw G o a ρ f B) 1378 [(0, .ref bs), (1, .ref a), (2, .int (nI (sN σ 0))), (3, .int (nI (sN σ 1))), (4, .int (nI (sN σ 2))), (5, .int (nI (sN σ 3))), (6, .long cmt), (8, .ref o), (9, .int (nI i)), (14, .long (tl 0)), (16, .int (zis nn (tl 0) (sN σ 3)))] []) : zVf G X 21 (zLw G o a σ f B) 1330 [(0, .ref bs), (1, .ref a), (2, .int (nI (sN σ 0))), (3, .int (nI (sN σ 1))), (4, .int (nI (sN σ 2))), (5, .int (nI (sN σ 3))), (6, .long cmt), (8, .ref o), (9, .int (nI i))] [] := by
  intro k n
  refine zi_aload_n K (dL_law_p14 11 rfl) 1 rfl ?_
  refine zi_iconst K (dL_law_p14 12 rfl) zk_i0 ?_
  refine zw_callSW K (f := f) (B := B) (σ := σ) (σ' := s_playAll σ) (As := [.ref a, .int 0]) (na := 2) [] [.long (v_tail σ (nI (0)))] (e_tail (nI (0)) (hE1 _ hEσ).1 (isOut_nI (lo := 0) (hi := 99) (by omega) (by omega) (by omega)) (hE1 _ hEσ).2.2.2.2) (dL_law_p14 13 rfl) w_1351 w_1352 w_24 w_1353 (by decide +kernel) rfl ⟨by omega, by omega⟩ ⟨(hE1 _ (hEa _ hEσ)).2.1, (hE1 _ (hEa _ hEσ)).2.2.1⟩ (Nat.le_of_ble_eq_true rfl) rfl rfl ?_ k n
  show zVf G X 21 (zLw G o a (s_playAll σ) f B) 1335 [(0, .ref bs), (1, .ref a), (2, .int (nI (sN σ 0))), (3, .int (nI (sN σ 1))), (4, .int (nI (sN σ 2))), (5, .int (nI (sN σ 3))), (6, .long cmt), (8, .ref o), (9, .int (nI i))] [.long (v_tail σ (nI (0)))]
  intro k n
  rw [hT _ hEσ (0) (by omega)]
  refine zi_lstore K [(14, .long (tl (0))), (0, .ref bs), (1, .ref a), (2, .int (nI (sN σ 0))), (3, .int (nI (sN σ 1))), (4, .int (nI (sN σ 2))), (5, .int (nI (sN σ 3))), (6, .long cmt), (8, .ref o), (9, .int (nI i))] (dL_law_p14 14 rfl) (by decide) rfl ?_
  refine zi_iconst K (dL_law_p14 15 rfl) zk_i0 ?_
  refine zi_istore K [(16, .int 0), (14, .long (tl (0))), (0, .ref bs), (1, .ref a), (2, .int (nI (sN σ 0))), (3, .int (nI (sN σ 1))), (4, .int (nI (sN σ 2))), (5, .int (nI (sN σ 3))), (6, .long cmt), (8, .ref o), (9, .int (nI i))] (dL_law_p14 16 rfl) (by decide) rfl ?_
  refine zi_iconst K (dL_law_p14 17 rfl) zk_i0 ?_
  refine zi_istore K [(17, .int 0), (16, .int 0), (14, .long (tl (0))), (0, .ref bs), (1, .ref a), (2, .int (nI (sN σ 0))), (3, .int (nI (sN σ 1))), (4, .int (nI (sN σ 2))), (5, .int (nI (sN σ 3))), (6, .long cmt), (8, .ref o), (9, .int (nI i))] (dL_law_p14 18 rfl) (by decide) rfl ?_
  refine zV.pick [3, 4, 5, 6, 7, 8, 9, 10, 11, 2, 1, 0] (lo' := [(0, .ref bs), (1, .ref a), (2, .int (nI (sN σ 0))), (3, .int (nI (sN σ 1))), (4, .int (nI (sN σ 2))), (5, .int (nI (sN σ 3))), (6, .long cmt), (8, .ref o), (9, .int (nI i)), (14, .long (tl (0))), (16, .int 0), (17, .int 0)]) rfl ?_
  suffices hloop1343 : ∀ (r9 z : Nat), z ≤ sN σ 3 → sN σ 3 - z < r9 → ∀ ρ, E ρ → zVf G X 21 (zLw G o a ρ f B) 1343 [(0, .ref bs), (1, .ref a), (2, .int (nI (sN σ 0))), (3, .int (nI (sN σ 1))), (4, .int (nI (sN σ 2))), (5, .int (nI (sN σ 3))), (6, .long cmt), (8, .ref o), (9, .int (nI i)), (14, .long (tl 0)), (16, .int (zis nn (tl 0) z)), (17, .int (nI z))] [] from hloop1343 (sN σ 3 + 1) 0 (Nat.zero_le _) (Nat.lt_succ_of_le (Nat.sub_le _ _)) (s_playAll σ) (hEa _ hEσ) k n
  intro r9
  induction r9 with
  | zero => intro z _ h; exact absurd h (Nat.not_lt_zero _)
  | succ r9 ih1343 =>
    intro z hi1343 hr1343 ρ hE k n
    refine zi_iload K (dL_law_p14 19 rfl) 11 rfl ?_
    refine zi_iload K (dL_law_p14 20 rfl) 5 rfl ?_
    refine zi_icmp_ge K 1378 (dL_law_p14 21 rfl) rfl (fun h1347_0 => ?_) (fun h1347_0 => ?_)
    · skip
      have hN1343 := zloop_exit rfl (by omega) hi1343 h1347_0
      subst z
      refine zV.pick [0, 1, 2, 3, 4, 5, 6, 7, 8, 9, 10] (lo' := [(0, .ref bs), (1, .ref a), (2, .int (nI (sN σ 0))), (3, .int (nI (sN σ 1))), (4, .int (nI (sN σ 2))), (5, .int (nI (sN σ 3))), (6, .long cmt), (8, .ref o), (9, .int (nI i)), (14, .long (tl 0)), (16, .int (zis nn (tl 0) (sN σ 3)))]) rfl ?_
      exact (kk ρ hE) k n
    · skip
      have hlt1343 := zloop_in rfl (by omega) hi1343 h1347_0
      refine zi_iload K (dL_law_p14 22 rfl) 10 rfl ?_
      refine zi_aload_n K (dL_law_p14 23 rfl) 1 rfl ?_
      refine zi_iload K (dL_law_p14 24 rfl) 11 rfl ?_
      refine zw_callSW K (f := f) (B := B) (σ := ρ) (σ' := s_play ρ z) (As := [.ref a, .int (nI z)]) (na := 2) [.int (zis nn (tl 0) z)] [.long (v_scNet ρ z), .int (zis nn (tl 0) z)] (e_scenarioNet z (hE1 _ hE).1 (by rw [(hE1 _ hE).2.2.2.1]; exact hlt1343)) (dL_law_p14 25 rfl) w_1344 w_1345 w_24 w_1346 (by decide +kernel) rfl ⟨by omega, by omega⟩ ⟨(hE1 _ (hEp _ hE z hlt1343)).2.1, (hE1 _ (hEp _ hE z hlt1343)).2.2.1⟩ (Nat.le_of_ble_eq_true rfl) rfl rfl ?_ k n
      show zVf G X 21 (zLw G o a (s_play ρ z) f B) 1358 [(0, .ref bs), (1, .ref a), (2, .int (nI (sN σ 0))), (3, .int (nI (sN σ 1))), (4, .int (nI (sN σ 2))), (5, .int (nI (sN σ 3))), (6, .long cmt), (8, .ref o), (9, .int (nI i)), (14, .long (tl 0)), (16, .int (zis nn (tl 0) z)), (17, .int (nI z))] [.long (v_scNet ρ z), .int (zis nn (tl 0) z)]
      intro k n
      rw [hN _ hE z hlt1343]
      refine zi_lload K (dL_law_p14 26 rfl) 9 rfl ?_
      refine zi_lif_ne K 1368 (dL_law_p14 27 rfl) (dL_law_p14 28 rfl) rfl (fun h1360_0 => ?_) (fun h1360_0 => ?_)
      · skip
        refine zi_iconst K (dL_law_p14 31 rfl) zk_i0 ?_
        refine zi_ior K (dL_law_p14 32 rfl) ?_
        refine zi_istore K [(16, .int ((zis nn (tl 0) z) ||| 0)), (0, .ref bs), (1, .ref a), (2, .int (nI (sN σ 0))), (3, .int (nI (sN σ 1))), (4, .int (nI (sN σ 2))), (5, .int (nI (sN σ 3))), (6, .long cmt), (8, .ref o), (9, .int (nI i)), (14, .long (tl 0)), (17, .int (nI z))] (dL_law_p14 33 rfl) (by decide) rfl ?_
        refine zi_iinc K (v := nI (z + 1)) [(17, .int (nI (z + 1))), (16, .int ((zis nn (tl 0) z) ||| 0)), (0, .ref bs), (1, .ref a), (2, .int (nI (sN σ 0))), (3, .int (nI (sN σ 1))), (4, .int (nI (sN σ 2))), (5, .int (nI (sN σ 3))), (6, .long cmt), (8, .ref o), (9, .int (nI i)), (14, .long (tl 0))] (dL_law_p14 34 rfl) 11 rfl (zk_inc _) (by decide) rfl ?_
        refine zi_goto K 1343 (dL_law_p14 35 rfl) rfl ?_
        refine zV.pick [2, 3, 4, 5, 6, 7, 8, 9, 10, 11, 1, 0] (lo' := [(0, .ref bs), (1, .ref a), (2, .int (nI (sN σ 0))), (3, .int (nI (sN σ 1))), (4, .int (nI (sN σ 2))), (5, .int (nI (sN σ 3))), (6, .long cmt), (8, .ref o), (9, .int (nI i)), (14, .long (tl 0)), (16, .int ((zis nn (tl 0) z) ||| 0)), (17, .int (nI (z + 1)))]) rfl ?_
        have hz9 : (zis nn (tl 0) z) ||| 0 = zis nn (tl 0) (z + 1) := by
          show _ = zis nn (tl 0) z ||| (if nn z = tl 0 then 1 else 0)
          rw [if_neg h1360_0]
        rw [hz9]
        exact ih1343 (z + 1) (by omega) (by omega) (s_play ρ z) (hEp _ hE z hlt1343) k n
      · skip
        refine zi_iconst K (dL_law_p14 29 rfl) zk_i1 ?_
        refine zi_goto K 1369 (dL_law_p14 30 rfl) rfl ?_
        refine zi_ior K (dL_law_p14 32 rfl) ?_
        refine zi_istore K [(16, .int ((zis nn (tl 0) z) ||| 1)), (0, .ref bs), (1, .ref a), (2, .int (nI (sN σ 0))), (3, .int (nI (sN σ 1))), (4, .int (nI (sN σ 2))), (5, .int (nI (sN σ 3))), (6, .long cmt), (8, .ref o), (9, .int (nI i)), (14, .long (tl 0)), (17, .int (nI z))] (dL_law_p14 33 rfl) (by decide) rfl ?_
        refine zi_iinc K (v := nI (z + 1)) [(17, .int (nI (z + 1))), (16, .int ((zis nn (tl 0) z) ||| 1)), (0, .ref bs), (1, .ref a), (2, .int (nI (sN σ 0))), (3, .int (nI (sN σ 1))), (4, .int (nI (sN σ 2))), (5, .int (nI (sN σ 3))), (6, .long cmt), (8, .ref o), (9, .int (nI i)), (14, .long (tl 0))] (dL_law_p14 34 rfl) 11 rfl (zk_inc _) (by decide) rfl ?_
        refine zi_goto K 1343 (dL_law_p14 35 rfl) rfl ?_
        refine zV.pick [2, 3, 4, 5, 6, 7, 8, 9, 10, 11, 1, 0] (lo' := [(0, .ref bs), (1, .ref a), (2, .int (nI (sN σ 0))), (3, .int (nI (sN σ 1))), (4, .int (nI (sN σ 2))), (5, .int (nI (sN σ 3))), (6, .long cmt), (8, .ref o), (9, .int (nI i)), (14, .long (tl 0)), (16, .int ((zis nn (tl 0) z) ||| 1)), (17, .int (nI (z + 1)))]) rfl ?_
        have hz9 : (zis nn (tl 0) z) ||| 1 = zis nn (tl 0) (z + 1) := by
          show _ = zis nn (tl 0) z ||| (if nn z = tl 0 then 1 else 0)
          rw [if_pos h1360_0]
        rw [hz9]
        exact ih1343 (z + 1) (by omega) (by omega) (s_play ρ z) (hEp _ hE z hlt1343) k n
