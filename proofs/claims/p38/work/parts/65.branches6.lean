/-! the law's loop over the events of zones -/
theorem zw_wk {G : zG} {X : zX} {nL pc : Nat} {lo : List (Nat × Value)} {st : List Value} {o a : Nat} {σ : zSt} {f : Nat → Int32} {B B' : Nat} (h : B ≤ B') (kk : zVf G X nL (zLw G o a σ f B') pc lo st) : zVf G X nL (zLw G o a σ f B) pc lo st := fun k n => zV.imp (fun H q => ⟨⟨by have := q.1.1; omega, by have := q.1.2; omega⟩, q.2⟩) (kk k n)
set_option maxRecDepth 100000 in
set_option maxHeartbeats 8000000 in
theorem b_events {G : zG} {X : zX} {bs Ls o a : Nat} {ys : Nat → Int32} {σ : zSt} {f : Nat → Int32} {B i : Nat} {cmt : Int64} {rm : Room} (K : zK G X cL_law "LayertreatyLaw" 21 (some .boolean) rm) (Y : zY G bs Ls ys (xs X)) (hL9 : Ls ≤ 260) (hi9 : i < 50) (hR9 : 60 ≤ rm.frames ∧ 2000 ≤ rm.locals) (hw : zW σ) {t : Nat} (ht8 : t < 8) (E : zSt → Prop) (hEσ : E σ) (hE1 : ∀ ρ, E ρ → zW ρ ∧ t < sN ρ 2 ∧ sgc ρ + (B + 5) ≤ rm.cells ∧ sgs ρ + 6 * (B + 5) ≤ rm.slots) (hE2 : ∀ ρ, E ρ → E (s_settle ρ)) (hE3 : ∀ ρ, E ρ → E (s_run ρ 0 (nI t))) (hE4 : ∀ ρ, E ρ → sI σ 8 t 0 = 101 → ∀ z, z < 4 → v_events ρ t z ≤ nI (sN σ 1) ∧ ¬ v_isSame (s_settle ρ) t = 0) (hE6 : ∀ ρ, E ρ → (sI ρ 8 t 0 = 101 ↔ sI σ 8 t 0 = 101))
    (kk : ∀ ρ, E ρ → zVf G X 21 (zLw G o a ρ f (B + 4)) 1296 [(0, .ref bs), (1, .ref a), (2, .int (nI (sN σ 0))), (3, .int (nI (sN σ 1))), (4, .int (nI (sN σ 2))), (5, .int (nI (sN σ 3))), (6, .long cmt), (8, .ref o), (9, .int (nI i))] []) : zVf G X 21 (zLw G o a σ f B) 1239 [(0, .ref bs), (1, .ref a), (2, .int (nI (sN σ 0))), (3, .int (nI (sN σ 1))), (4, .int (nI (sN σ 2))), (5, .int (nI (sN σ 3))), (6, .long cmt), (8, .ref o), (9, .int (nI i)), (10, .int (nI (8 * i))), (12, .int (nI t))] [] := by
  intro k n
  refine zi_iconst K (dL_law_p13 15 rfl) zk_i0 ?_
  refine zi_istore K [(14, .int 0), (0, .ref bs), (1, .ref a), (2, .int (nI (sN σ 0))), (3, .int (nI (sN σ 1))), (4, .int (nI (sN σ 2))), (5, .int (nI (sN σ 3))), (6, .long cmt), (8, .ref o), (9, .int (nI i)), (10, .int (nI (8 * i))), (12, .int (nI t))] (dL_law_p13 16 rfl) (by decide) rfl ?_
  refine zV.pick [1, 2, 3, 4, 5, 6, 7, 8, 9, 10, 11, 0] (lo' := [(0, .ref bs), (1, .ref a), (2, .int (nI (sN σ 0))), (3, .int (nI (sN σ 1))), (4, .int (nI (sN σ 2))), (5, .int (nI (sN σ 3))), (6, .long cmt), (8, .ref o), (9, .int (nI i)), (10, .int (nI (8 * i))), (12, .int (nI t)), (14, .int 0)]) rfl ?_
  suffices hloop1242 : ∀ (r9 z : Nat), z ≤ 4 → 4 - z < r9 → ∀ ρ, E ρ → zVf G X 21 (zLw G o a ρ f (B + z)) 1242 [(0, .ref bs), (1, .ref a), (2, .int (nI (sN σ 0))), (3, .int (nI (sN σ 1))), (4, .int (nI (sN σ 2))), (5, .int (nI (sN σ 3))), (6, .long cmt), (8, .ref o), (9, .int (nI i)), (10, .int (nI (8 * i))), (12, .int (nI t)), (14, .int (nI (z)))] [] from hloop1242 (4 + 1) 0 (Nat.zero_le _) (Nat.lt_succ_of_le (Nat.sub_le _ _)) σ hEσ k n
  intro r9
  induction r9 with
  | zero => intro z _ h; exact absurd h (Nat.not_lt_zero _)
  | succ r9 ih1242 =>
    intro z hi1242 hr1242 ρ hE k n
    obtain ⟨hwρ, htρ, hBρ⟩ := hE1 ρ hE
    obtain ⟨hwτ, htτ, hBτ⟩ := hE1 (s_settle ρ) (hE2 ρ hE)
    obtain ⟨hwν, htν, hBν⟩ := hE1 (s_run (s_settle ρ) 0 (nI t)) (hE3 _ (hE2 ρ hE))
    refine zi_iload K (dL_law_p13 17 rfl) 11 rfl ?_
    refine zi_iconst K (dL_law_p13 18 rfl) zk_i4 ?_
    refine zi_icmp_ge K 1296 (dL_law_p13 19 rfl) rfl (fun h1245_0 => ?_) (fun h1245_0 => ?_)
    · skip
      have hN1242 := zloop_exit (by decide) (Nat.le_of_ble_eq_true rfl) hi1242 h1245_0
      subst hN1242
      refine zV.pick [0, 1, 2, 3, 4, 5, 6, 7, 8] (lo' := [(0, .ref bs), (1, .ref a), (2, .int (nI (sN σ 0))), (3, .int (nI (sN σ 1))), (4, .int (nI (sN σ 2))), (5, .int (nI (sN σ 3))), (6, .long cmt), (8, .ref o), (9, .int (nI i))]) rfl ?_
      exact (kk ρ hE) k n
    · skip
      have hlt1242 := zloop_in (by decide) (Nat.le_of_ble_eq_true rfl) hi1242 h1245_0
      refine zi_aload_n K (dL_law_p13 20 rfl) 1 rfl ?_
      refine zi_iload K (dL_law_p13 21 rfl) 10 rfl ?_
      refine zi_iload K (dL_law_p13 22 rfl) 11 rfl ?_
      by_cases he : sI σ 8 t 0 = 101
      · skip
        have hv := hE4 ρ hE he z (by omega)
        refine zw_callSW K (f := f) (B := (B + z)) (σ := ρ) (σ' := s_settle ρ) (As := [.ref a, .int (nI t), .int (nI (z))]) (na := 3) [] [.int (v_events ρ t z)] (e_events t z hwρ htρ (by omega) (isOut_nI (lo := 0) (hi := 3) (by omega) (by omega) (by omega)) (by rw [Nat.mod_eq_of_lt ht8]; exact (hE6 ρ hE).mpr he)) (dL_law_p13 23 rfl) w_1270 w_1271 w_24 w_1272 (by decide +kernel) rfl ⟨by omega, by omega⟩ ⟨by omega, by omega⟩ (Nat.le_of_ble_eq_true rfl) rfl rfl ?_ k n
        show zVf G X 21 (zLw G o a (s_settle ρ) f (B + z)) 1256 [(0, .ref bs), (1, .ref a), (2, .int (nI (sN σ 0))), (3, .int (nI (sN σ 1))), (4, .int (nI (sN σ 2))), (5, .int (nI (sN σ 3))), (6, .long cmt), (8, .ref o), (9, .int (nI i)), (10, .int (nI (8 * i))), (12, .int (nI t)), (14, .int (nI (z)))] [.int (v_events ρ t z)]
        intro k n
        refine zi_istore K [(15, .int (v_events ρ t z)), (0, .ref bs), (1, .ref a), (2, .int (nI (sN σ 0))), (3, .int (nI (sN σ 1))), (4, .int (nI (sN σ 2))), (5, .int (nI (sN σ 3))), (6, .long cmt), (8, .ref o), (9, .int (nI i)), (10, .int (nI (8 * i))), (12, .int (nI t)), (14, .int (nI (z)))] (dL_law_p13 24 rfl) (by decide) rfl ?_
        refine zi_iload K (dL_law_p13 25 rfl) 0 rfl ?_
        refine zi_ldc K (dL_law_p13 26 rfl) w_1058 ?_
        refine zi_icmp_eq K 1290 (dL_law_p13 27 rfl) rfl (fun h1262_0 => ?_) (fun h1262_0 => ?_)
        · skip
          refine zi_iinc K (v := nI (z + 1)) [(14, .int (nI (z + 1))), (15, .int (v_events ρ t z)), (0, .ref bs), (1, .ref a), (2, .int (nI (sN σ 0))), (3, .int (nI (sN σ 1))), (4, .int (nI (sN σ 2))), (5, .int (nI (sN σ 3))), (6, .long cmt), (8, .ref o), (9, .int (nI i)), (10, .int (nI (8 * i))), (12, .int (nI t))] (dL_law_p13 40 rfl) 12 rfl (zk_inc _) (by decide) rfl ?_
          refine zi_goto K 1242 (dL_law_p13 41 rfl) rfl ?_
          refine zV.pick [2, 3, 4, 5, 6, 7, 8, 9, 10, 11, 12, 0] (lo' := [(0, .ref bs), (1, .ref a), (2, .int (nI (sN σ 0))), (3, .int (nI (sN σ 1))), (4, .int (nI (sN σ 2))), (5, .int (nI (sN σ 3))), (6, .long cmt), (8, .ref o), (9, .int (nI i)), (10, .int (nI (8 * i))), (12, .int (nI t)), (14, .int (nI (z + 1)))]) rfl ?_
          exact zw_wk (B' := B + (z + 1)) (by omega) (ih1242 (z + 1) (by omega) (by omega) (s_settle ρ) (hE2 ρ hE)) k n
        · skip
          refine zi_iload K (dL_law_p13 28 rfl) 0 rfl ?_
          refine zi_if_ne K 1273 (dL_law_p13 29 rfl) rfl (fun h1267_1 => ?_) (fun h1267_1 => ?_)
          · skip
            refine zi_aload_n K (dL_law_p13 31 rfl) 2 rfl ?_
            refine zi_iload K (dL_law_p13 32 rfl) 11 rfl ?_
            refine zw_callV K (f := f) (B := (B + z)) (σ := s_settle ρ) (σ' := s_run (s_settle ρ) 0 (nI t)) (As := [.int (nI t)]) (na := 1) [] [.int (v_isSame (s_settle ρ) t)] (e_isSame t hwτ htτ ((hE6 _ (hE2 ρ hE)).mpr he)) (dL_law_p13 33 rfl) w_222 w_223 w_224 w_25 w_225 (by decide +kernel) rfl rfl ⟨by omega, by omega⟩ ⟨by omega, by omega⟩ (Nat.le_of_ble_eq_true rfl) rfl rfl ?_ k n
            show zVf G X 21 (zLw G o a (s_run (s_settle ρ) 0 (nI t)) f (B + z)) 1279 [(15, .int (v_events ρ t z)), (0, .ref bs), (1, .ref a), (2, .int (nI (sN σ 0))), (3, .int (nI (sN σ 1))), (4, .int (nI (sN σ 2))), (5, .int (nI (sN σ 3))), (6, .long cmt), (8, .ref o), (9, .int (nI i)), (10, .int (nI (8 * i))), (12, .int (nI t)), (14, .int (nI (z)))] [.int (v_isSame (s_settle ρ) t)]
            intro k n
            refine zi_if_eq K 1288 (dL_law_p13 34 rfl) rfl (fun h1279_2 => ?_) (fun h1279_2 => ?_)
            · exact absurd h1279_2 hv.2
            refine zi_iload K (dL_law_p13 35 rfl) 0 rfl ?_
            refine zi_iload_n K (dL_law_p13 36 rfl) 4 rfl ?_
            refine zi_icmp_le K 1290 (dL_law_p13 37 rfl) rfl (fun h1285_2 => ?_) (fun h1285_2 => ?_)
            rotate_left
            · exact absurd hv.1 h1285_2
            refine zi_iinc K (v := nI (z + 1)) [(14, .int (nI (z + 1))), (15, .int (v_events ρ t z)), (0, .ref bs), (1, .ref a), (2, .int (nI (sN σ 0))), (3, .int (nI (sN σ 1))), (4, .int (nI (sN σ 2))), (5, .int (nI (sN σ 3))), (6, .long cmt), (8, .ref o), (9, .int (nI i)), (10, .int (nI (8 * i))), (12, .int (nI t))] (dL_law_p13 40 rfl) 12 rfl (zk_inc _) (by decide) rfl ?_
            refine zi_goto K 1242 (dL_law_p13 41 rfl) rfl ?_
            refine zV.pick [2, 3, 4, 5, 6, 7, 8, 9, 10, 11, 12, 0] (lo' := [(0, .ref bs), (1, .ref a), (2, .int (nI (sN σ 0))), (3, .int (nI (sN σ 1))), (4, .int (nI (sN σ 2))), (5, .int (nI (sN σ 3))), (6, .long cmt), (8, .ref o), (9, .int (nI i)), (10, .int (nI (8 * i))), (12, .int (nI t)), (14, .int (nI (z + 1)))]) rfl ?_
            exact zw_wk (B' := B + (z + 1)) (by omega) (ih1242 (z + 1) (by omega) (by omega) (s_run (s_settle ρ) 0 (nI t)) (hE3 _ (hE2 ρ hE))) k n
          · skip
            refine zi_goto K 1290 (dL_law_p13 30 rfl) rfl ?_
            refine zi_iinc K (v := nI (z + 1)) [(14, .int (nI (z + 1))), (15, .int (v_events ρ t z)), (0, .ref bs), (1, .ref a), (2, .int (nI (sN σ 0))), (3, .int (nI (sN σ 1))), (4, .int (nI (sN σ 2))), (5, .int (nI (sN σ 3))), (6, .long cmt), (8, .ref o), (9, .int (nI i)), (10, .int (nI (8 * i))), (12, .int (nI t))] (dL_law_p13 40 rfl) 12 rfl (zk_inc _) (by decide) rfl ?_
            refine zi_goto K 1242 (dL_law_p13 41 rfl) rfl ?_
            refine zV.pick [2, 3, 4, 5, 6, 7, 8, 9, 10, 11, 12, 0] (lo' := [(0, .ref bs), (1, .ref a), (2, .int (nI (sN σ 0))), (3, .int (nI (sN σ 1))), (4, .int (nI (sN σ 2))), (5, .int (nI (sN σ 3))), (6, .long cmt), (8, .ref o), (9, .int (nI i)), (10, .int (nI (8 * i))), (12, .int (nI t)), (14, .int (nI (z + 1)))]) rfl ?_
            exact zw_wk (B' := B + (z + 1)) (by omega) (ih1242 (z + 1) (by omega) (by omega) (s_settle ρ) (hE2 ρ hE)) k n
      · skip
        refine zw_callSW K (f := f) (B := (B + z)) (σ := ρ) (σ' := ρ) (As := [.ref a, .int (nI t), .int (nI (z))]) (na := 3) [] [.int (-1500000)] (e_eventsF t z hwρ htρ (isOut_nI (lo := 0) (hi := 3) (by omega) (by omega) (by omega)) (by rw [Nat.mod_eq_of_lt ht8]; exact fun q => he ((hE6 ρ hE).mp q))) (dL_law_p13 23 rfl) w_1270 w_1271 w_24 w_1272 (by decide +kernel) rfl ⟨by omega, by omega⟩ ⟨by omega, by omega⟩ (Nat.le_of_ble_eq_true rfl) rfl rfl ?_ k n
        show zVf G X 21 (zLw G o a ρ f (B + z + 1)) 1256 [(0, .ref bs), (1, .ref a), (2, .int (nI (sN σ 0))), (3, .int (nI (sN σ 1))), (4, .int (nI (sN σ 2))), (5, .int (nI (sN σ 3))), (6, .long cmt), (8, .ref o), (9, .int (nI i)), (10, .int (nI (8 * i))), (12, .int (nI t)), (14, .int (nI (z)))] [.int (-1500000)]
        intro k n
        refine zi_istore K [(15, .int (-1500000)), (0, .ref bs), (1, .ref a), (2, .int (nI (sN σ 0))), (3, .int (nI (sN σ 1))), (4, .int (nI (sN σ 2))), (5, .int (nI (sN σ 3))), (6, .long cmt), (8, .ref o), (9, .int (nI i)), (10, .int (nI (8 * i))), (12, .int (nI t)), (14, .int (nI (z)))] (dL_law_p13 24 rfl) (by decide) rfl ?_
        refine zi_iload K (dL_law_p13 25 rfl) 0 rfl ?_
        refine zi_ldc K (dL_law_p13 26 rfl) w_1058 ?_
        refine zi_icmp_eq K 1290 (dL_law_p13 27 rfl) rfl (fun h1262_0 => ?_) (fun h1262_0 => ?_)
        rotate_left
        · exact absurd rfl h1262_0
        refine zi_iinc K (v := nI (z + 1)) [(14, .int (nI (z + 1))), (15, .int (-1500000)), (0, .ref bs), (1, .ref a), (2, .int (nI (sN σ 0))), (3, .int (nI (sN σ 1))), (4, .int (nI (sN σ 2))), (5, .int (nI (sN σ 3))), (6, .long cmt), (8, .ref o), (9, .int (nI i)), (10, .int (nI (8 * i))), (12, .int (nI t))] (dL_law_p13 40 rfl) 12 rfl (zk_inc _) (by decide) rfl ?_
        refine zi_goto K 1242 (dL_law_p13 41 rfl) rfl ?_
        refine zV.pick [2, 3, 4, 5, 6, 7, 8, 9, 10, 11, 12, 0] (lo' := [(0, .ref bs), (1, .ref a), (2, .int (nI (sN σ 0))), (3, .int (nI (sN σ 1))), (4, .int (nI (sN σ 2))), (5, .int (nI (sN σ 3))), (6, .long cmt), (8, .ref o), (9, .int (nI i)), (10, .int (nI (8 * i))), (12, .int (nI t)), (14, .int (nI (z + 1)))]) rfl ?_
        exact zw_wk (B' := B + (z + 1)) (by omega) (ih1242 (z + 1) (by omega) (by omega) ρ hE) k n
