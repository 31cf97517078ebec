/-! Flow: what is whole, what limits keep -/
def zaccL (a : Int64) (f : Nat → Int64) : Nat → Int64
  | 0 => a
  | i + 1 => zaccL a f i + f i
def v_lossWhole (σ : zSt) (b : Nat) : Int32 := if zall (fun y => zaccL (sL σ 0 (lx σ (5 + 4 * b) y) 0) (fun e => sL σ 1 (lx σ (5 + 4 * b) y) e) 8 == (sI σ 6 (lx σ (5 + 4 * b) y) 0).toInt64) (sZ σ (5 + 4 * b)) = true then 1 else 0
set_option maxRecDepth 100000 in
set_option maxHeartbeats 4000000 in
theorem c_lossWhole {G : zG} {ad : Nat → Nat → Nat} {σ : zSt} (b : Nat) (hb : b < 2) (h5 : zLW σ (5 + 4 * b)) : zC G yX2_areLossesWhole cX2_areLossesWhole 6 (some FieldType.boolean) 3 64 0 0 [.ref (ad 11 b)] (zP G ad σ) (some (.int (v_lossWhole σ b))) (zP G ad σ) := by
  refine zC_of (by decide) (Nat.le_of_ble_eq_true rfl) (fun X K E hnm => ?_)
  show zV G X 6 (zP G ad σ) 0 0 0 [(0, .ref (ad 11 b))] []
  refine zi_iconst K (dX2_areLossesWhole 0 rfl) zk_i0 ?_
  refine zi_istore_n K [(1, .int 0), (0, .ref (ad 11 b))] (dX2_areLossesWhole 1 rfl) (by decide) rfl ?_
  refine zV.pick [1, 0] (lo' := [(0, .ref (ad 11 b)), (1, .int 0)]) rfl ?_
  suffices hloop2 : ∀ (r i : Nat), i ≤ sZ σ (5 + 4 * b) → sZ σ (5 + 4 * b) - i < r → zall (fun y => zaccL (sL σ 0 (lx σ (5 + 4 * b) y) 0) (fun e => sL σ 1 (lx σ (5 + 4 * b) y) e) 8 == (sI σ 6 (lx σ (5 + 4 * b) y) 0).toInt64) i = true → zV G X 6 (zP G ad σ) (0) (0) 2 [(0, .ref (ad 11 b)), (1, .int (nI i))] [] from hloop2 (sZ σ (5 + 4 * b) + 1) 0 (Nat.zero_le _) (Nat.lt_succ_of_le (Nat.sub_le _ _)) rfl
  intro r
  induction r with
  | zero => intro i _ h; exact absurd h (Nat.not_lt_zero _)
  | succ r ih2 =>
    intro i hi2 hr2 hv2
    refine zi_iload_n K (dX2_areLossesWhole 2 rfl) 1 rfl ?_
    refine zi_aload_n K (dX2_areLossesWhole 3 rfl) 0 rfl ?_
    refine zg_FL_claims K hb w_132 (dX2_areLossesWhole 4 rfl) ?_
    refine zi_callV K (na := 0) [.int (nI i)] [.int (nI (sZ σ (5 + 4 * b))), .int (nI i)] (c_sizeN (σ := σ) (5 + 4 * b) (sZ σ (5 + 4 * b)) (zL_ok h5).1 rfl) (dX2_areLossesWhole 5 rfl) w_351 w_231 w_232 w_28 w_233 (by decide +kernel) rfl (fun H h => zrecv_LST K (zL_ok h5).1 h) (fun H h => h) ⟨Nat.le_of_ble_eq_true rfl, Nat.le_of_ble_eq_true rfl⟩ ⟨Nat.le_refl _, Nat.le_refl _⟩ (Nat.le_of_ble_eq_true rfl) rfl rfl ?_
    refine zi_icmp_ge K 77 (dX2_areLossesWhole 6 rfl) rfl (fun h10_0 => ?_) (fun h10_0 => ?_)
    · skip
      have hN2 := zloop_exit rfl (zL_b h5) hi2 h10_0
      subst hN2
      refine zi_iconst K (dX2_areLossesWhole 42 rfl) zk_i1 ?_
      exact zi_zret K E (dX2_areLossesWhole 43 rfl) (Nat.le_refl _) (Nat.le_refl _) (by unfold v_lossWhole; rw [if_pos hv2]) rfl (fun _ h => h)
    · skip
      have hlt2 := zloop_in rfl (zL_b h5) hi2 h10_0
      refine zi_aload_n K (dX2_areLossesWhole 7 rfl) 0 rfl ?_
      refine zg_FL_claims K hb w_132 (dX2_areLossesWhole 8 rfl) ?_
      refine zi_iload_n K (dX2_areLossesWhole 9 rfl) 1 rfl ?_
      refine zi_callV K (na := 1) [] [.ref (ad 2 (lx σ (5 + 4 * b) i))] (c_getK (σ := σ) (5 + 4 * b) i (lx σ (5 + 4 * b) i) 2 (zeK5 hb) (zL_ok h5) hlt2 (zL_x h5 hlt2)) (dX2_areLossesWhole 10 rfl) w_352 w_310 w_311 w_28 w_312 (by decide +kernel) rfl (fun H h => zrecv_LST K (zL_ok h5).1 h) (fun H h => h) ⟨Nat.le_of_ble_eq_true rfl, Nat.le_of_ble_eq_true rfl⟩ ⟨Nat.le_refl _, Nat.le_refl _⟩ (Nat.le_of_ble_eq_true rfl) rfl rfl ?_
      refine zi_cast K (fun H h => (zr_CL (σ := σ) (zL_lv h5 hlt2 (zeK5 hb)) H h).1) rfl w_353 (dX2_areLossesWhole 11 rfl) ?_
      refine zi_astore_n K [(2, .ref (ad 2 (lx σ (5 + 4 * b) i))), (0, .ref (ad 11 b)), (1, .int (nI i))] (dX2_areLossesWhole 12 rfl) (by decide) rfl ?_
      refine zi_aload_n K (dX2_areLossesWhole 13 rfl) 0 rfl ?_
      refine zg_CL_left K (zL_lv h5 hlt2 (zeK5 hb)) w_759 (dX2_areLossesWhole 14 rfl) ?_
      refine zi_lstore_n K [(3, .long (sL σ 0 (lx σ (5 + 4 * b) i) 0)), (2, .ref (ad 2 (lx σ (5 + 4 * b) i))), (0, .ref (ad 11 b)), (1, .int (nI i))] (dX2_areLossesWhole 15 rfl) (by decide) rfl ?_
      refine zi_iconst K (dX2_areLossesWhole 16 rfl) zk_i0 ?_
      refine zi_istore K [(5, .int 0), (3, .long (sL σ 0 (lx σ (5 + 4 * b) i) 0)), (2, .ref (ad 2 (lx σ (5 + 4 * b) i))), (0, .ref (ad 11 b)), (1, .int (nI i))] (dX2_areLossesWhole 17 rfl) (by decide) rfl ?_
      refine zV.pick [3, 4, 2, 1, 0] (lo' := [(0, .ref (ad 11 b)), (1, .int (nI i)), (2, .ref (ad 2 (lx σ (5 + 4 * b) i))), (3, .long (sL σ 0 (lx σ (5 + 4 * b) i) 0)), (5, .int 0)]) rfl ?_
      suffices hloop33 : ∀ (r q : Nat), q ≤ 8 → 8 - q < r → zV G X 6 (zP G ad σ) (0) (0) 33 [(0, .ref (ad 11 b)), (1, .int (nI i)), (2, .ref (ad 2 (lx σ (5 + 4 * b) i))), (3, .long (zaccL (sL σ 0 (lx σ (5 + 4 * b) i) 0) (fun e => sL σ 1 (lx σ (5 + 4 * b) i) e) q)), (5, .int (nI q))] [] from hloop33 (8 + 1) 0 (Nat.zero_le _) (Nat.lt_succ_of_le (Nat.sub_le _ _))
      intro r
      induction r with
      | zero => intro q _ h; exact absurd h (Nat.not_lt_zero _)
      | succ r ih33 =>
        intro q hi33 hr33
        refine zi_iload K (dX2_areLossesWhole 18 rfl) 4 rfl ?_
        refine zi_aload_n K (dX2_areLossesWhole 19 rfl) 2 rfl ?_
        refine zg_CL_took K (zL_lv h5 hlt2 (zeK5 hb)) w_742 (dX2_areLossesWhole 20 rfl) ?_
        refine zn_TOOK K (zL_lv h5 hlt2 (zeK5 hb)) (dX2_areLossesWhole 21 rfl) ?_
        refine zi_icmp_ge K 59 (dX2_areLossesWhole 22 rfl) rfl (fun h40_0 => ?_) (fun h40_0 => ?_)
        · skip
          have hN33 := zloop_exit (by decide) (Nat.le_of_ble_eq_true rfl) hi33 h40_0
          subst hN33
          refine zi_lload_n K (dX2_areLossesWhole 32 rfl) 3 rfl ?_
          refine zi_aload_n K (dX2_areLossesWhole 33 rfl) 2 rfl ?_
          refine zg_CL_amount K (zL_lv h5 hlt2 (zeK5 hb)) w_754 (dX2_areLossesWhole 34 rfl) ?_
          refine zi_i2l K (dX2_areLossesWhole 35 rfl) ?_
          refine zi_lif_eq K 71 (dX2_areLossesWhole 36 rfl) (dX2_areLossesWhole 37 rfl) rfl (fun h65_0 => ?_) (fun h65_0 => ?_)
          · skip
            refine zi_iinc K (v := nI (i + 1)) [(1, .int (nI (i + 1))), (0, .ref (ad 11 b)), (2, .ref (ad 2 (lx σ (5 + 4 * b) i))), (3, .long (zaccL (sL σ 0 (lx σ (5 + 4 * b) i) 0) (fun e => sL σ 1 (lx σ (5 + 4 * b) i) e) 8)), (5, .int (nI 8))] (dX2_areLossesWhole 40 rfl) 1 rfl (zk_inc _) (by decide) rfl ?_
            refine zi_goto K 2 (dX2_areLossesWhole 41 rfl) rfl ?_
            refine zV.pick [1, 0] (lo' := [(0, .ref (ad 11 b)), (1, .int (nI (i + 1)))]) rfl ?_
            exact ih2 (i + 1) (by omega) (by omega) (zall_s hv2 (by simp only [beq_iff_eq]; exact h65_0))
          · skip
            refine zi_iconst K (dX2_areLossesWhole 38 rfl) zk_i0 ?_
            exact zi_zret K E (dX2_areLossesWhole 39 rfl) (Nat.le_refl _) (Nat.le_refl _) (by unfold v_lossWhole; rw [if_neg (by rw [zall_f (p := fun y => zaccL (sL σ 0 (lx σ (5 + 4 * b) y) 0) (fun e => sL σ 1 (lx σ (5 + 4 * b) y) e) 8 == (sI σ 6 (lx σ (5 + 4 * b) y) 0).toInt64) (i := i) (by simp only [beq_eq_false_iff_ne]; exact h65_0) hlt2]; decide)]) rfl (fun _ h => h)
        · skip
          have hlt33 := zloop_in (by decide) (Nat.le_of_ble_eq_true rfl) hi33 h40_0
          refine zi_lload_n K (dX2_areLossesWhole 23 rfl) 3 rfl ?_
          refine zi_aload_n K (dX2_areLossesWhole 24 rfl) 2 rfl ?_
          refine zg_CL_took K (zL_lv h5 hlt2 (zeK5 hb)) w_742 (dX2_areLossesWhole 25 rfl) ?_
          refine zi_iload K (dX2_areLossesWhole 26 rfl) 4 rfl ?_
          refine zl_TOOK K (zL_lv h5 hlt2 (zeK5 hb)) q rfl (by omega) (dX2_areLossesWhole 27 rfl) ?_
          refine zi_ladd K (dX2_areLossesWhole 28 rfl) ?_
          refine zi_lstore_n K [(3, .long ((zaccL (sL σ 0 (lx σ (5 + 4 * b) i) 0) (fun e => sL σ 1 (lx σ (5 + 4 * b) i) e) q) + (sL σ 1 (lx σ (5 + 4 * b) i) q))), (0, .ref (ad 11 b)), (1, .int (nI i)), (2, .ref (ad 2 (lx σ (5 + 4 * b) i))), (5, .int (nI q))] (dX2_areLossesWhole 29 rfl) (by decide) rfl ?_
          refine zi_iinc K (v := nI (q + 1)) [(5, .int (nI (q + 1))), (3, .long ((zaccL (sL σ 0 (lx σ (5 + 4 * b) i) 0) (fun e => sL σ 1 (lx σ (5 + 4 * b) i) e) q) + (sL σ 1 (lx σ (5 + 4 * b) i) q))), (0, .ref (ad 11 b)), (1, .int (nI i)), (2, .ref (ad 2 (lx σ (5 + 4 * b) i)))] (dX2_areLossesWhole 30 rfl) 4 rfl (zk_inc _) (by decide) rfl ?_
          refine zi_goto K 33 (dX2_areLossesWhole 31 rfl) rfl ?_
          refine zV.pick [2, 3, 4, 1, 0] (lo' := [(0, .ref (ad 11 b)), (1, .int (nI i)), (2, .ref (ad 2 (lx σ (5 + 4 * b) i))), (3, .long ((zaccL (sL σ 0 (lx σ (5 + 4 * b) i) 0) (fun e => sL σ 1 (lx σ (5 + 4 * b) i) e) q) + (sL σ 1 (lx σ (5 + 4 * b) i) q))), (5, .int (nI (q + 1)))]) rfl ?_
          refine zV.lov (lo' := [(0, .ref (ad 11 b)), (1, .int (nI i)), (2, .ref (ad 2 (lx σ (5 + 4 * b) i))), (3, .long (zaccL (sL σ 0 (lx σ (5 + 4 * b) i) 0) (fun e => sL σ 1 (lx σ (5 + 4 * b) i) e) (q + 1))), (5, .int (nI (q + 1)))]) (by first | rfl | (simp only [zaccL])) ?_
          exact ih33 (q + 1) (by omega) (by omega)
def v_limKept (σ : zSt) (b : Nat) : Int32 := if zall (fun y => if sI σ 19 (lx σ (6 + 4 * b) y % 8) 0 = 0 then (if v_wholeLimit σ (lx σ (6 + 4 * b) y % 8) < sL σ 3 (lx σ (6 + 4 * b) y) 0 then false else true) else true) (sZ σ (6 + 4 * b)) = true then 1 else 0
set_option maxRecDepth 100000 in
set_option maxHeartbeats 4000000 in
theorem c_limKept {G : zG} {ad : Nat → Nat → Nat} {σ : zSt} (b : Nat) (hb : b < 2) (hcv : ∀ j, zlV σ j → j % 8 < sN σ 2) (h6 : zLW σ (6 + 4 * b)) : zC G yX2_areLimitsKept cX2_areLimitsKept 3 (some FieldType.boolean) 3 64 0 0 [.ref (ad 11 b)] (zP G ad σ) (some (.int (v_limKept σ b))) (zP G ad σ) := by
  refine zC_of (by decide) (Nat.le_of_ble_eq_true rfl) (fun X K E hnm => ?_)
  show zV G X 3 (zP G ad σ) 0 0 0 [(0, .ref (ad 11 b))] []
  refine zi_iconst K (dX2_areLimitsKept 0 rfl) zk_i0 ?_
  refine zi_istore_n K [(1, .int 0), (0, .ref (ad 11 b))] (dX2_areLimitsKept 1 rfl) (by decide) rfl ?_
  refine zV.pick [1, 0] (lo' := [(0, .ref (ad 11 b)), (1, .int 0)]) rfl ?_
  suffices hloop2 : ∀ (r i : Nat), i ≤ sZ σ (6 + 4 * b) → sZ σ (6 + 4 * b) - i < r → zall (fun y => if sI σ 19 (lx σ (6 + 4 * b) y % 8) 0 = 0 then (if v_wholeLimit σ (lx σ (6 + 4 * b) y % 8) < sL σ 3 (lx σ (6 + 4 * b) y) 0 then false else true) else true) i = true → zV G X 3 (zP G ad σ) (0) (0) 2 [(0, .ref (ad 11 b)), (1, .int (nI i))] [] from hloop2 (sZ σ (6 + 4 * b) + 1) 0 (Nat.zero_le _) (Nat.lt_succ_of_le (Nat.sub_le _ _)) rfl
  intro r
  induction r with
  | zero => intro i _ h; exact absurd h (Nat.not_lt_zero _)
  | succ r ih2 =>
    intro i hi2 hr2 hv2
    refine zi_iload_n K (dX2_areLimitsKept 2 rfl) 1 rfl ?_
    refine zi_aload_n K (dX2_areLimitsKept 3 rfl) 0 rfl ?_
    refine zg_FL_covers K hb w_134 (dX2_areLimitsKept 4 rfl) ?_
    refine zi_callV K (na := 0) [.int (nI i)] [.int (nI (sZ σ (6 + 4 * b))), .int (nI i)] (c_sizeN (σ := σ) (6 + 4 * b) (sZ σ (6 + 4 * b)) (zL_ok h6).1 rfl) (dX2_areLimitsKept 5 rfl) w_351 w_231 w_232 w_28 w_233 (by decide +kernel) rfl (fun H h => zrecv_LST K (zL_ok h6).1 h) (fun H h => h) ⟨Nat.le_of_ble_eq_true rfl, Nat.le_of_ble_eq_true rfl⟩ ⟨Nat.le_refl _, Nat.le_refl _⟩ (Nat.le_of_ble_eq_true rfl) rfl rfl ?_
    refine zi_icmp_ge K 58 (dX2_areLimitsKept 6 rfl) rfl (fun h10_0 => ?_) (fun h10_0 => ?_)
    · skip
      have hN2 := zloop_exit rfl (zL_b h6) hi2 h10_0
      subst hN2
      refine zi_iconst K (dX2_areLimitsKept 28 rfl) zk_i1 ?_
      exact zi_zret K E (dX2_areLimitsKept 29 rfl) (Nat.le_refl _) (Nat.le_refl _) (by unfold v_limKept; rw [if_pos hv2]) rfl (fun _ h => h)
    · skip
      have hlt2 := zloop_in rfl (zL_b h6) hi2 h10_0
      refine zi_aload_n K (dX2_areLimitsKept 7 rfl) 0 rfl ?_
      refine zg_FL_covers K hb w_134 (dX2_areLimitsKept 8 rfl) ?_
      refine zi_iload_n K (dX2_areLimitsKept 9 rfl) 1 rfl ?_
      refine zi_callV K (na := 1) [] [.ref (ad 7 (lx σ (6 + 4 * b) i))] (c_getK (σ := σ) (6 + 4 * b) i (lx σ (6 + 4 * b) i) 7 (zeK6 hb) (zL_ok h6) hlt2 (zL_x h6 hlt2)) (dX2_areLimitsKept 10 rfl) w_352 w_310 w_311 w_28 w_312 (by decide +kernel) rfl (fun H h => zrecv_LST K (zL_ok h6).1 h) (fun H h => h) ⟨Nat.le_of_ble_eq_true rfl, Nat.le_of_ble_eq_true rfl⟩ ⟨Nat.le_refl _, Nat.le_refl _⟩ (Nat.le_of_ble_eq_true rfl) rfl rfl ?_
      refine zi_cast K (fun H h => (zr_COV (σ := σ) (zL_lv h6 hlt2 (zeK6 hb)) H h).1) rfl w_364 (dX2_areLimitsKept 11 rfl) ?_
      refine zi_astore_n K [(2, .ref (ad 7 (lx σ (6 + 4 * b) i))), (0, .ref (ad 11 b)), (1, .int (nI i))] (dX2_areLimitsKept 12 rfl) (by decide) rfl ?_
      refine zi_aload_n K (dX2_areLimitsKept 13 rfl) 0 rfl ?_
      refine zg_COV_treaty K (zL_lv h6 hlt2 (zeK6 hb)) w_1162 (dX2_areLimitsKept 14 rfl) ?_
      refine zg_TR_isCommuted K (hcv _ (zL_lv h6 hlt2 (zeK6 hb))) w_1122 (dX2_areLimitsKept 15 rfl) ?_
      refine zi_if_ne K 52 (dX2_areLimitsKept 16 rfl) rfl (fun h32_0 => ?_) (fun h32_0 => ?_)
      · skip
        refine zi_iinc K (v := nI (i + 1)) [(1, .int (nI (i + 1))), (2, .ref (ad 7 (lx σ (6 + 4 * b) i))), (0, .ref (ad 11 b))] (dX2_areLimitsKept 26 rfl) 2 rfl (zk_inc _) (by decide) rfl ?_
        refine zi_goto K 2 (dX2_areLimitsKept 27 rfl) rfl ?_
        refine zV.pick [2, 0] (lo' := [(0, .ref (ad 11 b)), (1, .int (nI (i + 1)))]) rfl ?_
        exact ih2 (i + 1) (by omega) (by omega) (zall_s hv2 (by first | exact (if_pos h32_0).trans (if_neg h46_1) | exact if_neg h32_0))
      · skip
        refine zi_aload_n K (dX2_areLimitsKept 17 rfl) 0 rfl ?_
        refine zg_COV_taken K (zL_lv h6 hlt2 (zeK6 hb)) w_1172 (dX2_areLimitsKept 18 rfl) ?_
        refine zi_aload_n K (dX2_areLimitsKept 19 rfl) 0 rfl ?_
        refine zg_COV_treaty K (zL_lv h6 hlt2 (zeK6 hb)) w_1162 (dX2_areLimitsKept 20 rfl) ?_
        refine zi_callV K (na := 0) [.long (sL σ 3 (lx σ (6 + 4 * b) i) 0)] [.long (v_wholeLimit σ ((lx σ (6 + 4 * b) i) % 8)), .long (sL σ 3 (lx σ (6 + 4 * b) i) 0)] (c_wholeLimit  ((lx σ (6 + 4 * b) i) % 8) (hcv _ (zL_lv h6 hlt2 (zeK6 hb)))) (dX2_areLimitsKept 21 rfl) w_651 w_371 w_372 w_55 w_373 (by decide +kernel) rfl (fun H h => zi_recv K (zr_TR (σ := σ) (hcv _ (zL_lv h6 hlt2 (zeK6 hb))) H h).1 rfl) (fun H h => h) ⟨Nat.le_of_ble_eq_true rfl, Nat.le_of_ble_eq_true rfl⟩ ⟨Nat.le_refl _, Nat.le_refl _⟩ (Nat.le_of_ble_eq_true rfl) rfl rfl ?_
        refine zi_lif_le K 52 (dX2_areLimitsKept 22 rfl) (dX2_areLimitsKept 23 rfl) rfl (fun h46_1 => ?_) (fun h46_1 => ?_)
        · skip
          refine zi_iinc K (v := nI (i + 1)) [(1, .int (nI (i + 1))), (2, .ref (ad 7 (lx σ (6 + 4 * b) i))), (0, .ref (ad 11 b))] (dX2_areLimitsKept 26 rfl) 2 rfl (zk_inc _) (by decide) rfl ?_
          refine zi_goto K 2 (dX2_areLimitsKept 27 rfl) rfl ?_
          refine zV.pick [2, 0] (lo' := [(0, .ref (ad 11 b)), (1, .int (nI (i + 1)))]) rfl ?_
          exact ih2 (i + 1) (by omega) (by omega) (zall_s hv2 (by first | exact (if_pos h32_0).trans (if_neg h46_1) | exact if_neg h32_0))
        · skip
          refine zi_iconst K (dX2_areLimitsKept 24 rfl) zk_i0 ?_
          exact zi_zret K E (dX2_areLimitsKept 25 rfl) (Nat.le_refl _) (Nat.le_refl _) (by unfold v_limKept; rw [if_neg (by rw [zall_f (p := fun y => if sI σ 19 (lx σ (6 + 4 * b) y % 8) 0 = 0 then (if v_wholeLimit σ (lx σ (6 + 4 * b) y % 8) < sL σ 3 (lx σ (6 + 4 * b) y) 0 then false else true) else true) (i := i) ((if_pos h32_0).trans (if_pos h46_1)) hlt2]; decide)]) rfl (fun _ h => h)
