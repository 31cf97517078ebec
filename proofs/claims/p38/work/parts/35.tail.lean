/-! tail, meanNet, isSound; a loss laid in by its day -/
theorem playAll_W {σ : zSt} (hw : zW σ) : zW (s_playAll σ) ∧ zFs (s_playAll σ) σ := by
  unfold s_playAll
  exact paI_ok hw (sZ σ 3)
def tlI (σ : zSt) (al : Int32) : Nat → Int64
  | 0 => 1000000000000
  | i + 1 => if (sL σ 6 (lx σ 3 i) 0) < tlI σ al i then (if al < v_weightAbove σ (sL σ 6 (lx σ 3 i) 0) * 100 then tlI σ al i else (sL σ 6 (lx σ 3 i) 0)) else tlI σ al i
def mnS (σ : zSt) : Nat → Int64
  | 0 => 0
  | i + 1 => mnS σ i + (sL σ 6 (lx σ 3 i) 0) * (sI σ 24 (lx σ 3 i) 0).toInt64
def mnW (σ : zSt) : Nat → Int64
  | 0 => 0
  | i + 1 => mnW σ i + (sI σ 24 (lx σ 3 i) 0).toInt64
set_option maxRecDepth 100000 in
set_option maxHeartbeats 4000000 in
theorem f_tailL {G : zG} {X : zX} {ad : Nat → Nat → Nat} {σ : zSt} (al : Int32) (hw : zW σ) {k n mc ms : Nat} (hm : k ≤ mc ∧ n ≤ ms) (K : zK G X cX8_tail RX8 8 (some FieldType.long) { frames := 20, cells := mc, slots := ms, locals := 560 }) (kk : zV G X 8 (zP G ad σ) k n 121 [(0, .ref (ad 0 0)), (2, .int al), (3, .long (tlI σ al (sZ σ 3)))] []) : zV G X 8 (zP G ad σ) k n 60 [(0, .ref (ad 0 0)), (2, .int al), (3, .long 1000000000000)] [] := by
  refine zi_iconst K (dX8_tail 29 rfl) zk_i0 ?_
  refine zi_istore K [(5, .int 0), (0, .ref (ad 0 0)), (2, .int al), (3, .long 1000000000000)] (dX8_tail 30 rfl) (by decide) rfl ?_
  refine zV.pick [1, 2, 3, 0] (lo' := [(0, .ref (ad 0 0)), (2, .int al), (3, .long 1000000000000), (5, .int 0)]) rfl ?_
  suffices hloop63 : ∀ (r i : Nat), i ≤ sZ σ 3 → sZ σ 3 - i < r → zV G X 8 (zP G ad σ) (k) (n) 63 [(0, .ref (ad 0 0)), (2, .int al), (3, .long (tlI σ al i)), (5, .int (nI i))] [] from hloop63 (sZ σ 3 + 1) 0 (Nat.zero_le _) (Nat.lt_succ_of_le (Nat.sub_le _ _))
  intro r
  induction r with
  | zero => intro i _ h; exact absurd h (Nat.not_lt_zero _)
  | succ r ih63 =>
    intro i hi63 hr63
    refine zi_iload K (dX8_tail 31 rfl) 3 rfl ?_
    refine zi_aload_n K (dX8_tail 32 rfl) 0 rfl ?_
    refine zg_O_scenarios K rfl w_197 (dX8_tail 33 rfl) ?_
    refine zi_callV K (na := 0) [.int (nI i)] [.int (nI (sZ σ 3)), .int (nI i)] (c_sizeN (σ := σ) 3 (sZ σ 3) (zL_ok (hw.1.1 3 (by omega)).1).1 rfl) (dX8_tail 34 rfl) w_230 w_231 w_232 w_28 w_233 (by decide +kernel) rfl (fun H h => zrecv_LST K (zL_ok (hw.1.1 3 (by omega)).1).1 h) (fun H h => h) ⟨Nat.le_of_ble_eq_true rfl, Nat.le_of_ble_eq_true rfl⟩ ⟨hm.1, hm.2⟩ (Nat.le_of_ble_eq_true rfl) rfl rfl ?_
    refine zi_icmp_ge K 121 (dX8_tail 35 rfl) rfl (fun h72_0 => ?_) (fun h72_0 => ?_)
    · skip
      have hN63 := zloop_exit rfl (zL_b (hw.1.1 3 (by omega)).1) hi63 h72_0
      subst hN63
      refine zV.pick [0, 1, 2] (lo' := [(0, .ref (ad 0 0)), (2, .int al), (3, .long (tlI σ al (sZ σ 3)))]) rfl ?_
      exact kk
    · skip
      have hlt63 := zloop_in rfl (zL_b (hw.1.1 3 (by omega)).1) hi63 h72_0
      refine zi_aload_n K (dX8_tail 36 rfl) 0 rfl ?_
      refine zg_O_scenarios K rfl w_197 (dX8_tail 37 rfl) ?_
      refine zi_iload K (dX8_tail 38 rfl) 3 rfl ?_
      refine zi_callV K (na := 1) [] [.ref (ad 9 (lx σ 3 i))] (c_getK (σ := σ) 3 i (lx σ 3 i) 9 rfl (zL_ok (hw.1.1 3 (by omega)).1) hlt63 (zL_x (hw.1.1 3 (by omega)).1 hlt63)) (dX8_tail 39 rfl) w_309 w_310 w_311 w_28 w_312 (by decide +kernel) rfl (fun H h => zrecv_LST K (zL_ok (hw.1.1 3 (by omega)).1).1 h) (fun H h => h) ⟨Nat.le_of_ble_eq_true rfl, Nat.le_of_ble_eq_true rfl⟩ ⟨hm.1, hm.2⟩ (Nat.le_of_ble_eq_true rfl) rfl rfl ?_
      refine zi_cast K (fun H h => (zr_SC (σ := σ) (zL_lv (hw.1.1 3 (by omega)).1 hlt63 rfl) H h).1) rfl w_597 (dX8_tail 40 rfl) ?_
      refine zg_SC_net K (zL_lv (hw.1.1 3 (by omega)).1 hlt63 rfl) w_1321 (dX8_tail 41 rfl) ?_
      refine zi_lstore K [(6, .long (sL σ 6 (lx σ 3 i) 0)), (0, .ref (ad 0 0)), (2, .int al), (3, .long (tlI σ al i)), (5, .int (nI i))] (dX8_tail 42 rfl) (by decide) rfl ?_
      refine zi_lload K (dX8_tail 43 rfl) 0 rfl ?_
      refine zi_lload_n K (dX8_tail 44 rfl) 3 rfl ?_
      refine zi_lif_ge K 115 (dX8_tail 45 rfl) (dX8_tail 46 rfl) rfl (fun h95_0 => ?_) (fun h95_0 => ?_)
      · skip
        refine zi_iinc K (v := nI (i + 1)) [(5, .int (nI (i + 1))), (6, .long (sL σ 6 (lx σ 3 i) 0)), (0, .ref (ad 0 0)), (2, .int al), (3, .long (tlI σ al i))] (dX8_tail 56 rfl) 4 rfl (zk_inc _) (by decide) rfl ?_
        refine zi_goto K 63 (dX8_tail 57 rfl) rfl ?_
        refine zV.pick [2, 3, 4, 0] (lo' := [(0, .ref (ad 0 0)), (2, .int al), (3, .long (tlI σ al i)), (5, .int (nI (i + 1)))]) rfl ?_
        refine zV.lov (lo' := [(0, .ref (ad 0 0)), (2, .int al), (3, .long (tlI σ al (i + 1))), (5, .int (nI (i + 1)))]) (by simp only [tlI, if_neg h95_0]) ?_
        exact ih63 (i + 1) (by omega) (by omega)
      · skip
        refine zi_aload_n K (dX8_tail 47 rfl) 1 rfl ?_
        refine zi_lload K (dX8_tail 48 rfl) 0 rfl ?_
        refine zi_callV K (na := 1) [] [.int (v_weightAbove σ (sL σ 6 (lx σ 3 i) 0))] (c_weightAbove (σ := σ) (sL σ 6 (lx σ 3 i) 0) (hw.1.1 3 (by omega)).1) (dX8_tail 49 rfl) w_1376 w_1378 w_23 w_25 w_1379 (by decide +kernel) rfl (fun H h => zi_recv K (zr_O (σ := σ) rfl H h).1 rfl) (fun H h => h) ⟨Nat.le_of_ble_eq_true rfl, Nat.le_of_ble_eq_true rfl⟩ ⟨hm.1, hm.2⟩ (Nat.le_of_ble_eq_true rfl) rfl rfl ?_
        refine zi_bipush K (dX8_tail 50 rfl) zk_b100 ?_
        refine zi_imul K (dX8_tail 51 rfl) ?_
        refine zi_iload_n K (dX8_tail 52 rfl) 2 rfl ?_
        refine zi_icmp_gt K 115 (dX8_tail 53 rfl) rfl (fun h109_1 => ?_) (fun h109_1 => ?_)
        · skip
          refine zi_iinc K (v := nI (i + 1)) [(5, .int (nI (i + 1))), (6, .long (sL σ 6 (lx σ 3 i) 0)), (0, .ref (ad 0 0)), (2, .int al), (3, .long (tlI σ al i))] (dX8_tail 56 rfl) 4 rfl (zk_inc _) (by decide) rfl ?_
          refine zi_goto K 63 (dX8_tail 57 rfl) rfl ?_
          refine zV.pick [2, 3, 4, 0] (lo' := [(0, .ref (ad 0 0)), (2, .int al), (3, .long (tlI σ al i)), (5, .int (nI (i + 1)))]) rfl ?_
          refine zV.lov (lo' := [(0, .ref (ad 0 0)), (2, .int al), (3, .long (tlI σ al (i + 1))), (5, .int (nI (i + 1)))]) (by simp only [tlI, if_pos h95_0, if_pos h109_1]) ?_
          exact ih63 (i + 1) (by omega) (by omega)
        · skip
          refine zi_lload K (dX8_tail 54 rfl) 0 rfl ?_
          refine zi_lstore_n K [(3, .long (sL σ 6 (lx σ 3 i) 0)), (6, .long (sL σ 6 (lx σ 3 i) 0)), (0, .ref (ad 0 0)), (2, .int al), (5, .int (nI i))] (dX8_tail 55 rfl) (by decide) rfl ?_
          refine zi_iinc K (v := nI (i + 1)) [(5, .int (nI (i + 1))), (3, .long (sL σ 6 (lx σ 3 i) 0)), (6, .long (sL σ 6 (lx σ 3 i) 0)), (0, .ref (ad 0 0)), (2, .int al)] (dX8_tail 56 rfl) 4 rfl (zk_inc _) (by decide) rfl ?_
          refine zi_goto K 63 (dX8_tail 57 rfl) rfl ?_
          refine zV.pick [3, 4, 1, 0] (lo' := [(0, .ref (ad 0 0)), (2, .int al), (3, .long (sL σ 6 (lx σ 3 i) 0)), (5, .int (nI (i + 1)))]) rfl ?_
          refine zV.lov (lo' := [(0, .ref (ad 0 0)), (2, .int al), (3, .long (tlI σ al (i + 1))), (5, .int (nI (i + 1)))]) (by simp only [tlI, if_pos h95_0, if_neg h109_1]) ?_
          exact ih63 (i + 1) (by omega) (by omega)
def v_tail (σ : zSt) (h : Int32) : Int64 := tlI (s_playAll σ) (h * (v_weightAbove (s_playAll σ) (-1))) (sZ (s_playAll σ) 3)
set_option maxRecDepth 100000 in
set_option maxHeartbeats 4000000 in
theorem c_tail {G : zG} {ad : Nat → Nat → Nat} {σ : zSt} (h : Int32) (hw : zW σ) (hh : v_isOut σ h 0 99 = 0) (hne : v_isEmpty σ 3 = 0) : zC G yX8_tail cX8_tail 8 (some FieldType.long) 20 560 (sgc (s_playAll σ) - sgc σ) (sgs (s_playAll σ) - sgs σ) [.ref (ad 0 0), .int h] (zP G ad σ) (some (.long (v_tail σ h))) (zP G ad (s_playAll σ)) := by
  refine zC_of (by decide) (Nat.le_of_ble_eq_true rfl) (fun X K E hnm => ?_)
  show zV G X 8 (zP G ad σ) 0 0 0 [(0, .ref (ad 0 0)), (1, .int h)] []
  refine zV.wd (k' := sgc σ - sgc σ) (n' := sgs σ - sgs σ) (Nat.zero_le _) (Nat.zero_le _) ?_
  refine zi_iload_n K (dX8_tail 0 rfl) 1 rfl ?_
  refine zi_iconst K (dX8_tail 1 rfl) zk_i0 ?_
  refine zi_bipush K (dX8_tail 2 rfl) zk_b99 ?_
  refine zi_callS K (na := 3) (As := [.int h, .int 0, .int 99]) [] [.int (v_isOut σ h 0 99)] (c_isOut  h 0 99) (dX8_tail 3 rfl) w_234 w_235 w_25 w_236 (by decide +kernel) rfl (fun H h => h) ⟨Nat.le_of_ble_eq_true rfl, Nat.le_of_ble_eq_true rfl⟩ ⟨(zq3 (playAll_W hw).2.2.1.1), (zq3 (playAll_W hw).2.2.1.2)⟩ (Nat.le_of_ble_eq_true rfl) rfl rfl ?_
  refine zi_if_eq K 21 (dX8_tail 4 rfl) rfl (fun h7_0 => ?_) (fun h7_0 => ?_)
  rotate_left
  · exact absurd hh h7_0
  refine zi_aload_n K (dX8_tail 10 rfl) 0 rfl ?_
  refine zg_O_scenarios K rfl w_197 (dX8_tail 11 rfl) ?_
  refine zi_callV K (na := 0) [] [.int (v_isEmpty σ 3)] (c_isEmpty (σ := σ) 3 (by decide)) (dX8_tail 12 rfl) w_573 w_574 w_575 w_28 w_576 (by decide +kernel) rfl (fun H h => zrecv_LST K (show 3 < 13 by decide) h) (fun H h => h) ⟨Nat.le_of_ble_eq_true rfl, Nat.le_of_ble_eq_true rfl⟩ ⟨(zq3 (playAll_W hw).2.2.1.1), (zq3 (playAll_W hw).2.2.1.2)⟩ (Nat.le_of_ble_eq_true rfl) rfl rfl ?_
  refine zi_if_eq K 42 (dX8_tail 13 rfl) rfl (fun h28_0 => ?_) (fun h28_0 => ?_)
  rotate_left
  · exact absurd hne h28_0
  refine zi_aload_n K (dX8_tail 19 rfl) 0 rfl ?_
  refine zi_callV K (na := 0) [] [] (c_playAll (σ := σ) hw) (dX8_tail 20 rfl) w_593 w_595 w_14 w_25 w_596 (by decide +kernel) rfl (fun H h => zi_recv K (zr_O (σ := σ) rfl H h).1 rfl) (fun H h => h) ⟨Nat.le_of_ble_eq_true rfl, Nat.le_of_ble_eq_true rfl⟩ ⟨(zq1 (zLeR σ).1 (playAll_W hw).2.2.1.1 (zLeR _).1), (zq1 (zLeR σ).2 (playAll_W hw).2.2.1.2 (zLeR _).2)⟩ (Nat.le_of_ble_eq_true rfl) rfl rfl ?_
  have e1 : zSx zQd (s_playAll σ) σ := ((playAll_W hw).2.1).trans zSx.rf
  refine zV.wd (k' := sgc (s_playAll σ) - sgc σ) (n' := sgs (s_playAll σ) - sgs σ) (zq2 (zLeR σ).1 (playAll_W hw).2.2.1.1) (zq2 (zLeR σ).2 (playAll_W hw).2.2.1.2) ?_
  refine zi_iload_n K (dX8_tail 21 rfl) 1 rfl ?_
  refine zi_aload_n K (dX8_tail 22 rfl) 0 rfl ?_
  refine zi_ldc2 K (dX8_tail 23 rfl) w_1375 ?_
  refine zi_callV K (na := 1) [.int h] [.int (v_weightAbove (s_playAll σ) (-1)), .int h] (c_weightAbove (σ := (s_playAll σ)) (-1) ((playAll_W hw).1.1.1 3 (by omega)).1) (dX8_tail 24 rfl) w_1376 w_1378 w_23 w_25 w_1379 (by decide +kernel) rfl (fun H h => zi_recv K (zr_O (σ := (s_playAll σ)) rfl H h).1 rfl) (fun H h => h) ⟨Nat.le_of_ble_eq_true rfl, Nat.le_of_ble_eq_true rfl⟩ ⟨(zq3 (zLeR _).1), (zq3 (zLeR _).2)⟩ (Nat.le_of_ble_eq_true rfl) rfl rfl ?_
  refine zi_imul K (dX8_tail 25 rfl) ?_
  refine zi_istore_n K [(2, .int (h * (v_weightAbove (s_playAll σ) (-1)))), (0, .ref (ad 0 0)), (1, .int h)] (dX8_tail 26 rfl) (by decide) rfl ?_
  refine zi_ldc2 K (dX8_tail 27 rfl) w_1380 ?_
  refine zi_lstore_n K [(3, .long 1000000000000), (2, .int (h * (v_weightAbove (s_playAll σ) (-1)))), (0, .ref (ad 0 0)), (1, .int h)] (dX8_tail 28 rfl) (by decide) rfl ?_
  refine zV.pick [2, 1, 0] (lo' := [(0, .ref (ad 0 0)), (2, .int (h * (v_weightAbove (s_playAll σ) (-1)))), (3, .long 1000000000000)]) rfl ?_
  refine f_tailL (σ := (s_playAll σ)) (h * (v_weightAbove (s_playAll σ) (-1))) (playAll_W hw).1 ⟨(zq3 (zLeR _).1), (zq3 (zLeR _).2)⟩ K ?_
  refine zi_lload_n K (dX8_tail 58 rfl) 2 rfl ?_
  exact zi_lret K E (dX8_tail 59 rfl) (Nat.le_refl _) (Nat.le_refl _) rfl (fun H h => by exact h)
set_option maxRecDepth 100000 in
set_option maxHeartbeats 4000000 in
theorem f_meanL {G : zG} {X : zX} {ad : Nat → Nat → Nat} {σ : zSt}  (hw : zW σ) {k n mc ms : Nat} (hm : k ≤ mc ∧ n ≤ ms) (K : zK G X cX8_meanNet RX8 7 (some FieldType.double) { frames := 20, cells := mc, slots := ms, locals := 560 }) (kk : zV G X 7 (zP G ad σ) k n 88 [(0, .ref (ad 0 0)), (1, .long (mnS σ (sZ σ 3))), (3, .long (mnW σ (sZ σ 3)))] []) : zV G X 7 (zP G ad σ) k n 29 [(0, .ref (ad 0 0)), (1, .long 0), (3, .long 0)] [] := by
  refine zi_iconst K (dX8_meanNet 15 rfl) zk_i0 ?_
  refine zi_istore K [(5, .int 0), (0, .ref (ad 0 0)), (1, .long 0), (3, .long 0)] (dX8_meanNet 16 rfl) (by decide) rfl ?_
  refine zV.pick [1, 2, 3, 0] (lo' := [(0, .ref (ad 0 0)), (1, .long 0), (3, .long 0), (5, .int 0)]) rfl ?_
  suffices hloop32 : ∀ (r i : Nat), i ≤ sZ σ 3 → sZ σ 3 - i < r → zV G X 7 (zP G ad σ) (k) (n) 32 [(0, .ref (ad 0 0)), (1, .long (mnS σ i)), (3, .long (mnW σ i)), (5, .int (nI i))] [] from hloop32 (sZ σ 3 + 1) 0 (Nat.zero_le _) (Nat.lt_succ_of_le (Nat.sub_le _ _))
  intro r
  induction r with
  | zero => intro i _ h; exact absurd h (Nat.not_lt_zero _)
  | succ r ih32 =>
    intro i hi32 hr32
    refine zi_iload K (dX8_meanNet 17 rfl) 3 rfl ?_
    refine zi_aload_n K (dX8_meanNet 18 rfl) 0 rfl ?_
    refine zg_O_scenarios K rfl w_197 (dX8_meanNet 19 rfl) ?_
    refine zi_callV K (na := 0) [.int (nI i)] [.int (nI (sZ σ 3)), .int (nI i)] (c_sizeN (σ := σ) 3 (sZ σ 3) (zL_ok (hw.1.1 3 (by omega)).1).1 rfl) (dX8_meanNet 20 rfl) w_230 w_231 w_232 w_28 w_233 (by decide +kernel) rfl (fun H h => zrecv_LST K (zL_ok (hw.1.1 3 (by omega)).1).1 h) (fun H h => h) ⟨Nat.le_of_ble_eq_true rfl, Nat.le_of_ble_eq_true rfl⟩ ⟨hm.1, hm.2⟩ (Nat.le_of_ble_eq_true rfl) rfl rfl ?_
    refine zi_icmp_ge K 88 (dX8_meanNet 21 rfl) rfl (fun h41_0 => ?_) (fun h41_0 => ?_)
    · skip
      have hN32 := zloop_exit rfl (zL_b (hw.1.1 3 (by omega)).1) hi32 h41_0
      subst hN32
      refine zV.pick [0, 1, 2] (lo' := [(0, .ref (ad 0 0)), (1, .long (mnS σ (sZ σ 3))), (3, .long (mnW σ (sZ σ 3)))]) rfl ?_
      exact kk
    · skip
      have hlt32 := zloop_in rfl (zL_b (hw.1.1 3 (by omega)).1) hi32 h41_0
      refine zi_aload_n K (dX8_meanNet 22 rfl) 0 rfl ?_
      refine zg_O_scenarios K rfl w_197 (dX8_meanNet 23 rfl) ?_
      refine zi_iload K (dX8_meanNet 24 rfl) 3 rfl ?_
      refine zi_callV K (na := 1) [] [.ref (ad 9 (lx σ 3 i))] (c_getK (σ := σ) 3 i (lx σ 3 i) 9 rfl (zL_ok (hw.1.1 3 (by omega)).1) hlt32 (zL_x (hw.1.1 3 (by omega)).1 hlt32)) (dX8_meanNet 25 rfl) w_309 w_310 w_311 w_28 w_312 (by decide +kernel) rfl (fun H h => zrecv_LST K (zL_ok (hw.1.1 3 (by omega)).1).1 h) (fun H h => h) ⟨Nat.le_of_ble_eq_true rfl, Nat.le_of_ble_eq_true rfl⟩ ⟨hm.1, hm.2⟩ (Nat.le_of_ble_eq_true rfl) rfl rfl ?_
      refine zi_cast K (fun H h => (zr_SC (σ := σ) (zL_lv (hw.1.1 3 (by omega)).1 hlt32 rfl) H h).1) rfl w_597 (dX8_meanNet 26 rfl) ?_
      refine zi_astore K [(6, .ref (ad 9 (lx σ 3 i))), (0, .ref (ad 0 0)), (1, .long (mnS σ i)), (3, .long (mnW σ i)), (5, .int (nI i))] (dX8_meanNet 27 rfl) (by decide) rfl ?_
      refine zi_lload_n K (dX8_meanNet 28 rfl) 2 rfl ?_
      refine zi_aload K (dX8_meanNet 29 rfl) 0 rfl ?_
      refine zg_SC_net K (zL_lv (hw.1.1 3 (by omega)).1 hlt32 rfl) w_1321 (dX8_meanNet 30 rfl) ?_
      refine zi_aload K (dX8_meanNet 31 rfl) 0 rfl ?_
      refine zg_SC_weight K (zL_lv (hw.1.1 3 (by omega)).1 hlt32 rfl) w_1317 (dX8_meanNet 32 rfl) ?_
      refine zi_i2l K (dX8_meanNet 33 rfl) ?_
      refine zi_lmul K (dX8_meanNet 34 rfl) ?_
      refine zi_ladd K (dX8_meanNet 35 rfl) ?_
      refine zi_lstore_n K [(1, .long ((mnS σ i) + ((sL σ 6 (lx σ 3 i) 0) * ((sI σ 24 (lx σ 3 i) 0).toInt64)))), (6, .ref (ad 9 (lx σ 3 i))), (0, .ref (ad 0 0)), (3, .long (mnW σ i)), (5, .int (nI i))] (dX8_meanNet 36 rfl) (by decide) rfl ?_
      refine zi_lload_n K (dX8_meanNet 37 rfl) 3 rfl ?_
      refine zi_aload K (dX8_meanNet 38 rfl) 1 rfl ?_
      refine zg_SC_weight K (zL_lv (hw.1.1 3 (by omega)).1 hlt32 rfl) w_1317 (dX8_meanNet 39 rfl) ?_
      refine zi_i2l K (dX8_meanNet 40 rfl) ?_
      refine zi_ladd K (dX8_meanNet 41 rfl) ?_
      refine zi_lstore_n K [(3, .long ((mnW σ i) + ((sI σ 24 (lx σ 3 i) 0).toInt64))), (1, .long ((mnS σ i) + ((sL σ 6 (lx σ 3 i) 0) * ((sI σ 24 (lx σ 3 i) 0).toInt64)))), (6, .ref (ad 9 (lx σ 3 i))), (0, .ref (ad 0 0)), (5, .int (nI i))] (dX8_meanNet 42 rfl) (by decide) rfl ?_
      refine zi_iinc K (v := nI (i + 1)) [(5, .int (nI (i + 1))), (3, .long ((mnW σ i) + ((sI σ 24 (lx σ 3 i) 0).toInt64))), (1, .long ((mnS σ i) + ((sL σ 6 (lx σ 3 i) 0) * ((sI σ 24 (lx σ 3 i) 0).toInt64)))), (6, .ref (ad 9 (lx σ 3 i))), (0, .ref (ad 0 0))] (dX8_meanNet 43 rfl) 4 rfl (zk_inc _) (by decide) rfl ?_
      refine zi_goto K 32 (dX8_meanNet 44 rfl) rfl ?_
      refine zV.pick [4, 2, 1, 0] (lo' := [(0, .ref (ad 0 0)), (1, .long ((mnS σ i) + ((sL σ 6 (lx σ 3 i) 0) * ((sI σ 24 (lx σ 3 i) 0).toInt64)))), (3, .long ((mnW σ i) + ((sI σ 24 (lx σ 3 i) 0).toInt64))), (5, .int (nI (i + 1)))]) rfl ?_
      refine zV.lov (lo' := [(0, .ref (ad 0 0)), (1, .long (mnS σ (i + 1))), (3, .long (mnW σ (i + 1))), (5, .int (nI (i + 1)))]) (by first | rfl | (simp only [mnS, mnW])) ?_
      exact ih32 (i + 1) (by omega) (by omega)
def v_meanNet (σ : zSt)  : UInt64 := FP.ddiv (FP.l2d (mnS (s_playAll σ) (sZ (s_playAll σ) 3))) (FP.l2d (mnW (s_playAll σ) (sZ (s_playAll σ) 3)))
set_option maxRecDepth 100000 in
set_option maxHeartbeats 4000000 in
theorem c_meanNet {G : zG} {ad : Nat → Nat → Nat} {σ : zSt}  (hw : zW σ) (hne : v_isEmpty σ 3 = 0) (hn : vf_n64 (FP.ddiv (FP.l2d (mnS (s_playAll σ) (sZ (s_playAll σ) 3))) (FP.l2d (mnW (s_playAll σ) (sZ (s_playAll σ) 3))))) : zC G yX8_meanNet cX8_meanNet 7 (some FieldType.double) 20 560 (sgc (s_playAll σ) - sgc σ) (sgs (s_playAll σ) - sgs σ) [.ref (ad 0 0)] (zP G ad σ) (some (.double (v_meanNet σ ))) (zP G ad (s_playAll σ)) := by
  refine zC_of (by decide) (Nat.le_of_ble_eq_true rfl) (fun X K E hnm => ?_)
  show zV G X 7 (zP G ad σ) 0 0 0 [(0, .ref (ad 0 0))] []
  refine zV.wd (k' := sgc σ - sgc σ) (n' := sgs σ - sgs σ) (Nat.zero_le _) (Nat.zero_le _) ?_
  refine zi_aload_n K (dX8_meanNet 0 rfl) 0 rfl ?_
  refine zg_O_scenarios K rfl w_197 (dX8_meanNet 1 rfl) ?_
  refine zi_callV K (na := 0) [] [.int (v_isEmpty σ 3)] (c_isEmpty (σ := σ) 3 (by decide)) (dX8_meanNet 2 rfl) w_573 w_574 w_575 w_28 w_576 (by decide +kernel) rfl (fun H h => zrecv_LST K (show 3 < 13 by decide) h) (fun H h => h) ⟨Nat.le_of_ble_eq_true rfl, Nat.le_of_ble_eq_true rfl⟩ ⟨(zq3 (playAll_W hw).2.2.1.1), (zq3 (playAll_W hw).2.2.1.2)⟩ (Nat.le_of_ble_eq_true rfl) rfl rfl ?_
  refine zi_if_eq K 21 (dX8_meanNet 3 rfl) rfl (fun h7_0 => ?_) (fun h7_0 => ?_)
  rotate_left
  · exact absurd hne h7_0
  refine zi_aload_n K (dX8_meanNet 9 rfl) 0 rfl ?_
  refine zi_callV K (na := 0) [] [] (c_playAll (σ := σ) hw) (dX8_meanNet 10 rfl) w_593 w_595 w_14 w_25 w_596 (by decide +kernel) rfl (fun H h => zi_recv K (zr_O (σ := σ) rfl H h).1 rfl) (fun H h => h) ⟨Nat.le_of_ble_eq_true rfl, Nat.le_of_ble_eq_true rfl⟩ ⟨(zq1 (zLeR σ).1 (playAll_W hw).2.2.1.1 (zLeR _).1), (zq1 (zLeR σ).2 (playAll_W hw).2.2.1.2 (zLeR _).2)⟩ (Nat.le_of_ble_eq_true rfl) rfl rfl ?_
  have e1 : zSx zQd (s_playAll σ) σ := ((playAll_W hw).2.1).trans zSx.rf
  refine zV.wd (k' := sgc (s_playAll σ) - sgc σ) (n' := sgs (s_playAll σ) - sgs σ) (zq2 (zLeR σ).1 (playAll_W hw).2.2.1.1) (zq2 (zLeR σ).2 (playAll_W hw).2.2.1.2) ?_
  refine zi_lconst K (dX8_meanNet 11 rfl) zk_l0 ?_
  refine zi_lstore_n K [(1, .long 0), (0, .ref (ad 0 0))] (dX8_meanNet 12 rfl) (by decide) rfl ?_
  refine zi_lconst K (dX8_meanNet 13 rfl) zk_l0 ?_
  refine zi_lstore_n K [(3, .long 0), (1, .long 0), (0, .ref (ad 0 0))] (dX8_meanNet 14 rfl) (by decide) rfl ?_
  refine zV.pick [2, 1, 0] (lo' := [(0, .ref (ad 0 0)), (1, .long 0), (3, .long 0)]) rfl ?_
  refine f_meanL (σ := (s_playAll σ))  (playAll_W hw).1 ⟨(zq3 (zLeR _).1), (zq3 (zLeR _).2)⟩ K ?_
  refine zi_lload_n K (dX8_meanNet 45 rfl) 1 rfl ?_
  refine zi_l2d K (dX8_meanNet 46 rfl) ?_
  refine zi_lload_n K (dX8_meanNet 47 rfl) 2 rfl ?_
  refine zi_l2d K (dX8_meanNet 48 rfl) ?_
  refine zi_ddiv K (dX8_meanNet 49 rfl) hn ?_
  exact zi_dret K E (dX8_meanNet 50 rfl) (Nat.le_refl _) (Nat.le_refl _) rfl (fun H h => by exact h)
def s_isSound (σ : zSt) : zSt := if v_lossWhole (s_settlePool σ) 0 = 0 then (s_settlePool σ) else if v_limKept (s_settlePool σ) 0 = 0 then (s_settlePool σ) else if v_fits (s_settlePool σ) = 0 then s_fits (s_settlePool σ) else s_fits (s_settlePool σ)
theorem fits_1 (σ : zSt) : (s_fits σ).1 = σ.1 := by
  unfold s_fits
  exact (s_goR_PABV_1 _ _).trans (zcpr_1 _ _ _)
theorem fits_W {σ : zSt} (h : zW σ) : zW (s_fits σ) ∧ zFs (s_fits σ) σ := ⟨h.mv (s_fits_22 σ) (zFs.of1 (fits_1 σ) (s_fits_22 σ)), zFs.of1 (fits_1 σ) (s_fits_22 σ)⟩
theorem isSound_W {σ : zSt} (hw : zW σ) : (zW (s_isSound σ) ∧ zFs (s_isSound σ) σ) ∧ (sgc (s_isSound σ) = sgc (s_settlePool σ) ∧ sgs (s_isSound σ) = sgs (s_settlePool σ)) := by
  obtain ⟨a1, a2⟩ := settlePool_W hw
  obtain ⟨b1, b2⟩ := fits_W a1
  have hb := zG_22 (s_fits_22 (s_settlePool σ))
  unfold s_isSound
  split
  · exact ⟨⟨a1, a2⟩, rfl, rfl⟩
  · split
    · exact ⟨⟨a1, a2⟩, rfl, rfl⟩
    · split
      · exact ⟨⟨b1, b2.trans a2⟩, hb⟩
      · exact ⟨⟨b1, b2.trans a2⟩, hb⟩
def v_isSound (σ : zSt)  : Int32 := if v_lossWhole (s_settlePool σ) 0 = 0 then 0 else if v_limKept (s_settlePool σ) 0 = 0 then 0 else if v_fits (s_settlePool σ) = 0 then 0 else 1
set_option maxRecDepth 100000 in
set_option maxHeartbeats 4000000 in
theorem c_isSound {G : zG} {ad : Nat → Nat → Nat} {σ : zSt}  (hw : zW σ)  : zC G yX8_isSound cX8_isSound 1 (some FieldType.boolean) 17 481 (sgc (s_isSound σ) - sgc σ) (sgs (s_isSound σ) - sgs σ) [.ref (ad 0 0)] (zP G ad σ) (some (.int (v_isSound σ ))) (zP G ad (s_isSound σ )) := by
  refine zC_of (by decide) (Nat.le_of_ble_eq_true rfl) (fun X K E hnm => ?_)
  show zV G X 1 (zP G ad σ) 0 0 0 [(0, .ref (ad 0 0))] []
  have hend := isSound_W hw
  refine zV.wd (k' := sgc σ - sgc σ) (n' := sgs σ - sgs σ) (Nat.zero_le _) (Nat.zero_le _) ?_
  refine zi_aload_n K (dX8_isSound 0 rfl) 0 rfl ?_
  refine zi_callV K (na := 0) [] [] (c_settlePool (σ := σ) hw) (dX8_isSound 1 rfl) w_622 w_624 w_16 w_25 w_625 (by decide +kernel) rfl (fun H h => zi_recv K (zr_O (σ := σ) rfl H h).1 rfl) (fun H h => h) ⟨Nat.le_of_ble_eq_true rfl, Nat.le_of_ble_eq_true rfl⟩ ⟨(zq1 (zLeR σ).1 (settlePool_W hw).2.2.1.1 (zGle hend.2).1), (zq1 (zLeR σ).2 (settlePool_W hw).2.2.1.2 (zGle hend.2).2)⟩ (Nat.le_of_ble_eq_true rfl) rfl rfl ?_
  have e1 : zSx zQd (s_settlePool σ) σ := ((settlePool_W hw).2.1).trans zSx.rf
  refine zV.wd (k' := sgc (s_settlePool σ) - sgc σ) (n' := sgs (s_settlePool σ) - sgs σ) (zq2 (zLeR σ).1 (settlePool_W hw).2.2.1.1) (zq2 (zLeR σ).2 (settlePool_W hw).2.2.1.2) ?_
  refine zi_aload_n K (dX8_isSound 2 rfl) 0 rfl ?_
  refine zg_O_real K rfl w_199 (dX8_isSound 3 rfl) ?_
  refine zi_callV K (na := 0) [] [.int (v_lossWhole (s_settlePool σ) 0)] (c_lossWhole (σ := (s_settlePool σ)) 0 (by decide) (settlePool_W hw).1.wf0.2.2.2.2.1) (dX8_isSound 4 rfl) w_643 w_644 w_645 w_29 w_646 (by decide +kernel) rfl (fun H h => zi_recv K (zr_FL (σ := (s_settlePool σ)) (by decide) H h).1 rfl) (fun H h => h) ⟨Nat.le_of_ble_eq_true rfl, Nat.le_of_ble_eq_true rfl⟩ ⟨(zq3 (zGle hend.2).1), (zq3 (zGle hend.2).2)⟩ (Nat.le_of_ble_eq_true rfl) rfl rfl ?_
  refine zi_if_eq K 38 (dX8_isSound 5 rfl) rfl (fun h11_0 => ?_) (fun h11_0 => ?_)
  · skip
    refine zi_iconst K (dX8_isSound 16 rfl) zk_i0 ?_
    exact zi_zret K E (dX8_isSound 17 rfl) (by unfold s_isSound; rw [if_pos h11_0]; exact Nat.le_refl _) (by unfold s_isSound; rw [if_pos h11_0]; exact Nat.le_refl _) (by unfold v_isSound; rw [if_pos h11_0]) rfl (fun H h => by unfold s_isSound; rw [if_pos h11_0]; exact h)
  · skip
    refine zi_aload_n K (dX8_isSound 6 rfl) 0 rfl ?_
    refine zg_O_real K rfl w_199 (dX8_isSound 7 rfl) ?_
    refine zi_callV K (na := 0) [] [.int (v_limKept (s_settlePool σ) 0)] (c_limKept (σ := (s_settlePool σ)) 0 (by decide) (settlePool_W hw).1.wf0.2.2.2.1 (settlePool_W hw).1.wf0.2.2.2.2.2.2.1) (dX8_isSound 8 rfl) w_647 w_648 w_649 w_29 w_650 (by decide +kernel) rfl (fun H h => zi_recv K (zr_FL (σ := (s_settlePool σ)) (by decide) H h).1 rfl) (fun H h => h) ⟨Nat.le_of_ble_eq_true rfl, Nat.le_of_ble_eq_true rfl⟩ ⟨(zq3 (zGle hend.2).1), (zq3 (zGle hend.2).2)⟩ (Nat.le_of_ble_eq_true rfl) rfl rfl ?_
    refine zi_if_eq K 38 (dX8_isSound 9 rfl) rfl (fun h21_1 => ?_) (fun h21_1 => ?_)
    · skip
      refine zi_iconst K (dX8_isSound 16 rfl) zk_i0 ?_
      exact zi_zret K E (dX8_isSound 17 rfl) (by unfold s_isSound; rw [if_neg h11_0, if_pos h21_1]; exact Nat.le_refl _) (by unfold s_isSound; rw [if_neg h11_0, if_pos h21_1]; exact Nat.le_refl _) (by unfold v_isSound; rw [if_neg h11_0, if_pos h21_1]) rfl (fun H h => by unfold s_isSound; rw [if_neg h11_0, if_pos h21_1]; exact h)
    · skip
      refine zi_aload_n K (dX8_isSound 10 rfl) 0 rfl ?_
      refine zg_O_pool K rfl w_201 (dX8_isSound 11 rfl) ?_
      refine zi_callV K (na := 0) [] [.int (v_fits (s_settlePool σ))] (c_fits (σ := (s_settlePool σ)) (settlePool_W hw).1.2.2.1.2.2.2.1) (dX8_isSound 12 rfl) w_652 w_653 w_654 w_31 w_655 (by decide +kernel) rfl (fun H h => zi_recv K (zr_POOL (σ := (s_settlePool σ)) rfl H h).1 rfl) (fun H h => h) ⟨Nat.le_of_ble_eq_true rfl, Nat.le_of_ble_eq_true rfl⟩ ⟨(zq3 (zGle hend.2).1), (zq3 (zGle hend.2).2)⟩ (Nat.le_of_ble_eq_true rfl) rfl rfl ?_
      have e2 : zSx zQd (s_fits (s_settlePool σ)) σ := (zSx.of (s_fits_22 (s_settlePool σ))).trans e1
      refine zi_if_eq K 38 (dX8_isSound 13 rfl) rfl (fun h31_2 => ?_) (fun h31_2 => ?_)
      · skip
        refine zi_iconst K (dX8_isSound 16 rfl) zk_i0 ?_
        refine zV.wd (k' := sgc (s_fits (s_settlePool σ)) - sgc σ) (n' := sgs (s_fits (s_settlePool σ)) - sgs σ) (zq4 (zG_22 (σ' := (s_fits (s_settlePool σ))) (σ := (s_settlePool σ)) ((s_fits_22 (s_settlePool σ)).trans rfl)).1) (zq4 (zG_22 (σ' := (s_fits (s_settlePool σ))) (σ := (s_settlePool σ)) ((s_fits_22 (s_settlePool σ)).trans rfl)).2) ?_
        exact zi_zret K E (dX8_isSound 17 rfl) (by unfold s_isSound; rw [if_neg h11_0, if_neg h21_1, if_pos h31_2]; exact Nat.le_refl _) (by unfold s_isSound; rw [if_neg h11_0, if_neg h21_1, if_pos h31_2]; exact Nat.le_refl _) (by unfold v_isSound; rw [if_neg h11_0, if_neg h21_1, if_pos h31_2]) rfl (fun H h => by unfold s_isSound; rw [if_neg h11_0, if_neg h21_1, if_pos h31_2]; exact h)
      · skip
        refine zi_iconst K (dX8_isSound 14 rfl) zk_i1 ?_
        refine zi_goto K 39 (dX8_isSound 15 rfl) rfl ?_
        refine zV.wd (k' := sgc (s_fits (s_settlePool σ)) - sgc σ) (n' := sgs (s_fits (s_settlePool σ)) - sgs σ) (zq4 (zG_22 (σ' := (s_fits (s_settlePool σ))) (σ := (s_settlePool σ)) ((s_fits_22 (s_settlePool σ)).trans rfl)).1) (zq4 (zG_22 (σ' := (s_fits (s_settlePool σ))) (σ := (s_settlePool σ)) ((s_fits_22 (s_settlePool σ)).trans rfl)).2) ?_
        exact zi_zret K E (dX8_isSound 17 rfl) (by unfold s_isSound; rw [if_neg h11_0, if_neg h21_1, if_neg h31_2]; exact Nat.le_refl _) (by unfold s_isSound; rw [if_neg h11_0, if_neg h21_1, if_neg h31_2]; exact Nat.le_refl _) (by unfold v_isSound; rw [if_neg h11_0, if_neg h21_1, if_neg h31_2]) rfl (fun H h => by unfold s_isSound; rw [if_neg h11_0, if_neg h21_1, if_neg h31_2]; exact h)
/-- the place of a loss among those laid in by their days: how many of the last ones are later -/
def abI (σ : zSt) (b k : Nat) : Nat → Nat → Nat
  | 0, m => m
  | r + 1, m => if m = 0 then 0 else if sI σ 4 (lx σ (5 + 4 * b) (m - 1)) 0 ≤ sI σ 4 k 0 then m else abI σ b k r (m - 1)
theorem abI_le (σ : zSt) (b k r : Nat) : ∀ m, abI σ b k r m ≤ m := by
  induction r with
  | zero => intro m; exact Nat.le_refl _
  | succ r ih =>
    intro m
    unfold abI
    split
    · omega
    · split
      · exact Nat.le_refl _
      · have := ih (m - 1); omega
