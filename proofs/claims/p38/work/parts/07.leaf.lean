def v_inForce (σ : zSt) (p : Nat) (day : Int32) : Int32 := if day < sI σ 2 p 0 then 0 else if sI σ 3 p 0 < day then 0 else 1
set_option maxRecDepth 100000 in
set_option maxHeartbeats 4000000 in
theorem c_inForce {G : zG} {ad : Nat → Nat → Nat} {σ : zSt} (p : Nat) (day : Int32) (hp : p < sN σ 0) : zC G yX4_isInForce cX4_isInForce 2 (some FieldType.boolean) 0 0 0 0 [.ref (ad 1 p), .int day] (zP G ad σ) (some (.int (v_inForce σ p day))) (zP G ad σ) := by
  refine zC_of (by decide) (Nat.le_of_ble_eq_true rfl) (fun X K E hnm => ?_)
  show zV G X 2 (zP G ad σ) 0 0 0 [(0, .ref (ad 1 p)), (1, .int day)] []
  refine zi_aload_n K (dX4_isInForce 0 rfl) 0 rfl ?_
  refine zg_POL_first K hp w_719 (dX4_isInForce 1 rfl) ?_
  refine zi_iload_n K (dX4_isInForce 2 rfl) 1 rfl ?_
  refine zi_icmp_gt K 20 (dX4_isInForce 3 rfl) rfl (fun h5_0 => ?_) (fun h5_0 => ?_)
  · skip
    refine zi_iconst K (dX4_isInForce 10 rfl) zk_i0 ?_
    exact zi_zret K E (dX4_isInForce 11 rfl) (Nat.le_refl _) (Nat.le_refl _) (by unfold v_inForce; rw [if_pos h5_0]) rfl (fun _ h => h)
  · skip
    refine zi_iload_n K (dX4_isInForce 4 rfl) 1 rfl ?_
    refine zi_aload_n K (dX4_isInForce 5 rfl) 0 rfl ?_
    refine zg_POL_last K hp w_721 (dX4_isInForce 6 rfl) ?_
    refine zi_icmp_gt K 20 (dX4_isInForce 7 rfl) rfl (fun h13_1 => ?_) (fun h13_1 => ?_)
    · skip
      refine zi_iconst K (dX4_isInForce 10 rfl) zk_i0 ?_
      exact zi_zret K E (dX4_isInForce 11 rfl) (Nat.le_refl _) (Nat.le_refl _) (by unfold v_inForce; rw [if_neg h5_0, if_pos h13_1]) rfl (fun _ h => h)
    · skip
      refine zi_iconst K (dX4_isInForce 8 rfl) zk_i1 ?_
      refine zi_goto K 21 (dX4_isInForce 9 rfl) rfl ?_
      exact zi_zret K E (dX4_isInForce 11 rfl) (Nat.le_refl _) (Nat.le_refl _) (by unfold v_inForce; rw [if_neg h5_0, if_neg h13_1]) rfl (fun _ h => h)
def s_happen (σ : zSt) (k : Nat) (a b c : Int32) : zSt := (uI (uI (uI σ 4 k 0 a) 5 k 0 b) 6 k 0 c)
set_option maxRecDepth 100000 in
set_option maxHeartbeats 4000000 in
theorem c_happen {G : zG} {ad : Nat → Nat → Nat} {σ : zSt} (k : Nat) (a b c : Int32) (hk : zlC σ k) : zC G yX0_happen cX0_happen 4 none 0 0 0 0 [.ref (ad 2 k), .int a, .int b, .int c] (zP G ad σ) none (zP G ad (s_happen σ k a b c)) := by
  refine zC_of (by decide) (Nat.le_of_ble_eq_true rfl) (fun X K E hnm => ?_)
  show zV G X 4 (zP G ad σ) 0 0 0 [(0, .ref (ad 2 k)), (1, .int a), (2, .int b), (3, .int c)] []
  refine zi_aload_n K (dX0_happen 0 rfl) 0 rfl ?_
  refine zi_iload_n K (dX0_happen 1 rfl) 1 rfl ?_
  refine zp_CL_day K hk w_746 (dX0_happen 2 rfl) ?_
  refine zi_aload_n K (dX0_happen 3 rfl) 0 rfl ?_
  refine zi_iload_n K (dX0_happen 4 rfl) 2 rfl ?_
  refine zp_CL_told K hk w_750 (dX0_happen 5 rfl) ?_
  refine zi_aload_n K (dX0_happen 6 rfl) 0 rfl ?_
  refine zi_iload_n K (dX0_happen 7 rfl) 3 rfl ?_
  refine zp_CL_amount K hk w_752 (dX0_happen 8 rfl) ?_
  exact zi_vret K E (dX0_happen 9 rfl) (Nat.le_refl _) (Nat.le_refl _) rfl (fun H h => by exact h)
def v_isLimited (σ : zSt) (t : Nat) : Int32 := if sI σ 8 t 0 = 114 then 1 else if sI σ 8 t 0 = 101 then 1 else 0
set_option maxRecDepth 100000 in
set_option maxHeartbeats 4000000 in
theorem c_isLimited {G : zG} {ad : Nat → Nat → Nat} {σ : zSt} (t : Nat) (ht : t < sN σ 2) : zC G yX7_isLimited cX7_isLimited 1 (some FieldType.boolean) 0 0 0 0 [.ref (ad 5 t)] (zP G ad σ) (some (.int (v_isLimited σ t))) (zP G ad σ) := by
  refine zC_of (by decide) (Nat.le_of_ble_eq_true rfl) (fun X K E hnm => ?_)
  show zV G X 1 (zP G ad σ) 0 0 0 [(0, .ref (ad 5 t))] []
  refine zi_aload_n K (dX7_isLimited 0 rfl) 0 rfl ?_
  refine zg_TR_kind K ht w_1095 (dX7_isLimited 1 rfl) ?_
  refine zi_bipush K (dX7_isLimited 2 rfl) zk_b114 ?_
  refine zi_icmp_eq K 18 (dX7_isLimited 3 rfl) rfl (fun h6_0 => ?_) (fun h6_0 => ?_)
  · skip
    refine zi_iconst K (dX7_isLimited 8 rfl) zk_i1 ?_
    refine zi_goto K 23 (dX7_isLimited 9 rfl) rfl ?_
    exact zi_zret K E (dX7_isLimited 11 rfl) (Nat.le_refl _) (Nat.le_refl _) (by unfold v_isLimited; rw [if_pos h6_0]) rfl (fun _ h => h)
  · skip
    refine zi_aload_n K (dX7_isLimited 4 rfl) 0 rfl ?_
    refine zg_TR_kind K ht w_1095 (dX7_isLimited 5 rfl) ?_
    refine zi_bipush K (dX7_isLimited 6 rfl) zk_b101 ?_
    refine zi_icmp_ne K 22 (dX7_isLimited 7 rfl) rfl (fun h15_1 => ?_) (fun h15_1 => ?_)
    · skip
      refine zi_iconst K (dX7_isLimited 10 rfl) zk_i0 ?_
      exact zi_zret K E (dX7_isLimited 11 rfl) (Nat.le_refl _) (Nat.le_refl _) (by unfold v_isLimited; rw [if_neg h6_0, if_neg h15_1]) rfl (fun _ h => h)
    · skip
      refine zi_iconst K (dX7_isLimited 8 rfl) zk_i1 ?_
      refine zi_goto K 23 (dX7_isLimited 9 rfl) rfl ?_
      exact zi_zret K E (dX7_isLimited 11 rfl) (Nat.le_refl _) (Nat.le_refl _) (by unfold v_isLimited; rw [if_neg h6_0, if_pos h15_1]) rfl (fun _ h => h)
def v_wholeLimit (σ : zSt) (t : Nat) : Int64 := if v_isLimited σ t = 0 then 1000000000000 else ((sI σ 13 t 0).toInt64) * ((1 + (sI σ 15 t 0)).toInt64)
set_option maxRecDepth 100000 in
set_option maxHeartbeats 4000000 in
theorem c_wholeLimit {G : zG} {ad : Nat → Nat → Nat} {σ : zSt} (t : Nat) (ht : t < sN σ 2) : zC G yX7_wholeLimit cX7_wholeLimit 1 (some FieldType.long) 1 20 0 0 [.ref (ad 5 t)] (zP G ad σ) (some (.long (v_wholeLimit σ t))) (zP G ad σ) := by
  refine zC_of (by decide) (Nat.le_of_ble_eq_true rfl) (fun X K E hnm => ?_)
  show zV G X 1 (zP G ad σ) 0 0 0 [(0, .ref (ad 5 t))] []
  refine zi_aload_n K (dX7_wholeLimit 0 rfl) 0 rfl ?_
  refine zi_callV K [] [.int (v_isLimited σ t)] (c_isLimited t ht) (dX7_wholeLimit 1 rfl) w_374 w_375 w_376 w_55 w_377 (by decide +kernel) (fun H h => zi_recv K (zr_TR ht H h).1 rfl) (fun H h => h) ⟨Nat.le_of_ble_eq_true rfl, Nat.le_of_ble_eq_true rfl⟩ ⟨Nat.le_refl _, Nat.le_refl _⟩ (Nat.le_of_ble_eq_true rfl) rfl rfl ?_
  refine zi_if_eq K 23 (dX7_wholeLimit 2 rfl) rfl (fun h4_0 => ?_) (fun h4_0 => ?_)
  · skip
    refine zi_ldc2 K (dX7_wholeLimit 13 rfl) w_378 ?_
    exact zi_lret K E (dX7_wholeLimit 14 rfl) (Nat.le_refl _) (Nat.le_refl _) (by unfold v_wholeLimit; rw [if_pos h4_0]) (fun _ h => h)
  · skip
    refine zi_aload_n K (dX7_wholeLimit 3 rfl) 0 rfl ?_
    refine zg_TR_b K ht w_1102 (dX7_wholeLimit 4 rfl) ?_
    refine zi_i2l K (dX7_wholeLimit 5 rfl) ?_
    refine zi_iconst K (dX7_wholeLimit 6 rfl) zk_i1 ?_
    refine zi_aload_n K (dX7_wholeLimit 7 rfl) 0 rfl ?_
    refine zg_TR_many K ht w_1110 (dX7_wholeLimit 8 rfl) ?_
    refine zi_iadd K (dX7_wholeLimit 9 rfl) ?_
    refine zi_i2l K (dX7_wholeLimit 10 rfl) ?_
    refine zi_lmul K (dX7_wholeLimit 11 rfl) ?_
    refine zi_goto K 26 (dX7_wholeLimit 12 rfl) rfl ?_
    exact zi_lret K E (dX7_wholeLimit 14 rfl) (Nat.le_refl _) (Nat.le_refl _) (by unfold v_wholeLimit; rw [if_neg h4_0]) (fun _ h => h)
def v_forEach (σ : zSt) (t : Nat) : Int32 := if sI σ 8 t 0 = 113 then 1 else if sI σ 8 t 0 = 115 then 1 else if sI σ 8 t 0 = 114 then 1 else 0
set_option maxRecDepth 100000 in
set_option maxHeartbeats 4000000 in
theorem c_forEach {G : zG} {ad : Nat → Nat → Nat} {σ : zSt} (t : Nat) (ht : t < sN σ 2) : zC G yX7_isForEachLoss cX7_isForEachLoss 1 (some FieldType.boolean) 0 0 0 0 [.ref (ad 5 t)] (zP G ad σ) (some (.int (v_forEach σ t))) (zP G ad σ) := by
  refine zC_of (by decide) (Nat.le_of_ble_eq_true rfl) (fun X K E hnm => ?_)
  show zV G X 1 (zP G ad σ) 0 0 0 [(0, .ref (ad 5 t))] []
  refine zi_aload_n K (dX7_isForEachLoss 0 rfl) 0 rfl ?_
  refine zg_TR_kind K ht w_1095 (dX7_isForEachLoss 1 rfl) ?_
  refine zi_bipush K (dX7_isForEachLoss 2 rfl) zk_b113 ?_
  refine zi_icmp_eq K 27 (dX7_isForEachLoss 3 rfl) rfl (fun h6_0 => ?_) (fun h6_0 => ?_)
  · skip
    refine zi_iconst K (dX7_isForEachLoss 12 rfl) zk_i1 ?_
    refine zi_goto K 32 (dX7_isForEachLoss 13 rfl) rfl ?_
    exact zi_zret K E (dX7_isForEachLoss 15 rfl) (Nat.le_refl _) (Nat.le_refl _) (by unfold v_forEach; rw [if_pos h6_0]) rfl (fun _ h => h)
  · skip
    refine zi_aload_n K (dX7_isForEachLoss 4 rfl) 0 rfl ?_
    refine zg_TR_kind K ht w_1095 (dX7_isForEachLoss 5 rfl) ?_
    refine zi_bipush K (dX7_isForEachLoss 6 rfl) zk_b115 ?_
    refine zi_icmp_eq K 27 (dX7_isForEachLoss 7 rfl) rfl (fun h15_1 => ?_) (fun h15_1 => ?_)
    · skip
      refine zi_iconst K (dX7_isForEachLoss 12 rfl) zk_i1 ?_
      refine zi_goto K 32 (dX7_isForEachLoss 13 rfl) rfl ?_
      exact zi_zret K E (dX7_isForEachLoss 15 rfl) (Nat.le_refl _) (Nat.le_refl _) (by unfold v_forEach; rw [if_neg h6_0, if_pos h15_1]) rfl (fun _ h => h)
    · skip
      refine zi_aload_n K (dX7_isForEachLoss 8 rfl) 0 rfl ?_
      refine zg_TR_kind K ht w_1095 (dX7_isForEachLoss 9 rfl) ?_
      refine zi_bipush K (dX7_isForEachLoss 10 rfl) zk_b114 ?_
      refine zi_icmp_ne K 31 (dX7_isForEachLoss 11 rfl) rfl (fun h24_2 => ?_) (fun h24_2 => ?_)
      · skip
        refine zi_iconst K (dX7_isForEachLoss 14 rfl) zk_i0 ?_
        exact zi_zret K E (dX7_isForEachLoss 15 rfl) (Nat.le_refl _) (Nat.le_refl _) (by unfold v_forEach; rw [if_neg h6_0, if_neg h15_1, if_neg h24_2]) rfl (fun _ h => h)
      · skip
        refine zi_iconst K (dX7_isForEachLoss 12 rfl) zk_i1 ?_
        refine zi_goto K 32 (dX7_isForEachLoss 13 rfl) rfl ?_
        exact zi_zret K E (dX7_isForEachLoss 15 rfl) (Nat.le_refl _) (Nat.le_refl _) (by unfold v_forEach; rw [if_neg h6_0, if_neg h15_1, if_pos h24_2]) rfl (fun _ h => h)
def v_covers (σ : zSt) (t k : Nat) : Int32 := if sI σ 9 t 0 = 111 then (if sI σ 19 t 0 = 0 then (if sI σ 4 k 0 < sI σ 10 t 0 then 0 else if sI σ 11 t 0 < sI σ 4 k 0 then 0 else 1) else 0) else if sI σ 9 t 0 = 97 then (if sI σ 19 t 0 = 0 then (if sI σ 2 (sP σ k) 0 < sI σ 10 t 0 then 0 else if sI σ 11 t 0 < sI σ 2 (sP σ k) 0 then 0 else 1) else 0) else if sI σ 19 t 0 = 0 then (if sI σ 5 k 0 < sI σ 10 t 0 then 0 else if sI σ 11 t 0 < sI σ 5 k 0 then 0 else 1) else 0
set_option maxRecDepth 100000 in
set_option maxHeartbeats 4000000 in
theorem c_covers {G : zG} {ad : Nat → Nat → Nat} {σ : zSt} (t k : Nat) (ht : t < sN σ 2) (hk : zlC σ k) (hp : sP σ k < sN σ 0) : zC G yX7_coversLoss cX7_coversLoss 3 (some FieldType.boolean) 0 0 0 0 [.ref (ad 5 t), .ref (ad 2 k)] (zP G ad σ) (some (.int (v_covers σ t k))) (zP G ad σ) := by
  refine zC_of (by decide) (Nat.le_of_ble_eq_true rfl) (fun X K E hnm => ?_)
  show zV G X 3 (zP G ad σ) 0 0 0 [(0, .ref (ad 5 t)), (1, .ref (ad 2 k))] []
  refine zi_aload_n K (dX7_coversLoss 0 rfl) 0 rfl ?_
  refine zg_TR_basis K ht w_1098 (dX7_coversLoss 1 rfl) ?_
  refine zi_bipush K (dX7_coversLoss 2 rfl) zk_b111 ?_
  refine zi_icmp_ne K 16 (dX7_coversLoss 3 rfl) rfl (fun h6_0 => ?_) (fun h6_0 => ?_)
  · skip
    refine zi_aload_n K (dX7_coversLoss 7 rfl) 0 rfl ?_
    refine zg_TR_basis K ht w_1098 (dX7_coversLoss 8 rfl) ?_
    refine zi_bipush K (dX7_coversLoss 9 rfl) zk_b97 ?_
    refine zi_icmp_ne K 35 (dX7_coversLoss 10 rfl) rfl (fun h22_1 => ?_) (fun h22_1 => ?_)
    · skip
      refine zi_aload_n K (dX7_coversLoss 15 rfl) 1 rfl ?_
      refine zg_CL_told K hk w_751 (dX7_coversLoss 16 rfl) ?_
      refine zi_istore_n K [(2, .int (sI σ 5 k 0)), (0, .ref (ad 5 t)), (1, .ref (ad 2 k))] (dX7_coversLoss 17 rfl) (by decide) rfl ?_
      refine zi_aload_n K (dX7_coversLoss 18 rfl) 1 rfl ?_
      refine zg_TR_isCommuted K ht w_1119 (dX7_coversLoss 19 rfl) ?_
      refine zi_if_ne K 67 (dX7_coversLoss 20 rfl) rfl (fun h44_2 => ?_) (fun h44_2 => ?_)
      · skip
        refine zi_iconst K (dX7_coversLoss 31 rfl) zk_i0 ?_
        exact zi_zret K E (dX7_coversLoss 32 rfl) (Nat.le_refl _) (Nat.le_refl _) (by unfold v_covers; rw [if_neg h6_0, if_neg h22_1, if_neg h44_2]) rfl (fun _ h => h)
      · skip
        refine zi_aload_n K (dX7_coversLoss 21 rfl) 1 rfl ?_
        refine zg_TR_first K ht w_1099 (dX7_coversLoss 22 rfl) ?_
        refine zi_iload_n K (dX7_coversLoss 23 rfl) 0 rfl ?_
        refine zi_icmp_gt K 67 (dX7_coversLoss 24 rfl) rfl (fun h52_3 => ?_) (fun h52_3 => ?_)
        · skip
          refine zi_iconst K (dX7_coversLoss 31 rfl) zk_i0 ?_
          exact zi_zret K E (dX7_coversLoss 32 rfl) (Nat.le_refl _) (Nat.le_refl _) (by unfold v_covers; rw [if_neg h6_0, if_neg h22_1, if_pos h44_2, if_pos h52_3]) rfl (fun _ h => h)
        · skip
          refine zi_iload_n K (dX7_coversLoss 25 rfl) 0 rfl ?_
          refine zi_aload_n K (dX7_coversLoss 26 rfl) 1 rfl ?_
          refine zg_TR_last K ht w_1100 (dX7_coversLoss 27 rfl) ?_
          refine zi_icmp_gt K 67 (dX7_coversLoss 28 rfl) rfl (fun h60_4 => ?_) (fun h60_4 => ?_)
          · skip
            refine zi_iconst K (dX7_coversLoss 31 rfl) zk_i0 ?_
            exact zi_zret K E (dX7_coversLoss 32 rfl) (Nat.le_refl _) (Nat.le_refl _) (by unfold v_covers; rw [if_neg h6_0, if_neg h22_1, if_pos h44_2, if_neg h52_3, if_pos h60_4]) rfl (fun _ h => h)
          · skip
            refine zi_iconst K (dX7_coversLoss 29 rfl) zk_i1 ?_
            refine zi_goto K 68 (dX7_coversLoss 30 rfl) rfl ?_
            exact zi_zret K E (dX7_coversLoss 32 rfl) (Nat.le_refl _) (Nat.le_refl _) (by unfold v_covers; rw [if_neg h6_0, if_neg h22_1, if_pos h44_2, if_neg h52_3, if_neg h60_4]) rfl (fun _ h => h)
    · skip
      refine zi_aload_n K (dX7_coversLoss 11 rfl) 1 rfl ?_
      refine zg_CL_policy K hk w_737 (dX7_coversLoss 12 rfl) ?_
      refine zg_POL_first K hp w_720 (dX7_coversLoss 13 rfl) ?_
      refine zi_goto K 39 (dX7_coversLoss 14 rfl) rfl ?_
      refine zi_istore_n K [(2, .int (sI σ 2 (sP σ k) 0)), (0, .ref (ad 5 t)), (1, .ref (ad 2 k))] (dX7_coversLoss 17 rfl) (by decide) rfl ?_
      refine zi_aload_n K (dX7_coversLoss 18 rfl) 1 rfl ?_
      refine zg_TR_isCommuted K ht w_1119 (dX7_coversLoss 19 rfl) ?_
      refine zi_if_ne K 67 (dX7_coversLoss 20 rfl) rfl (fun h44_2 => ?_) (fun h44_2 => ?_)
      · skip
        refine zi_iconst K (dX7_coversLoss 31 rfl) zk_i0 ?_
        exact zi_zret K E (dX7_coversLoss 32 rfl) (Nat.le_refl _) (Nat.le_refl _) (by unfold v_covers; rw [if_neg h6_0, if_pos h22_1, if_neg h44_2]) rfl (fun _ h => h)
      · skip
        refine zi_aload_n K (dX7_coversLoss 21 rfl) 1 rfl ?_
        refine zg_TR_first K ht w_1099 (dX7_coversLoss 22 rfl) ?_
        refine zi_iload_n K (dX7_coversLoss 23 rfl) 0 rfl ?_
        refine zi_icmp_gt K 67 (dX7_coversLoss 24 rfl) rfl (fun h52_3 => ?_) (fun h52_3 => ?_)
        · skip
          refine zi_iconst K (dX7_coversLoss 31 rfl) zk_i0 ?_
          exact zi_zret K E (dX7_coversLoss 32 rfl) (Nat.le_refl _) (Nat.le_refl _) (by unfold v_covers; rw [if_neg h6_0, if_pos h22_1, if_pos h44_2, if_pos h52_3]) rfl (fun _ h => h)
        · skip
          refine zi_iload_n K (dX7_coversLoss 25 rfl) 0 rfl ?_
          refine zi_aload_n K (dX7_coversLoss 26 rfl) 1 rfl ?_
          refine zg_TR_last K ht w_1100 (dX7_coversLoss 27 rfl) ?_
          refine zi_icmp_gt K 67 (dX7_coversLoss 28 rfl) rfl (fun h60_4 => ?_) (fun h60_4 => ?_)
          · skip
            refine zi_iconst K (dX7_coversLoss 31 rfl) zk_i0 ?_
            exact zi_zret K E (dX7_coversLoss 32 rfl) (Nat.le_refl _) (Nat.le_refl _) (by unfold v_covers; rw [if_neg h6_0, if_pos h22_1, if_pos h44_2, if_neg h52_3, if_pos h60_4]) rfl (fun _ h => h)
          · skip
            refine zi_iconst K (dX7_coversLoss 29 rfl) zk_i1 ?_
            refine zi_goto K 68 (dX7_coversLoss 30 rfl) rfl ?_
            exact zi_zret K E (dX7_coversLoss 32 rfl) (Nat.le_refl _) (Nat.le_refl _) (by unfold v_covers; rw [if_neg h6_0, if_pos h22_1, if_pos h44_2, if_neg h52_3, if_neg h60_4]) rfl (fun _ h => h)
  · skip
    refine zi_aload_n K (dX7_coversLoss 4 rfl) 1 rfl ?_
    refine zg_CL_day K hk w_749 (dX7_coversLoss 5 rfl) ?_
    refine zi_goto K 39 (dX7_coversLoss 6 rfl) rfl ?_
    refine zi_istore_n K [(2, .int (sI σ 4 k 0)), (0, .ref (ad 5 t)), (1, .ref (ad 2 k))] (dX7_coversLoss 17 rfl) (by decide) rfl ?_
    refine zi_aload_n K (dX7_coversLoss 18 rfl) 1 rfl ?_
    refine zg_TR_isCommuted K ht w_1119 (dX7_coversLoss 19 rfl) ?_
    refine zi_if_ne K 67 (dX7_coversLoss 20 rfl) rfl (fun h44_1 => ?_) (fun h44_1 => ?_)
    · skip
      refine zi_iconst K (dX7_coversLoss 31 rfl) zk_i0 ?_
      exact zi_zret K E (dX7_coversLoss 32 rfl) (Nat.le_refl _) (Nat.le_refl _) (by unfold v_covers; rw [if_pos h6_0, if_neg h44_1]) rfl (fun _ h => h)
    · skip
      refine zi_aload_n K (dX7_coversLoss 21 rfl) 1 rfl ?_
      refine zg_TR_first K ht w_1099 (dX7_coversLoss 22 rfl) ?_
      refine zi_iload_n K (dX7_coversLoss 23 rfl) 0 rfl ?_
      refine zi_icmp_gt K 67 (dX7_coversLoss 24 rfl) rfl (fun h52_2 => ?_) (fun h52_2 => ?_)
      · skip
        refine zi_iconst K (dX7_coversLoss 31 rfl) zk_i0 ?_
        exact zi_zret K E (dX7_coversLoss 32 rfl) (Nat.le_refl _) (Nat.le_refl _) (by unfold v_covers; rw [if_pos h6_0, if_pos h44_1, if_pos h52_2]) rfl (fun _ h => h)
      · skip
        refine zi_iload_n K (dX7_coversLoss 25 rfl) 0 rfl ?_
        refine zi_aload_n K (dX7_coversLoss 26 rfl) 1 rfl ?_
        refine zg_TR_last K ht w_1100 (dX7_coversLoss 27 rfl) ?_
        refine zi_icmp_gt K 67 (dX7_coversLoss 28 rfl) rfl (fun h60_3 => ?_) (fun h60_3 => ?_)
        · skip
          refine zi_iconst K (dX7_coversLoss 31 rfl) zk_i0 ?_
          exact zi_zret K E (dX7_coversLoss 32 rfl) (Nat.le_refl _) (Nat.le_refl _) (by unfold v_covers; rw [if_pos h6_0, if_pos h44_1, if_neg h52_2, if_pos h60_3]) rfl (fun _ h => h)
        · skip
          refine zi_iconst K (dX7_coversLoss 29 rfl) zk_i1 ?_
          refine zi_goto K 68 (dX7_coversLoss 30 rfl) rfl ?_
          exact zi_zret K E (dX7_coversLoss 32 rfl) (Nat.le_refl _) (Nat.le_refl _) (by unfold v_covers; rw [if_pos h6_0, if_pos h44_1, if_neg h52_2, if_neg h60_3]) rfl (fun _ h => h)
def v_layerOf (σ : zSt) (t : Nat) (x : Int64) : Int64 := zmxl 0 (zmnl (x - ((sI σ 12 t 0).toInt64)) ((sI σ 13 t 0).toInt64))
set_option maxRecDepth 100000 in
set_option maxHeartbeats 4000000 in
theorem c_layerOf {G : zG} {ad : Nat → Nat → Nat} {σ : zSt} (t : Nat) (x : Int64) (ht : t < sN σ 2) : zC G yX7_layerOf cX7_layerOf 3 (some FieldType.long) 1 17 0 0 [.ref (ad 5 t), .long x] (zP G ad σ) (some (.long (v_layerOf σ t x))) (zP G ad σ) := by
  refine zC_of (by decide) (Nat.le_of_ble_eq_true rfl) (fun X K E hnm => ?_)
  show zV G X 3 (zP G ad σ) 0 0 0 [(0, .ref (ad 5 t)), (1, .long x)] []
  refine zi_lconst K (dX7_layerOf 0 rfl) zk_l0 ?_
  refine zi_lload_n K (dX7_layerOf 1 rfl) 1 rfl ?_
  refine zi_aload_n K (dX7_layerOf 2 rfl) 0 rfl ?_
  refine zg_TR_a K ht w_1101 (dX7_layerOf 3 rfl) ?_
  refine zi_i2l K (dX7_layerOf 4 rfl) ?_
  refine zi_lsub K (dX7_layerOf 5 rfl) ?_
  refine zi_aload_n K (dX7_layerOf 6 rfl) 0 rfl ?_
  refine zg_TR_b K ht w_1102 (dX7_layerOf 7 rfl) ?_
  refine zi_i2l K (dX7_layerOf 8 rfl) ?_
  refine zi_minl K [.long 0] (dX7_layerOf 9 rfl) w_403 ⟨Nat.le_of_ble_eq_true rfl, Nat.le_of_ble_eq_true rfl⟩ ⟨Nat.le_refl _, Nat.le_refl _⟩ ?_
  refine zi_maxl K [] (dX7_layerOf 10 rfl) w_406 ⟨Nat.le_of_ble_eq_true rfl, Nat.le_of_ble_eq_true rfl⟩ ⟨Nat.le_refl _, Nat.le_refl _⟩ ?_
  exact zi_lret K E (dX7_layerOf 11 rfl) (Nat.le_refl _) (Nat.le_refl _) rfl (fun _ h => h)
