theorem uI_22 (σ : zSt) (t o e : Nat) (v : Int32) : (uI σ t o e v).2.2 = σ.2.2 := rfl
theorem uL_22 (σ : zSt) (t o e : Nat) (v : Int64) : (uL σ t o e v).2.2 = σ.2.2 := rfl
theorem uL_1 (σ : zSt) (t o e : Nat) (v : Int64) : (uL σ t o e v).1 = σ.1 := rfl
def zfI (σ : zSt) (t o : Nat) (v : Int32) : Nat → zSt
  | 0 => σ
  | i + 1 => uI (zfI σ t o v i) t o i v
def zfL (σ : zSt) (t o : Nat) (v : Int64) : Nat → zSt
  | 0 => σ
  | i + 1 => uL (zfL σ t o v i) t o i v
theorem zfI_2 (σ : zSt) (t o : Nat) (v : Int32) (i : Nat) : (zfI σ t o v i).2 = σ.2 := by
  induction i with
  | zero => rfl
  | succ i ih => exact ih
theorem zfI_22 (σ : zSt) (t o : Nat) (v : Int32) (i : Nat) : (zfI σ t o v i).2.2 = σ.2.2 := congrArg Prod.snd (zfI_2 σ t o v i)
theorem zfL_22 (σ : zSt) (t o : Nat) (v : Int64) (i : Nat) : (zfL σ t o v i).2.2 = σ.2.2 := by
  induction i with
  | zero => rfl
  | succ i ih => exact ih
def v_inForce (σ : zSt) (p : Nat) (day : Int32) : Int32 := if day < sI σ 2 p 0 then 0 else if sI σ 3 p 0 < day then 0 else 1
set_option maxRecDepth 100000 in
set_option maxHeartbeats 4000000 in
theorem c_inForce {G : zG} {ad : Nat → Nat → Nat} {σ : zSt} (p : Nat) (day : Int32) (hp : p < sN σ 0) : zC G yX4_isInForce cX4_isInForce 2 (some FieldType.boolean) 0 0 0 0 [.ref (ad 1 p), .int day] (zP G ad σ) (some (.int (v_inForce σ p day))) (zP G ad σ) := by
  refine zC_of (by decide) (Nat.le_of_ble_eq_true rfl) (fun X K E hnm => ?_)
  show zV G X 2 (zP G ad σ) 0 0 0 [(0, .ref (ad 1 p)), (1, .int day)] []
  refine zi_aload_n K (dX4_isInForce 0 rfl) 0 rfl ?_
  refine zg_POL_first K hp w_719 (dX4_isInForce 1 rfl) ?_
  refine zi_iload_n K (dX4_isInForce 2 rfl) 1 rfl ?_
  refine zi_icmp_gt K 20 (dX4_isInForce 3 rfl) rfl (fun h5_0 => ?_) (fun h5_0 => ?_)
  · skip
    refine zi_iconst K (dX4_isInForce 10 rfl) zk_i0 ?_
    exact zi_zret K E (dX4_isInForce 11 rfl) (Nat.le_refl _) (Nat.le_refl _) (by unfold v_inForce; rw [if_pos h5_0]) rfl (fun _ h => h)
  · skip
    refine zi_iload_n K (dX4_isInForce 4 rfl) 1 rfl ?_
    refine zi_aload_n K (dX4_isInForce 5 rfl) 0 rfl ?_
    refine zg_POL_last K hp w_721 (dX4_isInForce 6 rfl) ?_
    refine zi_icmp_gt K 20 (dX4_isInForce 7 rfl) rfl (fun h13_1 => ?_) (fun h13_1 => ?_)
    · skip
      refine zi_iconst K (dX4_isInForce 10 rfl) zk_i0 ?_
      exact zi_zret K E (dX4_isInForce 11 rfl) (Nat.le_refl _) (Nat.le_refl _) (by unfold v_inForce; rw [if_neg h5_0, if_pos h13_1]) rfl (fun _ h => h)
    · skip
      refine zi_iconst K (dX4_isInForce 8 rfl) zk_i1 ?_
      refine zi_goto K 21 (dX4_isInForce 9 rfl) rfl ?_
      exact zi_zret K E (dX4_isInForce 11 rfl) (Nat.le_refl _) (Nat.le_refl _) (by unfold v_inForce; rw [if_neg h5_0, if_neg h13_1]) rfl (fun _ h => h)
def s_happen (σ : zSt) (k : Nat) (a b c : Int32) : zSt := (uI (uI (uI σ 4 k 0 a) 5 k 0 b) 6 k 0 c)
theorem s_happen_22 (σ : zSt) (k : Nat) (a b c : Int32) : (s_happen σ k a b c).2.2 = σ.2.2 := by
  unfold s_happen
  (repeat' split) <;> first | exact ((uI_22 (uI (uI σ 4 k 0 a) 5 k 0 b) 6 k 0 c).trans ((uI_22 (uI σ 4 k 0 a) 5 k 0 b).trans ((uI_22 σ 4 k 0 a).trans rfl)))
set_option maxRecDepth 100000 in
set_option maxHeartbeats 4000000 in
theorem c_happen {G : zG} {ad : Nat → Nat → Nat} {σ : zSt} (k : Nat) (a b c : Int32) (hk : zlC σ k) : zC G yX0_happen cX0_happen 4 none 0 0 0 0 [.ref (ad 2 k), .int a, .int b, .int c] (zP G ad σ) none (zP G ad (s_happen σ k a b c)) := by
  refine zC_of (by decide) (Nat.le_of_ble_eq_true rfl) (fun X K E hnm => ?_)
  show zV G X 4 (zP G ad σ) 0 0 0 [(0, .ref (ad 2 k)), (1, .int a), (2, .int b), (3, .int c)] []
  refine zi_aload_n K (dX0_happen 0 rfl) 0 rfl ?_
  refine zi_iload_n K (dX0_happen 1 rfl) 1 rfl ?_
  refine zp_CL_day K hk w_746 (dX0_happen 2 rfl) ?_
  refine zi_aload_n K (dX0_happen 3 rfl) 0 rfl ?_
  refine zi_iload_n K (dX0_happen 4 rfl) 2 rfl ?_
  refine zp_CL_told K hk w_750 (dX0_happen 5 rfl) ?_
  refine zi_aload_n K (dX0_happen 6 rfl) 0 rfl ?_
  refine zi_iload_n K (dX0_happen 7 rfl) 3 rfl ?_
  refine zp_CL_amount K hk w_752 (dX0_happen 8 rfl) ?_
  exact zi_vret K E (dX0_happen 9 rfl) (Nat.le_refl _) (Nat.le_refl _) rfl (fun H h => by exact h)
def v_isLimited (σ : zSt) (t : Nat) : Int32 := if sI σ 8 t 0 = 114 then 1 else if sI σ 8 t 0 = 101 then 1 else 0
set_option maxRecDepth 100000 in
set_option maxHeartbeats 4000000 in
theorem c_isLimited {G : zG} {ad : Nat → Nat → Nat} {σ : zSt} (t : Nat) (ht : t < sN σ 2) : zC G yX7_isLimited cX7_isLimited 1 (some FieldType.boolean) 0 0 0 0 [.ref (ad 5 t)] (zP G ad σ) (some (.int (v_isLimited σ t))) (zP G ad σ) := by
  refine zC_of (by decide) (Nat.le_of_ble_eq_true rfl) (fun X K E hnm => ?_)
  show zV G X 1 (zP G ad σ) 0 0 0 [(0, .ref (ad 5 t))] []
  refine zi_aload_n K (dX7_isLimited 0 rfl) 0 rfl ?_
  refine zg_TR_kind K ht w_1095 (dX7_isLimited 1 rfl) ?_
  refine zi_bipush K (dX7_isLimited 2 rfl) zk_b114 ?_
  refine zi_icmp_eq K 18 (dX7_isLimited 3 rfl) rfl (fun h6_0 => ?_) (fun h6_0 => ?_)
  · skip
    refine zi_iconst K (dX7_isLimited 8 rfl) zk_i1 ?_
    refine zi_goto K 23 (dX7_isLimited 9 rfl) rfl ?_
    exact zi_zret K E (dX7_isLimited 11 rfl) (Nat.le_refl _) (Nat.le_refl _) (by unfold v_isLimited; rw [if_pos h6_0]) rfl (fun _ h => h)
  · skip
    refine zi_aload_n K (dX7_isLimited 4 rfl) 0 rfl ?_
    refine zg_TR_kind K ht w_1095 (dX7_isLimited 5 rfl) ?_
    refine zi_bipush K (dX7_isLimited 6 rfl) zk_b101 ?_
    refine zi_icmp_ne K 22 (dX7_isLimited 7 rfl) rfl (fun h15_1 => ?_) (fun h15_1 => ?_)
    · skip
      refine zi_iconst K (dX7_isLimited 10 rfl) zk_i0 ?_
      exact zi_zret K E (dX7_isLimited 11 rfl) (Nat.le_refl _) (Nat.le_refl _) (by unfold v_isLimited; rw [if_neg h6_0, if_neg h15_1]) rfl (fun _ h => h)
    · skip
      refine zi_iconst K (dX7_isLimited 8 rfl) zk_i1 ?_
      refine zi_goto K 23 (dX7_isLimited 9 rfl) rfl ?_
      exact zi_zret K E (dX7_isLimited 11 rfl) (Nat.le_refl _) (Nat.le_refl _) (by unfold v_isLimited; rw [if_neg h6_0, if_pos h15_1]) rfl (fun _ h => h)
def v_wholeLimit (σ : zSt) (t : Nat) : Int64 := if v_isLimited σ t = 0 then 1000000000000 else ((sI σ 13 t 0).toInt64) * ((1 + (sI σ 15 t 0)).toInt64)
set_option maxRecDepth 100000 in
set_option maxHeartbeats 4000000 in
theorem c_wholeLimit {G : zG} {ad : Nat → Nat → Nat} {σ : zSt} (t : Nat) (ht : t < sN σ 2) : zC G yX7_wholeLimit cX7_wholeLimit 1 (some FieldType.long) 1 20 0 0 [.ref (ad 5 t)] (zP G ad σ) (some (.long (v_wholeLimit σ t))) (zP G ad σ) := by
  refine zC_of (by decide) (Nat.le_of_ble_eq_true rfl) (fun X K E hnm => ?_)
  show zV G X 1 (zP G ad σ) 0 0 0 [(0, .ref (ad 5 t))] []
  refine zi_aload_n K (dX7_wholeLimit 0 rfl) 0 rfl ?_
  refine zi_callV K (na := 0) [] [.int (v_isLimited σ t)] (c_isLimited  t ht) (dX7_wholeLimit 1 rfl) w_374 w_375 w_376 w_55 w_377 (by decide +kernel) rfl (fun H h => zi_recv K (zr_TR (σ := σ) ht H h).1 rfl) (fun H h => h) ⟨Nat.le_of_ble_eq_true rfl, Nat.le_of_ble_eq_true rfl⟩ ⟨Nat.le_refl _, Nat.le_refl _⟩ (Nat.le_of_ble_eq_true rfl) rfl rfl ?_
  refine zi_if_eq K 23 (dX7_wholeLimit 2 rfl) rfl (fun h4_0 => ?_) (fun h4_0 => ?_)
  · skip
    refine zi_ldc2 K (dX7_wholeLimit 13 rfl) w_378 ?_
    exact zi_lret K E (dX7_wholeLimit 14 rfl) (Nat.le_refl _) (Nat.le_refl _) (by unfold v_wholeLimit; rw [if_pos h4_0]) (fun _ h => h)
  · skip
    refine zi_aload_n K (dX7_wholeLimit 3 rfl) 0 rfl ?_
    refine zg_TR_b K ht w_1102 (dX7_wholeLimit 4 rfl) ?_
    refine zi_i2l K (dX7_wholeLimit 5 rfl) ?_
    refine zi_iconst K (dX7_wholeLimit 6 rfl) zk_i1 ?_
    refine zi_aload_n K (dX7_wholeLimit 7 rfl) 0 rfl ?_
    refine zg_TR_many K ht w_1110 (dX7_wholeLimit 8 rfl) ?_
    refine zi_iadd K (dX7_wholeLimit 9 rfl) ?_
    refine zi_i2l K (dX7_wholeLimit 10 rfl) ?_
    refine zi_lmul K (dX7_wholeLimit 11 rfl) ?_
    refine zi_goto K 26 (dX7_wholeLimit 12 rfl) rfl ?_
    exact zi_lret K E (dX7_wholeLimit 14 rfl) (Nat.le_refl _) (Nat.le_refl _) (by unfold v_wholeLimit; rw [if_neg h4_0]) (fun _ h => h)
def v_forEach (σ : zSt) (t : Nat) : Int32 := if sI σ 8 t 0 = 113 then 1 else if sI σ 8 t 0 = 115 then 1 else if sI σ 8 t 0 = 114 then 1 else 0
set_option maxRecDepth 100000 in
set_option maxHeartbeats 4000000 in
theorem c_forEach {G : zG} {ad : Nat → Nat → Nat} {σ : zSt} (t : Nat) (ht : t < sN σ 2) : zC G yX7_isForEachLoss cX7_isForEachLoss 1 (some FieldType.boolean) 0 0 0 0 [.ref (ad 5 t)] (zP G ad σ) (some (.int (v_forEach σ t))) (zP G ad σ) := by
  refine zC_of (by decide) (Nat.le_of_ble_eq_true rfl) (fun X K E hnm => ?_)
  show zV G X 1 (zP G ad σ) 0 0 0 [(0, .ref (ad 5 t))] []
  refine zi_aload_n K (dX7_isForEachLoss 0 rfl) 0 rfl ?_
  refine zg_TR_kind K ht w_1095 (dX7_isForEachLoss 1 rfl) ?_
  refine zi_bipush K (dX7_isForEachLoss 2 rfl) zk_b113 ?_
  refine zi_icmp_eq K 27 (dX7_isForEachLoss 3 rfl) rfl (fun h6_0 => ?_) (fun h6_0 => ?_)
  · skip
    refine zi_iconst K (dX7_isForEachLoss 12 rfl) zk_i1 ?_
    refine zi_goto K 32 (dX7_isForEachLoss 13 rfl) rfl ?_
    exact zi_zret K E (dX7_isForEachLoss 15 rfl) (Nat.le_refl _) (Nat.le_refl _) (by unfold v_forEach; rw [if_pos h6_0]) rfl (fun _ h => h)
  · skip
    refine zi_aload_n K (dX7_isForEachLoss 4 rfl) 0 rfl ?_
    refine zg_TR_kind K ht w_1095 (dX7_isForEachLoss 5 rfl) ?_
    refine zi_bipush K (dX7_isForEachLoss 6 rfl) zk_b115 ?_
    refine zi_icmp_eq K 27 (dX7_isForEachLoss 7 rfl) rfl (fun h15_1 => ?_) (fun h15_1 => ?_)
    · skip
      refine zi_iconst K (dX7_isForEachLoss 12 rfl) zk_i1 ?_
      refine zi_goto K 32 (dX7_isForEachLoss 13 rfl) rfl ?_
      exact zi_zret K E (dX7_isForEachLoss 15 rfl) (Nat.le_refl _) (Nat.le_refl _) (by unfold v_forEach; rw [if_neg h6_0, if_pos h15_1]) rfl (fun _ h => h)
    · skip
      refine zi_aload_n K (dX7_isForEachLoss 8 rfl) 0 rfl ?_
      refine zg_TR_kind K ht w_1095 (dX7_isForEachLoss 9 rfl) ?_
      refine zi_bipush K (dX7_isForEachLoss 10 rfl) zk_b114 ?_
      refine zi_icmp_ne K 31 (dX7_isForEachLoss 11 rfl) rfl (fun h24_2 => ?_) (fun h24_2 => ?_)
      · skip
        refine zi_iconst K (dX7_isForEachLoss 14 rfl) zk_i0 ?_
        exact zi_zret K E (dX7_isForEachLoss 15 rfl) (Nat.le_refl _) (Nat.le_refl _) (by unfold v_forEach; rw [if_neg h6_0, if_neg h15_1, if_neg h24_2]) rfl (fun _ h => h)
      · skip
        refine zi_iconst K (dX7_isForEachLoss 12 rfl) zk_i1 ?_
        refine zi_goto K 32 (dX7_isForEachLoss 13 rfl) rfl ?_
        exact zi_zret K E (dX7_isForEachLoss 15 rfl) (Nat.le_refl _) (Nat.le_refl _) (by unfold v_forEach; rw [if_neg h6_0, if_neg h15_1, if_pos h24_2]) rfl (fun _ h => h)
def v_covers (σ : zSt) (t k : Nat) : Int32 := if sI σ 9 t 0 = 111 then (if sI σ 19 t 0 = 0 then (if sI σ 4 k 0 < sI σ 10 t 0 then 0 else if sI σ 11 t 0 < sI σ 4 k 0 then 0 else 1) else 0) else if sI σ 9 t 0 = 97 then (if sI σ 19 t 0 = 0 then (if sI σ 2 (sP σ k) 0 < sI σ 10 t 0 then 0 else if sI σ 11 t 0 < sI σ 2 (sP σ k) 0 then 0 else 1) else 0) else if sI σ 19 t 0 = 0 then (if sI σ 5 k 0 < sI σ 10 t 0 then 0 else if sI σ 11 t 0 < sI σ 5 k 0 then 0 else 1) else 0
set_option maxRecDepth 100000 in
set_option maxHeartbeats 4000000 in
theorem c_covers {G : zG} {ad : Nat → Nat → Nat} {σ : zSt} (t k : Nat) (ht : t < sN σ 2) (hk : zlC σ k) (hp : sP σ k < sN σ 0) : zC G yX7_coversLoss cX7_coversLoss 3 (some FieldType.boolean) 0 0 0 0 [.ref (ad 5 t), .ref (ad 2 k)] (zP G ad σ) (some (.int (v_covers σ t k))) (zP G ad σ) := by
  refine zC_of (by decide) (Nat.le_of_ble_eq_true rfl) (fun X K E hnm => ?_)
  show zV G X 3 (zP G ad σ) 0 0 0 [(0, .ref (ad 5 t)), (1, .ref (ad 2 k))] []
  refine zi_aload_n K (dX7_coversLoss 0 rfl) 0 rfl ?_
  refine zg_TR_basis K ht w_1098 (dX7_coversLoss 1 rfl) ?_
  refine zi_bipush K (dX7_coversLoss 2 rfl) zk_b111 ?_
  refine zi_icmp_ne K 16 (dX7_coversLoss 3 rfl) rfl (fun h6_0 => ?_) (fun h6_0 => ?_)
  · skip
    refine zi_aload_n K (dX7_coversLoss 7 rfl) 0 rfl ?_
    refine zg_TR_basis K ht w_1098 (dX7_coversLoss 8 rfl) ?_
    refine zi_bipush K (dX7_coversLoss 9 rfl) zk_b97 ?_
    refine zi_icmp_ne K 35 (dX7_coversLoss 10 rfl) rfl (fun h22_1 => ?_) (fun h22_1 => ?_)
    · skip
      refine zi_aload_n K (dX7_coversLoss 15 rfl) 1 rfl ?_
      refine zg_CL_told K hk w_751 (dX7_coversLoss 16 rfl) ?_
      refine zi_istore_n K [(2, .int (sI σ 5 k 0)), (0, .ref (ad 5 t)), (1, .ref (ad 2 k))] (dX7_coversLoss 17 rfl) (by decide) rfl ?_
      refine zi_aload_n K (dX7_coversLoss 18 rfl) 1 rfl ?_
      refine zg_TR_isCommuted K ht w_1119 (dX7_coversLoss 19 rfl) ?_
      refine zi_if_ne K 67 (dX7_coversLoss 20 rfl) rfl (fun h44_2 => ?_) (fun h44_2 => ?_)
      · skip
        refine zi_iconst K (dX7_coversLoss 31 rfl) zk_i0 ?_
        exact zi_zret K E (dX7_coversLoss 32 rfl) (Nat.le_refl _) (Nat.le_refl _) (by unfold v_covers; rw [if_neg h6_0, if_neg h22_1, if_neg h44_2]) rfl (fun _ h => h)
      · skip
        refine zi_aload_n K (dX7_coversLoss 21 rfl) 1 rfl ?_
        refine zg_TR_first K ht w_1099 (dX7_coversLoss 22 rfl) ?_
        refine zi_iload_n K (dX7_coversLoss 23 rfl) 0 rfl ?_
        refine zi_icmp_gt K 67 (dX7_coversLoss 24 rfl) rfl (fun h52_3 => ?_) (fun h52_3 => ?_)
        · skip
          refine zi_iconst K (dX7_coversLoss 31 rfl) zk_i0 ?_
          exact zi_zret K E (dX7_coversLoss 32 rfl) (Nat.le_refl _) (Nat.le_refl _) (by unfold v_covers; rw [if_neg h6_0, if_neg h22_1, if_pos h44_2, if_pos h52_3]) rfl (fun _ h => h)
        · skip
          refine zi_iload_n K (dX7_coversLoss 25 rfl) 0 rfl ?_
          refine zi_aload_n K (dX7_coversLoss 26 rfl) 1 rfl ?_
          refine zg_TR_last K ht w_1100 (dX7_coversLoss 27 rfl) ?_
          refine zi_icmp_gt K 67 (dX7_coversLoss 28 rfl) rfl (fun h60_4 => ?_) (fun h60_4 => ?_)
          · skip
            refine zi_iconst K (dX7_coversLoss 31 rfl) zk_i0 ?_
            exact zi_zret K E (dX7_coversLoss 32 rfl) (Nat.le_refl _) (Nat.le_refl _) (by unfold v_covers; rw [if_neg h6_0, if_neg h22_1, if_pos h44_2, if_neg h52_3, if_pos h60_4]) rfl (fun _ h => h)
          · skip
            refine zi_iconst K (dX7_coversLoss 29 rfl) zk_i1 ?_
            refine zi_goto K 68 (dX7_coversLoss 30 rfl) rfl ?_
            exact zi_zret K E (dX7_coversLoss 32 rfl) (Nat.le_refl _) (Nat.le_refl _) (by unfold v_covers; rw [if_neg h6_0, if_neg h22_1, if_pos h44_2, if_neg h52_3, if_neg h60_4]) rfl (fun _ h => h)
    · skip
      refine zi_aload_n K (dX7_coversLoss 11 rfl) 1 rfl ?_
      refine zg_CL_policy K hk w_737 (dX7_coversLoss 12 rfl) ?_
      refine zg_POL_first K hp w_720 (dX7_coversLoss 13 rfl) ?_
      refine zi_goto K 39 (dX7_coversLoss 14 rfl) rfl ?_
      refine zi_istore_n K [(2, .int (sI σ 2 (sP σ k) 0)), (0, .ref (ad 5 t)), (1, .ref (ad 2 k))] (dX7_coversLoss 17 rfl) (by decide) rfl ?_
      refine zi_aload_n K (dX7_coversLoss 18 rfl) 1 rfl ?_
      refine zg_TR_isCommuted K ht w_1119 (dX7_coversLoss 19 rfl) ?_
      refine zi_if_ne K 67 (dX7_coversLoss 20 rfl) rfl (fun h44_2 => ?_) (fun h44_2 => ?_)
      · skip
        refine zi_iconst K (dX7_coversLoss 31 rfl) zk_i0 ?_
        exact zi_zret K E (dX7_coversLoss 32 rfl) (Nat.le_refl _) (Nat.le_refl _) (by unfold v_covers; rw [if_neg h6_0, if_pos h22_1, if_neg h44_2]) rfl (fun _ h => h)
      · skip
        refine zi_aload_n K (dX7_coversLoss 21 rfl) 1 rfl ?_
        refine zg_TR_first K ht w_1099 (dX7_coversLoss 22 rfl) ?_
        refine zi_iload_n K (dX7_coversLoss 23 rfl) 0 rfl ?_
        refine zi_icmp_gt K 67 (dX7_coversLoss 24 rfl) rfl (fun h52_3 => ?_) (fun h52_3 => ?_)
        · skip
          refine zi_iconst K (dX7_coversLoss 31 rfl) zk_i0 ?_
          exact zi_zret K E (dX7_coversLoss 32 rfl) (Nat.le_refl _) (Nat.le_refl _) (by unfold v_covers; rw [if_neg h6_0, if_pos h22_1, if_pos h44_2, if_pos h52_3]) rfl (fun _ h => h)
        · skip
          refine zi_iload_n K (dX7_coversLoss 25 rfl) 0 rfl ?_
          refine zi_aload_n K (dX7_coversLoss 26 rfl) 1 rfl ?_
          refine zg_TR_last K ht w_1100 (dX7_coversLoss 27 rfl) ?_
          refine zi_icmp_gt K 67 (dX7_coversLoss 28 rfl) rfl (fun h60_4 => ?_) (fun h60_4 => ?_)
          · skip
            refine zi_iconst K (dX7_coversLoss 31 rfl) zk_i0 ?_
            exact zi_zret K E (dX7_coversLoss 32 rfl) (Nat.le_refl _) (Nat.le_refl _) (by unfold v_covers; rw [if_neg h6_0, if_pos h22_1, if_pos h44_2, if_neg h52_3, if_pos h60_4]) rfl (fun _ h => h)
          · skip
            refine zi_iconst K (dX7_coversLoss 29 rfl) zk_i1 ?_
            refine zi_goto K 68 (dX7_coversLoss 30 rfl) rfl ?_
            exact zi_zret K E (dX7_coversLoss 32 rfl) (Nat.le_refl _) (Nat.le_refl _) (by unfold v_covers; rw [if_neg h6_0, if_pos h22_1, if_pos h44_2, if_neg h52_3, if_neg h60_4]) rfl (fun _ h => h)
  · skip
    refine zi_aload_n K (dX7_coversLoss 4 rfl) 1 rfl ?_
    refine zg_CL_day K hk w_749 (dX7_coversLoss 5 rfl) ?_
    refine zi_goto K 39 (dX7_coversLoss 6 rfl) rfl ?_
    refine zi_istore_n K [(2, .int (sI σ 4 k 0)), (0, .ref (ad 5 t)), (1, .ref (ad 2 k))] (dX7_coversLoss 17 rfl) (by decide) rfl ?_
    refine zi_aload_n K (dX7_coversLoss 18 rfl) 1 rfl ?_
    refine zg_TR_isCommuted K ht w_1119 (dX7_coversLoss 19 rfl) ?_
    refine zi_if_ne K 67 (dX7_coversLoss 20 rfl) rfl (fun h44_1 => ?_) (fun h44_1 => ?_)
    · skip
      refine zi_iconst K (dX7_coversLoss 31 rfl) zk_i0 ?_
      exact zi_zret K E (dX7_coversLoss 32 rfl) (Nat.le_refl _) (Nat.le_refl _) (by unfold v_covers; rw [if_pos h6_0, if_neg h44_1]) rfl (fun _ h => h)
    · skip
      refine zi_aload_n K (dX7_coversLoss 21 rfl) 1 rfl ?_
      refine zg_TR_first K ht w_1099 (dX7_coversLoss 22 rfl) ?_
      refine zi_iload_n K (dX7_coversLoss 23 rfl) 0 rfl ?_
      refine zi_icmp_gt K 67 (dX7_coversLoss 24 rfl) rfl (fun h52_2 => ?_) (fun h52_2 => ?_)
      · skip
        refine zi_iconst K (dX7_coversLoss 31 rfl) zk_i0 ?_
        exact zi_zret K E (dX7_coversLoss 32 rfl) (Nat.le_refl _) (Nat.le_refl _) (by unfold v_covers; rw [if_pos h6_0, if_pos h44_1, if_pos h52_2]) rfl (fun _ h => h)
      · skip
        refine zi_iload_n K (dX7_coversLoss 25 rfl) 0 rfl ?_
        refine zi_aload_n K (dX7_coversLoss 26 rfl) 1 rfl ?_
        refine zg_TR_last K ht w_1100 (dX7_coversLoss 27 rfl) ?_
        refine zi_icmp_gt K 67 (dX7_coversLoss 28 rfl) rfl (fun h60_3 => ?_) (fun h60_3 => ?_)
        · skip
          refine zi_iconst K (dX7_coversLoss 31 rfl) zk_i0 ?_
          exact zi_zret K E (dX7_coversLoss 32 rfl) (Nat.le_refl _) (Nat.le_refl _) (by unfold v_covers; rw [if_pos h6_0, if_pos h44_1, if_neg h52_2, if_pos h60_3]) rfl (fun _ h => h)
        · skip
          refine zi_iconst K (dX7_coversLoss 29 rfl) zk_i1 ?_
          refine zi_goto K 68 (dX7_coversLoss 30 rfl) rfl ?_
          exact zi_zret K E (dX7_coversLoss 32 rfl) (Nat.le_refl _) (Nat.le_refl _) (by unfold v_covers; rw [if_pos h6_0, if_pos h44_1, if_neg h52_2, if_neg h60_3]) rfl (fun _ h => h)
def v_layerOf (σ : zSt) (t : Nat) (x : Int64) : Int64 := zmxl 0 (zmnl (x - ((sI σ 12 t 0).toInt64)) ((sI σ 13 t 0).toInt64))
set_option maxRecDepth 100000 in
set_option maxHeartbeats 4000000 in
theorem c_layerOf {G : zG} {ad : Nat → Nat → Nat} {σ : zSt} (t : Nat) (x : Int64) (ht : t < sN σ 2) : zC G yX7_layerOf cX7_layerOf 3 (some FieldType.long) 1 17 0 0 [.ref (ad 5 t), .long x] (zP G ad σ) (some (.long (v_layerOf σ t x))) (zP G ad σ) := by
  refine zC_of (by decide) (Nat.le_of_ble_eq_true rfl) (fun X K E hnm => ?_)
  show zV G X 3 (zP G ad σ) 0 0 0 [(0, .ref (ad 5 t)), (1, .long x)] []
  refine zi_lconst K (dX7_layerOf 0 rfl) zk_l0 ?_
  refine zi_lload_n K (dX7_layerOf 1 rfl) 1 rfl ?_
  refine zi_aload_n K (dX7_layerOf 2 rfl) 0 rfl ?_
  refine zg_TR_a K ht w_1101 (dX7_layerOf 3 rfl) ?_
  refine zi_i2l K (dX7_layerOf 4 rfl) ?_
  refine zi_lsub K (dX7_layerOf 5 rfl) ?_
  refine zi_aload_n K (dX7_layerOf 6 rfl) 0 rfl ?_
  refine zg_TR_b K ht w_1102 (dX7_layerOf 7 rfl) ?_
  refine zi_i2l K (dX7_layerOf 8 rfl) ?_
  refine zi_minl K [.long 0] (dX7_layerOf 9 rfl) w_403 ⟨Nat.le_of_ble_eq_true rfl, Nat.le_of_ble_eq_true rfl⟩ ⟨Nat.le_refl _, Nat.le_refl _⟩ ?_
  refine zi_maxl K [] (dX7_layerOf 10 rfl) w_406 ⟨Nat.le_of_ble_eq_true rfl, Nat.le_of_ble_eq_true rfl⟩ ⟨Nat.le_refl _, Nat.le_refl _⟩ ?_
  exact zi_lret K E (dX7_layerOf 11 rfl) (Nat.le_refl _) (Nat.le_refl _) rfl (fun _ h => h)
def v_wantedOf (σ : zSt) (t k : Nat) : Int64 := if sI σ 8 t 0 = 113 then ((sL σ 0 k 0) * ((sI σ 12 t 0).toInt64)) / 100 else if sI σ 8 t 0 = 115 then (if sI σ 0 (sP σ k) 0 ≤ sI σ 12 t 0 then 0 else ((sL σ 0 k 0) * ((zmn ((sI σ 0 (sP σ k) 0) - (sI σ 12 t 0)) ((sI σ 12 t 0) * (sI σ 13 t 0))).toInt64)) / ((sI σ 0 (sP σ k) 0).toInt64)) else v_layerOf σ t (sL σ 0 k 0)
set_option maxRecDepth 100000 in
set_option maxHeartbeats 4000000 in
theorem c_wantedOf {G : zG} {ad : Nat → Nat → Nat} {σ : zSt} (t k : Nat) (ht : t < sN σ 2) (hk : zlC σ k) (hp : sP σ k < sN σ 0) (hz : ¬ (sI σ 0 (sP σ k) 0).toInt64 = 0) : zC G yX7_wantedOf cX7_wantedOf 3 (some FieldType.long) 2 39 0 0 [.ref (ad 5 t), .ref (ad 2 k)] (zP G ad σ) (some (.long (v_wantedOf σ t k))) (zP G ad σ) := by
  refine zC_of (by decide) (Nat.le_of_ble_eq_true rfl) (fun X K E hnm => ?_)
  show zV G X 3 (zP G ad σ) 0 0 0 [(0, .ref (ad 5 t)), (1, .ref (ad 2 k))] []
  refine zi_aload_n K (dX7_wantedOf 0 rfl) 0 rfl ?_
  refine zg_TR_kind K ht w_1095 (dX7_wantedOf 1 rfl) ?_
  refine zi_bipush K (dX7_wantedOf 2 rfl) zk_b113 ?_
  refine zi_icmp_ne K 24 (dX7_wantedOf 3 rfl) rfl (fun h6_0 => ?_) (fun h6_0 => ?_)
  · skip
    refine zi_aload_n K (dX7_wantedOf 13 rfl) 0 rfl ?_
    refine zg_TR_kind K ht w_1095 (dX7_wantedOf 14 rfl) ?_
    refine zi_bipush K (dX7_wantedOf 15 rfl) zk_b115 ?_
    refine zi_icmp_ne K 81 (dX7_wantedOf 16 rfl) rfl (fun h30_1 => ?_) (fun h30_1 => ?_)
    · skip
      refine zi_aload_n K (dX7_wantedOf 45 rfl) 0 rfl ?_
      refine zi_aload_n K (dX7_wantedOf 46 rfl) 1 rfl ?_
      refine zg_CL_left K hk w_758 (dX7_wantedOf 47 rfl) ?_
      refine zi_callV K (na := 1) [] [.long (v_layerOf σ t (sL σ 0 k 0))] (c_layerOf  t (sL σ 0 k 0) ht) (dX7_wantedOf 48 rfl) w_399 w_400 w_401 w_55 w_402 (by decide +kernel) rfl (fun H h => zi_recv K (zr_TR (σ := σ) ht H h).1 rfl) (fun H h => h) ⟨Nat.le_of_ble_eq_true rfl, Nat.le_of_ble_eq_true rfl⟩ ⟨Nat.le_refl _, Nat.le_refl _⟩ (Nat.le_of_ble_eq_true rfl) rfl rfl ?_
      exact zi_lret K E (dX7_wantedOf 49 rfl) (Nat.le_refl _) (Nat.le_refl _) (by unfold v_wantedOf; rw [if_neg h6_0, if_neg h30_1]) (fun _ h => h)
    · skip
      refine zi_aload_n K (dX7_wantedOf 17 rfl) 1 rfl ?_
      refine zg_CL_policy K hk w_737 (dX7_wantedOf 18 rfl) ?_
      refine zg_POL_sum K hp w_715 (dX7_wantedOf 19 rfl) ?_
      refine zi_istore_n K [(2, .int (sI σ 0 (sP σ k) 0)), (0, .ref (ad 5 t)), (1, .ref (ad 2 k))] (dX7_wantedOf 20 rfl) (by decide) rfl ?_
      refine zi_iload_n K (dX7_wantedOf 21 rfl) 0 rfl ?_
      refine zi_aload_n K (dX7_wantedOf 22 rfl) 1 rfl ?_
      refine zg_TR_a K ht w_1101 (dX7_wantedOf 23 rfl) ?_
      refine zi_icmp_le K 79 (dX7_wantedOf 24 rfl) rfl (fun h46_2 => ?_) (fun h46_2 => ?_)
      · skip
        refine zi_lconst K (dX7_wantedOf 43 rfl) zk_l0 ?_
        exact zi_lret K E (dX7_wantedOf 44 rfl) (Nat.le_refl _) (Nat.le_refl _) (by unfold v_wantedOf; rw [if_neg h6_0, if_pos h30_1, if_pos h46_2]) (fun _ h => h)
      · skip
        refine zi_aload_n K (dX7_wantedOf 25 rfl) 2 rfl ?_
        refine zg_CL_left K hk w_758 (dX7_wantedOf 26 rfl) ?_
        refine zi_iload_n K (dX7_wantedOf 27 rfl) 0 rfl ?_
        refine zi_aload_n K (dX7_wantedOf 28 rfl) 1 rfl ?_
        refine zg_TR_a K ht w_1101 (dX7_wantedOf 29 rfl) ?_
        refine zi_isub K (dX7_wantedOf 30 rfl) ?_
        refine zi_aload_n K (dX7_wantedOf 31 rfl) 1 rfl ?_
        refine zg_TR_a K ht w_1101 (dX7_wantedOf 32 rfl) ?_
        refine zi_aload_n K (dX7_wantedOf 33 rfl) 1 rfl ?_
        refine zg_TR_b K ht w_1102 (dX7_wantedOf 34 rfl) ?_
        refine zi_imul K (dX7_wantedOf 35 rfl) ?_
        refine zi_mini K [.long (sL σ 0 k 0)] (dX7_wantedOf 36 rfl) w_396 ⟨Nat.le_of_ble_eq_true rfl, Nat.le_of_ble_eq_true rfl⟩ ⟨Nat.le_refl _, Nat.le_refl _⟩ ?_
        refine zi_i2l K (dX7_wantedOf 37 rfl) ?_
        refine zi_lmul K (dX7_wantedOf 38 rfl) ?_
        refine zi_iload_n K (dX7_wantedOf 39 rfl) 0 rfl ?_
        refine zi_i2l K (dX7_wantedOf 40 rfl) ?_
        refine zi_ldiv K (dX7_wantedOf 41 rfl) hz ?_
        refine zi_goto K 80 (dX7_wantedOf 42 rfl) rfl ?_
        exact zi_lret K E (dX7_wantedOf 44 rfl) (Nat.le_refl _) (Nat.le_refl _) (by unfold v_wantedOf; rw [if_neg h6_0, if_pos h30_1, if_neg h46_2]) (fun _ h => h)
  · skip
    refine zi_aload_n K (dX7_wantedOf 4 rfl) 1 rfl ?_
    refine zg_CL_left K hk w_758 (dX7_wantedOf 5 rfl) ?_
    refine zi_aload_n K (dX7_wantedOf 6 rfl) 0 rfl ?_
    refine zg_TR_a K ht w_1101 (dX7_wantedOf 7 rfl) ?_
    refine zi_i2l K (dX7_wantedOf 8 rfl) ?_
    refine zi_lmul K (dX7_wantedOf 9 rfl) ?_
    refine zi_ldc2 K (dX7_wantedOf 10 rfl) w_395 ?_
    refine zi_ldiv K (dX7_wantedOf 11 rfl) (by decide) ?_
    exact zi_lret K E (dX7_wantedOf 12 rfl) (Nat.le_refl _) (Nat.le_refl _) (by unfold v_wantedOf; rw [if_pos h6_0]) (fun _ h => h)
def v_priceOf (σ : zSt) (t : Nat) (x : Int64) (day : Int32) : Int64 := if sI σ 17 t 0 = 0 then ((((sI σ 18 t 0).toInt64) * x) * ((sI σ 16 t 0).toInt64)) / (((sI σ 13 t 0).toInt64) * 100) else ((((((sI σ 18 t 0).toInt64) * x) * ((sI σ 16 t 0).toInt64)) / (((sI σ 13 t 0).toInt64) * 100)) * ((zmx 0 (((sI σ 11 t 0) - day) + 1)).toInt64)) / ((((sI σ 11 t 0) - (sI σ 10 t 0)) + 1).toInt64)
set_option maxRecDepth 100000 in
set_option maxHeartbeats 4000000 in
theorem c_priceOf {G : zG} {ad : Nat → Nat → Nat} {σ : zSt} (t : Nat) (x : Int64) (day : Int32) (ht : t < sN σ 2) (hz1 : ¬ (sI σ 13 t 0).toInt64 * 100 = 0) (hz2 : ¬ (sI σ 11 t 0 - sI σ 10 t 0 + 1).toInt64 = 0) : zC G yX7_priceOf cX7_priceOf 6 (some FieldType.long) 1 17 0 0 [.ref (ad 5 t), .long x, .int day] (zP G ad σ) (some (.long (v_priceOf σ t x day))) (zP G ad σ) := by
  refine zC_of (by decide) (Nat.le_of_ble_eq_true rfl) (fun X K E hnm => ?_)
  show zV G X 6 (zP G ad σ) 0 0 0 [(0, .ref (ad 5 t)), (1, .long x), (3, .int day)] []
  refine zi_aload_n K (dX7_priceOf 0 rfl) 0 rfl ?_
  refine zg_TR_premium K ht w_1117 (dX7_priceOf 1 rfl) ?_
  refine zi_i2l K (dX7_priceOf 2 rfl) ?_
  refine zi_lload_n K (dX7_priceOf 3 rfl) 1 rfl ?_
  refine zi_lmul K (dX7_priceOf 4 rfl) ?_
  refine zi_aload_n K (dX7_priceOf 5 rfl) 0 rfl ?_
  refine zg_TR_price K ht w_1113 (dX7_priceOf 6 rfl) ?_
  refine zi_i2l K (dX7_priceOf 7 rfl) ?_
  refine zi_lmul K (dX7_priceOf 8 rfl) ?_
  refine zi_aload_n K (dX7_priceOf 9 rfl) 0 rfl ?_
  refine zg_TR_b K ht w_1102 (dX7_priceOf 10 rfl) ?_
  refine zi_i2l K (dX7_priceOf 11 rfl) ?_
  refine zi_ldc2 K (dX7_priceOf 12 rfl) w_395 ?_
  refine zi_lmul K (dX7_priceOf 13 rfl) ?_
  refine zi_ldiv K (dX7_priceOf 14 rfl) hz1 ?_
  refine zi_lstore K [(4, .long (((((sI σ 18 t 0).toInt64) * x) * ((sI σ 16 t 0).toInt64)) / (((sI σ 13 t 0).toInt64) * 100))), (0, .ref (ad 5 t)), (1, .long x), (3, .int day)] (dX7_priceOf 15 rfl) (by decide) rfl ?_
  refine zi_aload_n K (dX7_priceOf 16 rfl) 1 rfl ?_
  refine zg_TR_isByTime K ht w_1115 (dX7_priceOf 17 rfl) ?_
  refine zi_if_eq K 63 (dX7_priceOf 18 rfl) rfl (fun h29_0 => ?_) (fun h29_0 => ?_)
  · skip
    refine zi_lload K (dX7_priceOf 40 rfl) 0 rfl ?_
    exact zi_lret K E (dX7_priceOf 41 rfl) (Nat.le_refl _) (Nat.le_refl _) (by unfold v_priceOf; rw [if_pos h29_0]) (fun _ h => h)
  · skip
    refine zi_lload K (dX7_priceOf 19 rfl) 0 rfl ?_
    refine zi_iconst K (dX7_priceOf 20 rfl) zk_i0 ?_
    refine zi_aload_n K (dX7_priceOf 21 rfl) 1 rfl ?_
    refine zg_TR_last K ht w_1100 (dX7_priceOf 22 rfl) ?_
    refine zi_iload_n K (dX7_priceOf 23 rfl) 3 rfl ?_
    refine zi_isub K (dX7_priceOf 24 rfl) ?_
    refine zi_iconst K (dX7_priceOf 25 rfl) zk_i1 ?_
    refine zi_iadd K (dX7_priceOf 26 rfl) ?_
    refine zi_maxi K [.long (((((sI σ 18 t 0).toInt64) * x) * ((sI σ 16 t 0).toInt64)) / (((sI σ 13 t 0).toInt64) * 100))] (dX7_priceOf 27 rfl) w_424 ⟨Nat.le_of_ble_eq_true rfl, Nat.le_of_ble_eq_true rfl⟩ ⟨Nat.le_refl _, Nat.le_refl _⟩ ?_
    refine zi_i2l K (dX7_priceOf 28 rfl) ?_
    refine zi_lmul K (dX7_priceOf 29 rfl) ?_
    refine zi_aload_n K (dX7_priceOf 30 rfl) 1 rfl ?_
    refine zg_TR_last K ht w_1100 (dX7_priceOf 31 rfl) ?_
    refine zi_aload_n K (dX7_priceOf 32 rfl) 1 rfl ?_
    refine zg_TR_first K ht w_1099 (dX7_priceOf 33 rfl) ?_
    refine zi_isub K (dX7_priceOf 34 rfl) ?_
    refine zi_iconst K (dX7_priceOf 35 rfl) zk_i1 ?_
    refine zi_iadd K (dX7_priceOf 36 rfl) ?_
    refine zi_i2l K (dX7_priceOf 37 rfl) ?_
    refine zi_ldiv K (dX7_priceOf 38 rfl) hz2 ?_
    refine zi_lstore K [(4, .long (((((((sI σ 18 t 0).toInt64) * x) * ((sI σ 16 t 0).toInt64)) / (((sI σ 13 t 0).toInt64) * 100)) * ((zmx 0 (((sI σ 11 t 0) - day) + 1)).toInt64)) / ((((sI σ 11 t 0) - (sI σ 10 t 0)) + 1).toInt64))), (0, .ref (ad 5 t)), (1, .long x), (3, .int day)] (dX7_priceOf 39 rfl) (by decide) rfl ?_
    refine zi_lload K (dX7_priceOf 40 rfl) 0 rfl ?_
    exact zi_lret K E (dX7_priceOf 41 rfl) (Nat.le_refl _) (Nat.le_refl _) (by unfold v_priceOf; rw [if_neg h29_0]) (fun _ h => h)
def zsum (f : Nat → Int32) : Nat → Int32
  | 0 => 0
  | i + 1 => zsum f i + f i
def v_allShares (σ : zSt) (t : Nat) : Int32 := zsum (fun e => sI σ 21 t e) 5
set_option maxRecDepth 100000 in
set_option maxHeartbeats 4000000 in
theorem c_allShares {G : zG} {ad : Nat → Nat → Nat} {σ : zSt} (t : Nat) (ht : t < sN σ 2) : zC G yX7_allShares cX7_allShares 3 (some FieldType.int) 0 0 0 0 [.ref (ad 5 t)] (zP G ad σ) (some (.int (v_allShares σ t))) (zP G ad σ) := by
  refine zC_of (by decide) (Nat.le_of_ble_eq_true rfl) (fun X K E hnm => ?_)
  show zV G X 3 (zP G ad σ) 0 0 0 [(0, .ref (ad 5 t))] []
  refine zi_iconst K (dX7_allShares 0 rfl) zk_i0 ?_
  refine zi_istore_n K [(1, .int 0), (0, .ref (ad 5 t))] (dX7_allShares 1 rfl) (by decide) rfl ?_
  refine zi_iconst K (dX7_allShares 2 rfl) zk_i0 ?_
  refine zi_istore_n K [(2, .int 0), (1, .int 0), (0, .ref (ad 5 t))] (dX7_allShares 3 rfl) (by decide) rfl ?_
  refine zV.pick [2, 1, 0] (lo' := [(0, .ref (ad 5 t)), (1, .int 0), (2, .int 0)]) rfl ?_
  suffices hloop4 : ∀ (r i : Nat), i ≤ 5 → 5 - i < r → zV G X 3 (zP G ad σ) (0) (0) 4 [(0, .ref (ad 5 t)), (1, .int (zsum (fun e => sI σ 21 t e) i)), (2, .int (nI i))] [] from hloop4 (5 + 1) 0 (Nat.zero_le _) (Nat.lt_succ_of_le (Nat.sub_le _ _))
  intro r
  induction r with
  | zero => intro i _ h; exact absurd h (Nat.not_lt_zero _)
  | succ r ih4 =>
    intro i hi4 hr4
    refine zi_iload_n K (dX7_allShares 4 rfl) 2 rfl ?_
    refine zi_aload_n K (dX7_allShares 5 rfl) 0 rfl ?_
    refine zg_TR_shares K ht w_1104 (dX7_allShares 6 rfl) ?_
    refine zn_SHR K ht (dX7_allShares 7 rfl) ?_
    refine zi_icmp_ge K 28 (dX7_allShares 8 rfl) rfl (fun h10_0 => ?_) (fun h10_0 => ?_)
    · skip
      have hN4 := zloop_exit (by decide) (Nat.le_of_ble_eq_true rfl) hi4 h10_0
      subst hN4
      refine zi_iload_n K (dX7_allShares 18 rfl) 1 rfl ?_
      exact zi_iret K E (dX7_allShares 19 rfl) (Nat.le_refl _) (Nat.le_refl _) rfl (fun _ h => h)
    · skip
      have hlt4 := zloop_in (by decide) (Nat.le_of_ble_eq_true rfl) hi4 h10_0
      refine zi_iload_n K (dX7_allShares 9 rfl) 1 rfl ?_
      refine zi_aload_n K (dX7_allShares 10 rfl) 0 rfl ?_
      refine zg_TR_shares K ht w_1104 (dX7_allShares 11 rfl) ?_
      refine zi_iload_n K (dX7_allShares 12 rfl) 2 rfl ?_
      refine zl_SHR K ht i rfl (by omega) (dX7_allShares 13 rfl) ?_
      refine zi_iadd K (dX7_allShares 14 rfl) ?_
      refine zi_istore_n K [(1, .int ((zsum (fun e => sI σ 21 t e) i) + (sI σ 21 t i))), (0, .ref (ad 5 t)), (2, .int (nI i))] (dX7_allShares 15 rfl) (by decide) rfl ?_
      refine zi_iinc K (v := nI (i + 1)) [(2, .int (nI (i + 1))), (1, .int ((zsum (fun e => sI σ 21 t e) i) + (sI σ 21 t i))), (0, .ref (ad 5 t))] (dX7_allShares 16 rfl) 2 rfl (zk_inc _) (by decide) rfl ?_
      refine zi_goto K 4 (dX7_allShares 17 rfl) rfl ?_
      refine zV.pick [2, 1, 0] (lo' := [(0, .ref (ad 5 t)), (1, .int ((zsum (fun e => sI σ 21 t e) i) + (sI σ 21 t i))), (2, .int (nI (i + 1)))]) rfl ?_
      refine zV.lov (lo' := [(0, .ref (ad 5 t)), (1, .int (zsum (fun e => sI σ 21 t e) (i + 1))), (2, .int (nI (i + 1)))]) (by first | rfl | (simp only [zsum])) ?_
      exact ih4 (i + 1) (by omega) (by omega)
theorem zlCV_C {σ σ' : zSt} (e : σ'.2.2 = σ.2.2) {k : Nat} (h : zlC σ k) : zlC σ' k := by
  obtain ⟨a, b, c⟩ := σ
  obtain ⟨a', b', c'⟩ := σ'
  cases e
  exact h
theorem zlCV_N {σ σ' : zSt} (e : σ'.2.2 = σ.2.2) {k q : Nat} (h : k < sN σ q) : k < sN σ' q := by
  obtain ⟨a, b, c⟩ := σ
  obtain ⟨a', b', c'⟩ := σ'
  cases e
  exact h
theorem zlCV_P {σ σ' : zSt} (e : σ'.2.2 = σ.2.2) {k q : Nat} (h : sP σ k < sN σ q) : sP σ' k < sN σ' q := by
  obtain ⟨a, b, c⟩ := σ
  obtain ⟨a', b', c'⟩ := σ'
  cases e
  exact h
theorem zlCV_V {σ σ' : zSt} (e : σ'.2.2 = σ.2.2) {k : Nat} (h : zlV σ k) : zlV σ' k := by
  obtain ⟨a, b, c⟩ := σ
  obtain ⟨a', b', c'⟩ := σ'
  cases e
  exact h
def s_fill_EVS (σ : zSt) (k : Nat) (v : Int32) : zSt := (zfI σ 7 k v 8)
theorem s_fill_EVS_22 (σ : zSt) (k : Nat) (v : Int32) : (s_fill_EVS σ k v).2.2 = σ.2.2 := by
  unfold s_fill_EVS
  (repeat' split) <;> first | exact ((zfI_22 σ 7 k v 8).trans rfl)
set_option maxRecDepth 100000 in
set_option maxHeartbeats 4000000 in
theorem c_fill_EVS {G : zG} {ad : Nat → Nat → Nat} {σ : zSt} (k : Nat) (v : Int32) (hk : zlC σ k) : zC G yJ7_fill_53178 cJ7_fill_53178 4 none 0 0 0 0 [.ref (ad 4 k), .int v] (zP G ad σ) none (zP G ad (s_fill_EVS σ k v)) := by
  refine zC_of (by decide) (Nat.le_of_ble_eq_true rfl) (fun X K E hnm => ?_)
  show zV G X 4 (zP G ad σ) 0 0 0 [(0, .ref (ad 4 k)), (1, .int v)] []
  refine zi_iconst K (dJ7_fill_53178 0 rfl) zk_i0 ?_
  refine zi_istore_n K [(2, .int 0), (0, .ref (ad 4 k)), (1, .int v)] (dJ7_fill_53178 1 rfl) (by decide) rfl ?_
  refine zi_aload_n K (dJ7_fill_53178 2 rfl) 1 rfl ?_
  refine zn_EVS K hk (dJ7_fill_53178 3 rfl) ?_
  refine zi_istore_n K [(3, .int 8), (2, .int 0), (0, .ref (ad 4 k)), (1, .int v)] (dJ7_fill_53178 4 rfl) (by decide) rfl ?_
  refine zV.pick [2, 3, 1, 0] (lo' := [(0, .ref (ad 4 k)), (1, .int v), (2, .int 0), (3, .int 8)]) rfl ?_
  suffices hloop5 : ∀ (r i : Nat), i ≤ 8 → 8 - i < r → zV G X 4 (zP G ad (zfI σ 7 k v i)) (0) (0) 5 [(0, .ref (ad 4 k)), (1, .int v), (2, .int (nI i)), (3, .int 8)] [] from hloop5 (8 + 1) 0 (Nat.zero_le _) (Nat.lt_succ_of_le (Nat.sub_le _ _))
  intro r
  induction r with
  | zero => intro i _ h; exact absurd h (Nat.not_lt_zero _)
  | succ r ih5 =>
    intro i hi5 hr5
    have hk2 := zlCV_C (congrArg Prod.snd (zfI_2 σ 7 k v i)) hk
    refine zi_iload_n K (dJ7_fill_53178 5 rfl) 2 rfl ?_
    refine zi_iload_n K (dJ7_fill_53178 6 rfl) 3 rfl ?_
    refine zi_icmp_ge K 20 (dJ7_fill_53178 7 rfl) rfl (fun h7_0 => ?_) (fun h7_0 => ?_)
    · skip
      have hN5 := zloop_exit (by decide) (Nat.le_of_ble_eq_true rfl) hi5 h7_0
      subst hN5
      exact zi_vret K E (dJ7_fill_53178 14 rfl) (Nat.le_refl _) (Nat.le_refl _) rfl (fun H h => by exact h)
    · skip
      have hlt5 := zloop_in (by decide) (Nat.le_of_ble_eq_true rfl) hi5 h7_0
      refine zi_aload_n K (dJ7_fill_53178 8 rfl) 0 rfl ?_
      refine zi_iload_n K (dJ7_fill_53178 9 rfl) 2 rfl ?_
      refine zi_iload_n K (dJ7_fill_53178 10 rfl) 1 rfl ?_
      refine zs_EVS K hk2 i rfl (by omega) (dJ7_fill_53178 11 rfl) ?_
      have e1 : (uI (zfI σ 7 k v i) 7 k i v).2.2 = σ.2.2 := (uI_22 (zfI σ 7 k v i) 7 k i v).trans (zfI_22 σ 7 k v i)
      refine zi_iinc K (v := nI (i + 1)) [(2, .int (nI (i + 1))), (0, .ref (ad 4 k)), (1, .int v), (3, .int 8)] (dJ7_fill_53178 12 rfl) 2 rfl (zk_inc _) (by decide) rfl ?_
      refine zi_goto K 5 (dJ7_fill_53178 13 rfl) rfl ?_
      refine zV.pick [1, 2, 0, 3] (lo' := [(0, .ref (ad 4 k)), (1, .int v), (2, .int (nI (i + 1))), (3, .int 8)]) rfl ?_
      refine zV.st (σ' := zfI σ 7 k v (i + 1)) rfl ?_
      exact ih5 (i + 1) (by omega) (by omega)
def s_fill_CEV (σ : zSt) (k : Nat) (v : Int32) : zSt := (zfI σ 22 k v 4)
theorem s_fill_CEV_22 (σ : zSt) (k : Nat) (v : Int32) : (s_fill_CEV σ k v).2.2 = σ.2.2 := by
  unfold s_fill_CEV
  (repeat' split) <;> first | exact ((zfI_22 σ 22 k v 4).trans rfl)
set_option maxRecDepth 100000 in
set_option maxHeartbeats 4000000 in
theorem c_fill_CEV {G : zG} {ad : Nat → Nat → Nat} {σ : zSt} (k : Nat) (v : Int32) (hk : zlV σ k) : zC G yJ7_fill_53178 cJ7_fill_53178 4 none 0 0 0 0 [.ref (ad 8 k), .int v] (zP G ad σ) none (zP G ad (s_fill_CEV σ k v)) := by
  refine zC_of (by decide) (Nat.le_of_ble_eq_true rfl) (fun X K E hnm => ?_)
  show zV G X 4 (zP G ad σ) 0 0 0 [(0, .ref (ad 8 k)), (1, .int v)] []
  refine zi_iconst K (dJ7_fill_53178 0 rfl) zk_i0 ?_
  refine zi_istore_n K [(2, .int 0), (0, .ref (ad 8 k)), (1, .int v)] (dJ7_fill_53178 1 rfl) (by decide) rfl ?_
  refine zi_aload_n K (dJ7_fill_53178 2 rfl) 1 rfl ?_
  refine zn_CEV K hk (dJ7_fill_53178 3 rfl) ?_
  refine zi_istore_n K [(3, .int 4), (2, .int 0), (0, .ref (ad 8 k)), (1, .int v)] (dJ7_fill_53178 4 rfl) (by decide) rfl ?_
  refine zV.pick [2, 3, 1, 0] (lo' := [(0, .ref (ad 8 k)), (1, .int v), (2, .int 0), (3, .int 4)]) rfl ?_
  suffices hloop5 : ∀ (r i : Nat), i ≤ 4 → 4 - i < r → zV G X 4 (zP G ad (zfI σ 22 k v i)) (0) (0) 5 [(0, .ref (ad 8 k)), (1, .int v), (2, .int (nI i)), (3, .int 4)] [] from hloop5 (4 + 1) 0 (Nat.zero_le _) (Nat.lt_succ_of_le (Nat.sub_le _ _))
  intro r
  induction r with
  | zero => intro i _ h; exact absurd h (Nat.not_lt_zero _)
  | succ r ih5 =>
    intro i hi5 hr5
    have hk2 := zlCV_V (congrArg Prod.snd (zfI_2 σ 22 k v i)) hk
    refine zi_iload_n K (dJ7_fill_53178 5 rfl) 2 rfl ?_
    refine zi_iload_n K (dJ7_fill_53178 6 rfl) 3 rfl ?_
    refine zi_icmp_ge K 20 (dJ7_fill_53178 7 rfl) rfl (fun h7_0 => ?_) (fun h7_0 => ?_)
    · skip
      have hN5 := zloop_exit (by decide) (Nat.le_of_ble_eq_true rfl) hi5 h7_0
      subst hN5
      exact zi_vret K E (dJ7_fill_53178 14 rfl) (Nat.le_refl _) (Nat.le_refl _) rfl (fun H h => by exact h)
    · skip
      have hlt5 := zloop_in (by decide) (Nat.le_of_ble_eq_true rfl) hi5 h7_0
      refine zi_aload_n K (dJ7_fill_53178 8 rfl) 0 rfl ?_
      refine zi_iload_n K (dJ7_fill_53178 9 rfl) 2 rfl ?_
      refine zi_iload_n K (dJ7_fill_53178 10 rfl) 1 rfl ?_
      refine zs_CEV K hk2 i rfl (by omega) (dJ7_fill_53178 11 rfl) ?_
      have e1 : (uI (zfI σ 22 k v i) 22 k i v).2.2 = σ.2.2 := (uI_22 (zfI σ 22 k v i) 22 k i v).trans (zfI_22 σ 22 k v i)
      refine zi_iinc K (v := nI (i + 1)) [(2, .int (nI (i + 1))), (0, .ref (ad 8 k)), (1, .int v), (3, .int 4)] (dJ7_fill_53178 12 rfl) 2 rfl (zk_inc _) (by decide) rfl ?_
      refine zi_goto K 5 (dJ7_fill_53178 13 rfl) rfl ?_
      refine zV.pick [1, 2, 0, 3] (lo' := [(0, .ref (ad 8 k)), (1, .int v), (2, .int (nI (i + 1))), (3, .int 4)]) rfl ?_
      refine zV.st (σ' := zfI σ 22 k v (i + 1)) rfl ?_
      exact ih5 (i + 1) (by omega) (by omega)
def s_fill_TOOK (σ : zSt) (k : Nat) (v : Int64) : zSt := (zfL σ 1 k v 8)
theorem s_fill_TOOK_22 (σ : zSt) (k : Nat) (v : Int64) : (s_fill_TOOK σ k v).2.2 = σ.2.2 := by
  unfold s_fill_TOOK
  (repeat' split) <;> first | exact ((zfL_22 σ 1 k v 8).trans rfl)
set_option maxRecDepth 100000 in
set_option maxHeartbeats 4000000 in
theorem c_fill_TOOK {G : zG} {ad : Nat → Nat → Nat} {σ : zSt} (k : Nat) (v : Int64) (hk : zlC σ k) : zC G yJ7_fill_d0a16 cJ7_fill_d0a16 5 none 0 0 0 0 [.ref (ad 3 k), .long v] (zP G ad σ) none (zP G ad (s_fill_TOOK σ k v)) := by
  refine zC_of (by decide) (Nat.le_of_ble_eq_true rfl) (fun X K E hnm => ?_)
  show zV G X 5 (zP G ad σ) 0 0 0 [(0, .ref (ad 3 k)), (1, .long v)] []
  refine zi_iconst K (dJ7_fill_d0a16 0 rfl) zk_i0 ?_
  refine zi_istore_n K [(3, .int 0), (0, .ref (ad 3 k)), (1, .long v)] (dJ7_fill_d0a16 1 rfl) (by decide) rfl ?_
  refine zi_aload_n K (dJ7_fill_d0a16 2 rfl) 1 rfl ?_
  refine zn_TOOK K hk (dJ7_fill_d0a16 3 rfl) ?_
  refine zi_istore K [(4, .int 8), (3, .int 0), (0, .ref (ad 3 k)), (1, .long v)] (dJ7_fill_d0a16 4 rfl) (by decide) rfl ?_
  refine zV.pick [2, 3, 1, 0] (lo' := [(0, .ref (ad 3 k)), (1, .long v), (3, .int 0), (4, .int 8)]) rfl ?_
  suffices hloop6 : ∀ (r i : Nat), i ≤ 8 → 8 - i < r → zV G X 5 (zP G ad (zfL σ 1 k v i)) (0) (0) 6 [(0, .ref (ad 3 k)), (1, .long v), (3, .int (nI i)), (4, .int 8)] [] from hloop6 (8 + 1) 0 (Nat.zero_le _) (Nat.lt_succ_of_le (Nat.sub_le _ _))
  intro r
  induction r with
  | zero => intro i _ h; exact absurd h (Nat.not_lt_zero _)
  | succ r ih6 =>
    intro i hi6 hr6
    have hk2 := zlCV_C (zfL_22 σ 1 k v i) hk
    refine zi_iload_n K (dJ7_fill_d0a16 5 rfl) 2 rfl ?_
    refine zi_iload K (dJ7_fill_d0a16 6 rfl) 3 rfl ?_
    refine zi_icmp_ge K 22 (dJ7_fill_d0a16 7 rfl) rfl (fun h9_0 => ?_) (fun h9_0 => ?_)
    · skip
      have hN6 := zloop_exit (by decide) (Nat.le_of_ble_eq_true rfl) hi6 h9_0
      subst hN6
      exact zi_vret K E (dJ7_fill_d0a16 14 rfl) (Nat.le_refl _) (Nat.le_refl _) rfl (fun H h => by exact h)
    · skip
      have hlt6 := zloop_in (by decide) (Nat.le_of_ble_eq_true rfl) hi6 h9_0
      refine zi_aload_n K (dJ7_fill_d0a16 8 rfl) 0 rfl ?_
      refine zi_iload_n K (dJ7_fill_d0a16 9 rfl) 2 rfl ?_
      refine zi_lload_n K (dJ7_fill_d0a16 10 rfl) 1 rfl ?_
      refine zs_TOOK K hk2 i rfl (by omega) (dJ7_fill_d0a16 11 rfl) ?_
      have e1 : (uL (zfL σ 1 k v i) 1 k i v).2.2 = σ.2.2 := (uL_22 (zfL σ 1 k v i) 1 k i v).trans (zfL_22 σ 1 k v i)
      refine zi_iinc K (v := nI (i + 1)) [(3, .int (nI (i + 1))), (0, .ref (ad 3 k)), (1, .long v), (4, .int 8)] (dJ7_fill_d0a16 12 rfl) 2 rfl (zk_inc _) (by decide) rfl ?_
      refine zi_goto K 6 (dJ7_fill_d0a16 13 rfl) rfl ?_
      refine zV.pick [1, 2, 0, 3] (lo' := [(0, .ref (ad 3 k)), (1, .long v), (3, .int (nI (i + 1))), (4, .int 8)]) rfl ?_
      refine zV.st (σ' := zfL σ 1 k v (i + 1)) rfl ?_
      exact ih6 (i + 1) (by omega) (by omega)
def s_fill_PCOM (σ : zSt) (k : Nat) (v : Int64) : zSt := (zfL σ 10 k v 5)
theorem s_fill_PCOM_22 (σ : zSt) (k : Nat) (v : Int64) : (s_fill_PCOM σ k v).2.2 = σ.2.2 := by
  unfold s_fill_PCOM
  (repeat' split) <;> first | exact ((zfL_22 σ 10 k v 5).trans rfl)
set_option maxRecDepth 100000 in
set_option maxHeartbeats 4000000 in
theorem c_fill_PCOM {G : zG} {ad : Nat → Nat → Nat} {σ : zSt} (k : Nat) (v : Int64) (hk : k = 0) : zC G yJ7_fill_d0a16 cJ7_fill_d0a16 5 none 0 0 0 0 [.ref (ad 24 k), .long v] (zP G ad σ) none (zP G ad (s_fill_PCOM σ k v)) := by
  refine zC_of (by decide) (Nat.le_of_ble_eq_true rfl) (fun X K E hnm => ?_)
  show zV G X 5 (zP G ad σ) 0 0 0 [(0, .ref (ad 24 k)), (1, .long v)] []
  refine zi_iconst K (dJ7_fill_d0a16 0 rfl) zk_i0 ?_
  refine zi_istore_n K [(3, .int 0), (0, .ref (ad 24 k)), (1, .long v)] (dJ7_fill_d0a16 1 rfl) (by decide) rfl ?_
  refine zi_aload_n K (dJ7_fill_d0a16 2 rfl) 1 rfl ?_
  refine zn_PCOM K hk (dJ7_fill_d0a16 3 rfl) ?_
  refine zi_istore K [(4, .int 5), (3, .int 0), (0, .ref (ad 24 k)), (1, .long v)] (dJ7_fill_d0a16 4 rfl) (by decide) rfl ?_
  refine zV.pick [2, 3, 1, 0] (lo' := [(0, .ref (ad 24 k)), (1, .long v), (3, .int 0), (4, .int 5)]) rfl ?_
  suffices hloop6 : ∀ (r i : Nat), i ≤ 5 → 5 - i < r → zV G X 5 (zP G ad (zfL σ 10 k v i)) (0) (0) 6 [(0, .ref (ad 24 k)), (1, .long v), (3, .int (nI i)), (4, .int 5)] [] from hloop6 (5 + 1) 0 (Nat.zero_le _) (Nat.lt_succ_of_le (Nat.sub_le _ _))
  intro r
  induction r with
  | zero => intro i _ h; exact absurd h (Nat.not_lt_zero _)
  | succ r ih6 =>
    intro i hi6 hr6
    have hk2 := hk
    refine zi_iload_n K (dJ7_fill_d0a16 5 rfl) 2 rfl ?_
    refine zi_iload K (dJ7_fill_d0a16 6 rfl) 3 rfl ?_
    refine zi_icmp_ge K 22 (dJ7_fill_d0a16 7 rfl) rfl (fun h9_0 => ?_) (fun h9_0 => ?_)
    · skip
      have hN6 := zloop_exit (by decide) (Nat.le_of_ble_eq_true rfl) hi6 h9_0
      subst hN6
      exact zi_vret K E (dJ7_fill_d0a16 14 rfl) (Nat.le_refl _) (Nat.le_refl _) rfl (fun H h => by exact h)
    · skip
      have hlt6 := zloop_in (by decide) (Nat.le_of_ble_eq_true rfl) hi6 h9_0
      refine zi_aload_n K (dJ7_fill_d0a16 8 rfl) 0 rfl ?_
      refine zi_iload_n K (dJ7_fill_d0a16 9 rfl) 2 rfl ?_
      refine zi_lload_n K (dJ7_fill_d0a16 10 rfl) 1 rfl ?_
      refine zs_PCOM K hk2 i rfl (by omega) (dJ7_fill_d0a16 11 rfl) ?_
      have e1 : (uL (zfL σ 10 k v i) 10 k i v).2.2 = σ.2.2 := (uL_22 (zfL σ 10 k v i) 10 k i v).trans (zfL_22 σ 10 k v i)
      refine zi_iinc K (v := nI (i + 1)) [(3, .int (nI (i + 1))), (0, .ref (ad 24 k)), (1, .long v), (4, .int 5)] (dJ7_fill_d0a16 12 rfl) 2 rfl (zk_inc _) (by decide) rfl ?_
      refine zi_goto K 6 (dJ7_fill_d0a16 13 rfl) rfl ?_
      refine zV.pick [1, 2, 0, 3] (lo' := [(0, .ref (ad 24 k)), (1, .long v), (3, .int (nI (i + 1))), (4, .int 5)]) rfl ?_
      refine zV.st (σ' := zfL σ 10 k v (i + 1)) rfl ?_
      exact ih6 (i + 1) (by omega) (by omega)
def s_fill_PABV (σ : zSt) (k : Nat) (v : Int64) : zSt := (zfL σ 12 k v 5)
theorem s_fill_PABV_22 (σ : zSt) (k : Nat) (v : Int64) : (s_fill_PABV σ k v).2.2 = σ.2.2 := by
  unfold s_fill_PABV
  (repeat' split) <;> first | exact ((zfL_22 σ 12 k v 5).trans rfl)
set_option maxRecDepth 100000 in
set_option maxHeartbeats 4000000 in
theorem c_fill_PABV {G : zG} {ad : Nat → Nat → Nat} {σ : zSt} (k : Nat) (v : Int64) (hk : k = 0) : zC G yJ7_fill_d0a16 cJ7_fill_d0a16 5 none 0 0 0 0 [.ref (ad 26 k), .long v] (zP G ad σ) none (zP G ad (s_fill_PABV σ k v)) := by
  refine zC_of (by decide) (Nat.le_of_ble_eq_true rfl) (fun X K E hnm => ?_)
  show zV G X 5 (zP G ad σ) 0 0 0 [(0, .ref (ad 26 k)), (1, .long v)] []
  refine zi_iconst K (dJ7_fill_d0a16 0 rfl) zk_i0 ?_
  refine zi_istore_n K [(3, .int 0), (0, .ref (ad 26 k)), (1, .long v)] (dJ7_fill_d0a16 1 rfl) (by decide) rfl ?_
  refine zi_aload_n K (dJ7_fill_d0a16 2 rfl) 1 rfl ?_
  refine zn_PABV K hk (dJ7_fill_d0a16 3 rfl) ?_
  refine zi_istore K [(4, .int 5), (3, .int 0), (0, .ref (ad 26 k)), (1, .long v)] (dJ7_fill_d0a16 4 rfl) (by decide) rfl ?_
  refine zV.pick [2, 3, 1, 0] (lo' := [(0, .ref (ad 26 k)), (1, .long v), (3, .int 0), (4, .int 5)]) rfl ?_
  suffices hloop6 : ∀ (r i : Nat), i ≤ 5 → 5 - i < r → zV G X 5 (zP G ad (zfL σ 12 k v i)) (0) (0) 6 [(0, .ref (ad 26 k)), (1, .long v), (3, .int (nI i)), (4, .int 5)] [] from hloop6 (5 + 1) 0 (Nat.zero_le _) (Nat.lt_succ_of_le (Nat.sub_le _ _))
  intro r
  induction r with
  | zero => intro i _ h; exact absurd h (Nat.not_lt_zero _)
  | succ r ih6 =>
    intro i hi6 hr6
    have hk2 := hk
    refine zi_iload_n K (dJ7_fill_d0a16 5 rfl) 2 rfl ?_
    refine zi_iload K (dJ7_fill_d0a16 6 rfl) 3 rfl ?_
    refine zi_icmp_ge K 22 (dJ7_fill_d0a16 7 rfl) rfl (fun h9_0 => ?_) (fun h9_0 => ?_)
    · skip
      have hN6 := zloop_exit (by decide) (Nat.le_of_ble_eq_true rfl) hi6 h9_0
      subst hN6
      exact zi_vret K E (dJ7_fill_d0a16 14 rfl) (Nat.le_refl _) (Nat.le_refl _) rfl (fun H h => by exact h)
    · skip
      have hlt6 := zloop_in (by decide) (Nat.le_of_ble_eq_true rfl) hi6 h9_0
      refine zi_aload_n K (dJ7_fill_d0a16 8 rfl) 0 rfl ?_
      refine zi_iload_n K (dJ7_fill_d0a16 9 rfl) 2 rfl ?_
      refine zi_lload_n K (dJ7_fill_d0a16 10 rfl) 1 rfl ?_
      refine zs_PABV K hk2 i rfl (by omega) (dJ7_fill_d0a16 11 rfl) ?_
      have e1 : (uL (zfL σ 12 k v i) 12 k i v).2.2 = σ.2.2 := (uL_22 (zfL σ 12 k v i) 12 k i v).trans (zfL_22 σ 12 k v i)
      refine zi_iinc K (v := nI (i + 1)) [(3, .int (nI (i + 1))), (0, .ref (ad 26 k)), (1, .long v), (4, .int 5)] (dJ7_fill_d0a16 12 rfl) 2 rfl (zk_inc _) (by decide) rfl ?_
      refine zi_goto K 6 (dJ7_fill_d0a16 13 rfl) rfl ?_
      refine zV.pick [1, 2, 0, 3] (lo' := [(0, .ref (ad 26 k)), (1, .long v), (3, .int (nI (i + 1))), (4, .int 5)]) rfl ?_
      refine zV.st (σ' := zfL σ 12 k v (i + 1)) rfl ?_
      exact ih6 (i + 1) (by omega) (by omega)
def s_clBegin (σ : zSt) (k : Nat) : zSt := (s_fill_EVS (s_fill_TOOK (uL σ 0 k 0 ((sI σ 6 k 0).toInt64)) k 0) k (-1))
theorem s_clBegin_22 (σ : zSt) (k : Nat) : (s_clBegin σ k).2.2 = σ.2.2 := by
  unfold s_clBegin
  (repeat' split) <;> first | exact ((s_fill_EVS_22 (s_fill_TOOK (uL σ 0 k 0 ((sI σ 6 k 0).toInt64)) k 0) k (-1)).trans ((s_fill_TOOK_22 (uL σ 0 k 0 ((sI σ 6 k 0).toInt64)) k 0).trans ((uL_22 σ 0 k 0 ((sI σ 6 k 0).toInt64)).trans rfl)))
set_option maxRecDepth 100000 in
set_option maxHeartbeats 4000000 in
theorem c_clBegin {G : zG} {ad : Nat → Nat → Nat} {σ : zSt} (k : Nat) (hk : zlC σ k) : zC G yX0_begin cX0_begin 1 none 1 24 0 0 [.ref (ad 2 k)] (zP G ad σ) none (zP G ad (s_clBegin σ k)) := by
  refine zC_of (by decide) (Nat.le_of_ble_eq_true rfl) (fun X K E hnm => ?_)
  show zV G X 1 (zP G ad σ) 0 0 0 [(0, .ref (ad 2 k))] []
  refine zi_aload_n K (dX0_begin 0 rfl) 0 rfl ?_
  refine zi_aload_n K (dX0_begin 1 rfl) 0 rfl ?_
  refine zg_CL_amount K hk w_752 (dX0_begin 2 rfl) ?_
  refine zi_i2l K (dX0_begin 3 rfl) ?_
  refine zp_CL_left K hk w_755 (dX0_begin 4 rfl) ?_
  refine zi_aload_n K (dX0_begin 5 rfl) 0 rfl ?_
  refine zg_CL_took K hk w_740 (dX0_begin 6 rfl) ?_
  refine zi_lconst K (dX0_begin 7 rfl) zk_l0 ?_
  refine zi_callS K (na := 2) (As := [.ref (ad 3 k), .long 0]) [] [] (c_fill_TOOK (σ := (uL σ 0 k 0 ((sI σ 6 k 0).toInt64))) k 0 hk) (dX0_begin 8 rfl) w_358 w_359 w_40 w_360 (by decide +kernel) rfl (fun H h => h) ⟨Nat.le_of_ble_eq_true rfl, Nat.le_of_ble_eq_true rfl⟩ ⟨Nat.le_refl _, Nat.le_refl _⟩ (Nat.le_of_ble_eq_true rfl) rfl rfl ?_
  have e1 : (s_fill_TOOK (uL σ 0 k 0 ((sI σ 6 k 0).toInt64)) k 0).2.2 = σ.2.2 := (s_fill_TOOK_22 (uL σ 0 k 0 ((sI σ 6 k 0).toInt64)) k 0).trans rfl
  refine zi_aload_n K (dX0_begin 9 rfl) 0 rfl ?_
  refine zg_CL_events K (zlCV_C e1 hk) w_744 (dX0_begin 10 rfl) ?_
  refine zi_iconst K (dX0_begin 11 rfl) zk_im1 ?_
  refine zi_callS K (na := 2) (As := [.ref (ad 4 k), .int (-1)]) [] [] (c_fill_EVS (σ := (s_fill_TOOK (uL σ 0 k 0 ((sI σ 6 k 0).toInt64)) k 0)) k (-1) (zlCV_C e1 hk)) (dX0_begin 12 rfl) w_361 w_362 w_40 w_363 (by decide +kernel) rfl (fun H h => h) ⟨Nat.le_of_ble_eq_true rfl, Nat.le_of_ble_eq_true rfl⟩ ⟨Nat.le_refl _, Nat.le_refl _⟩ (Nat.le_of_ble_eq_true rfl) rfl rfl ?_
  have e2 : (s_fill_EVS (s_fill_TOOK (uL σ 0 k 0 ((sI σ 6 k 0).toInt64)) k 0) k (-1)).2.2 = σ.2.2 := (s_fill_EVS_22 (s_fill_TOOK (uL σ 0 k 0 ((sI σ 6 k 0).toInt64)) k 0) k (-1)).trans e1
  exact zi_vret K E (dX0_begin 13 rfl) (Nat.le_refl _) (Nat.le_refl _) rfl (fun H h => by exact h)
def s_cvBegin (σ : zSt) (j : Nat) : zSt := if sI (s_fill_CEV σ j 0) 19 (j % 8) 0 = 0 then (uL (uL (uL (uL (s_fill_CEV σ j 0) 2 j 0 (v_wholeLimit (s_fill_CEV σ j 0) (j % 8))) 3 j 0 0) 4 j 0 0) 5 j 0 0) else (s_fill_CEV σ j 0)
theorem s_cvBegin_22 (σ : zSt) (j : Nat) : (s_cvBegin σ j).2.2 = σ.2.2 := by
  unfold s_cvBegin
  (repeat' split) <;> first | exact ((s_fill_CEV_22 σ j 0).trans rfl) | exact ((uL_22 (uL (uL (uL (s_fill_CEV σ j 0) 2 j 0 (v_wholeLimit (s_fill_CEV σ j 0) (j % 8))) 3 j 0 0) 4 j 0 0) 5 j 0 0).trans ((uL_22 (uL (uL (s_fill_CEV σ j 0) 2 j 0 (v_wholeLimit (s_fill_CEV σ j 0) (j % 8))) 3 j 0 0) 4 j 0 0).trans ((uL_22 (uL (s_fill_CEV σ j 0) 2 j 0 (v_wholeLimit (s_fill_CEV σ j 0) (j % 8))) 3 j 0 0).trans ((uL_22 (s_fill_CEV σ j 0) 2 j 0 (v_wholeLimit (s_fill_CEV σ j 0) (j % 8))).trans ((s_fill_CEV_22 σ j 0).trans rfl)))))
set_option maxRecDepth 100000 in
set_option maxHeartbeats 4000000 in
theorem c_cvBegin {G : zG} {ad : Nat → Nat → Nat} {σ : zSt} (j : Nat) (hj : zlV σ j) (ht : j % 8 < sN σ 2) : zC G yX1_begin cX1_begin 1 none 2 40 0 0 [.ref (ad 7 j)] (zP G ad σ) none (zP G ad (s_cvBegin σ j)) := by
  refine zC_of (by decide) (Nat.le_of_ble_eq_true rfl) (fun X K E hnm => ?_)
  show zV G X 1 (zP G ad σ) 0 0 0 [(0, .ref (ad 7 j))] []
  refine zi_aload_n K (dX1_begin 0 rfl) 0 rfl ?_
  refine zg_COV_events K hj w_1164 (dX1_begin 1 rfl) ?_
  refine zi_iconst K (dX1_begin 2 rfl) zk_i0 ?_
  refine zi_callS K (na := 2) (As := [.ref (ad 8 j), .int 0]) [] [] (c_fill_CEV  j 0 hj) (dX1_begin 3 rfl) w_369 w_362 w_40 w_363 (by decide +kernel) rfl (fun H h => h) ⟨Nat.le_of_ble_eq_true rfl, Nat.le_of_ble_eq_true rfl⟩ ⟨Nat.le_refl _, Nat.le_refl _⟩ (Nat.le_of_ble_eq_true rfl) rfl rfl ?_
  have e1 : (s_fill_CEV σ j 0).2.2 = σ.2.2 := (s_fill_CEV_22 σ j 0).trans rfl
  refine zi_aload_n K (dX1_begin 4 rfl) 0 rfl ?_
  refine zg_COV_treaty K (zlCV_V e1 hj) w_1161 (dX1_begin 5 rfl) ?_
  refine zg_TR_isCommuted K (zlCV_N e1 ht) w_1120 (dX1_begin 6 rfl) ?_
  refine zi_if_ne K 44 (dX1_begin 7 rfl) rfl (fun h15_0 => ?_) (fun h15_0 => ?_)
  · skip
    exact zi_vret K E (dX1_begin 22 rfl) (Nat.le_refl _) (Nat.le_refl _) rfl (fun H h => by unfold s_cvBegin; rw [if_neg h15_0]; exact h)
  · skip
    refine zi_aload_n K (dX1_begin 8 rfl) 0 rfl ?_
    refine zi_aload_n K (dX1_begin 9 rfl) 0 rfl ?_
    refine zg_COV_treaty K (zlCV_V e1 hj) w_1161 (dX1_begin 10 rfl) ?_
    refine zi_callV K (na := 0) [.ref (ad 7 j)] [.long (v_wholeLimit (s_fill_CEV σ j 0) (j % 8)), .ref (ad 7 j)] (c_wholeLimit (σ := (s_fill_CEV σ j 0)) (j % 8) (zlCV_N e1 ht)) (dX1_begin 11 rfl) w_370 w_371 w_372 w_55 w_373 (by decide +kernel) rfl (fun H h => zi_recv K (zr_TR (σ := (s_fill_CEV σ j 0)) (zlCV_N e1 ht) H h).1 rfl) (fun H h => h) ⟨Nat.le_of_ble_eq_true rfl, Nat.le_of_ble_eq_true rfl⟩ ⟨Nat.le_refl _, Nat.le_refl _⟩ (Nat.le_of_ble_eq_true rfl) rfl rfl ?_
    refine zp_COV_limitLeft K (zlCV_V e1 hj) w_1167 (dX1_begin 12 rfl) ?_
    have e2 : (uL (s_fill_CEV σ j 0) 2 j 0 (v_wholeLimit (s_fill_CEV σ j 0) (j % 8))).2.2 = σ.2.2 := (uL_22 (s_fill_CEV σ j 0) 2 j 0 (v_wholeLimit (s_fill_CEV σ j 0) (j % 8))).trans e1
    refine zi_aload_n K (dX1_begin 13 rfl) 0 rfl ?_
    refine zi_lconst K (dX1_begin 14 rfl) zk_l0 ?_
    refine zp_COV_taken K (zlCV_V e2 hj) w_1170 (dX1_begin 15 rfl) ?_
    have e3 : (uL (uL (s_fill_CEV σ j 0) 2 j 0 (v_wholeLimit (s_fill_CEV σ j 0) (j % 8))) 3 j 0 0).2.2 = σ.2.2 := (uL_22 (uL (s_fill_CEV σ j 0) 2 j 0 (v_wholeLimit (s_fill_CEV σ j 0) (j % 8))) 3 j 0 0).trans e2
    refine zi_aload_n K (dX1_begin 16 rfl) 0 rfl ?_
    refine zi_lconst K (dX1_begin 17 rfl) zk_l0 ?_
    refine zp_COV_reinstated K (zlCV_V e3 hj) w_1173 (dX1_begin 18 rfl) ?_
    have e4 : (uL (uL (uL (s_fill_CEV σ j 0) 2 j 0 (v_wholeLimit (s_fill_CEV σ j 0) (j % 8))) 3 j 0 0) 4 j 0 0).2.2 = σ.2.2 := (uL_22 (uL (uL (s_fill_CEV σ j 0) 2 j 0 (v_wholeLimit (s_fill_CEV σ j 0) (j % 8))) 3 j 0 0) 4 j 0 0).trans e3
    refine zi_aload_n K (dX1_begin 19 rfl) 0 rfl ?_
    refine zi_lconst K (dX1_begin 20 rfl) zk_l0 ?_
    refine zp_COV_owed K (zlCV_V e4 hj) w_1175 (dX1_begin 21 rfl) ?_
    have e5 : (uL (uL (uL (uL (s_fill_CEV σ j 0) 2 j 0 (v_wholeLimit (s_fill_CEV σ j 0) (j % 8))) 3 j 0 0) 4 j 0 0) 5 j 0 0).2.2 = σ.2.2 := (uL_22 (uL (uL (uL (s_fill_CEV σ j 0) 2 j 0 (v_wholeLimit (s_fill_CEV σ j 0) (j % 8))) 3 j 0 0) 4 j 0 0) 5 j 0 0).trans e4
    exact zi_vret K E (dX1_begin 22 rfl) (Nat.le_refl _) (Nat.le_refl _) rfl (fun H h => by unfold s_cvBegin; rw [if_pos h15_0]; exact h)
def s_takeFrom (σ : zSt) (j k : Nat) (x : Int64) : zSt := (uL (uL (uL (uL σ 0 k 0 ((sL σ 0 k 0) - x)) 1 k (j % 8) ((sL (uL σ 0 k 0 ((sL σ 0 k 0) - x)) 1 k (j % 8)) + x)) 2 j 0 ((sL (uL (uL σ 0 k 0 ((sL σ 0 k 0) - x)) 1 k (j % 8) ((sL (uL σ 0 k 0 ((sL σ 0 k 0) - x)) 1 k (j % 8)) + x)) 2 j 0) - x)) 3 j 0 ((sL (uL (uL (uL σ 0 k 0 ((sL σ 0 k 0) - x)) 1 k (j % 8) ((sL (uL σ 0 k 0 ((sL σ 0 k 0) - x)) 1 k (j % 8)) + x)) 2 j 0 ((sL (uL (uL σ 0 k 0 ((sL σ 0 k 0) - x)) 1 k (j % 8) ((sL (uL σ 0 k 0 ((sL σ 0 k 0) - x)) 1 k (j % 8)) + x)) 2 j 0) - x)) 3 j 0) + x))
theorem s_takeFrom_22 (σ : zSt) (j k : Nat) (x : Int64) : (s_takeFrom σ j k x).2.2 = σ.2.2 := by
  unfold s_takeFrom
  (repeat' split) <;> first | exact ((uL_22 (uL (uL (uL σ 0 k 0 ((sL σ 0 k 0) - x)) 1 k (j % 8) ((sL (uL σ 0 k 0 ((sL σ 0 k 0) - x)) 1 k (j % 8)) + x)) 2 j 0 ((sL (uL (uL σ 0 k 0 ((sL σ 0 k 0) - x)) 1 k (j % 8) ((sL (uL σ 0 k 0 ((sL σ 0 k 0) - x)) 1 k (j % 8)) + x)) 2 j 0) - x)) 3 j 0 ((sL (uL (uL (uL σ 0 k 0 ((sL σ 0 k 0) - x)) 1 k (j % 8) ((sL (uL σ 0 k 0 ((sL σ 0 k 0) - x)) 1 k (j % 8)) + x)) 2 j 0 ((sL (uL (uL σ 0 k 0 ((sL σ 0 k 0) - x)) 1 k (j % 8) ((sL (uL σ 0 k 0 ((sL σ 0 k 0) - x)) 1 k (j % 8)) + x)) 2 j 0) - x)) 3 j 0) + x)).trans ((uL_22 (uL (uL σ 0 k 0 ((sL σ 0 k 0) - x)) 1 k (j % 8) ((sL (uL σ 0 k 0 ((sL σ 0 k 0) - x)) 1 k (j % 8)) + x)) 2 j 0 ((sL (uL (uL σ 0 k 0 ((sL σ 0 k 0) - x)) 1 k (j % 8) ((sL (uL σ 0 k 0 ((sL σ 0 k 0) - x)) 1 k (j % 8)) + x)) 2 j 0) - x)).trans ((uL_22 (uL σ 0 k 0 ((sL σ 0 k 0) - x)) 1 k (j % 8) ((sL (uL σ 0 k 0 ((sL σ 0 k 0) - x)) 1 k (j % 8)) + x)).trans ((uL_22 σ 0 k 0 ((sL σ 0 k 0) - x)).trans rfl))))
set_option maxRecDepth 100000 in
set_option maxHeartbeats 4000000 in
theorem c_takeFrom {G : zG} {ad : Nat → Nat → Nat} {σ : zSt} (j k : Nat) (x : Int64) (hj : zlV σ j) (ht : j % 8 < sN σ 2) (hk : zlC σ k) : zC G yX1_takeFrom cX1_takeFrom 4 none 0 0 0 0 [.ref (ad 7 j), .ref (ad 2 k), .long x] (zP G ad σ) none (zP G ad (s_takeFrom σ j k x)) := by
  refine zC_of (by decide) (Nat.le_of_ble_eq_true rfl) (fun X K E hnm => ?_)
  show zV G X 4 (zP G ad σ) 0 0 0 [(0, .ref (ad 7 j)), (1, .ref (ad 2 k)), (2, .long x)] []
  refine zi_aload_n K (dX1_takeFrom 0 rfl) 1 rfl ?_
  refine zi_dup K (dX1_takeFrom 1 rfl) rfl ?_
  refine zg_CL_left K hk w_757 (dX1_takeFrom 2 rfl) ?_
  refine zi_lload_n K (dX1_takeFrom 3 rfl) 2 rfl ?_
  refine zi_lsub K (dX1_takeFrom 4 rfl) ?_
  refine zp_CL_left K hk w_757 (dX1_takeFrom 5 rfl) ?_
  refine zi_aload_n K (dX1_takeFrom 6 rfl) 1 rfl ?_
  refine zg_CL_took K hk w_741 (dX1_takeFrom 7 rfl) ?_
  refine zi_aload_n K (dX1_takeFrom 8 rfl) 0 rfl ?_
  refine zg_COV_treaty K hj w_1161 (dX1_takeFrom 9 rfl) ?_
  refine zg_TR_number K ht w_1093 (dX1_takeFrom 10 rfl) ?_
  refine zi_dup2_11 K (dX1_takeFrom 11 rfl) rfl rfl ?_
  refine zl_TOOK K hk (j % 8) rfl (by omega) (dX1_takeFrom 12 rfl) ?_
  refine zi_lload_n K (dX1_takeFrom 13 rfl) 2 rfl ?_
  refine zi_ladd K (dX1_takeFrom 14 rfl) ?_
  refine zs_TOOK K hk (j % 8) rfl (by omega) (dX1_takeFrom 15 rfl) ?_
  refine zi_aload_n K (dX1_takeFrom 16 rfl) 0 rfl ?_
  refine zi_dup K (dX1_takeFrom 17 rfl) rfl ?_
  refine zg_COV_limitLeft K hj w_1167 (dX1_takeFrom 18 rfl) ?_
  refine zi_lload_n K (dX1_takeFrom 19 rfl) 2 rfl ?_
  refine zi_lsub K (dX1_takeFrom 20 rfl) ?_
  refine zp_COV_limitLeft K hj w_1167 (dX1_takeFrom 21 rfl) ?_
  refine zi_aload_n K (dX1_takeFrom 22 rfl) 0 rfl ?_
  refine zi_dup K (dX1_takeFrom 23 rfl) rfl ?_
  refine zg_COV_taken K hj w_1170 (dX1_takeFrom 24 rfl) ?_
  refine zi_lload_n K (dX1_takeFrom 25 rfl) 2 rfl ?_
  refine zi_ladd K (dX1_takeFrom 26 rfl) ?_
  refine zp_COV_taken K hj w_1170 (dX1_takeFrom 27 rfl) ?_
  exact zi_vret K E (dX1_takeFrom 28 rfl) (Nat.le_refl _) (Nat.le_refl _) rfl (fun H h => by exact h)
def s_refill (σ : zSt) (j : Nat) (x : Int64) (day : Int32) : zSt := if v_isLimited σ (j % 8) = 0 then σ else (uL (uL σ 4 j 0 ((sL σ 4 j 0) + (zmnl x ((((sI σ 13 (j % 8) 0).toInt64) * ((sI σ 15 (j % 8) 0).toInt64)) - (sL σ 4 j 0))))) 5 j 0 ((sL (uL σ 4 j 0 ((sL σ 4 j 0) + (zmnl x ((((sI σ 13 (j % 8) 0).toInt64) * ((sI σ 15 (j % 8) 0).toInt64)) - (sL σ 4 j 0))))) 5 j 0) + (v_priceOf (uL σ 4 j 0 ((sL σ 4 j 0) + (zmnl x ((((sI σ 13 (j % 8) 0).toInt64) * ((sI σ 15 (j % 8) 0).toInt64)) - (sL σ 4 j 0))))) (j % 8) (zmnl x ((((sI σ 13 (j % 8) 0).toInt64) * ((sI σ 15 (j % 8) 0).toInt64)) - (sL σ 4 j 0))) day)))
theorem s_refill_22 (σ : zSt) (j : Nat) (x : Int64) (day : Int32) : (s_refill σ j x day).2.2 = σ.2.2 := by
  unfold s_refill
  (repeat' split) <;> first | exact ((uL_22 (uL σ 4 j 0 ((sL σ 4 j 0) + (zmnl x ((((sI σ 13 (j % 8) 0).toInt64) * ((sI σ 15 (j % 8) 0).toInt64)) - (sL σ 4 j 0))))) 5 j 0 ((sL (uL σ 4 j 0 ((sL σ 4 j 0) + (zmnl x ((((sI σ 13 (j % 8) 0).toInt64) * ((sI σ 15 (j % 8) 0).toInt64)) - (sL σ 4 j 0))))) 5 j 0) + (v_priceOf (uL σ 4 j 0 ((sL σ 4 j 0) + (zmnl x ((((sI σ 13 (j % 8) 0).toInt64) * ((sI σ 15 (j % 8) 0).toInt64)) - (sL σ 4 j 0))))) (j % 8) (zmnl x ((((sI σ 13 (j % 8) 0).toInt64) * ((sI σ 15 (j % 8) 0).toInt64)) - (sL σ 4 j 0))) day))).trans ((uL_22 σ 4 j 0 ((sL σ 4 j 0) + (zmnl x ((((sI σ 13 (j % 8) 0).toInt64) * ((sI σ 15 (j % 8) 0).toInt64)) - (sL σ 4 j 0))))).trans rfl)) | exact rfl
set_option maxRecDepth 100000 in
set_option maxHeartbeats 4000000 in
theorem c_refill {G : zG} {ad : Nat → Nat → Nat} {σ : zSt} (j : Nat) (x : Int64) (day : Int32) (hj : zlV σ j) (ht : j % 8 < sN σ 2) (hz1 : ¬ (sI σ 13 (j % 8) 0).toInt64 * 100 = 0) (hz2 : ¬ (sI σ 11 (j % 8) 0 - sI σ 10 (j % 8) 0 + 1).toInt64 = 0) : zC G yX1_refill cX1_refill 6 none 2 42 0 0 [.ref (ad 7 j), .long x, .int day] (zP G ad σ) none (zP G ad (s_refill σ j x day)) := by
  refine zC_of (by decide) (Nat.le_of_ble_eq_true rfl) (fun X K E hnm => ?_)
  show zV G X 6 (zP G ad σ) 0 0 0 [(0, .ref (ad 7 j)), (1, .long x), (3, .int day)] []
  refine zi_aload_n K (dX1_refill 0 rfl) 0 rfl ?_
  refine zg_COV_treaty K hj w_1161 (dX1_refill 1 rfl) ?_
  refine zi_callV K (na := 0) [] [.int (v_isLimited σ (j % 8))] (c_isLimited  (j % 8) ht) (dX1_refill 2 rfl) w_418 w_375 w_376 w_55 w_377 (by decide +kernel) rfl (fun H h => zi_recv K (zr_TR (σ := σ) ht H h).1 rfl) (fun H h => h) ⟨Nat.le_of_ble_eq_true rfl, Nat.le_of_ble_eq_true rfl⟩ ⟨Nat.le_refl _, Nat.le_refl _⟩ (Nat.le_of_ble_eq_true rfl) rfl rfl ?_
  refine zi_if_eq K 68 (dX1_refill 3 rfl) rfl (fun h7_0 => ?_) (fun h7_0 => ?_)
  · skip
    exact zi_vret K E (dX1_refill 35 rfl) (Nat.le_refl _) (Nat.le_refl _) rfl (fun H h => by unfold s_refill; rw [if_pos h7_0]; exact h)
  · skip
    refine zi_lload_n K (dX1_refill 4 rfl) 1 rfl ?_
    refine zi_aload_n K (dX1_refill 5 rfl) 0 rfl ?_
    refine zg_COV_treaty K hj w_1161 (dX1_refill 6 rfl) ?_
    refine zg_TR_b K ht w_1103 (dX1_refill 7 rfl) ?_
    refine zi_i2l K (dX1_refill 8 rfl) ?_
    refine zi_aload_n K (dX1_refill 9 rfl) 0 rfl ?_
    refine zg_COV_treaty K hj w_1161 (dX1_refill 10 rfl) ?_
    refine zg_TR_many K ht w_1111 (dX1_refill 11 rfl) ?_
    refine zi_i2l K (dX1_refill 12 rfl) ?_
    refine zi_lmul K (dX1_refill 13 rfl) ?_
    refine zi_aload_n K (dX1_refill 14 rfl) 0 rfl ?_
    refine zg_COV_reinstated K hj w_1173 (dX1_refill 15 rfl) ?_
    refine zi_lsub K (dX1_refill 16 rfl) ?_
    refine zi_minl K [] (dX1_refill 17 rfl) w_419 ⟨Nat.le_of_ble_eq_true rfl, Nat.le_of_ble_eq_true rfl⟩ ⟨Nat.le_refl _, Nat.le_refl _⟩ ?_
    refine zi_lstore K [(4, .long (zmnl x ((((sI σ 13 (j % 8) 0).toInt64) * ((sI σ 15 (j % 8) 0).toInt64)) - (sL σ 4 j 0)))), (0, .ref (ad 7 j)), (1, .long x), (3, .int day)] (dX1_refill 18 rfl) (by decide) rfl ?_
    refine zi_aload_n K (dX1_refill 19 rfl) 1 rfl ?_
    refine zi_dup K (dX1_refill 20 rfl) rfl ?_
    refine zg_COV_reinstated K hj w_1173 (dX1_refill 21 rfl) ?_
    refine zi_lload K (dX1_refill 22 rfl) 0 rfl ?_
    refine zi_ladd K (dX1_refill 23 rfl) ?_
    refine zp_COV_reinstated K hj w_1173 (dX1_refill 24 rfl) ?_
    refine zi_aload_n K (dX1_refill 25 rfl) 1 rfl ?_
    refine zi_dup K (dX1_refill 26 rfl) rfl ?_
    refine zg_COV_owed K hj w_1175 (dX1_refill 27 rfl) ?_
    refine zi_aload_n K (dX1_refill 28 rfl) 1 rfl ?_
    refine zg_COV_treaty K hj w_1161 (dX1_refill 29 rfl) ?_
    refine zi_lload K (dX1_refill 30 rfl) 0 rfl ?_
    refine zi_iload_n K (dX1_refill 31 rfl) 3 rfl ?_
    refine zi_callV K (na := 2) [.long (sL (uL σ 4 j 0 ((sL σ 4 j 0) + (zmnl x ((((sI σ 13 (j % 8) 0).toInt64) * ((sI σ 15 (j % 8) 0).toInt64)) - (sL σ 4 j 0))))) 5 j 0), .ref (ad 7 j)] [.long (v_priceOf (uL σ 4 j 0 ((sL σ 4 j 0) + (zmnl x ((((sI σ 13 (j % 8) 0).toInt64) * ((sI σ 15 (j % 8) 0).toInt64)) - (sL σ 4 j 0))))) (j % 8) (zmnl x ((((sI σ 13 (j % 8) 0).toInt64) * ((sI σ 15 (j % 8) 0).toInt64)) - (sL σ 4 j 0))) day), .long (sL (uL σ 4 j 0 ((sL σ 4 j 0) + (zmnl x ((((sI σ 13 (j % 8) 0).toInt64) * ((sI σ 15 (j % 8) 0).toInt64)) - (sL σ 4 j 0))))) 5 j 0), .ref (ad 7 j)] (c_priceOf (σ := (uL σ 4 j 0 ((sL σ 4 j 0) + (zmnl x ((((sI σ 13 (j % 8) 0).toInt64) * ((sI σ 15 (j % 8) 0).toInt64)) - (sL σ 4 j 0)))))) (j % 8) (zmnl x ((((sI σ 13 (j % 8) 0).toInt64) * ((sI σ 15 (j % 8) 0).toInt64)) - (sL σ 4 j 0))) day ht hz1 hz2) (dX1_refill 32 rfl) w_420 w_421 w_422 w_55 w_423 (by decide +kernel) rfl (fun H h => zi_recv K (zr_TR (σ := (uL σ 4 j 0 ((sL σ 4 j 0) + (zmnl x ((((sI σ 13 (j % 8) 0).toInt64) * ((sI σ 15 (j % 8) 0).toInt64)) - (sL σ 4 j 0)))))) ht H h).1 rfl) (fun H h => h) ⟨Nat.le_of_ble_eq_true rfl, Nat.le_of_ble_eq_true rfl⟩ ⟨Nat.le_refl _, Nat.le_refl _⟩ (Nat.le_of_ble_eq_true rfl) rfl rfl ?_
    refine zi_ladd K (dX1_refill 33 rfl) ?_
    refine zp_COV_owed K hj w_1175 (dX1_refill 34 rfl) ?_
    exact zi_vret K E (dX1_refill 35 rfl) (Nat.le_refl _) (Nat.le_refl _) rfl (fun H h => by unfold s_refill; rw [if_neg h7_0]; exact h)
def v_damageOf (σ : zSt) (c p : Nat) : Int32 := if v_inForce σ p (sI σ 23 c 0) = 0 then 0 else ((((sI σ 0 p 0).toInt64) * ((sI σ 25 c ((sI σ 1 p 0).toNatClampNeg)).toInt64)) / 100).toInt32
set_option maxRecDepth 100000 in
set_option maxHeartbeats 4000000 in
theorem c_damageOf {G : zG} {ad : Nat → Nat → Nat} {σ : zSt} (c p : Nat) (hc : c < sN σ 3) (hp : p < sN σ 0) (hz : sI σ 1 p 0 = nI (sI σ 1 p 0).toNatClampNeg) (hz4 : (sI σ 1 p 0).toNatClampNeg < 4) : zC G yX6_damageOf cX6_damageOf 2 (some FieldType.int) 1 21 0 0 [.ref (ad 9 c), .ref (ad 1 p)] (zP G ad σ) (some (.int (v_damageOf σ c p))) (zP G ad σ) := by
  refine zC_of (by decide) (Nat.le_of_ble_eq_true rfl) (fun X K E hnm => ?_)
  show zV G X 2 (zP G ad σ) 0 0 0 [(0, .ref (ad 9 c)), (1, .ref (ad 1 p))] []
  refine zi_aload_n K (dX6_damageOf 0 rfl) 1 rfl ?_
  refine zi_aload_n K (dX6_damageOf 1 rfl) 0 rfl ?_
  refine zg_SC_day K hc w_1314 (dX6_damageOf 2 rfl) ?_
  refine zi_callV K (na := 1) [] [.int (v_inForce σ p (sI σ 23 c 0))] (c_inForce  p (sI σ 23 c 0) hp) (dX6_damageOf 3 rfl) w_608 w_609 w_610 w_37 w_611 (by decide +kernel) rfl (fun H h => zi_recv K (zr_POL (σ := σ) hp H h).1 rfl) (fun H h => h) ⟨Nat.le_of_ble_eq_true rfl, Nat.le_of_ble_eq_true rfl⟩ ⟨Nat.le_refl _, Nat.le_refl _⟩ (Nat.le_of_ble_eq_true rfl) rfl rfl ?_
  refine zi_if_eq K 35 (dX6_damageOf 4 rfl) rfl (fun h8_0 => ?_) (fun h8_0 => ?_)
  · skip
    refine zi_iconst K (dX6_damageOf 19 rfl) zk_i0 ?_
    exact zi_iret K E (dX6_damageOf 20 rfl) (Nat.le_refl _) (Nat.le_refl _) (by unfold v_damageOf; rw [if_pos h8_0]) (fun _ h => h)
  · skip
    refine zi_aload_n K (dX6_damageOf 5 rfl) 1 rfl ?_
    refine zg_POL_sum K hp w_714 (dX6_damageOf 6 rfl) ?_
    refine zi_i2l K (dX6_damageOf 7 rfl) ?_
    refine zi_aload_n K (dX6_damageOf 8 rfl) 0 rfl ?_
    refine zg_SC_damages K hc w_1318 (dX6_damageOf 9 rfl) ?_
    refine zi_aload_n K (dX6_damageOf 10 rfl) 1 rfl ?_
    refine zg_POL_zone K hp w_717 (dX6_damageOf 11 rfl) ?_
    refine zl_DMG K hc ((sI σ 1 p 0).toNatClampNeg) hz hz4 (dX6_damageOf 12 rfl) ?_
    refine zi_i2l K (dX6_damageOf 13 rfl) ?_
    refine zi_lmul K (dX6_damageOf 14 rfl) ?_
    refine zi_ldc2 K (dX6_damageOf 15 rfl) w_612 ?_
    refine zi_ldiv K (dX6_damageOf 16 rfl) (by decide) ?_
    refine zi_l2i K (dX6_damageOf 17 rfl) ?_
    refine zi_goto K 36 (dX6_damageOf 18 rfl) rfl ?_
    exact zi_iret K E (dX6_damageOf 20 rfl) (Nat.le_refl _) (Nat.le_refl _) (by unfold v_damageOf; rw [if_neg h8_0]) (fun _ h => h)
def v_handedOn (σ : zSt) (i : Nat) (x : Int64) : Int64 := if sI σ 31 0 i = 0 then zmxl 0 (zmnl (x - ((sI σ 33 0 i).toInt64)) ((sI σ 34 0 i).toInt64)) else 0
set_option maxRecDepth 100000 in
set_option maxHeartbeats 4000000 in
theorem c_handedOn {G : zG} {ad : Nat → Nat → Nat} {σ : zSt} (i : Nat) (x : Int64) (hi : i < 5) : zC G yX5_handedOn cX5_handedOn 4 (some FieldType.long) 1 17 0 0 [.ref (ad 18 0), .int (nI i), .long x] (zP G ad σ) (some (.long (v_handedOn σ i x))) (zP G ad σ) := by
  refine zC_of (by decide) (Nat.le_of_ble_eq_true rfl) (fun X K E hnm => ?_)
  show zV G X 4 (zP G ad σ) 0 0 0 [(0, .ref (ad 18 0)), (1, .int (nI i)), (2, .long x)] []
  refine zi_aload_n K (dX5_handedOn 0 rfl) 0 rfl ?_
  refine zg_POOL_isFailed K rfl w_159 (dX5_handedOn 1 rfl) ?_
  refine zi_iload_n K (dX5_handedOn 2 rfl) 1 rfl ?_
  refine zl_PFAIL K rfl i rfl (by omega) (dX5_handedOn 3 rfl) ?_
  refine zi_if_eq K 13 (dX5_handedOn 4 rfl) rfl (fun h6_0 => ?_) (fun h6_0 => ?_)
  · skip
    refine zi_lconst K (dX5_handedOn 7 rfl) zk_l0 ?_
    refine zi_lload_n K (dX5_handedOn 8 rfl) 2 rfl ?_
    refine zi_aload_n K (dX5_handedOn 9 rfl) 0 rfl ?_
    refine zg_POOL_bounds K rfl w_163 (dX5_handedOn 10 rfl) ?_
    refine zi_iload_n K (dX5_handedOn 11 rfl) 1 rfl ?_
    refine zl_PBND K rfl i rfl (by omega) (dX5_handedOn 12 rfl) ?_
    refine zi_i2l K (dX5_handedOn 13 rfl) ?_
    refine zi_lsub K (dX5_handedOn 14 rfl) ?_
    refine zi_aload_n K (dX5_handedOn 15 rfl) 0 rfl ?_
    refine zg_POOL_limits K rfl w_165 (dX5_handedOn 16 rfl) ?_
    refine zi_iload_n K (dX5_handedOn 17 rfl) 1 rfl ?_
    refine zl_PLIM K rfl i rfl (by omega) (dX5_handedOn 18 rfl) ?_
    refine zi_i2l K (dX5_handedOn 19 rfl) ?_
    refine zi_minl K [.long 0] (dX5_handedOn 20 rfl) w_640 ⟨Nat.le_of_ble_eq_true rfl, Nat.le_of_ble_eq_true rfl⟩ ⟨Nat.le_refl _, Nat.le_refl _⟩ ?_
    refine zi_maxl K [] (dX5_handedOn 21 rfl) w_641 ⟨Nat.le_of_ble_eq_true rfl, Nat.le_of_ble_eq_true rfl⟩ ⟨Nat.le_refl _, Nat.le_refl _⟩ ?_
    exact zi_lret K E (dX5_handedOn 22 rfl) (Nat.le_refl _) (Nat.le_refl _) (by unfold v_handedOn; rw [if_pos h6_0]) (fun _ h => h)
  · skip
    refine zi_lconst K (dX5_handedOn 5 rfl) zk_l0 ?_
    refine zi_goto K 36 (dX5_handedOn 6 rfl) rfl ?_
    exact zi_lret K E (dX5_handedOn 22 rfl) (Nat.le_refl _) (Nat.le_refl _) (by unfold v_handedOn; rw [if_neg h6_0]) (fun _ h => h)
