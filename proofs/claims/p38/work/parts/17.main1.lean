/-! Layertreaty: ranges, kinds, the objects by their numbers (where they are), counts and sums -/
def v_isOut (σ : zSt) (x lo hi : Int32) : Int32 := if x < lo then 1 else if x ≤ hi then 0 else 1
set_option maxRecDepth 100000 in
set_option maxHeartbeats 4000000 in
theorem c_isOut {G : zG} {ad : Nat → Nat → Nat} {σ : zSt} (x lo hi : Int32)  : zC G yX8_isOut cX8_isOut 3 (some FieldType.boolean) 0 0 0 0 [.int x, .int lo, .int hi] (zP G ad σ) (some (.int (v_isOut σ x lo hi))) (zP G ad σ) := by
  refine zC_of (by decide) (Nat.le_of_ble_eq_true rfl) (fun X K E hnm => ?_)
  show zV G X 3 (zP G ad σ) 0 0 0 [(0, .int x), (1, .int lo), (2, .int hi)] []
  refine zi_iload_n K (dX8_isOut 0 rfl) 0 rfl ?_
  refine zi_iload_n K (dX8_isOut 1 rfl) 1 rfl ?_
  refine zi_icmp_lt K 10 (dX8_isOut 2 rfl) rfl (fun h2_0 => ?_) (fun h2_0 => ?_)
  · skip
    refine zi_iconst K (dX8_isOut 6 rfl) zk_i1 ?_
    refine zi_goto K 15 (dX8_isOut 7 rfl) rfl ?_
    exact zi_zret K E (dX8_isOut 9 rfl) (Nat.le_refl _) (Nat.le_refl _) (by unfold v_isOut; rw [if_pos h2_0]) rfl (fun _ h => h)
  · skip
    refine zi_iload_n K (dX8_isOut 3 rfl) 0 rfl ?_
    refine zi_iload_n K (dX8_isOut 4 rfl) 2 rfl ?_
    refine zi_icmp_le K 14 (dX8_isOut 5 rfl) rfl (fun h7_1 => ?_) (fun h7_1 => ?_)
    · skip
      refine zi_iconst K (dX8_isOut 8 rfl) zk_i0 ?_
      exact zi_zret K E (dX8_isOut 9 rfl) (Nat.le_refl _) (Nat.le_refl _) (by unfold v_isOut; rw [if_neg h2_0, if_pos h7_1]) rfl (fun _ h => h)
    · skip
      refine zi_iconst K (dX8_isOut 6 rfl) zk_i1 ?_
      refine zi_goto K 15 (dX8_isOut 7 rfl) rfl ?_
      exact zi_zret K E (dX8_isOut 9 rfl) (Nat.le_refl _) (Nat.le_refl _) (by unfold v_isOut; rw [if_neg h2_0, if_neg h7_1]) rfl (fun _ h => h)
def v_isSpan (σ : zSt) (x y : Int32) : Int32 := if x < 0 then 0 else if y < x then 0 else if 999 < y then 0 else 1
set_option maxRecDepth 100000 in
set_option maxHeartbeats 4000000 in
theorem c_isSpan {G : zG} {ad : Nat → Nat → Nat} {σ : zSt} (x y : Int32)  : zC G yX8_isSpan cX8_isSpan 2 (some FieldType.boolean) 0 0 0 0 [.int x, .int y] (zP G ad σ) (some (.int (v_isSpan σ x y))) (zP G ad σ) := by
  refine zC_of (by decide) (Nat.le_of_ble_eq_true rfl) (fun X K E hnm => ?_)
  show zV G X 2 (zP G ad σ) 0 0 0 [(0, .int x), (1, .int y)] []
  refine zi_iload_n K (dX8_isSpan 0 rfl) 0 rfl ?_
  refine zi_if_lt K 20 (dX8_isSpan 1 rfl) rfl (fun h1_0 => ?_) (fun h1_0 => ?_)
  · skip
    refine zi_iconst K (dX8_isSpan 10 rfl) zk_i0 ?_
    exact zi_zret K E (dX8_isSpan 11 rfl) (Nat.le_refl _) (Nat.le_refl _) (by unfold v_isSpan; rw [if_pos h1_0]) rfl (fun _ h => h)
  · skip
    refine zi_iload_n K (dX8_isSpan 2 rfl) 0 rfl ?_
    refine zi_iload_n K (dX8_isSpan 3 rfl) 1 rfl ?_
    refine zi_icmp_gt K 20 (dX8_isSpan 4 rfl) rfl (fun h6_1 => ?_) (fun h6_1 => ?_)
    · skip
      refine zi_iconst K (dX8_isSpan 10 rfl) zk_i0 ?_
      exact zi_zret K E (dX8_isSpan 11 rfl) (Nat.le_refl _) (Nat.le_refl _) (by unfold v_isSpan; rw [if_neg h1_0, if_pos h6_1]) rfl (fun _ h => h)
    · skip
      refine zi_iload_n K (dX8_isSpan 5 rfl) 1 rfl ?_
      refine zi_sipush K (dX8_isSpan 6 rfl) zk_s999 ?_
      refine zi_icmp_gt K 20 (dX8_isSpan 7 rfl) rfl (fun h13_2 => ?_) (fun h13_2 => ?_)
      · skip
        refine zi_iconst K (dX8_isSpan 10 rfl) zk_i0 ?_
        exact zi_zret K E (dX8_isSpan 11 rfl) (Nat.le_refl _) (Nat.le_refl _) (by unfold v_isSpan; rw [if_neg h1_0, if_neg h6_1, if_pos h13_2]) rfl (fun _ h => h)
      · skip
        refine zi_iconst K (dX8_isSpan 8 rfl) zk_i1 ?_
        refine zi_goto K 21 (dX8_isSpan 9 rfl) rfl ?_
        exact zi_zret K E (dX8_isSpan 11 rfl) (Nat.le_refl _) (Nat.le_refl _) (by unfold v_isSpan; rw [if_neg h1_0, if_neg h6_1, if_neg h13_2]) rfl (fun _ h => h)
def v_isBasis (σ : zSt) (x : Int32) : Int32 := if x = 111 then 1 else if x = 97 then 1 else if x = 99 then 1 else 0
set_option maxRecDepth 100000 in
set_option maxHeartbeats 4000000 in
theorem c_isBasis {G : zG} {ad : Nat → Nat → Nat} {σ : zSt} (x : Int32)  : zC G yX8_isBasis cX8_isBasis 1 (some FieldType.boolean) 0 0 0 0 [.int x] (zP G ad σ) (some (.int (v_isBasis σ x))) (zP G ad σ) := by
  refine zC_of (by decide) (Nat.le_of_ble_eq_true rfl) (fun X K E hnm => ?_)
  show zV G X 1 (zP G ad σ) 0 0 0 [(0, .int x)] []
  refine zi_iload_n K (dX8_isBasis 0 rfl) 0 rfl ?_
  refine zi_bipush K (dX8_isBasis 1 rfl) zk_b111 ?_
  refine zi_icmp_eq K 18 (dX8_isBasis 2 rfl) rfl (fun h3_0 => ?_) (fun h3_0 => ?_)
  · skip
    refine zi_iconst K (dX8_isBasis 9 rfl) zk_i1 ?_
    refine zi_goto K 23 (dX8_isBasis 10 rfl) rfl ?_
    exact zi_zret K E (dX8_isBasis 12 rfl) (Nat.le_refl _) (Nat.le_refl _) (by unfold v_isBasis; rw [if_pos h3_0]) rfl (fun _ h => h)
  · skip
    refine zi_iload_n K (dX8_isBasis 3 rfl) 0 rfl ?_
    refine zi_bipush K (dX8_isBasis 4 rfl) zk_b97 ?_
    refine zi_icmp_eq K 18 (dX8_isBasis 5 rfl) rfl (fun h9_1 => ?_) (fun h9_1 => ?_)
    · skip
      refine zi_iconst K (dX8_isBasis 9 rfl) zk_i1 ?_
      refine zi_goto K 23 (dX8_isBasis 10 rfl) rfl ?_
      exact zi_zret K E (dX8_isBasis 12 rfl) (Nat.le_refl _) (Nat.le_refl _) (by unfold v_isBasis; rw [if_neg h3_0, if_pos h9_1]) rfl (fun _ h => h)
    · skip
      refine zi_iload_n K (dX8_isBasis 6 rfl) 0 rfl ?_
      refine zi_bipush K (dX8_isBasis 7 rfl) zk_b99 ?_
      refine zi_icmp_ne K 22 (dX8_isBasis 8 rfl) rfl (fun h15_2 => ?_) (fun h15_2 => ?_)
      · skip
        refine zi_iconst K (dX8_isBasis 11 rfl) zk_i0 ?_
        exact zi_zret K E (dX8_isBasis 12 rfl) (Nat.le_refl _) (Nat.le_refl _) (by unfold v_isBasis; rw [if_neg h3_0, if_neg h9_1, if_neg h15_2]) rfl (fun _ h => h)
      · skip
        refine zi_iconst K (dX8_isBasis 9 rfl) zk_i1 ?_
        refine zi_goto K 23 (dX8_isBasis 10 rfl) rfl ?_
        exact zi_zret K E (dX8_isBasis 12 rfl) (Nat.le_refl _) (Nat.le_refl _) (by unfold v_isBasis; rw [if_neg h3_0, if_neg h9_1, if_pos h15_2]) rfl (fun _ h => h)
def v_fitsKind (σ : zSt) (x y z : Int32) : Int32 := if x = 113 then (if v_isOut σ y 0 100 = 0 then 1 else 0) else if x = 115 then (if v_isOut σ y 1 1000000 = 0 then (if v_isOut σ z 1 20 = 0 then 1 else 0) else 0) else if x = 114 then (if v_isOut σ y 0 1000000 = 0 then (if v_isOut σ z 1 1000000 = 0 then 1 else 0) else 0) else if x = 101 then (if v_isOut σ y 0 1000000 = 0 then (if v_isOut σ z 1 1000000 = 0 then 1 else 0) else 0) else if x = 97 then (if v_isOut σ y 0 1000000 = 0 then (if v_isOut σ z 1 1000000 = 0 then 1 else 0) else 0) else 0
set_option maxRecDepth 100000 in
set_option maxHeartbeats 4000000 in
theorem c_fitsKind {G : zG} {ad : Nat → Nat → Nat} {σ : zSt} (x y z : Int32)  : zC G yX8_fitsKind cX8_fitsKind 3 (some FieldType.boolean) 1 22 0 0 [.int x, .int y, .int z] (zP G ad σ) (some (.int (v_fitsKind σ x y z))) (zP G ad σ) := by
  refine zC_of (by decide) (Nat.le_of_ble_eq_true rfl) (fun X K E hnm => ?_)
  show zV G X 3 (zP G ad σ) 0 0 0 [(0, .int x), (1, .int y), (2, .int z)] []
  refine zi_iload_n K (dX8_fitsKind 0 rfl) 0 rfl ?_
  refine zi_bipush K (dX8_fitsKind 1 rfl) zk_b113 ?_
  refine zi_icmp_ne K 22 (dX8_fitsKind 2 rfl) rfl (fun h3_0 => ?_) (fun h3_0 => ?_)
  · skip
    refine zi_iload_n K (dX8_fitsKind 12 rfl) 0 rfl ?_
    refine zi_bipush K (dX8_fitsKind 13 rfl) zk_b115 ?_
    refine zi_icmp_ne K 54 (dX8_fitsKind 14 rfl) rfl (fun h25_1 => ?_) (fun h25_1 => ?_)
    · skip
      refine zi_iload_n K (dX8_fitsKind 29 rfl) 0 rfl ?_
      refine zi_bipush K (dX8_fitsKind 30 rfl) zk_b114 ?_
      refine zi_icmp_eq K 72 (dX8_fitsKind 31 rfl) rfl (fun h57_2 => ?_) (fun h57_2 => ?_)
      · skip
        refine zi_iload_n K (dX8_fitsKind 38 rfl) 1 rfl ?_
        refine zi_iconst K (dX8_fitsKind 39 rfl) zk_i0 ?_
        refine zi_ldc K (dX8_fitsKind 40 rfl) w_671 ?_
        refine zi_callS K (na := 3) (As := [.int y, .int 0, .int 1000000]) [] [.int (v_isOut σ y 0 1000000)] (c_isOut  y 0 1000000) (dX8_fitsKind 41 rfl) w_234 w_235 w_25 w_236 (by decide +kernel) rfl (fun H h => h) ⟨Nat.le_of_ble_eq_true rfl, Nat.le_of_ble_eq_true rfl⟩ ⟨Nat.le_refl _, Nat.le_refl _⟩ (Nat.le_of_ble_eq_true rfl) rfl rfl ?_
        refine zi_if_ne K 96 (dX8_fitsKind 42 rfl) rfl (fun h79_3 => ?_) (fun h79_3 => ?_)
        · skip
          refine zi_iconst K (dX8_fitsKind 50 rfl) zk_i0 ?_
          exact zi_zret K E (dX8_fitsKind 51 rfl) (Nat.le_refl _) (Nat.le_refl _) (by unfold v_fitsKind; rw [if_neg h3_0, if_neg h25_1, if_pos h57_2, if_neg h79_3]) rfl (fun _ h => h)
        · skip
          refine zi_iload_n K (dX8_fitsKind 43 rfl) 2 rfl ?_
          refine zi_iconst K (dX8_fitsKind 44 rfl) zk_i1 ?_
          refine zi_ldc K (dX8_fitsKind 45 rfl) w_671 ?_
          refine zi_callS K (na := 3) (As := [.int z, .int 1, .int 1000000]) [] [.int (v_isOut σ z 1 1000000)] (c_isOut  z 1 1000000) (dX8_fitsKind 46 rfl) w_234 w_235 w_25 w_236 (by decide +kernel) rfl (fun H h => h) ⟨Nat.le_of_ble_eq_true rfl, Nat.le_of_ble_eq_true rfl⟩ ⟨Nat.le_refl _, Nat.le_refl _⟩ (Nat.le_of_ble_eq_true rfl) rfl rfl ?_
          refine zi_if_ne K 96 (dX8_fitsKind 47 rfl) rfl (fun h89_4 => ?_) (fun h89_4 => ?_)
          · skip
            refine zi_iconst K (dX8_fitsKind 50 rfl) zk_i0 ?_
            exact zi_zret K E (dX8_fitsKind 51 rfl) (Nat.le_refl _) (Nat.le_refl _) (by unfold v_fitsKind; rw [if_neg h3_0, if_neg h25_1, if_pos h57_2, if_pos h79_3, if_neg h89_4]) rfl (fun _ h => h)
          · skip
            refine zi_iconst K (dX8_fitsKind 48 rfl) zk_i1 ?_
            refine zi_goto K 97 (dX8_fitsKind 49 rfl) rfl ?_
            exact zi_zret K E (dX8_fitsKind 51 rfl) (Nat.le_refl _) (Nat.le_refl _) (by unfold v_fitsKind; rw [if_neg h3_0, if_neg h25_1, if_pos h57_2, if_pos h79_3, if_pos h89_4]) rfl (fun _ h => h)
      · skip
        refine zi_iload_n K (dX8_fitsKind 32 rfl) 0 rfl ?_
        refine zi_bipush K (dX8_fitsKind 33 rfl) zk_b101 ?_
        refine zi_icmp_eq K 72 (dX8_fitsKind 34 rfl) rfl (fun h63_3 => ?_) (fun h63_3 => ?_)
        · skip
          refine zi_iload_n K (dX8_fitsKind 38 rfl) 1 rfl ?_
          refine zi_iconst K (dX8_fitsKind 39 rfl) zk_i0 ?_
          refine zi_ldc K (dX8_fitsKind 40 rfl) w_671 ?_
          refine zi_callS K (na := 3) (As := [.int y, .int 0, .int 1000000]) [] [.int (v_isOut σ y 0 1000000)] (c_isOut  y 0 1000000) (dX8_fitsKind 41 rfl) w_234 w_235 w_25 w_236 (by decide +kernel) rfl (fun H h => h) ⟨Nat.le_of_ble_eq_true rfl, Nat.le_of_ble_eq_true rfl⟩ ⟨Nat.le_refl _, Nat.le_refl _⟩ (Nat.le_of_ble_eq_true rfl) rfl rfl ?_
          refine zi_if_ne K 96 (dX8_fitsKind 42 rfl) rfl (fun h79_4 => ?_) (fun h79_4 => ?_)
          · skip
            refine zi_iconst K (dX8_fitsKind 50 rfl) zk_i0 ?_
            exact zi_zret K E (dX8_fitsKind 51 rfl) (Nat.le_refl _) (Nat.le_refl _) (by unfold v_fitsKind; rw [if_neg h3_0, if_neg h25_1, if_neg h57_2, if_pos h63_3, if_neg h79_4]) rfl (fun _ h => h)
          · skip
            refine zi_iload_n K (dX8_fitsKind 43 rfl) 2 rfl ?_
            refine zi_iconst K (dX8_fitsKind 44 rfl) zk_i1 ?_
            refine zi_ldc K (dX8_fitsKind 45 rfl) w_671 ?_
            refine zi_callS K (na := 3) (As := [.int z, .int 1, .int 1000000]) [] [.int (v_isOut σ z 1 1000000)] (c_isOut  z 1 1000000) (dX8_fitsKind 46 rfl) w_234 w_235 w_25 w_236 (by decide +kernel) rfl (fun H h => h) ⟨Nat.le_of_ble_eq_true rfl, Nat.le_of_ble_eq_true rfl⟩ ⟨Nat.le_refl _, Nat.le_refl _⟩ (Nat.le_of_ble_eq_true rfl) rfl rfl ?_
            refine zi_if_ne K 96 (dX8_fitsKind 47 rfl) rfl (fun h89_5 => ?_) (fun h89_5 => ?_)
            · skip
              refine zi_iconst K (dX8_fitsKind 50 rfl) zk_i0 ?_
              exact zi_zret K E (dX8_fitsKind 51 rfl) (Nat.le_refl _) (Nat.le_refl _) (by unfold v_fitsKind; rw [if_neg h3_0, if_neg h25_1, if_neg h57_2, if_pos h63_3, if_pos h79_4, if_neg h89_5]) rfl (fun _ h => h)
            · skip
              refine zi_iconst K (dX8_fitsKind 48 rfl) zk_i1 ?_
              refine zi_goto K 97 (dX8_fitsKind 49 rfl) rfl ?_
              exact zi_zret K E (dX8_fitsKind 51 rfl) (Nat.le_refl _) (Nat.le_refl _) (by unfold v_fitsKind; rw [if_neg h3_0, if_neg h25_1, if_neg h57_2, if_pos h63_3, if_pos h79_4, if_pos h89_5]) rfl (fun _ h => h)
        · skip
          refine zi_iload_n K (dX8_fitsKind 35 rfl) 0 rfl ?_
          refine zi_bipush K (dX8_fitsKind 36 rfl) zk_b97 ?_
          refine zi_icmp_ne K 96 (dX8_fitsKind 37 rfl) rfl (fun h69_4 => ?_) (fun h69_4 => ?_)
          · skip
            refine zi_iconst K (dX8_fitsKind 50 rfl) zk_i0 ?_
            exact zi_zret K E (dX8_fitsKind 51 rfl) (Nat.le_refl _) (Nat.le_refl _) (by unfold v_fitsKind; rw [if_neg h3_0, if_neg h25_1, if_neg h57_2, if_neg h63_3, if_neg h69_4]) rfl (fun _ h => h)
          · skip
            refine zi_iload_n K (dX8_fitsKind 38 rfl) 1 rfl ?_
            refine zi_iconst K (dX8_fitsKind 39 rfl) zk_i0 ?_
            refine zi_ldc K (dX8_fitsKind 40 rfl) w_671 ?_
            refine zi_callS K (na := 3) (As := [.int y, .int 0, .int 1000000]) [] [.int (v_isOut σ y 0 1000000)] (c_isOut  y 0 1000000) (dX8_fitsKind 41 rfl) w_234 w_235 w_25 w_236 (by decide +kernel) rfl (fun H h => h) ⟨Nat.le_of_ble_eq_true rfl, Nat.le_of_ble_eq_true rfl⟩ ⟨Nat.le_refl _, Nat.le_refl _⟩ (Nat.le_of_ble_eq_true rfl) rfl rfl ?_
            refine zi_if_ne K 96 (dX8_fitsKind 42 rfl) rfl (fun h79_5 => ?_) (fun h79_5 => ?_)
            · skip
              refine zi_iconst K (dX8_fitsKind 50 rfl) zk_i0 ?_
              exact zi_zret K E (dX8_fitsKind 51 rfl) (Nat.le_refl _) (Nat.le_refl _) (by unfold v_fitsKind; rw [if_neg h3_0, if_neg h25_1, if_neg h57_2, if_neg h63_3, if_pos h69_4, if_neg h79_5]) rfl (fun _ h => h)
            · skip
              refine zi_iload_n K (dX8_fitsKind 43 rfl) 2 rfl ?_
              refine zi_iconst K (dX8_fitsKind 44 rfl) zk_i1 ?_
              refine zi_ldc K (dX8_fitsKind 45 rfl) w_671 ?_
              refine zi_callS K (na := 3) (As := [.int z, .int 1, .int 1000000]) [] [.int (v_isOut σ z 1 1000000)] (c_isOut  z 1 1000000) (dX8_fitsKind 46 rfl) w_234 w_235 w_25 w_236 (by decide +kernel) rfl (fun H h => h) ⟨Nat.le_of_ble_eq_true rfl, Nat.le_of_ble_eq_true rfl⟩ ⟨Nat.le_refl _, Nat.le_refl _⟩ (Nat.le_of_ble_eq_true rfl) rfl rfl ?_
              refine zi_if_ne K 96 (dX8_fitsKind 47 rfl) rfl (fun h89_6 => ?_) (fun h89_6 => ?_)
              · skip
                refine zi_iconst K (dX8_fitsKind 50 rfl) zk_i0 ?_
                exact zi_zret K E (dX8_fitsKind 51 rfl) (Nat.le_refl _) (Nat.le_refl _) (by unfold v_fitsKind; rw [if_neg h3_0, if_neg h25_1, if_neg h57_2, if_neg h63_3, if_pos h69_4, if_pos h79_5, if_neg h89_6]) rfl (fun _ h => h)
              · skip
                refine zi_iconst K (dX8_fitsKind 48 rfl) zk_i1 ?_
                refine zi_goto K 97 (dX8_fitsKind 49 rfl) rfl ?_
                exact zi_zret K E (dX8_fitsKind 51 rfl) (Nat.le_refl _) (Nat.le_refl _) (by unfold v_fitsKind; rw [if_neg h3_0, if_neg h25_1, if_neg h57_2, if_neg h63_3, if_pos h69_4, if_pos h79_5, if_pos h89_6]) rfl (fun _ h => h)
    · skip
      refine zi_iload_n K (dX8_fitsKind 15 rfl) 1 rfl ?_
      refine zi_iconst K (dX8_fitsKind 16 rfl) zk_i1 ?_
      refine zi_ldc K (dX8_fitsKind 17 rfl) w_671 ?_
      refine zi_callS K (na := 3) (As := [.int y, .int 1, .int 1000000]) [] [.int (v_isOut σ y 1 1000000)] (c_isOut  y 1 1000000) (dX8_fitsKind 18 rfl) w_234 w_235 w_25 w_236 (by decide +kernel) rfl (fun H h => h) ⟨Nat.le_of_ble_eq_true rfl, Nat.le_of_ble_eq_true rfl⟩ ⟨Nat.le_refl _, Nat.le_refl _⟩ (Nat.le_of_ble_eq_true rfl) rfl rfl ?_
      refine zi_if_ne K 52 (dX8_fitsKind 19 rfl) rfl (fun h35_2 => ?_) (fun h35_2 => ?_)
      · skip
        refine zi_iconst K (dX8_fitsKind 27 rfl) zk_i0 ?_
        exact zi_zret K E (dX8_fitsKind 28 rfl) (Nat.le_refl _) (Nat.le_refl _) (by unfold v_fitsKind; rw [if_neg h3_0, if_pos h25_1, if_neg h35_2]) rfl (fun _ h => h)
      · skip
        refine zi_iload_n K (dX8_fitsKind 20 rfl) 2 rfl ?_
        refine zi_iconst K (dX8_fitsKind 21 rfl) zk_i1 ?_
        refine zi_bipush K (dX8_fitsKind 22 rfl) zk_b20 ?_
        refine zi_callS K (na := 3) (As := [.int z, .int 1, .int 20]) [] [.int (v_isOut σ z 1 20)] (c_isOut  z 1 20) (dX8_fitsKind 23 rfl) w_234 w_235 w_25 w_236 (by decide +kernel) rfl (fun H h => h) ⟨Nat.le_of_ble_eq_true rfl, Nat.le_of_ble_eq_true rfl⟩ ⟨Nat.le_refl _, Nat.le_refl _⟩ (Nat.le_of_ble_eq_true rfl) rfl rfl ?_
        refine zi_if_ne K 52 (dX8_fitsKind 24 rfl) rfl (fun h45_3 => ?_) (fun h45_3 => ?_)
        · skip
          refine zi_iconst K (dX8_fitsKind 27 rfl) zk_i0 ?_
          exact zi_zret K E (dX8_fitsKind 28 rfl) (Nat.le_refl _) (Nat.le_refl _) (by unfold v_fitsKind; rw [if_neg h3_0, if_pos h25_1, if_pos h35_2, if_neg h45_3]) rfl (fun _ h => h)
        · skip
          refine zi_iconst K (dX8_fitsKind 25 rfl) zk_i1 ?_
          refine zi_goto K 53 (dX8_fitsKind 26 rfl) rfl ?_
          exact zi_zret K E (dX8_fitsKind 28 rfl) (Nat.le_refl _) (Nat.le_refl _) (by unfold v_fitsKind; rw [if_neg h3_0, if_pos h25_1, if_pos h35_2, if_pos h45_3]) rfl (fun _ h => h)
  · skip
    refine zi_iload_n K (dX8_fitsKind 3 rfl) 1 rfl ?_
    refine zi_iconst K (dX8_fitsKind 4 rfl) zk_i0 ?_
    refine zi_bipush K (dX8_fitsKind 5 rfl) zk_b100 ?_
    refine zi_callS K (na := 3) (As := [.int y, .int 0, .int 100]) [] [.int (v_isOut σ y 0 100)] (c_isOut  y 0 100) (dX8_fitsKind 6 rfl) w_234 w_235 w_25 w_236 (by decide +kernel) rfl (fun H h => h) ⟨Nat.le_of_ble_eq_true rfl, Nat.le_of_ble_eq_true rfl⟩ ⟨Nat.le_refl _, Nat.le_refl _⟩ (Nat.le_of_ble_eq_true rfl) rfl rfl ?_
    refine zi_if_ne K 20 (dX8_fitsKind 7 rfl) rfl (fun h13_1 => ?_) (fun h13_1 => ?_)
    · skip
      refine zi_iconst K (dX8_fitsKind 10 rfl) zk_i0 ?_
      exact zi_zret K E (dX8_fitsKind 11 rfl) (Nat.le_refl _) (Nat.le_refl _) (by unfold v_fitsKind; rw [if_pos h3_0, if_neg h13_1]) rfl (fun _ h => h)
    · skip
      refine zi_iconst K (dX8_fitsKind 8 rfl) zk_i1 ?_
      refine zi_goto K 21 (dX8_fitsKind 9 rfl) rfl ?_
      exact zi_zret K E (dX8_fitsKind 11 rfl) (Nat.le_refl _) (Nat.le_refl _) (by unfold v_fitsKind; rw [if_pos h3_0, if_pos h13_1]) rfl (fun _ h => h)
theorem isOut_in {σ : zSt} {x lo hi : Int32} (h1 : ¬ x < lo) (h2 : x ≤ hi) : v_isOut σ x lo hi = 0 := by
  unfold v_isOut
  rw [if_neg h1, if_pos h2]
theorem isOut_ok {σ : zSt} {i n : Nat} (hi : i < n) (hn : n < 2 ^ 31) : v_isOut σ (nI i) 0 (nI n - 1) = 0 := by
  obtain ⟨m, rfl⟩ : ∃ m, n = m + 1 := ⟨n - 1, by omega⟩
  rw [nI_pred]
  exact isOut_in (nI_pos (by omega)) (nI_le (by omega) (by omega))
theorem isOut_5 {σ : zSt} {i : Nat} (hi : i < 5) : v_isOut σ (nI i) 0 4 = 0 := isOut_in (nI_pos (by omega)) (nI_le (b := 4) (by omega) (by omega))
set_option maxRecDepth 100000 in
set_option maxHeartbeats 4000000 in
theorem c_claimAt {G : zG} {ad : Nat → Nat → Nat} {σ : zSt} (i : Nat) (h1 : zLW σ 1) (hi : i < sZ σ 1) : zC G yX8_claimAt cX8_claimAt 2 (some (FieldType.object "Layertreaty$Claim")) 3 64 0 0 [.ref (ad 0 0), .int (nI i)] (zP G ad σ) (some (.ref (ad 2 (lx σ 1 i)))) (zP G ad σ) := by
  refine zC_of (by decide) (Nat.le_of_ble_eq_true rfl) (fun X K E hnm => ?_)
  show zV G X 2 (zP G ad σ) 0 0 0 [(0, .ref (ad 0 0)), (1, .int (nI i))] []
  refine zi_iload_n K (dX8_claimAt 0 rfl) 1 rfl ?_
  refine zi_iconst K (dX8_claimAt 1 rfl) zk_i0 ?_
  refine zi_aload_n K (dX8_claimAt 2 rfl) 0 rfl ?_
  refine zg_O_claims K rfl w_195 (dX8_claimAt 3 rfl) ?_
  refine zi_callV K (na := 0) [.int 0, .int (nI i)] [.int (nI (sZ σ 1)), .int 0, .int (nI i)] (c_sizeN (σ := σ) 1 (sZ σ 1) (zL_ok h1).1 rfl) (dX8_claimAt 4 rfl) w_230 w_231 w_232 w_28 w_233 (by decide +kernel) rfl (fun H h => zrecv_LST K (zL_ok h1).1 h) (fun H h => h) ⟨Nat.le_of_ble_eq_true rfl, Nat.le_of_ble_eq_true rfl⟩ ⟨Nat.le_refl _, Nat.le_refl _⟩ (Nat.le_of_ble_eq_true rfl) rfl rfl ?_
  refine zi_iconst K (dX8_claimAt 5 rfl) zk_i1 ?_
  refine zi_isub K (dX8_claimAt 6 rfl) ?_
  refine zi_callS K (na := 3) (As := [.int (nI i), .int 0, .int ((nI (sZ σ 1)) - 1)]) [] [.int (v_isOut σ (nI i) 0 ((nI (sZ σ 1)) - 1))] (c_isOut  (nI i) 0 ((nI (sZ σ 1)) - 1)) (dX8_claimAt 7 rfl) w_234 w_235 w_25 w_236 (by decide +kernel) rfl (fun H h => h) ⟨Nat.le_of_ble_eq_true rfl, Nat.le_of_ble_eq_true rfl⟩ ⟨Nat.le_refl _, Nat.le_refl _⟩ (Nat.le_of_ble_eq_true rfl) rfl rfl ?_
  refine zi_if_eq K 28 (dX8_claimAt 8 rfl) rfl (fun h14_0 => ?_) (fun h14_0 => ?_)
  rotate_left
  · exact absurd (isOut_ok hi (zL_b h1)) h14_0
  refine zi_aload_n K (dX8_claimAt 14 rfl) 0 rfl ?_
  refine zg_O_claims K rfl w_195 (dX8_claimAt 15 rfl) ?_
  refine zi_iload_n K (dX8_claimAt 16 rfl) 1 rfl ?_
  refine zi_callV K (na := 1) [] [.ref (ad 2 (lx σ 1 i))] (c_getK (σ := σ) 1 i (lx σ 1 i) 2 rfl (zL_ok h1) hi (zL_x h1 hi)) (dX8_claimAt 17 rfl) w_309 w_310 w_311 w_28 w_312 (by decide +kernel) rfl (fun H h => zrecv_LST K (zL_ok h1).1 h) (fun H h => h) ⟨Nat.le_of_ble_eq_true rfl, Nat.le_of_ble_eq_true rfl⟩ ⟨Nat.le_refl _, Nat.le_refl _⟩ (Nat.le_of_ble_eq_true rfl) rfl rfl ?_
  refine zi_cast K (fun H h => (zr_CL (σ := σ) (zL_lv h1 hi rfl) H h).1) rfl w_603 (dX8_claimAt 18 rfl) ?_
  exact zi_aret K E (dX8_claimAt 19 rfl) (Nat.le_refl _) (Nat.le_refl _) rfl (Or.inl ⟨_, rfl⟩) (fun _ h => h)
set_option maxRecDepth 100000 in
set_option maxHeartbeats 4000000 in
theorem c_treatyAt {G : zG} {ad : Nat → Nat → Nat} {σ : zSt} (i : Nat) (h2 : zLW σ 2) (hi : i < sZ σ 2) : zC G yX8_treatyAt cX8_treatyAt 2 (some (FieldType.object "Layertreaty$Treaty")) 3 64 0 0 [.ref (ad 0 0), .int (nI i)] (zP G ad σ) (some (.ref (ad 5 (lx σ 2 i)))) (zP G ad σ) := by
  refine zC_of (by decide) (Nat.le_of_ble_eq_true rfl) (fun X K E hnm => ?_)
  show zV G X 2 (zP G ad σ) 0 0 0 [(0, .ref (ad 0 0)), (1, .int (nI i))] []
  refine zi_iload_n K (dX8_treatyAt 0 rfl) 1 rfl ?_
  refine zi_iconst K (dX8_treatyAt 1 rfl) zk_i0 ?_
  refine zi_aload_n K (dX8_treatyAt 2 rfl) 0 rfl ?_
  refine zg_O_terms K rfl w_196 (dX8_treatyAt 3 rfl) ?_
  refine zi_callV K (na := 0) [.int 0, .int (nI i)] [.int (nI (sZ σ 2)), .int 0, .int (nI i)] (c_sizeN (σ := σ) 2 (sZ σ 2) (zL_ok h2).1 rfl) (dX8_treatyAt 4 rfl) w_230 w_231 w_232 w_28 w_233 (by decide +kernel) rfl (fun H h => zrecv_LST K (zL_ok h2).1 h) (fun H h => h) ⟨Nat.le_of_ble_eq_true rfl, Nat.le_of_ble_eq_true rfl⟩ ⟨Nat.le_refl _, Nat.le_refl _⟩ (Nat.le_of_ble_eq_true rfl) rfl rfl ?_
  refine zi_iconst K (dX8_treatyAt 5 rfl) zk_i1 ?_
  refine zi_isub K (dX8_treatyAt 6 rfl) ?_
  refine zi_callS K (na := 3) (As := [.int (nI i), .int 0, .int ((nI (sZ σ 2)) - 1)]) [] [.int (v_isOut σ (nI i) 0 ((nI (sZ σ 2)) - 1))] (c_isOut  (nI i) 0 ((nI (sZ σ 2)) - 1)) (dX8_treatyAt 7 rfl) w_234 w_235 w_25 w_236 (by decide +kernel) rfl (fun H h => h) ⟨Nat.le_of_ble_eq_true rfl, Nat.le_of_ble_eq_true rfl⟩ ⟨Nat.le_refl _, Nat.le_refl _⟩ (Nat.le_of_ble_eq_true rfl) rfl rfl ?_
  refine zi_if_eq K 27 (dX8_treatyAt 8 rfl) rfl (fun h14_0 => ?_) (fun h14_0 => ?_)
  rotate_left
  · exact absurd (isOut_ok hi (zL_b h2)) h14_0
  refine zi_aload_n K (dX8_treatyAt 14 rfl) 0 rfl ?_
  refine zg_O_terms K rfl w_196 (dX8_treatyAt 15 rfl) ?_
  refine zi_iload_n K (dX8_treatyAt 16 rfl) 1 rfl ?_
  refine zi_callV K (na := 1) [] [.ref (ad 5 (lx σ 2 i))] (c_getK (σ := σ) 2 i (lx σ 2 i) 5 rfl (zL_ok h2) hi (zL_x h2 hi)) (dX8_treatyAt 17 rfl) w_309 w_310 w_311 w_28 w_312 (by decide +kernel) rfl (fun H h => zrecv_LST K (zL_ok h2).1 h) (fun H h => h) ⟨Nat.le_of_ble_eq_true rfl, Nat.le_of_ble_eq_true rfl⟩ ⟨Nat.le_refl _, Nat.le_refl _⟩ (Nat.le_of_ble_eq_true rfl) rfl rfl ?_
  refine zi_cast K (fun H h => (zr_TR (σ := σ) (zL_lv h2 hi rfl) H h).1) rfl w_323 (dX8_treatyAt 18 rfl) ?_
  exact zi_aret K E (dX8_treatyAt 19 rfl) (Nat.le_refl _) (Nat.le_refl _) rfl (Or.inl ⟨_, rfl⟩) (fun _ h => h)
set_option maxRecDepth 100000 in
set_option maxHeartbeats 4000000 in
theorem c_coverAt {G : zG} {ad : Nat → Nat → Nat} {σ : zSt} (i : Nat) (h6 : zLW σ 6) (hi : i < sZ σ 6) : zC G yX8_coverAt cX8_coverAt 2 (some (FieldType.object "Layertreaty$Cover")) 3 64 0 0 [.ref (ad 0 0), .int (nI i)] (zP G ad σ) (some (.ref (ad 7 (lx σ 6 i)))) (zP G ad σ) := by
  refine zC_of (by decide) (Nat.le_of_ble_eq_true rfl) (fun X K E hnm => ?_)
  show zV G X 2 (zP G ad σ) 0 0 0 [(0, .ref (ad 0 0)), (1, .int (nI i))] []
  refine zi_iload_n K (dX8_coverAt 0 rfl) 1 rfl ?_
  refine zi_iconst K (dX8_coverAt 1 rfl) zk_i0 ?_
  refine zi_aload_n K (dX8_coverAt 2 rfl) 0 rfl ?_
  refine zg_O_real K rfl w_199 (dX8_coverAt 3 rfl) ?_
  refine zg_FL_covers K (by decide) w_135 (dX8_coverAt 4 rfl) ?_
  refine zi_callV K (na := 0) [.int 0, .int (nI i)] [.int (nI (sZ σ 6)), .int 0, .int (nI i)] (c_sizeN (σ := σ) 6 (sZ σ 6) (zL_ok h6).1 rfl) (dX8_coverAt 5 rfl) w_230 w_231 w_232 w_28 w_233 (by decide +kernel) rfl (fun H h => zrecv_LST K (zL_ok h6).1 h) (fun H h => h) ⟨Nat.le_of_ble_eq_true rfl, Nat.le_of_ble_eq_true rfl⟩ ⟨Nat.le_refl _, Nat.le_refl _⟩ (Nat.le_of_ble_eq_true rfl) rfl rfl ?_
  refine zi_iconst K (dX8_coverAt 6 rfl) zk_i1 ?_
  refine zi_isub K (dX8_coverAt 7 rfl) ?_
  refine zi_callS K (na := 3) (As := [.int (nI i), .int 0, .int ((nI (sZ σ 6)) - 1)]) [] [.int (v_isOut σ (nI i) 0 ((nI (sZ σ 6)) - 1))] (c_isOut  (nI i) 0 ((nI (sZ σ 6)) - 1)) (dX8_coverAt 8 rfl) w_234 w_235 w_25 w_236 (by decide +kernel) rfl (fun H h => h) ⟨Nat.le_of_ble_eq_true rfl, Nat.le_of_ble_eq_true rfl⟩ ⟨Nat.le_refl _, Nat.le_refl _⟩ (Nat.le_of_ble_eq_true rfl) rfl rfl ?_
  refine zi_if_eq K 30 (dX8_coverAt 9 rfl) rfl (fun h17_0 => ?_) (fun h17_0 => ?_)
  rotate_left
  · exact absurd (isOut_ok hi (zL_b h6)) h17_0
  refine zi_aload_n K (dX8_coverAt 15 rfl) 0 rfl ?_
  refine zg_O_real K rfl w_199 (dX8_coverAt 16 rfl) ?_
  refine zg_FL_covers K (by decide) w_135 (dX8_coverAt 17 rfl) ?_
  refine zi_iload_n K (dX8_coverAt 18 rfl) 1 rfl ?_
  refine zi_callV K (na := 1) [] [.ref (ad 7 (lx σ 6 i))] (c_getK (σ := σ) 6 i (lx σ 6 i) 7 rfl (zL_ok h6) hi (zL_x h6 hi)) (dX8_coverAt 19 rfl) w_309 w_310 w_311 w_28 w_312 (by decide +kernel) rfl (fun H h => zrecv_LST K (zL_ok h6).1 h) (fun H h => h) ⟨Nat.le_of_ble_eq_true rfl, Nat.le_of_ble_eq_true rfl⟩ ⟨Nat.le_refl _, Nat.le_refl _⟩ (Nat.le_of_ble_eq_true rfl) rfl rfl ?_
  refine zi_cast K (fun H h => (zr_COV (σ := σ) (zL_lv h6 hi rfl) H h).1) rfl w_555 (dX8_coverAt 20 rfl) ?_
  exact zi_aret K E (dX8_coverAt 21 rfl) (Nat.le_refl _) (Nat.le_refl _) rfl (Or.inl ⟨_, rfl⟩) (fun _ h => h)
set_option maxRecDepth 100000 in
set_option maxHeartbeats 4000000 in
theorem c_scenarioAt {G : zG} {ad : Nat → Nat → Nat} {σ : zSt} (i : Nat) (h3 : zLW σ 3) (hi : i < sZ σ 3) : zC G yX8_scenarioAt cX8_scenarioAt 2 (some (FieldType.object "Layertreaty$Scenario")) 3 64 0 0 [.ref (ad 0 0), .int (nI i)] (zP G ad σ) (some (.ref (ad 9 (lx σ 3 i)))) (zP G ad σ) := by
  refine zC_of (by decide) (Nat.le_of_ble_eq_true rfl) (fun X K E hnm => ?_)
  show zV G X 2 (zP G ad σ) 0 0 0 [(0, .ref (ad 0 0)), (1, .int (nI i))] []
  refine zi_iload_n K (dX8_scenarioAt 0 rfl) 1 rfl ?_
  refine zi_iconst K (dX8_scenarioAt 1 rfl) zk_i0 ?_
  refine zi_aload_n K (dX8_scenarioAt 2 rfl) 0 rfl ?_
  refine zg_O_scenarios K rfl w_197 (dX8_scenarioAt 3 rfl) ?_
  refine zi_callV K (na := 0) [.int 0, .int (nI i)] [.int (nI (sZ σ 3)), .int 0, .int (nI i)] (c_sizeN (σ := σ) 3 (sZ σ 3) (zL_ok h3).1 rfl) (dX8_scenarioAt 4 rfl) w_230 w_231 w_232 w_28 w_233 (by decide +kernel) rfl (fun H h => zrecv_LST K (zL_ok h3).1 h) (fun H h => h) ⟨Nat.le_of_ble_eq_true rfl, Nat.le_of_ble_eq_true rfl⟩ ⟨Nat.le_refl _, Nat.le_refl _⟩ (Nat.le_of_ble_eq_true rfl) rfl rfl ?_
  refine zi_iconst K (dX8_scenarioAt 5 rfl) zk_i1 ?_
  refine zi_isub K (dX8_scenarioAt 6 rfl) ?_
  refine zi_callS K (na := 3) (As := [.int (nI i), .int 0, .int ((nI (sZ σ 3)) - 1)]) [] [.int (v_isOut σ (nI i) 0 ((nI (sZ σ 3)) - 1))] (c_isOut  (nI i) 0 ((nI (sZ σ 3)) - 1)) (dX8_scenarioAt 7 rfl) w_234 w_235 w_25 w_236 (by decide +kernel) rfl (fun H h => h) ⟨Nat.le_of_ble_eq_true rfl, Nat.le_of_ble_eq_true rfl⟩ ⟨Nat.le_refl _, Nat.le_refl _⟩ (Nat.le_of_ble_eq_true rfl) rfl rfl ?_
  refine zi_if_eq K 28 (dX8_scenarioAt 8 rfl) rfl (fun h14_0 => ?_) (fun h14_0 => ?_)
  rotate_left
  · exact absurd (isOut_ok hi (zL_b h3)) h14_0
  refine zi_aload_n K (dX8_scenarioAt 14 rfl) 0 rfl ?_
  refine zg_O_scenarios K rfl w_197 (dX8_scenarioAt 15 rfl) ?_
  refine zi_iload_n K (dX8_scenarioAt 16 rfl) 1 rfl ?_
  refine zi_callV K (na := 1) [] [.ref (ad 9 (lx σ 3 i))] (c_getK (σ := σ) 3 i (lx σ 3 i) 9 rfl (zL_ok h3) hi (zL_x h3 hi)) (dX8_scenarioAt 17 rfl) w_309 w_310 w_311 w_28 w_312 (by decide +kernel) rfl (fun H h => zrecv_LST K (zL_ok h3).1 h) (fun H h => h) ⟨Nat.le_of_ble_eq_true rfl, Nat.le_of_ble_eq_true rfl⟩ ⟨Nat.le_refl _, Nat.le_refl _⟩ (Nat.le_of_ble_eq_true rfl) rfl rfl ?_
  refine zi_cast K (fun H h => (zr_SC (σ := σ) (zL_lv h3 hi rfl) H h).1) rfl w_597 (dX8_scenarioAt 18 rfl) ?_
  exact zi_aret K E (dX8_scenarioAt 19 rfl) (Nat.le_refl _) (Nat.le_refl _) rfl (Or.inl ⟨_, rfl⟩) (fun _ h => h)
set_option maxRecDepth 100000 in
set_option maxHeartbeats 4000000 in
theorem c_checkRe {G : zG} {ad : Nat → Nat → Nat} {σ : zSt} (i : Nat) (hi : i < 5) : zC G yX8_checkReinsurer cX8_checkReinsurer 1 none 1 22 0 0 [.int (nI i)] (zP G ad σ) none (zP G ad σ) := by
  refine zC_of (by decide) (Nat.le_of_ble_eq_true rfl) (fun X K E hnm => ?_)
  show zV G X 1 (zP G ad σ) 0 0 0 [(0, .int (nI i))] []
  refine zi_iload_n K (dX8_checkReinsurer 0 rfl) 0 rfl ?_
  refine zi_iconst K (dX8_checkReinsurer 1 rfl) zk_i0 ?_
  refine zi_iconst K (dX8_checkReinsurer 2 rfl) zk_i4 ?_
  refine zi_callS K (na := 3) (As := [.int (nI i), .int 0, .int 4]) [] [.int (v_isOut σ (nI i) 0 4)] (c_isOut  (nI i) 0 4) (dX8_checkReinsurer 3 rfl) w_234 w_235 w_25 w_236 (by decide +kernel) rfl (fun H h => h) ⟨Nat.le_of_ble_eq_true rfl, Nat.le_of_ble_eq_true rfl⟩ ⟨Nat.le_refl _, Nat.le_refl _⟩ (Nat.le_of_ble_eq_true rfl) rfl rfl ?_
  refine zi_if_eq K 20 (dX8_checkReinsurer 4 rfl) rfl (fun h6_0 => ?_) (fun h6_0 => ?_)
  rotate_left
  · exact absurd (isOut_5 hi) h6_0
  exact zi_vret K E (dX8_checkReinsurer 10 rfl) (Nat.le_refl _) (Nat.le_refl _) rfl (fun _ h => h)
set_option maxRecDepth 100000 in
set_option maxHeartbeats 4000000 in
theorem c_hasEvents {G : zG} {ad : Nat → Nat → Nat} {σ : zSt} (t : Nat) (ht : t < sN σ 2) (he : sI σ 8 t 0 = 101) : zC G yX8_checkHasEvents cX8_checkHasEvents 1 none 0 0 0 0 [.ref (ad 5 t)] (zP G ad σ) none (zP G ad σ) := by
  refine zC_of (by decide) (Nat.le_of_ble_eq_true rfl) (fun X K E hnm => ?_)
  show zV G X 1 (zP G ad σ) 0 0 0 [(0, .ref (ad 5 t))] []
  refine zi_aload_n K (dX8_checkHasEvents 0 rfl) 0 rfl ?_
  refine zg_TR_kind K ht w_1097 (dX8_checkHasEvents 1 rfl) ?_
  refine zi_bipush K (dX8_checkHasEvents 2 rfl) zk_b101 ?_
  refine zi_icmp_eq K 20 (dX8_checkHasEvents 3 rfl) rfl (fun h6_0 => ?_) (fun h6_0 => ?_)
  rotate_left
  · exact absurd he h6_0
  exact zi_vret K E (dX8_checkHasEvents 9 rfl) (Nat.le_refl _) (Nat.le_refl _) rfl (fun _ h => h)
def v_losses (σ : zSt)  : Int32 := nI (sZ σ 1)
set_option maxRecDepth 100000 in
set_option maxHeartbeats 4000000 in
theorem c_losses {G : zG} {ad : Nat → Nat → Nat} {σ : zSt}  (h1 : zLW σ 1) : zC G yX8_losses cX8_losses 1 (some FieldType.int) 1 20 0 0 [.ref (ad 0 0)] (zP G ad σ) (some (.int (v_losses σ ))) (zP G ad σ) := by
  refine zC_of (by decide) (Nat.le_of_ble_eq_true rfl) (fun X K E hnm => ?_)
  show zV G X 1 (zP G ad σ) 0 0 0 [(0, .ref (ad 0 0))] []
  refine zi_aload_n K (dX8_losses 0 rfl) 0 rfl ?_
  refine zg_O_claims K rfl w_195 (dX8_losses 1 rfl) ?_
  refine zi_callV K (na := 0) [] [.int (nI (sZ σ 1))] (c_sizeN (σ := σ) 1 (sZ σ 1) (zL_ok h1).1 rfl) (dX8_losses 2 rfl) w_230 w_231 w_232 w_28 w_233 (by decide +kernel) rfl (fun H h => zrecv_LST K (zL_ok h1).1 h) (fun H h => h) ⟨Nat.le_of_ble_eq_true rfl, Nat.le_of_ble_eq_true rfl⟩ ⟨Nat.le_refl _, Nat.le_refl _⟩ (Nat.le_of_ble_eq_true rfl) rfl rfl ?_
  exact zi_iret K E (dX8_losses 3 rfl) (Nat.le_refl _) (Nat.le_refl _) rfl (fun _ h => h)
def v_allLosses (σ : zSt)  : Int64 := zsumL (fun y => (sI σ 6 (lx σ 1 y) 0).toInt64) (sZ σ 1)
set_option maxRecDepth 100000 in
set_option maxHeartbeats 4000000 in
theorem c_allLosses {G : zG} {ad : Nat → Nat → Nat} {σ : zSt}  (h1 : zLW σ 1) : zC G yX8_allLosses cX8_allLosses 4 (some FieldType.long) 3 64 0 0 [.ref (ad 0 0)] (zP G ad σ) (some (.long (v_allLosses σ ))) (zP G ad σ) := by
  refine zC_of (by decide) (Nat.le_of_ble_eq_true rfl) (fun X K E hnm => ?_)
  show zV G X 4 (zP G ad σ) 0 0 0 [(0, .ref (ad 0 0))] []
  refine zi_lconst K (dX8_allLosses 0 rfl) zk_l0 ?_
  refine zi_lstore_n K [(1, .long 0), (0, .ref (ad 0 0))] (dX8_allLosses 1 rfl) (by decide) rfl ?_
  refine zi_iconst K (dX8_allLosses 2 rfl) zk_i0 ?_
  refine zi_istore_n K [(3, .int 0), (1, .long 0), (0, .ref (ad 0 0))] (dX8_allLosses 3 rfl) (by decide) rfl ?_
  refine zV.pick [2, 1, 0] (lo' := [(0, .ref (ad 0 0)), (1, .long 0), (3, .int 0)]) rfl ?_
  suffices hloop4 : ∀ (r i : Nat), i ≤ sZ σ 1 → sZ σ 1 - i < r → zV G X 4 (zP G ad σ) (0) (0) 4 [(0, .ref (ad 0 0)), (1, .long (zsumL (fun y => (sI σ 6 (lx σ 1 y) 0).toInt64) i)), (3, .int (nI i))] [] from hloop4 (sZ σ 1 + 1) 0 (Nat.zero_le _) (Nat.lt_succ_of_le (Nat.sub_le _ _))
  intro r
  induction r with
  | zero => intro i _ h; exact absurd h (Nat.not_lt_zero _)
  | succ r ih4 =>
    intro i hi4 hr4
    refine zi_iload_n K (dX8_allLosses 4 rfl) 2 rfl ?_
    refine zi_aload_n K (dX8_allLosses 5 rfl) 0 rfl ?_
    refine zg_O_claims K rfl w_195 (dX8_allLosses 6 rfl) ?_
    refine zi_callV K (na := 0) [.int (nI i)] [.int (nI (sZ σ 1)), .int (nI i)] (c_sizeN (σ := σ) 1 (sZ σ 1) (zL_ok h1).1 rfl) (dX8_allLosses 7 rfl) w_230 w_231 w_232 w_28 w_233 (by decide +kernel) rfl (fun H h => zrecv_LST K (zL_ok h1).1 h) (fun H h => h) ⟨Nat.le_of_ble_eq_true rfl, Nat.le_of_ble_eq_true rfl⟩ ⟨Nat.le_refl _, Nat.le_refl _⟩ (Nat.le_of_ble_eq_true rfl) rfl rfl ?_
    refine zi_icmp_ge K 39 (dX8_allLosses 8 rfl) rfl (fun h12_0 => ?_) (fun h12_0 => ?_)
    · skip
      have hN4 := zloop_exit rfl (zL_b h1) hi4 h12_0
      subst hN4
      refine zi_lload_n K (dX8_allLosses 21 rfl) 1 rfl ?_
      exact zi_lret K E (dX8_allLosses 22 rfl) (Nat.le_refl _) (Nat.le_refl _) rfl (fun _ h => h)
    · skip
      have hlt4 := zloop_in rfl (zL_b h1) hi4 h12_0
      refine zi_lload_n K (dX8_allLosses 9 rfl) 1 rfl ?_
      refine zi_aload_n K (dX8_allLosses 10 rfl) 0 rfl ?_
      refine zg_O_claims K rfl w_195 (dX8_allLosses 11 rfl) ?_
      refine zi_iload_n K (dX8_allLosses 12 rfl) 2 rfl ?_
      refine zi_callV K (na := 1) [.long (zsumL (fun y => (sI σ 6 (lx σ 1 y) 0).toInt64) i)] [.ref (ad 2 (lx σ 1 i)), .long (zsumL (fun y => (sI σ 6 (lx σ 1 y) 0).toInt64) i)] (c_getK (σ := σ) 1 i (lx σ 1 i) 2 rfl (zL_ok h1) hlt4 (zL_x h1 hlt4)) (dX8_allLosses 13 rfl) w_309 w_310 w_311 w_28 w_312 (by decide +kernel) rfl (fun H h => zrecv_LST K (zL_ok h1).1 h) (fun H h => h) ⟨Nat.le_of_ble_eq_true rfl, Nat.le_of_ble_eq_true rfl⟩ ⟨Nat.le_refl _, Nat.le_refl _⟩ (Nat.le_of_ble_eq_true rfl) rfl rfl ?_
      refine zi_cast K (fun H h => (zr_CL (σ := σ) (zL_lv h1 hlt4 rfl) H h).1) rfl w_603 (dX8_allLosses 14 rfl) ?_
      refine zg_CL_amount K (zL_lv h1 hlt4 rfl) w_753 (dX8_allLosses 15 rfl) ?_
      refine zi_i2l K (dX8_allLosses 16 rfl) ?_
      refine zi_ladd K (dX8_allLosses 17 rfl) ?_
      refine zi_lstore_n K [(1, .long ((zsumL (fun y => (sI σ 6 (lx σ 1 y) 0).toInt64) i) + ((sI σ 6 (lx σ 1 i) 0).toInt64))), (0, .ref (ad 0 0)), (3, .int (nI i))] (dX8_allLosses 18 rfl) (by decide) rfl ?_
      refine zi_iinc K (v := nI (i + 1)) [(3, .int (nI (i + 1))), (1, .long ((zsumL (fun y => (sI σ 6 (lx σ 1 y) 0).toInt64) i) + ((sI σ 6 (lx σ 1 i) 0).toInt64))), (0, .ref (ad 0 0))] (dX8_allLosses 19 rfl) 2 rfl (zk_inc _) (by decide) rfl ?_
      refine zi_goto K 4 (dX8_allLosses 20 rfl) rfl ?_
      refine zV.pick [2, 1, 0] (lo' := [(0, .ref (ad 0 0)), (1, .long ((zsumL (fun y => (sI σ 6 (lx σ 1 y) 0).toInt64) i) + ((sI σ 6 (lx σ 1 i) 0).toInt64))), (3, .int (nI (i + 1)))]) rfl ?_
      refine zV.lov (lo' := [(0, .ref (ad 0 0)), (1, .long (zsumL (fun y => (sI σ 6 (lx σ 1 y) 0).toInt64) (i + 1))), (3, .int (nI (i + 1)))]) (by first | rfl | (simp only [zsumL])) ?_
      exact ih4 (i + 1) (by omega) (by omega)
/-- the weights of the scenarios with a greater net -/
def zwt (σ : zSt) (net : Int64) : Nat → Int32
  | 0 => 0
  | i + 1 => if net < sL σ 6 (lx σ 3 i) 0 then zwt σ net i + sI σ 24 (lx σ 3 i) 0 else zwt σ net i
def v_weightAbove (σ : zSt) (net : Int64) : Int32 := zwt σ net (sZ σ 3)
set_option maxRecDepth 100000 in
set_option maxHeartbeats 4000000 in
theorem c_weightAbove {G : zG} {ad : Nat → Nat → Nat} {σ : zSt} (net : Int64) (h3 : zLW σ 3) : zC G yX8_weightAbove cX8_weightAbove 5 (some FieldType.int) 3 64 0 0 [.ref (ad 0 0), .long net] (zP G ad σ) (some (.int (v_weightAbove σ net))) (zP G ad σ) := by
  refine zC_of (by decide) (Nat.le_of_ble_eq_true rfl) (fun X K E hnm => ?_)
  show zV G X 5 (zP G ad σ) 0 0 0 [(0, .ref (ad 0 0)), (1, .long net)] []
  refine zi_iconst K (dX8_weightAbove 0 rfl) zk_i0 ?_
  refine zi_istore_n K [(3, .int 0), (0, .ref (ad 0 0)), (1, .long net)] (dX8_weightAbove 1 rfl) (by decide) rfl ?_
  refine zi_iconst K (dX8_weightAbove 2 rfl) zk_i0 ?_
  refine zi_istore K [(4, .int 0), (3, .int 0), (0, .ref (ad 0 0)), (1, .long net)] (dX8_weightAbove 3 rfl) (by decide) rfl ?_
  refine zV.pick [2, 3, 1, 0] (lo' := [(0, .ref (ad 0 0)), (1, .long net), (3, .int 0), (4, .int 0)]) rfl ?_
  suffices hloop5 : ∀ (r i : Nat), i ≤ sZ σ 3 → sZ σ 3 - i < r → zV G X 5 (zP G ad σ) (0) (0) 5 [(0, .ref (ad 0 0)), (1, .long net), (3, .int (zwt σ net i)), (4, .int (nI i))] [] from hloop5 (sZ σ 3 + 1) 0 (Nat.zero_le _) (Nat.lt_succ_of_le (Nat.sub_le _ _))
  intro r
  induction r with
  | zero => intro i _ h; exact absurd h (Nat.not_lt_zero _)
  | succ r ih5 =>
    intro i hi5 hr5
    refine zi_iload K (dX8_weightAbove 4 rfl) 3 rfl ?_
    refine zi_aload_n K (dX8_weightAbove 5 rfl) 0 rfl ?_
    refine zg_O_scenarios K rfl w_197 (dX8_weightAbove 6 rfl) ?_
    refine zi_callV K (na := 0) [.int (nI i)] [.int (nI (sZ σ 3)), .int (nI i)] (c_sizeN (σ := σ) 3 (sZ σ 3) (zL_ok h3).1 rfl) (dX8_weightAbove 7 rfl) w_230 w_231 w_232 w_28 w_233 (by decide +kernel) rfl (fun H h => zrecv_LST K (zL_ok h3).1 h) (fun H h => h) ⟨Nat.le_of_ble_eq_true rfl, Nat.le_of_ble_eq_true rfl⟩ ⟨Nat.le_refl _, Nat.le_refl _⟩ (Nat.le_of_ble_eq_true rfl) rfl rfl ?_
    refine zi_icmp_ge K 61 (dX8_weightAbove 8 rfl) rfl (fun h14_0 => ?_) (fun h14_0 => ?_)
    · skip
      have hN5 := zloop_exit rfl (zL_b h3) hi5 h14_0
      subst hN5
      refine zi_iload_n K (dX8_weightAbove 29 rfl) 2 rfl ?_
      exact zi_iret K E (dX8_weightAbove 30 rfl) (Nat.le_refl _) (Nat.le_refl _) rfl (fun _ h => h)
    · skip
      have hlt5 := zloop_in rfl (zL_b h3) hi5 h14_0
      refine zi_aload_n K (dX8_weightAbove 9 rfl) 0 rfl ?_
      refine zg_O_scenarios K rfl w_197 (dX8_weightAbove 10 rfl) ?_
      refine zi_iload K (dX8_weightAbove 11 rfl) 3 rfl ?_
      refine zi_callV K (na := 1) [] [.ref (ad 9 (lx σ 3 i))] (c_getK (σ := σ) 3 i (lx σ 3 i) 9 rfl (zL_ok h3) hlt5 (zL_x h3 hlt5)) (dX8_weightAbove 12 rfl) w_309 w_310 w_311 w_28 w_312 (by decide +kernel) rfl (fun H h => zrecv_LST K (zL_ok h3).1 h) (fun H h => h) ⟨Nat.le_of_ble_eq_true rfl, Nat.le_of_ble_eq_true rfl⟩ ⟨Nat.le_refl _, Nat.le_refl _⟩ (Nat.le_of_ble_eq_true rfl) rfl rfl ?_
      refine zi_cast K (fun H h => (zr_SC (σ := σ) (zL_lv h3 hlt5 rfl) H h).1) rfl w_597 (dX8_weightAbove 13 rfl) ?_
      refine zg_SC_net K (zL_lv h3 hlt5 rfl) w_1321 (dX8_weightAbove 14 rfl) ?_
      refine zi_lload_n K (dX8_weightAbove 15 rfl) 1 rfl ?_
      refine zi_lif_le K 55 (dX8_weightAbove 16 rfl) (dX8_weightAbove 17 rfl) rfl (fun h33_0 => ?_) (fun h33_0 => ?_)
      · skip
        refine zi_iinc K (v := nI (i + 1)) [(4, .int (nI (i + 1))), (0, .ref (ad 0 0)), (1, .long net), (3, .int (zwt σ net i))] (dX8_weightAbove 27 rfl) 3 rfl (zk_inc _) (by decide) rfl ?_
        refine zi_goto K 5 (dX8_weightAbove 28 rfl) rfl ?_
        refine zV.pick [1, 2, 3, 0] (lo' := [(0, .ref (ad 0 0)), (1, .long net), (3, .int (zwt σ net i)), (4, .int (nI (i + 1)))]) rfl ?_
        refine zV.lov (lo' := [(0, .ref (ad 0 0)), (1, .long net), (3, .int (zwt σ net (i + 1))), (4, .int (nI (i + 1)))]) (by simp only [zwt, if_neg h33_0]) ?_
        exact ih5 (i + 1) (by omega) (by omega)
      · skip
        refine zi_iload_n K (dX8_weightAbove 18 rfl) 2 rfl ?_
        refine zi_aload_n K (dX8_weightAbove 19 rfl) 0 rfl ?_
        refine zg_O_scenarios K rfl w_197 (dX8_weightAbove 20 rfl) ?_
        refine zi_iload K (dX8_weightAbove 21 rfl) 3 rfl ?_
        refine zi_callV K (na := 1) [.int (zwt σ net i)] [.ref (ad 9 (lx σ 3 i)), .int (zwt σ net i)] (c_getK (σ := σ) 3 i (lx σ 3 i) 9 rfl (zL_ok h3) hlt5 (zL_x h3 hlt5)) (dX8_weightAbove 22 rfl) w_309 w_310 w_311 w_28 w_312 (by decide +kernel) rfl (fun H h => zrecv_LST K (zL_ok h3).1 h) (fun H h => h) ⟨Nat.le_of_ble_eq_true rfl, Nat.le_of_ble_eq_true rfl⟩ ⟨Nat.le_refl _, Nat.le_refl _⟩ (Nat.le_of_ble_eq_true rfl) rfl rfl ?_
        refine zi_cast K (fun H h => (zr_SC (σ := σ) (zL_lv h3 hlt5 rfl) H h).1) rfl w_597 (dX8_weightAbove 23 rfl) ?_
        refine zg_SC_weight K (zL_lv h3 hlt5 rfl) w_1317 (dX8_weightAbove 24 rfl) ?_
        refine zi_iadd K (dX8_weightAbove 25 rfl) ?_
        refine zi_istore_n K [(3, .int ((zwt σ net i) + (sI σ 24 (lx σ 3 i) 0))), (0, .ref (ad 0 0)), (1, .long net), (4, .int (nI i))] (dX8_weightAbove 26 rfl) (by decide) rfl ?_
        refine zi_iinc K (v := nI (i + 1)) [(4, .int (nI (i + 1))), (3, .int ((zwt σ net i) + (sI σ 24 (lx σ 3 i) 0))), (0, .ref (ad 0 0)), (1, .long net)] (dX8_weightAbove 27 rfl) 3 rfl (zk_inc _) (by decide) rfl ?_
        refine zi_goto K 5 (dX8_weightAbove 28 rfl) rfl ?_
        refine zV.pick [2, 3, 1, 0] (lo' := [(0, .ref (ad 0 0)), (1, .long net), (3, .int ((zwt σ net i) + (sI σ 24 (lx σ 3 i) 0))), (4, .int (nI (i + 1)))]) rfl ?_
        refine zV.lov (lo' := [(0, .ref (ad 0 0)), (1, .long net), (3, .int (zwt σ net (i + 1))), (4, .int (nI (i + 1)))]) (by simp only [zwt, if_pos h33_0]) ?_
        exact ih5 (i + 1) (by omega) (by omega)
