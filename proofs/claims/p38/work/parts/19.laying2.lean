/-! Integer.bitCount; Laying.laidCuts, isBestOfAll -/
def v_bitCount (σ : zSt) (x : Int32) : Int32 := (((((((x - ((((x : Int32).toUInt32 >>> ((1 : Int32).toUInt32 &&& Int32.toUInt32 31)).toInt32) &&& 1431655765)) &&& 858993459) + ((((x - ((((x : Int32).toUInt32 >>> ((1 : Int32).toUInt32 &&& Int32.toUInt32 31)).toInt32) &&& 1431655765) : Int32).toUInt32 >>> ((2 : Int32).toUInt32 &&& Int32.toUInt32 31)).toInt32) &&& 858993459)) + (((((x - ((((x : Int32).toUInt32 >>> ((1 : Int32).toUInt32 &&& Int32.toUInt32 31)).toInt32) &&& 1431655765)) &&& 858993459) + ((((x - ((((x : Int32).toUInt32 >>> ((1 : Int32).toUInt32 &&& Int32.toUInt32 31)).toInt32) &&& 1431655765) : Int32).toUInt32 >>> ((2 : Int32).toUInt32 &&& Int32.toUInt32 31)).toInt32) &&& 858993459) : Int32).toUInt32 >>> ((4 : Int32).toUInt32 &&& Int32.toUInt32 31)).toInt32)) &&& 252645135) + (((((((x - ((((x : Int32).toUInt32 >>> ((1 : Int32).toUInt32 &&& Int32.toUInt32 31)).toInt32) &&& 1431655765)) &&& 858993459) + ((((x - ((((x : Int32).toUInt32 >>> ((1 : Int32).toUInt32 &&& Int32.toUInt32 31)).toInt32) &&& 1431655765) : Int32).toUInt32 >>> ((2 : Int32).toUInt32 &&& Int32.toUInt32 31)).toInt32) &&& 858993459)) + (((((x - ((((x : Int32).toUInt32 >>> ((1 : Int32).toUInt32 &&& Int32.toUInt32 31)).toInt32) &&& 1431655765)) &&& 858993459) + ((((x - ((((x : Int32).toUInt32 >>> ((1 : Int32).toUInt32 &&& Int32.toUInt32 31)).toInt32) &&& 1431655765) : Int32).toUInt32 >>> ((2 : Int32).toUInt32 &&& Int32.toUInt32 31)).toInt32) &&& 858993459) : Int32).toUInt32 >>> ((4 : Int32).toUInt32 &&& Int32.toUInt32 31)).toInt32)) &&& 252645135 : Int32).toUInt32 >>> ((8 : Int32).toUInt32 &&& Int32.toUInt32 31)).toInt32)) + ((((((((x - ((((x : Int32).toUInt32 >>> ((1 : Int32).toUInt32 &&& Int32.toUInt32 31)).toInt32) &&& 1431655765)) &&& 858993459) + ((((x - ((((x : Int32).toUInt32 >>> ((1 : Int32).toUInt32 &&& Int32.toUInt32 31)).toInt32) &&& 1431655765) : Int32).toUInt32 >>> ((2 : Int32).toUInt32 &&& Int32.toUInt32 31)).toInt32) &&& 858993459)) + (((((x - ((((x : Int32).toUInt32 >>> ((1 : Int32).toUInt32 &&& Int32.toUInt32 31)).toInt32) &&& 1431655765)) &&& 858993459) + ((((x - ((((x : Int32).toUInt32 >>> ((1 : Int32).toUInt32 &&& Int32.toUInt32 31)).toInt32) &&& 1431655765) : Int32).toUInt32 >>> ((2 : Int32).toUInt32 &&& Int32.toUInt32 31)).toInt32) &&& 858993459) : Int32).toUInt32 >>> ((4 : Int32).toUInt32 &&& Int32.toUInt32 31)).toInt32)) &&& 252645135) + (((((((x - ((((x : Int32).toUInt32 >>> ((1 : Int32).toUInt32 &&& Int32.toUInt32 31)).toInt32) &&& 1431655765)) &&& 858993459) + ((((x - ((((x : Int32).toUInt32 >>> ((1 : Int32).toUInt32 &&& Int32.toUInt32 31)).toInt32) &&& 1431655765) : Int32).toUInt32 >>> ((2 : Int32).toUInt32 &&& Int32.toUInt32 31)).toInt32) &&& 858993459)) + (((((x - ((((x : Int32).toUInt32 >>> ((1 : Int32).toUInt32 &&& Int32.toUInt32 31)).toInt32) &&& 1431655765)) &&& 858993459) + ((((x - ((((x : Int32).toUInt32 >>> ((1 : Int32).toUInt32 &&& Int32.toUInt32 31)).toInt32) &&& 1431655765) : Int32).toUInt32 >>> ((2 : Int32).toUInt32 &&& Int32.toUInt32 31)).toInt32) &&& 858993459) : Int32).toUInt32 >>> ((4 : Int32).toUInt32 &&& Int32.toUInt32 31)).toInt32)) &&& 252645135 : Int32).toUInt32 >>> ((8 : Int32).toUInt32 &&& Int32.toUInt32 31)).toInt32) : Int32).toUInt32 >>> ((16 : Int32).toUInt32 &&& Int32.toUInt32 31)).toInt32)) &&& 63
set_option maxRecDepth 100000 in
set_option maxHeartbeats 4000000 in
theorem c_bitCount {G : zG} {ad : Nat → Nat → Nat} {σ : zSt} (x : Int32)  : zC G yJ6_bitCount_0f7a4 cJ6_bitCount_0f7a4 1 (some FieldType.int) 0 0 0 0 [.int x] (zP G ad σ) (some (.int (v_bitCount σ x))) (zP G ad σ) := by
  refine zC_of (by decide) (Nat.le_of_ble_eq_true rfl) (fun X K E hnm => ?_)
  show zV G X 1 (zP G ad σ) 0 0 0 [(0, .int x)] []
  refine zi_iload_n K (dJ6_bitCount_0f7a4 0 rfl) 0 rfl ?_
  refine zi_iload_n K (dJ6_bitCount_0f7a4 1 rfl) 0 rfl ?_
  refine zi_iconst K (dJ6_bitCount_0f7a4 2 rfl) zk_i1 ?_
  refine zi_iushr K (dJ6_bitCount_0f7a4 3 rfl) rfl ?_
  refine zi_ldcw K (dJ6_bitCount_0f7a4 4 rfl) w_518 ?_
  refine zi_iand K (dJ6_bitCount_0f7a4 5 rfl) ?_
  refine zi_isub K (dJ6_bitCount_0f7a4 6 rfl) ?_
  refine zi_istore_n K [(0, .int (x - ((((x : Int32).toUInt32 >>> ((1 : Int32).toUInt32 &&& Int32.toUInt32 31)).toInt32) &&& 1431655765)))] (dJ6_bitCount_0f7a4 7 rfl) (by decide) rfl ?_
  refine zi_iload_n K (dJ6_bitCount_0f7a4 8 rfl) 0 rfl ?_
  refine zi_ldcw K (dJ6_bitCount_0f7a4 9 rfl) w_519 ?_
  refine zi_iand K (dJ6_bitCount_0f7a4 10 rfl) ?_
  refine zi_iload_n K (dJ6_bitCount_0f7a4 11 rfl) 0 rfl ?_
  refine zi_iconst K (dJ6_bitCount_0f7a4 12 rfl) zk_i2 ?_
  refine zi_iushr K (dJ6_bitCount_0f7a4 13 rfl) rfl ?_
  refine zi_ldcw K (dJ6_bitCount_0f7a4 14 rfl) w_519 ?_
  refine zi_iand K (dJ6_bitCount_0f7a4 15 rfl) ?_
  refine zi_iadd K (dJ6_bitCount_0f7a4 16 rfl) ?_
  refine zi_istore_n K [(0, .int (((x - ((((x : Int32).toUInt32 >>> ((1 : Int32).toUInt32 &&& Int32.toUInt32 31)).toInt32) &&& 1431655765)) &&& 858993459) + ((((x - ((((x : Int32).toUInt32 >>> ((1 : Int32).toUInt32 &&& Int32.toUInt32 31)).toInt32) &&& 1431655765) : Int32).toUInt32 >>> ((2 : Int32).toUInt32 &&& Int32.toUInt32 31)).toInt32) &&& 858993459)))] (dJ6_bitCount_0f7a4 17 rfl) (by decide) rfl ?_
  refine zi_iload_n K (dJ6_bitCount_0f7a4 18 rfl) 0 rfl ?_
  refine zi_iload_n K (dJ6_bitCount_0f7a4 19 rfl) 0 rfl ?_
  refine zi_iconst K (dJ6_bitCount_0f7a4 20 rfl) zk_i4 ?_
  refine zi_iushr K (dJ6_bitCount_0f7a4 21 rfl) rfl ?_
  refine zi_iadd K (dJ6_bitCount_0f7a4 22 rfl) ?_
  refine zi_ldcw K (dJ6_bitCount_0f7a4 23 rfl) w_520 ?_
  refine zi_iand K (dJ6_bitCount_0f7a4 24 rfl) ?_
  refine zi_istore_n K [(0, .int (((((x - ((((x : Int32).toUInt32 >>> ((1 : Int32).toUInt32 &&& Int32.toUInt32 31)).toInt32) &&& 1431655765)) &&& 858993459) + ((((x - ((((x : Int32).toUInt32 >>> ((1 : Int32).toUInt32 &&& Int32.toUInt32 31)).toInt32) &&& 1431655765) : Int32).toUInt32 >>> ((2 : Int32).toUInt32 &&& Int32.toUInt32 31)).toInt32) &&& 858993459)) + (((((x - ((((x : Int32).toUInt32 >>> ((1 : Int32).toUInt32 &&& Int32.toUInt32 31)).toInt32) &&& 1431655765)) &&& 858993459) + ((((x - ((((x : Int32).toUInt32 >>> ((1 : Int32).toUInt32 &&& Int32.toUInt32 31)).toInt32) &&& 1431655765) : Int32).toUInt32 >>> ((2 : Int32).toUInt32 &&& Int32.toUInt32 31)).toInt32) &&& 858993459) : Int32).toUInt32 >>> ((4 : Int32).toUInt32 &&& Int32.toUInt32 31)).toInt32)) &&& 252645135))] (dJ6_bitCount_0f7a4 25 rfl) (by decide) rfl ?_
  refine zi_iload_n K (dJ6_bitCount_0f7a4 26 rfl) 0 rfl ?_
  refine zi_iload_n K (dJ6_bitCount_0f7a4 27 rfl) 0 rfl ?_
  refine zi_bipush K (dJ6_bitCount_0f7a4 28 rfl) zk_b8 ?_
  refine zi_iushr K (dJ6_bitCount_0f7a4 29 rfl) rfl ?_
  refine zi_iadd K (dJ6_bitCount_0f7a4 30 rfl) ?_
  refine zi_istore_n K [(0, .int ((((((x - ((((x : Int32).toUInt32 >>> ((1 : Int32).toUInt32 &&& Int32.toUInt32 31)).toInt32) &&& 1431655765)) &&& 858993459) + ((((x - ((((x : Int32).toUInt32 >>> ((1 : Int32).toUInt32 &&& Int32.toUInt32 31)).toInt32) &&& 1431655765) : Int32).toUInt32 >>> ((2 : Int32).toUInt32 &&& Int32.toUInt32 31)).toInt32) &&& 858993459)) + (((((x - ((((x : Int32).toUInt32 >>> ((1 : Int32).toUInt32 &&& Int32.toUInt32 31)).toInt32) &&& 1431655765)) &&& 858993459) + ((((x - ((((x : Int32).toUInt32 >>> ((1 : Int32).toUInt32 &&& Int32.toUInt32 31)).toInt32) &&& 1431655765) : Int32).toUInt32 >>> ((2 : Int32).toUInt32 &&& Int32.toUInt32 31)).toInt32) &&& 858993459) : Int32).toUInt32 >>> ((4 : Int32).toUInt32 &&& Int32.toUInt32 31)).toInt32)) &&& 252645135) + (((((((x - ((((x : Int32).toUInt32 >>> ((1 : Int32).toUInt32 &&& Int32.toUInt32 31)).toInt32) &&& 1431655765)) &&& 858993459) + ((((x - ((((x : Int32).toUInt32 >>> ((1 : Int32).toUInt32 &&& Int32.toUInt32 31)).toInt32) &&& 1431655765) : Int32).toUInt32 >>> ((2 : Int32).toUInt32 &&& Int32.toUInt32 31)).toInt32) &&& 858993459)) + (((((x - ((((x : Int32).toUInt32 >>> ((1 : Int32).toUInt32 &&& Int32.toUInt32 31)).toInt32) &&& 1431655765)) &&& 858993459) + ((((x - ((((x : Int32).toUInt32 >>> ((1 : Int32).toUInt32 &&& Int32.toUInt32 31)).toInt32) &&& 1431655765) : Int32).toUInt32 >>> ((2 : Int32).toUInt32 &&& Int32.toUInt32 31)).toInt32) &&& 858993459) : Int32).toUInt32 >>> ((4 : Int32).toUInt32 &&& Int32.toUInt32 31)).toInt32)) &&& 252645135 : Int32).toUInt32 >>> ((8 : Int32).toUInt32 &&& Int32.toUInt32 31)).toInt32)))] (dJ6_bitCount_0f7a4 31 rfl) (by decide) rfl ?_
  refine zi_iload_n K (dJ6_bitCount_0f7a4 32 rfl) 0 rfl ?_
  refine zi_iload_n K (dJ6_bitCount_0f7a4 33 rfl) 0 rfl ?_
  refine zi_bipush K (dJ6_bitCount_0f7a4 34 rfl) zk_b16 ?_
  refine zi_iushr K (dJ6_bitCount_0f7a4 35 rfl) rfl ?_
  refine zi_iadd K (dJ6_bitCount_0f7a4 36 rfl) ?_
  refine zi_istore_n K [(0, .int (((((((x - ((((x : Int32).toUInt32 >>> ((1 : Int32).toUInt32 &&& Int32.toUInt32 31)).toInt32) &&& 1431655765)) &&& 858993459) + ((((x - ((((x : Int32).toUInt32 >>> ((1 : Int32).toUInt32 &&& Int32.toUInt32 31)).toInt32) &&& 1431655765) : Int32).toUInt32 >>> ((2 : Int32).toUInt32 &&& Int32.toUInt32 31)).toInt32) &&& 858993459)) + (((((x - ((((x : Int32).toUInt32 >>> ((1 : Int32).toUInt32 &&& Int32.toUInt32 31)).toInt32) &&& 1431655765)) &&& 858993459) + ((((x - ((((x : Int32).toUInt32 >>> ((1 : Int32).toUInt32 &&& Int32.toUInt32 31)).toInt32) &&& 1431655765) : Int32).toUInt32 >>> ((2 : Int32).toUInt32 &&& Int32.toUInt32 31)).toInt32) &&& 858993459) : Int32).toUInt32 >>> ((4 : Int32).toUInt32 &&& Int32.toUInt32 31)).toInt32)) &&& 252645135) + (((((((x - ((((x : Int32).toUInt32 >>> ((1 : Int32).toUInt32 &&& Int32.toUInt32 31)).toInt32) &&& 1431655765)) &&& 858993459) + ((((x - ((((x : Int32).toUInt32 >>> ((1 : Int32).toUInt32 &&& Int32.toUInt32 31)).toInt32) &&& 1431655765) : Int32).toUInt32 >>> ((2 : Int32).toUInt32 &&& Int32.toUInt32 31)).toInt32) &&& 858993459)) + (((((x - ((((x : Int32).toUInt32 >>> ((1 : Int32).toUInt32 &&& Int32.toUInt32 31)).toInt32) &&& 1431655765)) &&& 858993459) + ((((x - ((((x : Int32).toUInt32 >>> ((1 : Int32).toUInt32 &&& Int32.toUInt32 31)).toInt32) &&& 1431655765) : Int32).toUInt32 >>> ((2 : Int32).toUInt32 &&& Int32.toUInt32 31)).toInt32) &&& 858993459) : Int32).toUInt32 >>> ((4 : Int32).toUInt32 &&& Int32.toUInt32 31)).toInt32)) &&& 252645135 : Int32).toUInt32 >>> ((8 : Int32).toUInt32 &&& Int32.toUInt32 31)).toInt32)) + ((((((((x - ((((x : Int32).toUInt32 >>> ((1 : Int32).toUInt32 &&& Int32.toUInt32 31)).toInt32) &&& 1431655765)) &&& 858993459) + ((((x - ((((x : Int32).toUInt32 >>> ((1 : Int32).toUInt32 &&& Int32.toUInt32 31)).toInt32) &&& 1431655765) : Int32).toUInt32 >>> ((2 : Int32).toUInt32 &&& Int32.toUInt32 31)).toInt32) &&& 858993459)) + (((((x - ((((x : Int32).toUInt32 >>> ((1 : Int32).toUInt32 &&& Int32.toUInt32 31)).toInt32) &&& 1431655765)) &&& 858993459) + ((((x - ((((x : Int32).toUInt32 >>> ((1 : Int32).toUInt32 &&& Int32.toUInt32 31)).toInt32) &&& 1431655765) : Int32).toUInt32 >>> ((2 : Int32).toUInt32 &&& Int32.toUInt32 31)).toInt32) &&& 858993459) : Int32).toUInt32 >>> ((4 : Int32).toUInt32 &&& Int32.toUInt32 31)).toInt32)) &&& 252645135) + (((((((x - ((((x : Int32).toUInt32 >>> ((1 : Int32).toUInt32 &&& Int32.toUInt32 31)).toInt32) &&& 1431655765)) &&& 858993459) + ((((x - ((((x : Int32).toUInt32 >>> ((1 : Int32).toUInt32 &&& Int32.toUInt32 31)).toInt32) &&& 1431655765) : Int32).toUInt32 >>> ((2 : Int32).toUInt32 &&& Int32.toUInt32 31)).toInt32) &&& 858993459)) + (((((x - ((((x : Int32).toUInt32 >>> ((1 : Int32).toUInt32 &&& Int32.toUInt32 31)).toInt32) &&& 1431655765)) &&& 858993459) + ((((x - ((((x : Int32).toUInt32 >>> ((1 : Int32).toUInt32 &&& Int32.toUInt32 31)).toInt32) &&& 1431655765) : Int32).toUInt32 >>> ((2 : Int32).toUInt32 &&& Int32.toUInt32 31)).toInt32) &&& 858993459) : Int32).toUInt32 >>> ((4 : Int32).toUInt32 &&& Int32.toUInt32 31)).toInt32)) &&& 252645135 : Int32).toUInt32 >>> ((8 : Int32).toUInt32 &&& Int32.toUInt32 31)).toInt32) : Int32).toUInt32 >>> ((16 : Int32).toUInt32 &&& Int32.toUInt32 31)).toInt32)))] (dJ6_bitCount_0f7a4 37 rfl) (by decide) rfl ?_
  refine zi_iload_n K (dJ6_bitCount_0f7a4 38 rfl) 0 rfl ?_
  refine zi_bipush K (dJ6_bitCount_0f7a4 39 rfl) zk_b63 ?_
  refine zi_iand K (dJ6_bitCount_0f7a4 40 rfl) ?_
  exact zi_iret K E (dJ6_bitCount_0f7a4 41 rfl) (Nat.le_refl _) (Nat.le_refl _) rfl (fun _ h => h)
def lv_laidCuts (σ : zSt) (b m : Nat) : Nat → Nat → Int32 → Int32 → Int32
  | 0, _, _, _ => 0
  | r + 1, p, cuts, fin => if (nI (m + 1)) - 1 ≤ nI p then cuts else if nI p ≤ fin then (if nI p = fin then lv_laidCuts σ b m r (p + 1) (cuts ||| (1 <<< ((((nI (m + 1)) - 2) - (nI p)) &&& 31))) fin else lv_laidCuts σ b m r (p + 1) cuts fin) else if nI p = sI σ 29 b p then lv_laidCuts σ b m r (p + 1) (cuts ||| (1 <<< ((((nI (m + 1)) - 2) - (nI p)) &&& 31))) (sI σ 29 b p) else lv_laidCuts σ b m r (p + 1) cuts (sI σ 29 b p)
def v_laidCuts (σ : zSt) (b m : Nat) : Int32 := lv_laidCuts σ b m (m + 1) 0 0 (-1)
set_option maxRecDepth 100000 in
set_option maxHeartbeats 4000000 in
theorem c_laidCuts {G : zG} {ad : Nat → Nat → Nat} {σ : zSt} (b m : Nat) (hb : b < 2) (hn : sI σ 27 b 0 = nI (m + 1)) (hm30 : m < 30) : zC G yX3_laidCuts cX3_laidCuts 4 (some FieldType.int) 0 0 0 0 [.ref (ad 12 b)] (zP G ad σ) (some (.int (v_laidCuts σ b m))) (zP G ad σ) := by
  refine zC_of (by decide) (Nat.le_of_ble_eq_true rfl) (fun X K E hnm => ?_)
  show zV G X 4 (zP G ad σ) 0 0 0 [(0, .ref (ad 12 b))] []
  refine zi_iconst K (dX3_laidCuts 0 rfl) zk_i0 ?_
  refine zi_istore_n K [(1, .int 0), (0, .ref (ad 12 b))] (dX3_laidCuts 1 rfl) (by decide) rfl ?_
  refine zi_iconst K (dX3_laidCuts 2 rfl) zk_im1 ?_
  refine zi_istore_n K [(2, .int (-1)), (1, .int 0), (0, .ref (ad 12 b))] (dX3_laidCuts 3 rfl) (by decide) rfl ?_
  refine zi_iconst K (dX3_laidCuts 4 rfl) zk_i0 ?_
  refine zi_istore_n K [(3, .int 0), (2, .int (-1)), (1, .int 0), (0, .ref (ad 12 b))] (dX3_laidCuts 5 rfl) (by decide) rfl ?_
  refine zV.pick [0, 2, 1, 3] (lo' := [(3, .int 0), (1, .int 0), (2, .int (-1)), (0, .ref (ad 12 b))]) rfl ?_
  suffices hlR : ∀ (r : Nat) (p : Nat) (cuts : Int32) (fin : Int32), p ≤ m → m - p < r → v_laidCuts σ b m = lv_laidCuts σ b m r p cuts fin → zV G X 4 (zP G ad σ) (0) (0) 6 [(3, .int (nI p)), (1, .int cuts), (2, .int fin), (0, .ref (ad 12 b))] [] from hlR (m + 1) 0 0 (-1) (Nat.zero_le _) (by omega) rfl
  intro r
  induction r with
  | zero => intro p cuts fin _ h; exact absurd h (Nat.not_lt_zero _)
  | succ r ihR =>
    intro p cuts fin hfR hmR hV
    refine zi_iload_n K (dX3_laidCuts 6 rfl) 0 rfl ?_
    refine zi_aload_n K (dX3_laidCuts 7 rfl) 3 rfl ?_
    refine zg_LAY_size K hb w_115 (dX3_laidCuts 8 rfl) ?_
    rw [show sI σ 27 b 0 = nI (m + 1) from hn]
    refine zi_iconst K (dX3_laidCuts 9 rfl) zk_i1 ?_
    refine zi_isub K (dX3_laidCuts 10 rfl) ?_
    refine zi_icmp_ge K 52 (dX3_laidCuts 11 rfl) rfl (fun h13_0 => ?_) (fun h13_0 => ?_)
    · skip
      refine zi_iload_n K (dX3_laidCuts 36 rfl) 1 rfl ?_
      exact zi_iret K E (dX3_laidCuts 37 rfl) (Nat.le_refl _) (Nat.le_refl _) (by rw [hV]; simp only [lv_laidCuts, if_pos h13_0]) (fun _ h => h)
    · skip
      refine zi_iload_n K (dX3_laidCuts 12 rfl) 0 rfl ?_
      refine zi_iload_n K (dX3_laidCuts 13 rfl) 2 rfl ?_
      refine zi_icmp_le K 28 (dX3_laidCuts 14 rfl) rfl (fun h18_1 => ?_) (fun h18_1 => ?_)
      · skip
        refine zi_iload_n K (dX3_laidCuts 20 rfl) 0 rfl ?_
        refine zi_iload_n K (dX3_laidCuts 21 rfl) 2 rfl ?_
        refine zi_icmp_ne K 46 (dX3_laidCuts 22 rfl) rfl (fun h30_2 => ?_) (fun h30_2 => ?_)
        · skip
          refine zi_iinc K (v := nI (p + 1)) [(3, .int (nI (p + 1))), (1, .int cuts), (2, .int fin), (0, .ref (ad 12 b))] (dX3_laidCuts 34 rfl) 0 rfl (zk_inc _) (by decide) rfl ?_
          refine zi_goto K 6 (dX3_laidCuts 35 rfl) rfl ?_
          refine zV.pick [0, 1, 2, 3] (lo' := [(3, .int (nI (p + 1))), (1, .int cuts), (2, .int fin), (0, .ref (ad 12 b))]) rfl ?_
          exact ihR (p + 1) cuts fin (by have q := zloop_in (i := p) (N := m) (nI_pred m) (by omega) hfR h13_0; omega) (by have q := zloop_in (i := p) (N := m) (nI_pred m) (by omega) hfR h13_0; omega) (by rw [hV]; simp only [lv_laidCuts, if_neg h13_0, if_pos h18_1, if_neg h30_2])
        · skip
          refine zi_iload_n K (dX3_laidCuts 23 rfl) 1 rfl ?_
          refine zi_iconst K (dX3_laidCuts 24 rfl) zk_i1 ?_
          refine zi_aload_n K (dX3_laidCuts 25 rfl) 3 rfl ?_
          refine zg_LAY_size K hb w_115 (dX3_laidCuts 26 rfl) ?_
          rw [show sI σ 27 b 0 = nI (m + 1) from hn]
          refine zi_iconst K (dX3_laidCuts 27 rfl) zk_i2 ?_
          refine zi_isub K (dX3_laidCuts 28 rfl) ?_
          refine zi_iload_n K (dX3_laidCuts 29 rfl) 0 rfl ?_
          refine zi_isub K (dX3_laidCuts 30 rfl) ?_
          refine zi_ishl K (dX3_laidCuts 31 rfl) ?_
          refine zi_ior K (dX3_laidCuts 32 rfl) ?_
          refine zi_istore_n K [(1, .int (cuts ||| (1 <<< ((((nI (m + 1)) - 2) - (nI p)) &&& 31)))), (3, .int (nI p)), (2, .int fin), (0, .ref (ad 12 b))] (dX3_laidCuts 33 rfl) (by decide) rfl ?_
          refine zi_iinc K (v := nI (p + 1)) [(3, .int (nI (p + 1))), (1, .int (cuts ||| (1 <<< ((((nI (m + 1)) - 2) - (nI p)) &&& 31)))), (2, .int fin), (0, .ref (ad 12 b))] (dX3_laidCuts 34 rfl) 1 rfl (zk_inc _) (by decide) rfl ?_
          refine zi_goto K 6 (dX3_laidCuts 35 rfl) rfl ?_
          refine zV.pick [0, 1, 2, 3] (lo' := [(3, .int (nI (p + 1))), (1, .int (cuts ||| (1 <<< ((((nI (m + 1)) - 2) - (nI p)) &&& 31)))), (2, .int fin), (0, .ref (ad 12 b))]) rfl ?_
          exact ihR (p + 1) (cuts ||| (1 <<< ((((nI (m + 1)) - 2) - (nI p)) &&& 31))) fin (by have q := zloop_in (i := p) (N := m) (nI_pred m) (by omega) hfR h13_0; omega) (by have q := zloop_in (i := p) (N := m) (nI_pred m) (by omega) hfR h13_0; omega) (by rw [hV]; simp only [lv_laidCuts, if_neg h13_0, if_pos h18_1, if_pos h30_2])
      · skip
        refine zi_aload_n K (dX3_laidCuts 15 rfl) 3 rfl ?_
        refine zg_LAY_ends K hb w_111 (dX3_laidCuts 16 rfl) ?_
        refine zi_iload_n K (dX3_laidCuts 17 rfl) 0 rfl ?_
        refine zl_LENDS K hb p rfl (by have q := zloop_in (i := p) (N := m) (nI_pred m) (by omega) hfR h13_0; omega) (dX3_laidCuts 18 rfl) ?_
        refine zi_istore_n K [(2, .int (sI σ 29 b p)), (3, .int (nI p)), (1, .int cuts), (0, .ref (ad 12 b))] (dX3_laidCuts 19 rfl) (by decide) rfl ?_
        refine zi_iload_n K (dX3_laidCuts 20 rfl) 1 rfl ?_
        refine zi_iload_n K (dX3_laidCuts 21 rfl) 0 rfl ?_
        refine zi_icmp_ne K 46 (dX3_laidCuts 22 rfl) rfl (fun h30_2 => ?_) (fun h30_2 => ?_)
        · skip
          refine zi_iinc K (v := nI (p + 1)) [(3, .int (nI (p + 1))), (2, .int (sI σ 29 b p)), (1, .int cuts), (0, .ref (ad 12 b))] (dX3_laidCuts 34 rfl) 1 rfl (zk_inc _) (by decide) rfl ?_
          refine zi_goto K 6 (dX3_laidCuts 35 rfl) rfl ?_
          refine zV.pick [0, 2, 1, 3] (lo' := [(3, .int (nI (p + 1))), (1, .int cuts), (2, .int (sI σ 29 b p)), (0, .ref (ad 12 b))]) rfl ?_
          exact ihR (p + 1) cuts (sI σ 29 b p) (by have q := zloop_in (i := p) (N := m) (nI_pred m) (by omega) hfR h13_0; omega) (by have q := zloop_in (i := p) (N := m) (nI_pred m) (by omega) hfR h13_0; omega) (by rw [hV]; simp only [lv_laidCuts, if_neg h13_0, if_neg h18_1, if_neg h30_2])
        · skip
          refine zi_iload_n K (dX3_laidCuts 23 rfl) 2 rfl ?_
          refine zi_iconst K (dX3_laidCuts 24 rfl) zk_i1 ?_
          refine zi_aload_n K (dX3_laidCuts 25 rfl) 3 rfl ?_
          refine zg_LAY_size K hb w_115 (dX3_laidCuts 26 rfl) ?_
          rw [show sI σ 27 b 0 = nI (m + 1) from hn]
          refine zi_iconst K (dX3_laidCuts 27 rfl) zk_i2 ?_
          refine zi_isub K (dX3_laidCuts 28 rfl) ?_
          refine zi_iload_n K (dX3_laidCuts 29 rfl) 1 rfl ?_
          refine zi_isub K (dX3_laidCuts 30 rfl) ?_
          refine zi_ishl K (dX3_laidCuts 31 rfl) ?_
          refine zi_ior K (dX3_laidCuts 32 rfl) ?_
          refine zi_istore_n K [(1, .int (cuts ||| (1 <<< ((((nI (m + 1)) - 2) - (nI p)) &&& 31)))), (2, .int (sI σ 29 b p)), (3, .int (nI p)), (0, .ref (ad 12 b))] (dX3_laidCuts 33 rfl) (by decide) rfl ?_
          refine zi_iinc K (v := nI (p + 1)) [(3, .int (nI (p + 1))), (1, .int (cuts ||| (1 <<< ((((nI (m + 1)) - 2) - (nI p)) &&& 31)))), (2, .int (sI σ 29 b p)), (0, .ref (ad 12 b))] (dX3_laidCuts 34 rfl) 2 rfl (zk_inc _) (by decide) rfl ?_
          refine zi_goto K 6 (dX3_laidCuts 35 rfl) rfl ?_
          refine zV.pick [0, 1, 2, 3] (lo' := [(3, .int (nI (p + 1))), (1, .int (cuts ||| (1 <<< ((((nI (m + 1)) - 2) - (nI p)) &&& 31)))), (2, .int (sI σ 29 b p)), (0, .ref (ad 12 b))]) rfl ?_
          exact ihR (p + 1) (cuts ||| (1 <<< ((((nI (m + 1)) - 2) - (nI p)) &&& 31))) (sI σ 29 b p) (by have q := zloop_in (i := p) (N := m) (nI_pred m) (by omega) hfR h13_0; omega) (by have q := zloop_in (i := p) (N := m) (nI_pred m) (by omega) hfR h13_0; omega) (by rw [hV]; simp only [lv_laidCuts, if_neg h13_0, if_neg h18_1, if_pos h30_2])
theorem zsh_pow {m : Nat} (h : m < 12) : (1 : Int32) <<< ((nI (m + 1) - 1) &&& 31) = nI (2 ^ m) := by
  rw [nI_pred]
  rcases (show m = 0 ∨ m = 1 ∨ m = 2 ∨ m = 3 ∨ m = 4 ∨ m = 5 ∨ m = 6 ∨ m = 7 ∨ m = 8 ∨ m = 9 ∨ m = 10 ∨ m = 11 by omega) with h | h | h | h | h | h | h | h | h | h | h | h <;> subst h <;> decide
theorem zpow_b {m : Nat} (h : m < 12) : 2 ^ m < 2 ^ 31 := Nat.pow_lt_pow_right (by omega) (by omega)
def lv_bestOfAll (σ : zSt) (b m t : Nat) : Nat → Nat → Int32 → Int32 → Int64 → Int32
  | 0, _, _, _, _ => 0
  | r + 1, c, bc, bn, most => if 1 <<< ((nI (m + 1) - 1) &&& 31) ≤ nI c then (if bc = v_laidCuts σ b m then 1 else 0) else if most < v_worthOf σ b (m + 1) (nI c) t then lv_bestOfAll σ b m t r (c + 1) (nI c) (1 + (v_bitCount σ (nI c))) (v_worthOf σ b (m + 1) (nI c) t) else if v_worthOf σ b (m + 1) (nI c) t = most then (if bn ≤ 1 + (v_bitCount σ (nI c)) then lv_bestOfAll σ b m t r (c + 1) bc bn most else lv_bestOfAll σ b m t r (c + 1) (nI c) (1 + (v_bitCount σ (nI c))) (v_worthOf σ b (m + 1) (nI c) t)) else lv_bestOfAll σ b m t r (c + 1) bc bn most
def v_bestOfAll (σ : zSt) (b m t : Nat) : Int32 := lv_bestOfAll σ b m t (2 ^ m + 1) 0 0 0 (-1)
set_option maxRecDepth 100000 in
set_option maxHeartbeats 4000000 in
theorem c_bestOfAll {G : zG} {ad : Nat → Nat → Nat} {σ : zSt} (b m t : Nat) (hb : b < 2) (ht : t < sN σ 2) (hn : sI σ 27 b 0 = nI (m + 1)) (hm12 : m < 12) : zC G yX3_isBestOfAll cX3_isBestOfAll 11 (some FieldType.boolean) 3 67 0 0 [.ref (ad 12 b), .ref (ad 5 t)] (zP G ad σ) (some (.int (v_bestOfAll σ b m t))) (zP G ad σ) := by
  refine zC_of (by decide) (Nat.le_of_ble_eq_true rfl) (fun X K E hnm => ?_)
  show zV G X 11 (zP G ad σ) 0 0 0 [(0, .ref (ad 12 b)), (1, .ref (ad 5 t))] []
  refine zi_aload_n K (dX3_isBestOfAll_p0 0 rfl) 0 rfl ?_
  refine zg_LAY_size K hb w_115 (dX3_isBestOfAll_p0 1 rfl) ?_
  rw [show sI σ 27 b 0 = nI (m + 1) from hn]
  refine zi_if_eq K 16 (dX3_isBestOfAll_p0 2 rfl) rfl (fun h4_0 => ?_) (fun h4_0 => ?_)
  · exact absurd h4_0 (nI_ne0 (by omega) (by omega))
  refine zi_aload_n K (dX3_isBestOfAll_p0 3 rfl) 0 rfl ?_
  refine zg_LAY_size K hb w_115 (dX3_isBestOfAll_p0 4 rfl) ?_
  rw [show sI σ 27 b 0 = nI (m + 1) from hn]
  refine zi_bipush K (dX3_isBestOfAll_p0 5 rfl) zk_b12 ?_
  refine zi_icmp_le K 18 (dX3_isBestOfAll_p0 6 rfl) rfl (fun h13_0 => ?_) (fun h13_0 => ?_)
  rotate_left
  · exact absurd (nI_le (b := 12) (by omega) (by omega)) h13_0
  refine zi_iconst K (dX3_isBestOfAll_p0 9 rfl) zk_i0 ?_
  refine zi_istore_n K [(2, .int 0), (0, .ref (ad 12 b)), (1, .ref (ad 5 t))] (dX3_isBestOfAll_p0 10 rfl) (by decide) rfl ?_
  refine zi_iconst K (dX3_isBestOfAll_p0 11 rfl) zk_i0 ?_
  refine zi_istore_n K [(3, .int 0), (2, .int 0), (0, .ref (ad 12 b)), (1, .ref (ad 5 t))] (dX3_isBestOfAll_p0 12 rfl) (by decide) rfl ?_
  refine zi_ldc2 K (dX3_isBestOfAll_p0 13 rfl) w_514 ?_
  refine zi_lstore K [(4, .long (-1)), (3, .int 0), (2, .int 0), (0, .ref (ad 12 b)), (1, .ref (ad 5 t))] (dX3_isBestOfAll_p0 14 rfl) (by decide) rfl ?_
  refine zi_iconst K (dX3_isBestOfAll_p0 15 rfl) zk_i1 ?_
  refine zi_aload_n K (dX3_isBestOfAll_p0 16 rfl) 3 rfl ?_
  refine zg_LAY_size K hb w_115 (dX3_isBestOfAll_p0 17 rfl) ?_
  rw [show sI σ 27 b 0 = nI (m + 1) from hn]
  refine zi_iconst K (dX3_isBestOfAll_p0 18 rfl) zk_i1 ?_
  refine zi_isub K (dX3_isBestOfAll_p0 19 rfl) ?_
  refine zi_ishl K (dX3_isBestOfAll_p0 20 rfl) ?_
  refine zi_istore K [(6, .int (1 <<< (((nI (m + 1)) - 1) &&& 31))), (4, .long (-1)), (3, .int 0), (2, .int 0), (0, .ref (ad 12 b)), (1, .ref (ad 5 t))] (dX3_isBestOfAll_p0 21 rfl) (by decide) rfl ?_
  refine zi_iconst K (dX3_isBestOfAll_p0 22 rfl) zk_i0 ?_
  refine zi_istore K [(7, .int 0), (6, .int (1 <<< (((nI (m + 1)) - 1) &&& 31))), (4, .long (-1)), (3, .int 0), (2, .int 0), (0, .ref (ad 12 b)), (1, .ref (ad 5 t))] (dX3_isBestOfAll_p0 23 rfl) (by decide) rfl ?_
  refine zV.pick [0, 4, 3, 2, 5, 6, 1] (lo' := [(7, .int 0), (2, .int 0), (3, .int 0), (4, .long (-1)), (0, .ref (ad 12 b)), (1, .ref (ad 5 t)), (6, .int (1 <<< (((nI (m + 1)) - 1) &&& 31)))]) rfl ?_
  suffices hlR : ∀ (r : Nat) (c : Nat) (bc : Int32) (bn : Int32) (most : Int64), c ≤ 2 ^ m → 2 ^ m - c < r → v_bestOfAll σ b m t = lv_bestOfAll σ b m t r c bc bn most → zV G X 11 (zP G ad σ) (0) (0) 40 [(7, .int (nI c)), (2, .int bc), (3, .int bn), (4, .long most), (0, .ref (ad 12 b)), (1, .ref (ad 5 t)), (6, .int (1 <<< ((nI (m + 1) - 1) &&& 31)))] [] from hlR (2 ^ m + 1) 0 0 0 (-1) (Nat.zero_le _) (Nat.lt_succ_of_le (Nat.sub_le _ _)) rfl
  intro r
  induction r with
  | zero => intro c bc bn most _ h; exact absurd h (Nat.not_lt_zero _)
  | succ r ihR =>
    intro c bc bn most hfR hmR hV
    refine zi_iload K (dX3_isBestOfAll_p0 24 rfl) 0 rfl ?_
    refine zi_iload K (dX3_isBestOfAll_p0 25 rfl) 6 rfl ?_
    refine zi_icmp_ge K 103 (dX3_isBestOfAll_p0 26 rfl) rfl (fun h44_0 => ?_) (fun h44_0 => ?_)
    · skip
      refine zi_iload_n K (dX3_isBestOfAll_p1 6 rfl) 1 rfl ?_
      refine zi_aload_n K (dX3_isBestOfAll_p1 7 rfl) 4 rfl ?_
      refine zi_callV K (na := 0) [.int bc] [.int (v_laidCuts σ b m), .int bc] (c_laidCuts (σ := σ) b m hb hn (by omega)) (dX3_isBestOfAll_p1 8 rfl) w_529 w_531 w_10 w_30 w_532 (by decide +kernel) rfl (fun H h => zi_recv K (zr_LAY (σ := σ) hb H h).1 rfl) (fun H h => h) ⟨Nat.le_of_ble_eq_true rfl, Nat.le_of_ble_eq_true rfl⟩ ⟨Nat.le_refl _, Nat.le_refl _⟩ (Nat.le_of_ble_eq_true rfl) rfl rfl ?_
      refine zi_icmp_ne K 115 (dX3_isBestOfAll_p1 9 rfl) rfl (fun h108_1 => ?_) (fun h108_1 => ?_)
      · skip
        refine zi_iconst K (dX3_isBestOfAll_p1 12 rfl) zk_i0 ?_
        exact zi_zret K E (dX3_isBestOfAll_p1 13 rfl) (Nat.le_refl _) (Nat.le_refl _) (by rw [hV]; simp only [lv_bestOfAll, if_pos h44_0, if_neg h108_1]) rfl (fun _ h => h)
      · skip
        refine zi_iconst K (dX3_isBestOfAll_p1 10 rfl) zk_i1 ?_
        refine zi_goto K 116 (dX3_isBestOfAll_p1 11 rfl) rfl ?_
        exact zi_zret K E (dX3_isBestOfAll_p1 13 rfl) (Nat.le_refl _) (Nat.le_refl _) (by rw [hV]; simp only [lv_bestOfAll, if_pos h44_0, if_pos h108_1]) rfl (fun _ h => h)
    · skip
      refine zi_iconst K (dX3_isBestOfAll_p0 27 rfl) zk_i1 ?_
      refine zi_iload K (dX3_isBestOfAll_p0 28 rfl) 0 rfl ?_
      refine zi_callS K (na := 1) (As := [.int (nI c)]) [.int 1] [.int (v_bitCount σ (nI c)), .int 1] (c_bitCount  (nI c)) (dX3_isBestOfAll_p0 29 rfl) w_515 w_516 w_54 w_517 (by decide +kernel) rfl (fun H h => h) ⟨Nat.le_of_ble_eq_true rfl, Nat.le_of_ble_eq_true rfl⟩ ⟨Nat.le_refl _, Nat.le_refl _⟩ (Nat.le_of_ble_eq_true rfl) rfl rfl ?_
      refine zi_iadd K (dX3_isBestOfAll_p0 30 rfl) ?_
      refine zi_istore K [(8, .int (1 + (v_bitCount σ (nI c)))), (7, .int (nI c)), (2, .int bc), (3, .int bn), (4, .long most), (0, .ref (ad 12 b)), (1, .ref (ad 5 t)), (6, .int (1 <<< ((nI (m + 1) - 1) &&& 31)))] (dX3_isBestOfAll_p0 31 rfl) (by decide) rfl ?_
      refine zi_aload_n K (dX3_isBestOfAll_p0 32 rfl) 5 rfl ?_
      refine zi_iload K (dX3_isBestOfAll_p0 33 rfl) 1 rfl ?_
      refine zi_aload_n K (dX3_isBestOfAll_p0 34 rfl) 6 rfl ?_
      refine zi_callV K (na := 2) [] [.long (v_worthOf σ b (m + 1) (nI c) t)] (c_worthOf (σ := σ) b (m + 1) (nI c) t hb ht hn (by omega)) (dX3_isBestOfAll_p0 35 rfl) w_521 w_523 w_8 w_30 w_524 (by decide +kernel) rfl (fun H h => zi_recv K (zr_LAY (σ := σ) hb H h).1 rfl) (fun H h => h) ⟨Nat.le_of_ble_eq_true rfl, Nat.le_of_ble_eq_true rfl⟩ ⟨Nat.le_refl _, Nat.le_refl _⟩ (Nat.le_of_ble_eq_true rfl) rfl rfl ?_
      refine zi_lstore K [(9, .long (v_worthOf σ b (m + 1) (nI c) t)), (8, .int (1 + (v_bitCount σ (nI c)))), (7, .int (nI c)), (2, .int bc), (3, .int bn), (4, .long most), (0, .ref (ad 12 b)), (1, .ref (ad 5 t)), (6, .int (1 <<< ((nI (m + 1) - 1) &&& 31)))] (dX3_isBestOfAll_p0 36 rfl) (by decide) rfl ?_
      refine zi_lload K (dX3_isBestOfAll_p0 37 rfl) 0 rfl ?_
      refine zi_lload K (dX3_isBestOfAll_p0 38 rfl) 5 rfl ?_
      refine zi_lif_gt K 87 (dX3_isBestOfAll_p0 39 rfl) (dX3_isBestOfAll_p0 40 rfl) rfl (fun h69_1 => ?_) (fun h69_1 => ?_)
      · skip
        refine zi_lload K (dX3_isBestOfAll_p0 48 rfl) 0 rfl ?_
        refine zi_lstore K [(4, .long (v_worthOf σ b (m + 1) (nI c) t)), (9, .long (v_worthOf σ b (m + 1) (nI c) t)), (8, .int (1 + (v_bitCount σ (nI c)))), (7, .int (nI c)), (2, .int bc), (3, .int bn), (0, .ref (ad 12 b)), (1, .ref (ad 5 t)), (6, .int (1 <<< ((nI (m + 1) - 1) &&& 31)))] (dX3_isBestOfAll_p0 49 rfl) (by decide) rfl ?_
        refine zi_iload K (dX3_isBestOfAll_p1 0 rfl) 2 rfl ?_
        refine zi_istore_n K [(3, .int (1 + (v_bitCount σ (nI c)))), (4, .long (v_worthOf σ b (m + 1) (nI c) t)), (9, .long (v_worthOf σ b (m + 1) (nI c) t)), (8, .int (1 + (v_bitCount σ (nI c)))), (7, .int (nI c)), (2, .int bc), (0, .ref (ad 12 b)), (1, .ref (ad 5 t)), (6, .int (1 <<< ((nI (m + 1) - 1) &&& 31)))] (dX3_isBestOfAll_p1 1 rfl) (by decide) rfl ?_
        refine zi_iload K (dX3_isBestOfAll_p1 2 rfl) 4 rfl ?_
        refine zi_istore_n K [(2, .int (nI c)), (3, .int (1 + (v_bitCount σ (nI c)))), (4, .long (v_worthOf σ b (m + 1) (nI c) t)), (9, .long (v_worthOf σ b (m + 1) (nI c) t)), (8, .int (1 + (v_bitCount σ (nI c)))), (7, .int (nI c)), (0, .ref (ad 12 b)), (1, .ref (ad 5 t)), (6, .int (1 <<< ((nI (m + 1) - 1) &&& 31)))] (dX3_isBestOfAll_p1 3 rfl) (by decide) rfl ?_
        refine zi_iinc K (v := nI (c + 1)) [(7, .int (nI (c + 1))), (2, .int (nI c)), (3, .int (1 + (v_bitCount σ (nI c)))), (4, .long (v_worthOf σ b (m + 1) (nI c) t)), (9, .long (v_worthOf σ b (m + 1) (nI c) t)), (8, .int (1 + (v_bitCount σ (nI c)))), (0, .ref (ad 12 b)), (1, .ref (ad 5 t)), (6, .int (1 <<< ((nI (m + 1) - 1) &&& 31)))] (dX3_isBestOfAll_p1 4 rfl) 5 rfl (zk_inc _) (by decide) rfl ?_
        refine zi_goto K 40 (dX3_isBestOfAll_p1 5 rfl) rfl ?_
        refine zV.pick [0, 1, 2, 3, 6, 7, 8] (lo' := [(7, .int (nI (c + 1))), (2, .int (nI c)), (3, .int (1 + (v_bitCount σ (nI c)))), (4, .long (v_worthOf σ b (m + 1) (nI c) t)), (0, .ref (ad 12 b)), (1, .ref (ad 5 t)), (6, .int (1 <<< ((nI (m + 1) - 1) &&& 31)))]) rfl ?_
        exact ihR (c + 1) (nI c) (1 + (v_bitCount σ (nI c))) (v_worthOf σ b (m + 1) (nI c) t) (by have q := zloop_in (i := c) (N := 2 ^ m) (zsh_pow hm12) (zpow_b hm12) hfR h44_0; omega) (by have q := zloop_in (i := c) (N := 2 ^ m) (zsh_pow hm12) (zpow_b hm12) hfR h44_0; omega) (by rw [hV]; simp only [lv_bestOfAll, if_neg h44_0, if_pos h69_1])
      · skip
        refine zi_lload K (dX3_isBestOfAll_p0 41 rfl) 0 rfl ?_
        refine zi_lload K (dX3_isBestOfAll_p0 42 rfl) 5 rfl ?_
        refine zi_lif_ne K 97 (dX3_isBestOfAll_p0 43 rfl) (dX3_isBestOfAll_p0 44 rfl) rfl (fun h77_2 => ?_) (fun h77_2 => ?_)
        · skip
          refine zi_iinc K (v := nI (c + 1)) [(7, .int (nI (c + 1))), (9, .long (v_worthOf σ b (m + 1) (nI c) t)), (8, .int (1 + (v_bitCount σ (nI c)))), (2, .int bc), (3, .int bn), (4, .long most), (0, .ref (ad 12 b)), (1, .ref (ad 5 t)), (6, .int (1 <<< ((nI (m + 1) - 1) &&& 31)))] (dX3_isBestOfAll_p1 4 rfl) 2 rfl (zk_inc _) (by decide) rfl ?_
          refine zi_goto K 40 (dX3_isBestOfAll_p1 5 rfl) rfl ?_
          refine zV.pick [0, 3, 4, 5, 6, 7, 8] (lo' := [(7, .int (nI (c + 1))), (2, .int bc), (3, .int bn), (4, .long most), (0, .ref (ad 12 b)), (1, .ref (ad 5 t)), (6, .int (1 <<< ((nI (m + 1) - 1) &&& 31)))]) rfl ?_
          exact ihR (c + 1) bc bn most (by have q := zloop_in (i := c) (N := 2 ^ m) (zsh_pow hm12) (zpow_b hm12) hfR h44_0; omega) (by have q := zloop_in (i := c) (N := 2 ^ m) (zsh_pow hm12) (zpow_b hm12) hfR h44_0; omega) (by rw [hV]; simp only [lv_bestOfAll, if_neg h44_0, if_neg h69_1, if_neg h77_2])
        · skip
          refine zi_iload K (dX3_isBestOfAll_p0 45 rfl) 1 rfl ?_
          refine zi_iload_n K (dX3_isBestOfAll_p0 46 rfl) 4 rfl ?_
          refine zi_icmp_ge K 97 (dX3_isBestOfAll_p0 47 rfl) rfl (fun h84_3 => ?_) (fun h84_3 => ?_)
          · skip
            refine zi_iinc K (v := nI (c + 1)) [(7, .int (nI (c + 1))), (9, .long (v_worthOf σ b (m + 1) (nI c) t)), (8, .int (1 + (v_bitCount σ (nI c)))), (2, .int bc), (3, .int bn), (4, .long most), (0, .ref (ad 12 b)), (1, .ref (ad 5 t)), (6, .int (1 <<< ((nI (m + 1) - 1) &&& 31)))] (dX3_isBestOfAll_p1 4 rfl) 2 rfl (zk_inc _) (by decide) rfl ?_
            refine zi_goto K 40 (dX3_isBestOfAll_p1 5 rfl) rfl ?_
            refine zV.pick [0, 3, 4, 5, 6, 7, 8] (lo' := [(7, .int (nI (c + 1))), (2, .int bc), (3, .int bn), (4, .long most), (0, .ref (ad 12 b)), (1, .ref (ad 5 t)), (6, .int (1 <<< ((nI (m + 1) - 1) &&& 31)))]) rfl ?_
            exact ihR (c + 1) bc bn most (by have q := zloop_in (i := c) (N := 2 ^ m) (zsh_pow hm12) (zpow_b hm12) hfR h44_0; omega) (by have q := zloop_in (i := c) (N := 2 ^ m) (zsh_pow hm12) (zpow_b hm12) hfR h44_0; omega) (by rw [hV]; simp only [lv_bestOfAll, if_neg h44_0, if_neg h69_1, if_pos h77_2, if_pos h84_3])
          · skip
            refine zi_lload K (dX3_isBestOfAll_p0 48 rfl) 0 rfl ?_
            refine zi_lstore K [(4, .long (v_worthOf σ b (m + 1) (nI c) t)), (9, .long (v_worthOf σ b (m + 1) (nI c) t)), (8, .int (1 + (v_bitCount σ (nI c)))), (7, .int (nI c)), (2, .int bc), (3, .int bn), (0, .ref (ad 12 b)), (1, .ref (ad 5 t)), (6, .int (1 <<< ((nI (m + 1) - 1) &&& 31)))] (dX3_isBestOfAll_p0 49 rfl) (by decide) rfl ?_
            refine zi_iload K (dX3_isBestOfAll_p1 0 rfl) 2 rfl ?_
            refine zi_istore_n K [(3, .int (1 + (v_bitCount σ (nI c)))), (4, .long (v_worthOf σ b (m + 1) (nI c) t)), (9, .long (v_worthOf σ b (m + 1) (nI c) t)), (8, .int (1 + (v_bitCount σ (nI c)))), (7, .int (nI c)), (2, .int bc), (0, .ref (ad 12 b)), (1, .ref (ad 5 t)), (6, .int (1 <<< ((nI (m + 1) - 1) &&& 31)))] (dX3_isBestOfAll_p1 1 rfl) (by decide) rfl ?_
            refine zi_iload K (dX3_isBestOfAll_p1 2 rfl) 4 rfl ?_
            refine zi_istore_n K [(2, .int (nI c)), (3, .int (1 + (v_bitCount σ (nI c)))), (4, .long (v_worthOf σ b (m + 1) (nI c) t)), (9, .long (v_worthOf σ b (m + 1) (nI c) t)), (8, .int (1 + (v_bitCount σ (nI c)))), (7, .int (nI c)), (0, .ref (ad 12 b)), (1, .ref (ad 5 t)), (6, .int (1 <<< ((nI (m + 1) - 1) &&& 31)))] (dX3_isBestOfAll_p1 3 rfl) (by decide) rfl ?_
            refine zi_iinc K (v := nI (c + 1)) [(7, .int (nI (c + 1))), (2, .int (nI c)), (3, .int (1 + (v_bitCount σ (nI c)))), (4, .long (v_worthOf σ b (m + 1) (nI c) t)), (9, .long (v_worthOf σ b (m + 1) (nI c) t)), (8, .int (1 + (v_bitCount σ (nI c)))), (0, .ref (ad 12 b)), (1, .ref (ad 5 t)), (6, .int (1 <<< ((nI (m + 1) - 1) &&& 31)))] (dX3_isBestOfAll_p1 4 rfl) 5 rfl (zk_inc _) (by decide) rfl ?_
            refine zi_goto K 40 (dX3_isBestOfAll_p1 5 rfl) rfl ?_
            refine zV.pick [0, 1, 2, 3, 6, 7, 8] (lo' := [(7, .int (nI (c + 1))), (2, .int (nI c)), (3, .int (1 + (v_bitCount σ (nI c)))), (4, .long (v_worthOf σ b (m + 1) (nI c) t)), (0, .ref (ad 12 b)), (1, .ref (ad 5 t)), (6, .int (1 <<< ((nI (m + 1) - 1) &&& 31)))]) rfl ?_
            exact ihR (c + 1) (nI c) (1 + (v_bitCount σ (nI c))) (v_worthOf σ b (m + 1) (nI c) t) (by have q := zloop_in (i := c) (N := 2 ^ m) (zsh_pow hm12) (zpow_b hm12) hfR h44_0; omega) (by have q := zloop_in (i := c) (N := 2 ^ m) (zsh_pow hm12) (zpow_b hm12) hfR h44_0; omega) (by rw [hV]; simp only [lv_bestOfAll, if_neg h44_0, if_neg h69_1, if_pos h77_2, if_neg h84_3])
