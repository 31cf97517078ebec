/-! Layertreaty: setters, where nothing is refused -/
def v_setAmount (σ : zSt) (i : Nat) (a : Int32) : Int32 := sI σ 6 (lx σ 1 i) 0
def s_setAmount (σ : zSt) (i : Nat) (a : Int32) : zSt := (uI (uI σ 6 (lx σ 1 i) 0 a) 35 0 0 0)
theorem s_setAmount_22 (σ : zSt) (i : Nat) (a : Int32) : (s_setAmount σ i a).2.2 = σ.2.2 := by
  unfold s_setAmount
  (repeat' split) <;> first | exact ((uI_22 (uI σ 6 (lx σ 1 i) 0 a) 35 0 0 0).trans ((uI_22 σ 6 (lx σ 1 i) 0 a).trans rfl))
set_option maxRecDepth 100000 in
set_option maxHeartbeats 4000000 in
theorem c_setAmount {G : zG} {ad : Nat → Nat → Nat} {σ : zSt} (i : Nat) (a : Int32) (h1 : zLW σ 1) (hi : i < sZ σ 1) (ha : v_isOut σ a 0 1000000 = 0) : zC G yX8_setAmount cX8_setAmount 5 (some FieldType.int) 4 85 0 0 [.ref (ad 0 0), .int (nI i), .int a] (zP G ad σ) (some (.int (v_setAmount σ i a))) (zP G ad (s_setAmount σ i a)) := by
  refine zC_of (by decide) (Nat.le_of_ble_eq_true rfl) (fun X K E hnm => ?_)
  show zV G X 5 (zP G ad σ) 0 0 0 [(0, .ref (ad 0 0)), (1, .int (nI i)), (2, .int a)] []
  refine zi_aload_n K (dX8_setAmount 0 rfl) 0 rfl ?_
  refine zi_iload_n K (dX8_setAmount 1 rfl) 1 rfl ?_
  refine zi_callV K (na := 1) [] [.ref (ad 2 (lx σ 1 i))] (c_claimAt (σ := σ) i h1 hi) (dX8_setAmount 2 rfl) w_1066 w_1068 w_20 w_25 w_1069 (by decide +kernel) rfl (fun H h => zi_recv K (zr_O (σ := σ) rfl H h).1 rfl) (fun H h => h) ⟨Nat.le_of_ble_eq_true rfl, Nat.le_of_ble_eq_true rfl⟩ ⟨Nat.le_refl _, Nat.le_refl _⟩ (Nat.le_of_ble_eq_true rfl) rfl rfl ?_
  refine zi_astore_n K [(3, .ref (ad 2 (lx σ 1 i))), (0, .ref (ad 0 0)), (1, .int (nI i)), (2, .int a)] (dX8_setAmount 3 rfl) (by decide) rfl ?_
  refine zi_iload_n K (dX8_setAmount 4 rfl) 3 rfl ?_
  refine zi_iconst K (dX8_setAmount 5 rfl) zk_i0 ?_
  refine zi_ldc K (dX8_setAmount 6 rfl) w_671 ?_
  refine zi_callS K (na := 3) (As := [.int a, .int 0, .int 1000000]) [] [.int (v_isOut σ a 0 1000000)] (c_isOut  a 0 1000000) (dX8_setAmount 7 rfl) w_234 w_235 w_25 w_236 (by decide +kernel) rfl (fun H h => h) ⟨Nat.le_of_ble_eq_true rfl, Nat.le_of_ble_eq_true rfl⟩ ⟨Nat.le_refl _, Nat.le_refl _⟩ (Nat.le_of_ble_eq_true rfl) rfl rfl ?_
  refine zi_if_eq K 26 (dX8_setAmount 8 rfl) rfl (fun h13_0 => ?_) (fun h13_0 => ?_)
  rotate_left
  · exact absurd ha h13_0
  refine zi_aload_n K (dX8_setAmount 14 rfl) 0 rfl ?_
  refine zg_CL_amount K (zL_lv h1 hi rfl) w_753 (dX8_setAmount 15 rfl) ?_
  refine zi_istore K [(4, .int (sI σ 6 (lx σ 1 i) 0)), (3, .ref (ad 2 (lx σ 1 i))), (0, .ref (ad 0 0)), (1, .int (nI i)), (2, .int a)] (dX8_setAmount 16 rfl) (by decide) rfl ?_
  refine zi_aload_n K (dX8_setAmount 17 rfl) 1 rfl ?_
  refine zi_iload_n K (dX8_setAmount 18 rfl) 4 rfl ?_
  refine zp_CL_amount K (zL_lv h1 hi rfl) w_753 (dX8_setAmount 19 rfl) ?_
  refine zi_aload_n K (dX8_setAmount 20 rfl) 2 rfl ?_
  refine zi_iconst K (dX8_setAmount 21 rfl) zk_i0 ?_
  refine zp_O_isSettled K rfl w_202 ⟨rfl, rfl⟩ (dX8_setAmount 22 rfl) ?_
  refine zi_iload K (dX8_setAmount 23 rfl) 0 rfl ?_
  exact zi_iret K E (dX8_setAmount 24 rfl) (Nat.le_refl _) (Nat.le_refl _) rfl (fun H h => by exact h)
def v_setDays (σ : zSt) (i : Nat) (a : Int32) : Int32 := sI σ 14 (lx σ 2 i) 0
def s_setDays (σ : zSt) (i : Nat) (a : Int32) : zSt := (uI (uI σ 14 (lx σ 2 i) 0 a) 35 0 0 0)
theorem s_setDays_22 (σ : zSt) (i : Nat) (a : Int32) : (s_setDays σ i a).2.2 = σ.2.2 := by
  unfold s_setDays
  (repeat' split) <;> first | exact ((uI_22 (uI σ 14 (lx σ 2 i) 0 a) 35 0 0 0).trans ((uI_22 σ 14 (lx σ 2 i) 0 a).trans rfl))
set_option maxRecDepth 100000 in
set_option maxHeartbeats 4000000 in
theorem c_setDays {G : zG} {ad : Nat → Nat → Nat} {σ : zSt} (i : Nat) (a : Int32) (h2 : zLW σ 2) (hi : i < sZ σ 2) (ha : v_isOut σ a 1 9 = 0) : zC G yX8_setDays cX8_setDays 5 (some FieldType.int) 4 85 0 0 [.ref (ad 0 0), .int (nI i), .int a] (zP G ad σ) (some (.int (v_setDays σ i a))) (zP G ad (s_setDays σ i a)) := by
  refine zC_of (by decide) (Nat.le_of_ble_eq_true rfl) (fun X K E hnm => ?_)
  show zV G X 5 (zP G ad σ) 0 0 0 [(0, .ref (ad 0 0)), (1, .int (nI i)), (2, .int a)] []
  refine zi_aload_n K (dX8_setDays 0 rfl) 0 rfl ?_
  refine zi_iload_n K (dX8_setDays 1 rfl) 1 rfl ?_
  refine zi_callV K (na := 1) [] [.ref (ad 5 (lx σ 2 i))] (c_treatyAt (σ := σ) i h2 hi) (dX8_setDays 2 rfl) w_226 w_228 w_0 w_25 w_229 (by decide +kernel) rfl (fun H h => zi_recv K (zr_O (σ := σ) rfl H h).1 rfl) (fun H h => h) ⟨Nat.le_of_ble_eq_true rfl, Nat.le_of_ble_eq_true rfl⟩ ⟨Nat.le_refl _, Nat.le_refl _⟩ (Nat.le_of_ble_eq_true rfl) rfl rfl ?_
  refine zi_astore_n K [(3, .ref (ad 5 (lx σ 2 i))), (0, .ref (ad 0 0)), (1, .int (nI i)), (2, .int a)] (dX8_setDays 3 rfl) (by decide) rfl ?_
  refine zi_iload_n K (dX8_setDays 4 rfl) 3 rfl ?_
  refine zi_iconst K (dX8_setDays 5 rfl) zk_i1 ?_
  refine zi_bipush K (dX8_setDays 6 rfl) zk_b9 ?_
  refine zi_callS K (na := 3) (As := [.int a, .int 1, .int 9]) [] [.int (v_isOut σ a 1 9)] (c_isOut  a 1 9) (dX8_setDays 7 rfl) w_234 w_235 w_25 w_236 (by decide +kernel) rfl (fun H h => h) ⟨Nat.le_of_ble_eq_true rfl, Nat.le_of_ble_eq_true rfl⟩ ⟨Nat.le_refl _, Nat.le_refl _⟩ (Nat.le_of_ble_eq_true rfl) rfl rfl ?_
  refine zi_if_eq K 26 (dX8_setDays 8 rfl) rfl (fun h13_0 => ?_) (fun h13_0 => ?_)
  rotate_left
  · exact absurd ha h13_0
  refine zi_aload_n K (dX8_setDays 14 rfl) 0 rfl ?_
  refine zg_TR_days K (zL_lv h2 hi rfl) w_1109 (dX8_setDays 15 rfl) ?_
  refine zi_istore K [(4, .int (sI σ 14 (lx σ 2 i) 0)), (3, .ref (ad 5 (lx σ 2 i))), (0, .ref (ad 0 0)), (1, .int (nI i)), (2, .int a)] (dX8_setDays 16 rfl) (by decide) rfl ?_
  refine zi_aload_n K (dX8_setDays 17 rfl) 1 rfl ?_
  refine zi_iload_n K (dX8_setDays 18 rfl) 4 rfl ?_
  refine zp_TR_days K (zL_lv h2 hi rfl) w_1109 (dX8_setDays 19 rfl) ?_
  refine zi_aload_n K (dX8_setDays 20 rfl) 2 rfl ?_
  refine zi_iconst K (dX8_setDays 21 rfl) zk_i0 ?_
  refine zp_O_isSettled K rfl w_202 ⟨rfl, rfl⟩ (dX8_setDays 22 rfl) ?_
  refine zi_iload K (dX8_setDays 23 rfl) 0 rfl ?_
  exact zi_iret K E (dX8_setDays 24 rfl) (Nat.le_refl _) (Nat.le_refl _) rfl (fun H h => by exact h)
def v_setPremium (σ : zSt) (i : Nat) (a : Int32) : Int32 := sI σ 18 (lx σ 2 i) 0
def s_setPremium (σ : zSt) (i : Nat) (a : Int32) : zSt := (uI (uI σ 18 (lx σ 2 i) 0 a) 35 0 0 0)
theorem s_setPremium_22 (σ : zSt) (i : Nat) (a : Int32) : (s_setPremium σ i a).2.2 = σ.2.2 := by
  unfold s_setPremium
  (repeat' split) <;> first | exact ((uI_22 (uI σ 18 (lx σ 2 i) 0 a) 35 0 0 0).trans ((uI_22 σ 18 (lx σ 2 i) 0 a).trans rfl))
set_option maxRecDepth 100000 in
set_option maxHeartbeats 4000000 in
theorem c_setPremium {G : zG} {ad : Nat → Nat → Nat} {σ : zSt} (i : Nat) (a : Int32) (h2 : zLW σ 2) (hi : i < sZ σ 2) (ha : v_isOut σ a 0 1000000 = 0) : zC G yX8_setPremium cX8_setPremium 5 (some FieldType.int) 4 85 0 0 [.ref (ad 0 0), .int (nI i), .int a] (zP G ad σ) (some (.int (v_setPremium σ i a))) (zP G ad (s_setPremium σ i a)) := by
  refine zC_of (by decide) (Nat.le_of_ble_eq_true rfl) (fun X K E hnm => ?_)
  show zV G X 5 (zP G ad σ) 0 0 0 [(0, .ref (ad 0 0)), (1, .int (nI i)), (2, .int a)] []
  refine zi_aload_n K (dX8_setPremium 0 rfl) 0 rfl ?_
  refine zi_iload_n K (dX8_setPremium 1 rfl) 1 rfl ?_
  refine zi_callV K (na := 1) [] [.ref (ad 5 (lx σ 2 i))] (c_treatyAt (σ := σ) i h2 hi) (dX8_setPremium 2 rfl) w_226 w_228 w_0 w_25 w_229 (by decide +kernel) rfl (fun H h => zi_recv K (zr_O (σ := σ) rfl H h).1 rfl) (fun H h => h) ⟨Nat.le_of_ble_eq_true rfl, Nat.le_of_ble_eq_true rfl⟩ ⟨Nat.le_refl _, Nat.le_refl _⟩ (Nat.le_of_ble_eq_true rfl) rfl rfl ?_
  refine zi_astore_n K [(3, .ref (ad 5 (lx σ 2 i))), (0, .ref (ad 0 0)), (1, .int (nI i)), (2, .int a)] (dX8_setPremium 3 rfl) (by decide) rfl ?_
  refine zi_iload_n K (dX8_setPremium 4 rfl) 3 rfl ?_
  refine zi_iconst K (dX8_setPremium 5 rfl) zk_i0 ?_
  refine zi_ldc K (dX8_setPremium 6 rfl) w_671 ?_
  refine zi_callS K (na := 3) (As := [.int a, .int 0, .int 1000000]) [] [.int (v_isOut σ a 0 1000000)] (c_isOut  a 0 1000000) (dX8_setPremium 7 rfl) w_234 w_235 w_25 w_236 (by decide +kernel) rfl (fun H h => h) ⟨Nat.le_of_ble_eq_true rfl, Nat.le_of_ble_eq_true rfl⟩ ⟨Nat.le_refl _, Nat.le_refl _⟩ (Nat.le_of_ble_eq_true rfl) rfl rfl ?_
  refine zi_if_eq K 26 (dX8_setPremium 8 rfl) rfl (fun h13_0 => ?_) (fun h13_0 => ?_)
  rotate_left
  · exact absurd ha h13_0
  refine zi_aload_n K (dX8_setPremium 14 rfl) 0 rfl ?_
  refine zg_TR_premium K (zL_lv h2 hi rfl) w_1118 (dX8_setPremium 15 rfl) ?_
  refine zi_istore K [(4, .int (sI σ 18 (lx σ 2 i) 0)), (3, .ref (ad 5 (lx σ 2 i))), (0, .ref (ad 0 0)), (1, .int (nI i)), (2, .int a)] (dX8_setPremium 16 rfl) (by decide) rfl ?_
  refine zi_aload_n K (dX8_setPremium 17 rfl) 1 rfl ?_
  refine zi_iload_n K (dX8_setPremium 18 rfl) 4 rfl ?_
  refine zp_TR_premium K (zL_lv h2 hi rfl) w_1118 (dX8_setPremium 19 rfl) ?_
  refine zi_aload_n K (dX8_setPremium 20 rfl) 2 rfl ?_
  refine zi_iconst K (dX8_setPremium 21 rfl) zk_i0 ?_
  refine zp_O_isSettled K rfl w_202 ⟨rfl, rfl⟩ (dX8_setPremium 22 rfl) ?_
  refine zi_iload K (dX8_setPremium 23 rfl) 0 rfl ?_
  exact zi_iret K E (dX8_setPremium 24 rfl) (Nat.le_refl _) (Nat.le_refl _) rfl (fun H h => by exact h)
def v_fail (σ : zSt) (i : Nat) (z : Int32) : Int32 := sI σ 31 0 i
def s_fail (σ : zSt) (i : Nat) (z : Int32) : zSt := (uI σ 31 0 i z)
theorem s_fail_22 (σ : zSt) (i : Nat) (z : Int32) : (s_fail σ i z).2.2 = σ.2.2 := by
  unfold s_fail
  (repeat' split) <;> first | exact ((uI_22 σ 31 0 i z).trans rfl)
set_option maxRecDepth 100000 in
set_option maxHeartbeats 4000000 in
theorem c_fail {G : zG} {ad : Nat → Nat → Nat} {σ : zSt} (i : Nat) (z : Int32) (hi : i < 5) (hz : (narrow .boolean (.int z) = .int z ∧ fits .boolean (.int z) = true)) (hf : (narrow .boolean (.int (sI σ 31 0 i)) = .int (sI σ 31 0 i) ∧ fits .boolean (.int (sI σ 31 0 i)) = true)) : zC G yX8_fail cX8_fail 4 (some FieldType.boolean) 2 42 0 0 [.ref (ad 0 0), .int (nI i), .int z] (zP G ad σ) (some (.int (v_fail σ i z))) (zP G ad (s_fail σ i z)) := by
  refine zC_of (by decide) (Nat.le_of_ble_eq_true rfl) (fun X K E hnm => ?_)
  show zV G X 4 (zP G ad σ) 0 0 0 [(0, .ref (ad 0 0)), (1, .int (nI i)), (2, .int z)] []
  refine zi_iload_n K (dX8_fail 0 rfl) 1 rfl ?_
  refine zi_callS K (na := 1) (As := [.int (nI i)]) [] [] (c_checkRe (σ := σ) i hi) (dX8_fail 1 rfl) w_1223 w_1224 w_25 w_1225 (by decide +kernel) rfl (fun H h => h) ⟨Nat.le_of_ble_eq_true rfl, Nat.le_of_ble_eq_true rfl⟩ ⟨Nat.le_refl _, Nat.le_refl _⟩ (Nat.le_of_ble_eq_true rfl) rfl rfl ?_
  refine zi_aload_n K (dX8_fail 2 rfl) 0 rfl ?_
  refine zg_O_pool K rfl w_201 (dX8_fail 3 rfl) ?_
  refine zg_POOL_isFailed K rfl w_160 (dX8_fail 4 rfl) ?_
  refine zi_iload_n K (dX8_fail 5 rfl) 1 rfl ?_
  refine zl_PFAIL K rfl i rfl (by omega) (dX8_fail 6 rfl) ?_
  refine zi_istore_n K [(3, .int (sI σ 31 0 i)), (0, .ref (ad 0 0)), (1, .int (nI i)), (2, .int z)] (dX8_fail 7 rfl) (by decide) rfl ?_
  refine zi_aload_n K (dX8_fail 8 rfl) 1 rfl ?_
  refine zg_O_pool K rfl w_201 (dX8_fail 9 rfl) ?_
  refine zg_POOL_isFailed K rfl w_160 (dX8_fail 10 rfl) ?_
  refine zi_iload_n K (dX8_fail 11 rfl) 2 rfl ?_
  refine zi_iload_n K (dX8_fail 12 rfl) 3 rfl ?_
  refine zs_PFAIL K rfl i rfl (by omega) hz.1 (dX8_fail 13 rfl) ?_
  refine zi_iload_n K (dX8_fail 14 rfl) 0 rfl ?_
  exact zi_zret K E (dX8_fail 15 rfl) (Nat.le_refl _) (Nat.le_refl _) rfl hf.1 (fun H h => by exact h)
def v_handOn (σ : zSt) (i j : Nat) (x y : Int32) : Int32 := if sI σ 34 0 i ≤ 0 then 0 else 1
def s_handOn (σ : zSt) (i j : Nat) (x y : Int32) : zSt := if sI σ 34 0 i ≤ 0 then (uI (uI (uI σ 32 0 i (nI j)) 33 0 i x) 34 0 i y) else (uI (uI (uI σ 32 0 i (nI j)) 33 0 i x) 34 0 i y)
theorem s_handOn_22 (σ : zSt) (i j : Nat) (x y : Int32) : (s_handOn σ i j x y).2.2 = σ.2.2 := by
  unfold s_handOn
  (repeat' split) <;> first | exact ((uI_22 (uI (uI σ 32 0 i (nI j)) 33 0 i x) 34 0 i y).trans ((uI_22 (uI σ 32 0 i (nI j)) 33 0 i x).trans ((uI_22 σ 32 0 i (nI j)).trans rfl)))
set_option maxRecDepth 100000 in
set_option maxHeartbeats 4000000 in
theorem c_handOn {G : zG} {ad : Nat → Nat → Nat} {σ : zSt} (i j : Nat) (x y : Int32) (hi : i < 5) (hj : j < 5) (hne : ¬ nI i = nI j) (hx : v_isOut σ x 0 1000000 = 0) (hy : v_isOut σ y 0 1000000 = 0) : zC G yX8_handOn cX8_handOn 6 (some FieldType.boolean) 2 42 0 0 [.ref (ad 0 0), .int (nI i), .int (nI j), .int x, .int y] (zP G ad σ) (some (.int (v_handOn σ i j x y))) (zP G ad (s_handOn σ i j x y)) := by
  refine zC_of (by decide) (Nat.le_of_ble_eq_true rfl) (fun X K E hnm => ?_)
  show zV G X 6 (zP G ad σ) 0 0 0 [(0, .ref (ad 0 0)), (1, .int (nI i)), (2, .int (nI j)), (3, .int x), (4, .int y)] []
  refine zi_iload_n K (dX8_handOn 0 rfl) 1 rfl ?_
  refine zi_callS K (na := 1) (As := [.int (nI i)]) [] [] (c_checkRe (σ := σ) i hi) (dX8_handOn 1 rfl) w_1223 w_1224 w_25 w_1225 (by decide +kernel) rfl (fun H h => h) ⟨Nat.le_of_ble_eq_true rfl, Nat.le_of_ble_eq_true rfl⟩ ⟨Nat.le_refl _, Nat.le_refl _⟩ (Nat.le_of_ble_eq_true rfl) rfl rfl ?_
  refine zi_iload_n K (dX8_handOn 2 rfl) 2 rfl ?_
  refine zi_callS K (na := 1) (As := [.int (nI j)]) [] [] (c_checkRe (σ := σ) j hj) (dX8_handOn 3 rfl) w_1223 w_1224 w_25 w_1225 (by decide +kernel) rfl (fun H h => h) ⟨Nat.le_of_ble_eq_true rfl, Nat.le_of_ble_eq_true rfl⟩ ⟨Nat.le_refl _, Nat.le_refl _⟩ (Nat.le_of_ble_eq_true rfl) rfl rfl ?_
  refine zi_iload_n K (dX8_handOn 4 rfl) 1 rfl ?_
  refine zi_iload_n K (dX8_handOn 5 rfl) 2 rfl ?_
  refine zi_icmp_eq K 34 (dX8_handOn 6 rfl) rfl (fun h10_0 => ?_) (fun h10_0 => ?_)
  · exact absurd h10_0 hne
  refine zi_iload_n K (dX8_handOn 7 rfl) 3 rfl ?_
  refine zi_iconst K (dX8_handOn 8 rfl) zk_i0 ?_
  refine zi_ldc K (dX8_handOn 9 rfl) w_671 ?_
  refine zi_callS K (na := 3) (As := [.int x, .int 0, .int 1000000]) [] [.int (v_isOut σ x 0 1000000)] (c_isOut  x 0 1000000) (dX8_handOn 10 rfl) w_234 w_235 w_25 w_236 (by decide +kernel) rfl (fun H h => h) ⟨Nat.le_of_ble_eq_true rfl, Nat.le_of_ble_eq_true rfl⟩ ⟨Nat.le_refl _, Nat.le_refl _⟩ (Nat.le_of_ble_eq_true rfl) rfl rfl ?_
  refine zi_if_ne K 34 (dX8_handOn 11 rfl) rfl (fun h20_0 => ?_) (fun h20_0 => ?_)
  · exact absurd hx h20_0
  refine zi_iload K (dX8_handOn 12 rfl) 4 rfl ?_
  refine zi_iconst K (dX8_handOn 13 rfl) zk_i0 ?_
  refine zi_ldc K (dX8_handOn 14 rfl) w_671 ?_
  refine zi_callS K (na := 3) (As := [.int y, .int 0, .int 1000000]) [] [.int (v_isOut σ y 0 1000000)] (c_isOut  y 0 1000000) (dX8_handOn 15 rfl) w_234 w_235 w_25 w_236 (by decide +kernel) rfl (fun H h => h) ⟨Nat.le_of_ble_eq_true rfl, Nat.le_of_ble_eq_true rfl⟩ ⟨Nat.le_refl _, Nat.le_refl _⟩ (Nat.le_of_ble_eq_true rfl) rfl rfl ?_
  refine zi_if_eq K 44 (dX8_handOn 16 rfl) rfl (fun h31_0 => ?_) (fun h31_0 => ?_)
  rotate_left
  · exact absurd hy h31_0
  refine zi_aload_n K (dX8_handOn 22 rfl) 0 rfl ?_
  refine zg_O_pool K rfl w_201 (dX8_handOn 23 rfl) ?_
  refine zg_POOL_limits K rfl w_166 (dX8_handOn 24 rfl) ?_
  refine zi_iload_n K (dX8_handOn 25 rfl) 1 rfl ?_
  refine zl_PLIM K rfl i rfl (by omega) (dX8_handOn 26 rfl) ?_
  refine zi_if_le K 60 (dX8_handOn 27 rfl) rfl (fun h53_0 => ?_) (fun h53_0 => ?_)
  · skip
    refine zi_iconst K (dX8_handOn 30 rfl) zk_i0 ?_
    refine zi_istore K [(5, .int 0), (0, .ref (ad 0 0)), (1, .int (nI i)), (2, .int (nI j)), (3, .int x), (4, .int y)] (dX8_handOn 31 rfl) (by decide) rfl ?_
    refine zi_aload_n K (dX8_handOn 32 rfl) 1 rfl ?_
    refine zg_O_pool K rfl w_201 (dX8_handOn 33 rfl) ?_
    refine zg_POOL_receivers K rfl w_162 (dX8_handOn 34 rfl) ?_
    refine zi_iload_n K (dX8_handOn 35 rfl) 2 rfl ?_
    refine zi_iload_n K (dX8_handOn 36 rfl) 3 rfl ?_
    refine zs_PREC K rfl i rfl (by omega) (dX8_handOn 37 rfl) ?_
    refine zi_aload_n K (dX8_handOn 38 rfl) 1 rfl ?_
    refine zg_O_pool K rfl w_201 (dX8_handOn 39 rfl) ?_
    refine zg_POOL_bounds K rfl w_164 (dX8_handOn 40 rfl) ?_
    refine zi_iload_n K (dX8_handOn 41 rfl) 2 rfl ?_
    refine zi_iload_n K (dX8_handOn 42 rfl) 4 rfl ?_
    refine zs_PBND K rfl i rfl (by omega) (dX8_handOn 43 rfl) ?_
    refine zi_aload_n K (dX8_handOn 44 rfl) 1 rfl ?_
    refine zg_O_pool K rfl w_201 (dX8_handOn 45 rfl) ?_
    refine zg_POOL_limits K rfl w_166 (dX8_handOn 46 rfl) ?_
    refine zi_iload_n K (dX8_handOn 47 rfl) 2 rfl ?_
    refine zi_iload K (dX8_handOn 48 rfl) 5 rfl ?_
    refine zs_PLIM K rfl i rfl (by omega) (dX8_handOn 49 rfl) ?_
    refine zi_iload K (dX8_handOn 50 rfl) 0 rfl ?_
    exact zi_zret K E (dX8_handOn 51 rfl) (Nat.le_refl _) (Nat.le_refl _) (by unfold v_handOn; rw [if_pos h53_0]) rfl (fun H h => by unfold s_handOn; rw [if_pos h53_0]; exact h)
  · skip
    refine zi_iconst K (dX8_handOn 28 rfl) zk_i1 ?_
    refine zi_goto K 61 (dX8_handOn 29 rfl) rfl ?_
    refine zi_istore K [(5, .int 1), (0, .ref (ad 0 0)), (1, .int (nI i)), (2, .int (nI j)), (3, .int x), (4, .int y)] (dX8_handOn 31 rfl) (by decide) rfl ?_
    refine zi_aload_n K (dX8_handOn 32 rfl) 1 rfl ?_
    refine zg_O_pool K rfl w_201 (dX8_handOn 33 rfl) ?_
    refine zg_POOL_receivers K rfl w_162 (dX8_handOn 34 rfl) ?_
    refine zi_iload_n K (dX8_handOn 35 rfl) 2 rfl ?_
    refine zi_iload_n K (dX8_handOn 36 rfl) 3 rfl ?_
    refine zs_PREC K rfl i rfl (by omega) (dX8_handOn 37 rfl) ?_
    refine zi_aload_n K (dX8_handOn 38 rfl) 1 rfl ?_
    refine zg_O_pool K rfl w_201 (dX8_handOn 39 rfl) ?_
    refine zg_POOL_bounds K rfl w_164 (dX8_handOn 40 rfl) ?_
    refine zi_iload_n K (dX8_handOn 41 rfl) 2 rfl ?_
    refine zi_iload_n K (dX8_handOn 42 rfl) 4 rfl ?_
    refine zs_PBND K rfl i rfl (by omega) (dX8_handOn 43 rfl) ?_
    refine zi_aload_n K (dX8_handOn 44 rfl) 1 rfl ?_
    refine zg_O_pool K rfl w_201 (dX8_handOn 45 rfl) ?_
    refine zg_POOL_limits K rfl w_166 (dX8_handOn 46 rfl) ?_
    refine zi_iload_n K (dX8_handOn 47 rfl) 2 rfl ?_
    refine zi_iload K (dX8_handOn 48 rfl) 5 rfl ?_
    refine zs_PLIM K rfl i rfl (by omega) (dX8_handOn 49 rfl) ?_
    refine zi_iload K (dX8_handOn 50 rfl) 0 rfl ?_
    exact zi_zret K E (dX8_handOn 51 rfl) (Nat.le_refl _) (Nat.le_refl _) (by unfold v_handOn; rw [if_neg h53_0]) rfl (fun H h => by unfold s_handOn; rw [if_neg h53_0]; exact h)
def v_reinstate (σ : zSt) (i : Nat) (m p z : Int32) : Int32 := sI σ 15 (lx σ 2 i) 0
def s_reinstate (σ : zSt) (i : Nat) (m p z : Int32) : zSt := (uI (uI (uI (uI σ 15 (lx σ 2 i) 0 m) 16 (lx σ 2 i) 0 p) 17 (lx σ 2 i) 0 z) 35 0 0 0)
theorem s_reinstate_22 (σ : zSt) (i : Nat) (m p z : Int32) : (s_reinstate σ i m p z).2.2 = σ.2.2 := by
  unfold s_reinstate
  (repeat' split) <;> first | exact ((uI_22 (uI (uI (uI σ 15 (lx σ 2 i) 0 m) 16 (lx σ 2 i) 0 p) 17 (lx σ 2 i) 0 z) 35 0 0 0).trans ((uI_22 (uI (uI σ 15 (lx σ 2 i) 0 m) 16 (lx σ 2 i) 0 p) 17 (lx σ 2 i) 0 z).trans ((uI_22 (uI σ 15 (lx σ 2 i) 0 m) 16 (lx σ 2 i) 0 p).trans ((uI_22 σ 15 (lx σ 2 i) 0 m).trans rfl))))
set_option maxRecDepth 100000 in
set_option maxHeartbeats 4000000 in
theorem c_reinstate {G : zG} {ad : Nat → Nat → Nat} {σ : zSt} (i : Nat) (m p z : Int32) (h2 : zLW σ 2) (hi : i < sZ σ 2) (hm : v_isOut σ m 0 5 = 0) (hp : v_isOut σ p 0 200 = 0) (hz : (narrow .boolean (.int z) = .int z ∧ fits .boolean (.int z) = true)) (hl : ¬ v_isLimited σ (lx σ 2 i) = 0) : zC G yX8_reinstate cX8_reinstate 7 (some FieldType.int) 20 300 0 0 [.ref (ad 0 0), .int (nI i), .int m, .int p, .int z] (zP G ad σ) (some (.int (v_reinstate σ i m p z))) (zP G ad (s_reinstate σ i m p z)) := by
  refine zC_of (by decide) (Nat.le_of_ble_eq_true rfl) (fun X K E hnm => ?_)
  show zV G X 7 (zP G ad σ) 0 0 0 [(0, .ref (ad 0 0)), (1, .int (nI i)), (2, .int m), (3, .int p), (4, .int z)] []
  refine zi_aload_n K (dX8_reinstate 0 rfl) 0 rfl ?_
  refine zi_iload_n K (dX8_reinstate 1 rfl) 1 rfl ?_
  refine zi_callV K (na := 1) [] [.ref (ad 5 (lx σ 2 i))] (c_treatyAt (σ := σ) i h2 hi) (dX8_reinstate 2 rfl) w_226 w_228 w_0 w_25 w_229 (by decide +kernel) rfl (fun H h => zi_recv K (zr_O (σ := σ) rfl H h).1 rfl) (fun H h => h) ⟨Nat.le_of_ble_eq_true rfl, Nat.le_of_ble_eq_true rfl⟩ ⟨Nat.le_refl _, Nat.le_refl _⟩ (Nat.le_of_ble_eq_true rfl) rfl rfl ?_
  refine zi_astore K [(5, .ref (ad 5 (lx σ 2 i))), (0, .ref (ad 0 0)), (1, .int (nI i)), (2, .int m), (3, .int p), (4, .int z)] (dX8_reinstate 3 rfl) (by decide) rfl ?_
  refine zi_iload_n K (dX8_reinstate 4 rfl) 3 rfl ?_
  refine zi_iconst K (dX8_reinstate 5 rfl) zk_i0 ?_
  refine zi_iconst K (dX8_reinstate 6 rfl) zk_i5 ?_
  refine zi_callS K (na := 3) (As := [.int m, .int 0, .int 5]) [] [.int (v_isOut σ m 0 5)] (c_isOut  m 0 5) (dX8_reinstate 7 rfl) w_234 w_235 w_25 w_236 (by decide +kernel) rfl (fun H h => h) ⟨Nat.le_of_ble_eq_true rfl, Nat.le_of_ble_eq_true rfl⟩ ⟨Nat.le_refl _, Nat.le_refl _⟩ (Nat.le_of_ble_eq_true rfl) rfl rfl ?_
  refine zi_if_ne K 27 (dX8_reinstate 8 rfl) rfl (fun h13_0 => ?_) (fun h13_0 => ?_)
  · exact absurd hm h13_0
  refine zi_iload_n K (dX8_reinstate 9 rfl) 4 rfl ?_
  refine zi_iconst K (dX8_reinstate 10 rfl) zk_i0 ?_
  refine zi_sipush K (dX8_reinstate 11 rfl) zk_s200 ?_
  refine zi_callS K (na := 3) (As := [.int p, .int 0, .int 200]) [] [.int (v_isOut σ p 0 200)] (c_isOut  p 0 200) (dX8_reinstate 12 rfl) w_234 w_235 w_25 w_236 (by decide +kernel) rfl (fun H h => h) ⟨Nat.le_of_ble_eq_true rfl, Nat.le_of_ble_eq_true rfl⟩ ⟨Nat.le_refl _, Nat.le_refl _⟩ (Nat.le_of_ble_eq_true rfl) rfl rfl ?_
  refine zi_if_eq K 37 (dX8_reinstate 13 rfl) rfl (fun h24_0 => ?_) (fun h24_0 => ?_)
  rotate_left
  · exact absurd hp h24_0
  refine zi_aload K (dX8_reinstate 19 rfl) 0 rfl ?_
  refine zi_callV K (na := 0) [] [.int (v_isLimited σ (lx σ 2 i))] (c_isLimited  (lx σ 2 i) (zL_lv h2 hi rfl)) (dX8_reinstate 20 rfl) w_1206 w_375 w_376 w_55 w_377 (by decide +kernel) rfl (fun H h => zi_recv K (zr_TR (σ := σ) (zL_lv h2 hi rfl) H h).1 rfl) (fun H h => h) ⟨Nat.le_of_ble_eq_true rfl, Nat.le_of_ble_eq_true rfl⟩ ⟨Nat.le_refl _, Nat.le_refl _⟩ (Nat.le_of_ble_eq_true rfl) rfl rfl ?_
  refine zi_if_ne K 55 (dX8_reinstate 21 rfl) rfl (fun h42_0 => ?_) (fun h42_0 => ?_)
  rotate_left
  · exact absurd h42_0 hl
  refine zi_aload K (dX8_reinstate 27 rfl) 0 rfl ?_
  refine zg_TR_many K (zL_lv h2 hi rfl) w_1112 (dX8_reinstate 28 rfl) ?_
  refine zi_istore K [(6, .int (sI σ 15 (lx σ 2 i) 0)), (5, .ref (ad 5 (lx σ 2 i))), (0, .ref (ad 0 0)), (1, .int (nI i)), (2, .int m), (3, .int p), (4, .int z)] (dX8_reinstate 29 rfl) (by decide) rfl ?_
  refine zi_aload K (dX8_reinstate 30 rfl) 1 rfl ?_
  refine zi_iload_n K (dX8_reinstate 31 rfl) 4 rfl ?_
  refine zp_TR_many K (zL_lv h2 hi rfl) w_1112 (dX8_reinstate 32 rfl) ?_
  refine zi_aload K (dX8_reinstate 33 rfl) 1 rfl ?_
  refine zi_iload_n K (dX8_reinstate 34 rfl) 5 rfl ?_
  refine zp_TR_price K (zL_lv h2 hi rfl) w_1114 (dX8_reinstate 35 rfl) ?_
  refine zi_aload K (dX8_reinstate 36 rfl) 1 rfl ?_
  refine zi_iload K (dX8_reinstate 37 rfl) 6 rfl ?_
  refine zp_TR_isByTime K (zL_lv h2 hi rfl) w_1116 hz (dX8_reinstate 38 rfl) ?_
  refine zi_aload_n K (dX8_reinstate 39 rfl) 2 rfl ?_
  refine zi_iconst K (dX8_reinstate 40 rfl) zk_i0 ?_
  refine zp_O_isSettled K rfl w_202 ⟨rfl, rfl⟩ (dX8_reinstate 41 rfl) ?_
  refine zi_iload K (dX8_reinstate 42 rfl) 0 rfl ?_
  exact zi_iret K E (dX8_reinstate 43 rfl) (Nat.le_refl _) (Nat.le_refl _) rfl (fun H h => by exact h)
def v_share (σ : zSt) (i j : Nat) (s : Int32) : Int32 := sI σ 21 (lx σ 2 i) j
def s_share (σ : zSt) (i j : Nat) (s : Int32) : zSt := (uI σ 21 (lx σ 2 i) j s)
theorem s_share_22 (σ : zSt) (i j : Nat) (s : Int32) : (s_share σ i j s).2.2 = σ.2.2 := by
  unfold s_share
  (repeat' split) <;> first | exact ((uI_22 σ 21 (lx σ 2 i) j s).trans rfl)
set_option maxRecDepth 100000 in
set_option maxHeartbeats 4000000 in
theorem c_share {G : zG} {ad : Nat → Nat → Nat} {σ : zSt} (i j : Nat) (s : Int32) (h2 : zLW σ 2) (hi : i < sZ σ 2) (hj : j < 5) (hs : v_isOut σ s 0 100 = 0) (ha : v_allShares σ (lx σ 2 i) - sI σ 21 (lx σ 2 i) j + s ≤ 100) : zC G yX8_share cX8_share 6 (some FieldType.int) 20 300 0 0 [.ref (ad 0 0), .int (nI i), .int (nI j), .int s] (zP G ad σ) (some (.int (v_share σ i j s))) (zP G ad (s_share σ i j s)) := by
  refine zC_of (by decide) (Nat.le_of_ble_eq_true rfl) (fun X K E hnm => ?_)
  show zV G X 6 (zP G ad σ) 0 0 0 [(0, .ref (ad 0 0)), (1, .int (nI i)), (2, .int (nI j)), (3, .int s)] []
  refine zi_aload_n K (dX8_share 0 rfl) 0 rfl ?_
  refine zi_iload_n K (dX8_share 1 rfl) 1 rfl ?_
  refine zi_callV K (na := 1) [] [.ref (ad 5 (lx σ 2 i))] (c_treatyAt (σ := σ) i h2 hi) (dX8_share 2 rfl) w_226 w_228 w_0 w_25 w_229 (by decide +kernel) rfl (fun H h => zi_recv K (zr_O (σ := σ) rfl H h).1 rfl) (fun H h => h) ⟨Nat.le_of_ble_eq_true rfl, Nat.le_of_ble_eq_true rfl⟩ ⟨Nat.le_refl _, Nat.le_refl _⟩ (Nat.le_of_ble_eq_true rfl) rfl rfl ?_
  refine zi_astore K [(4, .ref (ad 5 (lx σ 2 i))), (0, .ref (ad 0 0)), (1, .int (nI i)), (2, .int (nI j)), (3, .int s)] (dX8_share 3 rfl) (by decide) rfl ?_
  refine zi_iload_n K (dX8_share 4 rfl) 3 rfl ?_
  refine zi_callS K (na := 1) (As := [.int (nI j)]) [] [] (c_checkRe (σ := σ) j hj) (dX8_share 5 rfl) w_1223 w_1224 w_25 w_1225 (by decide +kernel) rfl (fun H h => h) ⟨Nat.le_of_ble_eq_true rfl, Nat.le_of_ble_eq_true rfl⟩ ⟨Nat.le_refl _, Nat.le_refl _⟩ (Nat.le_of_ble_eq_true rfl) rfl rfl ?_
  refine zi_iload_n K (dX8_share 6 rfl) 4 rfl ?_
  refine zi_iconst K (dX8_share 7 rfl) zk_i0 ?_
  refine zi_bipush K (dX8_share 8 rfl) zk_b100 ?_
  refine zi_callS K (na := 3) (As := [.int s, .int 0, .int 100]) [] [.int (v_isOut σ s 0 100)] (c_isOut  s 0 100) (dX8_share 9 rfl) w_234 w_235 w_25 w_236 (by decide +kernel) rfl (fun H h => h) ⟨Nat.le_of_ble_eq_true rfl, Nat.le_of_ble_eq_true rfl⟩ ⟨Nat.le_refl _, Nat.le_refl _⟩ (Nat.le_of_ble_eq_true rfl) rfl rfl ?_
  refine zi_if_eq K 31 (dX8_share 10 rfl) rfl (fun h18_0 => ?_) (fun h18_0 => ?_)
  rotate_left
  · exact absurd hs h18_0
  refine zi_aload K (dX8_share 16 rfl) 0 rfl ?_
  refine zg_TR_shares K (zL_lv h2 hi rfl) w_1105 (dX8_share 17 rfl) ?_
  refine zi_iload_n K (dX8_share 18 rfl) 3 rfl ?_
  refine zl_SHR K (zL_lv h2 hi rfl) j rfl (by omega) (dX8_share 19 rfl) ?_
  refine zi_istore K [(5, .int (sI σ 21 (lx σ 2 i) j)), (4, .ref (ad 5 (lx σ 2 i))), (0, .ref (ad 0 0)), (1, .int (nI i)), (2, .int (nI j)), (3, .int s)] (dX8_share 20 rfl) (by decide) rfl ?_
  refine zi_aload K (dX8_share 21 rfl) 1 rfl ?_
  refine zi_callV K (na := 0) [] [.int (v_allShares σ (lx σ 2 i))] (c_allShares  (lx σ 2 i) (zL_lv h2 hi rfl)) (dX8_share 22 rfl) w_1228 w_1229 w_1230 w_55 w_1231 (by decide +kernel) rfl (fun H h => zi_recv K (zr_TR (σ := σ) (zL_lv h2 hi rfl) H h).1 rfl) (fun H h => h) ⟨Nat.le_of_ble_eq_true rfl, Nat.le_of_ble_eq_true rfl⟩ ⟨Nat.le_refl _, Nat.le_refl _⟩ (Nat.le_of_ble_eq_true rfl) rfl rfl ?_
  refine zi_iload K (dX8_share 23 rfl) 0 rfl ?_
  refine zi_isub K (dX8_share 24 rfl) ?_
  refine zi_iload_n K (dX8_share 25 rfl) 5 rfl ?_
  refine zi_iadd K (dX8_share 26 rfl) ?_
  refine zi_bipush K (dX8_share 27 rfl) zk_b100 ?_
  refine zi_icmp_le K 65 (dX8_share 28 rfl) rfl (fun h52_0 => ?_) (fun h52_0 => ?_)
  rotate_left
  · exact absurd ha h52_0
  refine zi_aload K (dX8_share 34 rfl) 1 rfl ?_
  refine zg_TR_shares K (zL_lv h2 hi rfl) w_1105 (dX8_share 35 rfl) ?_
  refine zi_iload_n K (dX8_share 36 rfl) 4 rfl ?_
  refine zi_iload_n K (dX8_share 37 rfl) 5 rfl ?_
  refine zs_SHR K (zL_lv h2 hi rfl) j rfl (by omega) (dX8_share 38 rfl) ?_
  refine zi_iload K (dX8_share 39 rfl) 0 rfl ?_
  exact zi_iret K E (dX8_share 40 rfl) (Nat.le_refl _) (Nat.le_refl _) rfl (fun H h => by exact h)
def v_damage (σ : zSt) (i z : Nat) (x : Int32) : Int32 := sI σ 25 (lx σ 3 i) z
def s_damage (σ : zSt) (i z : Nat) (x : Int32) : zSt := (uI σ 25 (lx σ 3 i) z x)
theorem s_damage_22 (σ : zSt) (i z : Nat) (x : Int32) : (s_damage σ i z x).2.2 = σ.2.2 := by
  unfold s_damage
  (repeat' split) <;> first | exact ((uI_22 σ 25 (lx σ 3 i) z x).trans rfl)
set_option maxRecDepth 100000 in
set_option maxHeartbeats 4000000 in
theorem c_damage {G : zG} {ad : Nat → Nat → Nat} {σ : zSt} (i z : Nat) (x : Int32) (h3 : zLW σ 3) (hi : i < sZ σ 3) (hz4 : z < 4) (hz : v_isOut σ (nI z) 0 3 = 0) (hx : v_isOut σ x 0 100 = 0) : zC G yX8_damage cX8_damage 6 (some FieldType.int) 4 85 0 0 [.ref (ad 0 0), .int (nI i), .int (nI z), .int x] (zP G ad σ) (some (.int (v_damage σ i z x))) (zP G ad (s_damage σ i z x)) := by
  refine zC_of (by decide) (Nat.le_of_ble_eq_true rfl) (fun X K E hnm => ?_)
  show zV G X 6 (zP G ad σ) 0 0 0 [(0, .ref (ad 0 0)), (1, .int (nI i)), (2, .int (nI z)), (3, .int x)] []
  refine zi_aload_n K (dX8_damage 0 rfl) 0 rfl ?_
  refine zi_iload_n K (dX8_damage 1 rfl) 1 rfl ?_
  refine zi_callV K (na := 1) [] [.ref (ad 9 (lx σ 3 i))] (c_scenarioAt (σ := σ) i h3 hi) (dX8_damage 2 rfl) w_1338 w_1340 w_22 w_25 w_1341 (by decide +kernel) rfl (fun H h => zi_recv K (zr_O (σ := σ) rfl H h).1 rfl) (fun H h => h) ⟨Nat.le_of_ble_eq_true rfl, Nat.le_of_ble_eq_true rfl⟩ ⟨Nat.le_refl _, Nat.le_refl _⟩ (Nat.le_of_ble_eq_true rfl) rfl rfl ?_
  refine zi_astore K [(4, .ref (ad 9 (lx σ 3 i))), (0, .ref (ad 0 0)), (1, .int (nI i)), (2, .int (nI z)), (3, .int x)] (dX8_damage 3 rfl) (by decide) rfl ?_
  refine zi_iload_n K (dX8_damage 4 rfl) 3 rfl ?_
  refine zi_iconst K (dX8_damage 5 rfl) zk_i0 ?_
  refine zi_iconst K (dX8_damage 6 rfl) zk_i3 ?_
  refine zi_callS K (na := 3) (As := [.int (nI z), .int 0, .int 3]) [] [.int (v_isOut σ (nI z) 0 3)] (c_isOut  (nI z) 0 3) (dX8_damage 7 rfl) w_234 w_235 w_25 w_236 (by decide +kernel) rfl (fun H h => h) ⟨Nat.le_of_ble_eq_true rfl, Nat.le_of_ble_eq_true rfl⟩ ⟨Nat.le_refl _, Nat.le_refl _⟩ (Nat.le_of_ble_eq_true rfl) rfl rfl ?_
  refine zi_if_ne K 26 (dX8_damage 8 rfl) rfl (fun h13_0 => ?_) (fun h13_0 => ?_)
  · exact absurd hz h13_0
  refine zi_iload_n K (dX8_damage 9 rfl) 4 rfl ?_
  refine zi_iconst K (dX8_damage 10 rfl) zk_i0 ?_
  refine zi_bipush K (dX8_damage 11 rfl) zk_b100 ?_
  refine zi_callS K (na := 3) (As := [.int x, .int 0, .int 100]) [] [.int (v_isOut σ x 0 100)] (c_isOut  x 0 100) (dX8_damage 12 rfl) w_234 w_235 w_25 w_236 (by decide +kernel) rfl (fun H h => h) ⟨Nat.le_of_ble_eq_true rfl, Nat.le_of_ble_eq_true rfl⟩ ⟨Nat.le_refl _, Nat.le_refl _⟩ (Nat.le_of_ble_eq_true rfl) rfl rfl ?_
  refine zi_if_eq K 37 (dX8_damage 13 rfl) rfl (fun h23_0 => ?_) (fun h23_0 => ?_)
  rotate_left
  · exact absurd hx h23_0
  refine zi_aload K (dX8_damage 19 rfl) 0 rfl ?_
  refine zg_SC_damages K (zL_lv h3 hi rfl) w_1319 (dX8_damage 20 rfl) ?_
  refine zi_iload_n K (dX8_damage 21 rfl) 3 rfl ?_
  refine zl_DMG K (zL_lv h3 hi rfl) z rfl (by omega) (dX8_damage 22 rfl) ?_
  refine zi_istore K [(5, .int (sI σ 25 (lx σ 3 i) z)), (4, .ref (ad 9 (lx σ 3 i))), (0, .ref (ad 0 0)), (1, .int (nI i)), (2, .int (nI z)), (3, .int x)] (dX8_damage 23 rfl) (by decide) rfl ?_
  refine zi_aload K (dX8_damage 24 rfl) 1 rfl ?_
  refine zg_SC_damages K (zL_lv h3 hi rfl) w_1319 (dX8_damage 25 rfl) ?_
  refine zi_iload_n K (dX8_damage 26 rfl) 4 rfl ?_
  refine zi_iload_n K (dX8_damage 27 rfl) 5 rfl ?_
  refine zs_DMG K (zL_lv h3 hi rfl) z rfl (by omega) (dX8_damage 28 rfl) ?_
  refine zi_iload K (dX8_damage 29 rfl) 0 rfl ?_
  exact zi_iret K E (dX8_damage 30 rfl) (Nat.le_refl _) (Nat.le_refl _) rfl (fun H h => by exact h)
