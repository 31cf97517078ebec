/-! what the object answers: methods that read -/
theorem c_claimAtW {G : zG} {ad : Nat → Nat → Nat} {σ : zSt} (i : Nat) (h : zW σ) (hi : i < sN σ 1) : zC G yX8_claimAt cX8_claimAt 2 (some (FieldType.object "Layertreaty$Claim")) 3 64 0 0 [.ref (ad 0 0), .int (nI i)] (zP G ad σ) (some (.ref (ad 2 i))) (zP G ad σ) := by
  have h2 := c_claimAt (G := G) (ad := ad) i (h.1.1 1 (by omega)).1 (by rw [h.1.2.2.1.1]; exact hi)
  rw [h.2.1.2.1 i hi] at h2
  exact h2
theorem c_treatyAtW {G : zG} {ad : Nat → Nat → Nat} {σ : zSt} (i : Nat) (h : zW σ) (hi : i < sN σ 2) : zC G yX8_treatyAt cX8_treatyAt 2 (some (FieldType.object "Layertreaty$Treaty")) 3 64 0 0 [.ref (ad 0 0), .int (nI i)] (zP G ad σ) (some (.ref (ad 5 i))) (zP G ad σ) := by
  have h2 := c_treatyAt (G := G) (ad := ad) i (h.1.1 2 (by omega)).1 (by rw [h.1.2.2.2.1.1]; exact hi)
  rw [h.2.1.2.2.1 i hi] at h2
  exact h2
theorem c_coverAtW {G : zG} {ad : Nat → Nat → Nat} {σ : zSt} (i : Nat) (h : zW σ) (hi : i < sN σ 2) : zC G yX8_coverAt cX8_coverAt 2 (some (FieldType.object "Layertreaty$Cover")) 3 64 0 0 [.ref (ad 0 0), .int (nI i)] (zP G ad σ) (some (.ref (ad 7 i))) (zP G ad σ) := by
  have h2 := c_coverAt (G := G) (ad := ad) i (h.1.1 6 (by omega)).1 (by rw [h.1.2.2.2.2.2.2.2.1.1]; exact hi)
  rw [h.2.1.2.2.2.2.2.1 i hi] at h2
  exact h2
theorem c_scenarioAtW {G : zG} {ad : Nat → Nat → Nat} {σ : zSt} (i : Nat) (h : zW σ) (hi : i < sN σ 3) : zC G yX8_scenarioAt cX8_scenarioAt 2 (some (FieldType.object "Layertreaty$Scenario")) 3 64 0 0 [.ref (ad 0 0), .int (nI i)] (zP G ad σ) (some (.ref (ad 9 i))) (zP G ad σ) := by
  have h2 := c_scenarioAt (G := G) (ad := ad) i (h.1.1 3 (by omega)).1 (by rw [h.1.2.2.2.2.1.1]; exact hi)
  rw [h.2.1.2.2.2.1 i hi] at h2
  exact h2
theorem zW.V {σ : zSt} (h : zW σ) {i : Nat} (hi : i < sN σ 2) : zlV σ i ∧ i < 8 := by
  have h5 := h.1.2.2.2.2.2.2.2.1.2
  have h8 := h.1.2.2.2.1.2
  exact ⟨Or.inl (by omega), by omega⟩
def v_left (σ : zSt) (k : Nat) : Int64 := sL (s_settle σ) 0 k 0
set_option maxRecDepth 100000 in
set_option maxHeartbeats 4000000 in
theorem c_left {G : zG} {ad : Nat → Nat → Nat} {σ : zSt} (k : Nat) (hw : zW σ) (hk : k < sN σ 1) : zC G yX8_left cX8_left 3 (some FieldType.long) 14 403 (sgc (s_settle σ) - sgc σ) (sgs (s_settle σ) - sgs σ) [.ref (ad 0 0), .int (nI k)] (zP G ad σ) (some (.long (v_left σ k))) (zP G ad (s_settle σ)) := by
  refine zC_of (by decide) (Nat.le_of_ble_eq_true rfl) (fun X K E hnm => ?_)
  show zV G X 3 (zP G ad σ) 0 0 0 [(0, .ref (ad 0 0)), (1, .int (nI k))] []
  refine zV.wd (k' := sgc σ - sgc σ) (n' := sgs σ - sgs σ) (Nat.zero_le _) (Nat.zero_le _) ?_
  refine zi_aload_n K (dX8_left 0 rfl) 0 rfl ?_
  refine zi_iload_n K (dX8_left 1 rfl) 1 rfl ?_
  refine zi_callV K (na := 1) [] [.ref (ad 2 k)] (c_claimAtW (σ := σ) k hw hk) (dX8_left 2 rfl) w_1066 w_1068 w_20 w_25 w_1069 (by decide +kernel) rfl (fun H h => zi_recv K (zr_O (σ := σ) rfl H h).1 rfl) (fun H h => h) ⟨Nat.le_of_ble_eq_true rfl, Nat.le_of_ble_eq_true rfl⟩ ⟨(zq3 (settle_W hw).2.2.1.1), (zq3 (settle_W hw).2.2.1.2)⟩ (Nat.le_of_ble_eq_true rfl) rfl rfl ?_
  refine zi_astore_n K [(2, .ref (ad 2 k)), (0, .ref (ad 0 0)), (1, .int (nI k))] (dX8_left 3 rfl) (by decide) rfl ?_
  refine zi_aload_n K (dX8_left 4 rfl) 1 rfl ?_
  refine zi_callV K (na := 0) [] [] (c_settle (σ := σ) hw.wf0) (dX8_left 5 rfl) w_546 w_548 w_13 w_25 w_549 (by decide +kernel) rfl (fun H h => zi_recv K (zr_O (σ := σ) rfl H h).1 rfl) (fun H h => h) ⟨Nat.le_of_ble_eq_true rfl, Nat.le_of_ble_eq_true rfl⟩ ⟨(zq1 (zLeR σ).1 (settle_W hw).2.2.1.1 (zLeR _).1), (zq1 (zLeR σ).2 (settle_W hw).2.2.1.2 (zLeR _).2)⟩ (Nat.le_of_ble_eq_true rfl) rfl rfl ?_
  have e1 : zSx zQd (s_settle σ) σ := ((settle_W hw).2.1).trans zSx.rf
  refine zV.wd (k' := sgc (s_settle σ) - sgc σ) (n' := sgs (s_settle σ) - sgs σ) (zq2 (zLeR σ).1 (settle_W hw).2.2.1.1) (zq2 (zLeR σ).2 (settle_W hw).2.2.1.2) ?_
  refine zi_aload_n K (dX8_left 6 rfl) 0 rfl ?_
  refine zg_CL_left K (zSx_C e1 (Or.inl hk)) w_760 (dX8_left 7 rfl) ?_
  exact zi_lret K E (dX8_left 8 rfl) (Nat.le_refl _) (Nat.le_refl _) rfl (fun H h => by exact h)
def v_taken (σ : zSt) (t : Nat) : Int64 := sL (s_settle σ) 3 t 0
set_option maxRecDepth 100000 in
set_option maxHeartbeats 4000000 in
theorem c_taken {G : zG} {ad : Nat → Nat → Nat} {σ : zSt} (t : Nat) (hw : zW σ) (ht : t < sN σ 2) : zC G yX8_taken cX8_taken 2 (some FieldType.long) 14 403 (sgc (s_settle σ) - sgc σ) (sgs (s_settle σ) - sgs σ) [.ref (ad 0 0), .int (nI t)] (zP G ad σ) (some (.long (v_taken σ t))) (zP G ad (s_settle σ)) := by
  refine zC_of (by decide) (Nat.le_of_ble_eq_true rfl) (fun X K E hnm => ?_)
  show zV G X 2 (zP G ad σ) 0 0 0 [(0, .ref (ad 0 0)), (1, .int (nI t))] []
  refine zV.wd (k' := sgc σ - sgc σ) (n' := sgs σ - sgs σ) (Nat.zero_le _) (Nat.zero_le _) ?_
  refine zi_aload_n K (dX8_taken 0 rfl) 0 rfl ?_
  refine zi_callV K (na := 0) [] [] (c_settle (σ := σ) hw.wf0) (dX8_taken 1 rfl) w_546 w_548 w_13 w_25 w_549 (by decide +kernel) rfl (fun H h => zi_recv K (zr_O (σ := σ) rfl H h).1 rfl) (fun H h => h) ⟨Nat.le_of_ble_eq_true rfl, Nat.le_of_ble_eq_true rfl⟩ ⟨(zq1 (zLeR σ).1 (settle_W hw).2.2.1.1 (zLeR _).1), (zq1 (zLeR σ).2 (settle_W hw).2.2.1.2 (zLeR _).2)⟩ (Nat.le_of_ble_eq_true rfl) rfl rfl ?_
  have e1 : zSx zQd (s_settle σ) σ := ((settle_W hw).2.1).trans zSx.rf
  refine zV.wd (k' := sgc (s_settle σ) - sgc σ) (n' := sgs (s_settle σ) - sgs σ) (zq2 (zLeR σ).1 (settle_W hw).2.2.1.1) (zq2 (zLeR σ).2 (settle_W hw).2.2.1.2) ?_
  refine zi_aload_n K (dX8_taken 2 rfl) 0 rfl ?_
  refine zi_iload_n K (dX8_taken 3 rfl) 1 rfl ?_
  refine zi_callV K (na := 1) [] [.ref (ad 7 t)] (c_coverAtW (σ := (s_settle σ)) t (settle_W hw).1 (zSx_N (settle_W hw).2.1 ht)) (dX8_taken 4 rfl) w_1240 w_1242 w_21 w_25 w_1243 (by decide +kernel) rfl (fun H h => zi_recv K (zr_O (σ := (s_settle σ)) rfl H h).1 rfl) (fun H h => h) ⟨Nat.le_of_ble_eq_true rfl, Nat.le_of_ble_eq_true rfl⟩ ⟨(zq3 (zLeR _).1), (zq3 (zLeR _).2)⟩ (Nat.le_of_ble_eq_true rfl) rfl rfl ?_
  refine zg_COV_taken K (zSx_V e1 (hw.V ht).1) w_1171 (dX8_taken 5 rfl) ?_
  exact zi_lret K E (dX8_taken 6 rfl) (Nat.le_refl _) (Nat.le_refl _) rfl (fun H h => by exact h)
def v_takenFrom (σ : zSt) (t k : Nat) : Int64 := sL (s_settle σ) 1 k t
set_option maxRecDepth 100000 in
set_option maxHeartbeats 4000000 in
theorem c_takenFrom {G : zG} {ad : Nat → Nat → Nat} {σ : zSt} (t k : Nat) (hw : zW σ) (ht : t < sN σ 2) (hk : k < sN σ 1) : zC G yX8_takenFrom cX8_takenFrom 5 (some FieldType.long) 14 403 (sgc (s_settle σ) - sgc σ) (sgs (s_settle σ) - sgs σ) [.ref (ad 0 0), .int (nI t), .int (nI k)] (zP G ad σ) (some (.long (v_takenFrom σ t k))) (zP G ad (s_settle σ)) := by
  refine zC_of (by decide) (Nat.le_of_ble_eq_true rfl) (fun X K E hnm => ?_)
  show zV G X 5 (zP G ad σ) 0 0 0 [(0, .ref (ad 0 0)), (1, .int (nI t)), (2, .int (nI k))] []
  refine zV.wd (k' := sgc σ - sgc σ) (n' := sgs σ - sgs σ) (Nat.zero_le _) (Nat.zero_le _) ?_
  refine zi_aload_n K (dX8_takenFrom 0 rfl) 0 rfl ?_
  refine zi_iload_n K (dX8_takenFrom 1 rfl) 1 rfl ?_
  refine zi_callV K (na := 1) [] [.ref (ad 5 t)] (c_treatyAtW (σ := σ) t hw ht) (dX8_takenFrom 2 rfl) w_226 w_228 w_0 w_25 w_229 (by decide +kernel) rfl (fun H h => zi_recv K (zr_O (σ := σ) rfl H h).1 rfl) (fun H h => h) ⟨Nat.le_of_ble_eq_true rfl, Nat.le_of_ble_eq_true rfl⟩ ⟨(zq3 (settle_W hw).2.2.1.1), (zq3 (settle_W hw).2.2.1.2)⟩ (Nat.le_of_ble_eq_true rfl) rfl rfl ?_
  refine zi_astore_n K [(3, .ref (ad 5 t)), (0, .ref (ad 0 0)), (1, .int (nI t)), (2, .int (nI k))] (dX8_takenFrom 3 rfl) (by decide) rfl ?_
  refine zi_aload_n K (dX8_takenFrom 4 rfl) 1 rfl ?_
  refine zi_iload_n K (dX8_takenFrom 5 rfl) 3 rfl ?_
  refine zi_callV K (na := 1) [] [.ref (ad 2 k)] (c_claimAtW (σ := σ) k hw hk) (dX8_takenFrom 6 rfl) w_1066 w_1068 w_20 w_25 w_1069 (by decide +kernel) rfl (fun H h => zi_recv K (zr_O (σ := σ) rfl H h).1 rfl) (fun H h => h) ⟨Nat.le_of_ble_eq_true rfl, Nat.le_of_ble_eq_true rfl⟩ ⟨(zq3 (settle_W hw).2.2.1.1), (zq3 (settle_W hw).2.2.1.2)⟩ (Nat.le_of_ble_eq_true rfl) rfl rfl ?_
  refine zi_astore K [(4, .ref (ad 2 k)), (3, .ref (ad 5 t)), (0, .ref (ad 0 0)), (1, .int (nI t)), (2, .int (nI k))] (dX8_takenFrom 7 rfl) (by decide) rfl ?_
  refine zi_aload_n K (dX8_takenFrom 8 rfl) 2 rfl ?_
  refine zi_callV K (na := 0) [] [] (c_settle (σ := σ) hw.wf0) (dX8_takenFrom 9 rfl) w_546 w_548 w_13 w_25 w_549 (by decide +kernel) rfl (fun H h => zi_recv K (zr_O (σ := σ) rfl H h).1 rfl) (fun H h => h) ⟨Nat.le_of_ble_eq_true rfl, Nat.le_of_ble_eq_true rfl⟩ ⟨(zq1 (zLeR σ).1 (settle_W hw).2.2.1.1 (zLeR _).1), (zq1 (zLeR σ).2 (settle_W hw).2.2.1.2 (zLeR _).2)⟩ (Nat.le_of_ble_eq_true rfl) rfl rfl ?_
  have e1 : zSx zQd (s_settle σ) σ := ((settle_W hw).2.1).trans zSx.rf
  refine zV.wd (k' := sgc (s_settle σ) - sgc σ) (n' := sgs (s_settle σ) - sgs σ) (zq2 (zLeR σ).1 (settle_W hw).2.2.1.1) (zq2 (zLeR σ).2 (settle_W hw).2.2.1.2) ?_
  refine zi_aload K (dX8_takenFrom 10 rfl) 0 rfl ?_
  refine zg_CL_took K (zSx_C e1 (Or.inl hk)) w_743 (dX8_takenFrom 11 rfl) ?_
  refine zi_aload_n K (dX8_takenFrom 12 rfl) 1 rfl ?_
  refine zg_TR_number K (zSx_N e1 ht) w_1094 (dX8_takenFrom 13 rfl) ?_
  refine zl_TOOK K (zSx_C e1 (Or.inl hk)) t rfl (hw.V ht).2 (dX8_takenFrom 14 rfl) ?_
  exact zi_lret K E (dX8_takenFrom 15 rfl) (Nat.le_refl _) (Nat.le_refl _) rfl (fun H h => by exact h)
def v_limit (σ : zSt) (t : Nat) : Int64 := sL (s_settle σ) 2 t 0
set_option maxRecDepth 100000 in
set_option maxHeartbeats 4000000 in
theorem c_limit {G : zG} {ad : Nat → Nat → Nat} {σ : zSt} (t : Nat) (hw : zW σ) (ht : t < sN σ 2) (hl : ¬ v_isLimited σ (t % 8) = 0) (hcm : sI σ 19 (t % 8) 0 = 0) : zC G yX8_limit cX8_limit 3 (some FieldType.long) 14 403 (sgc (s_settle σ) - sgc σ) (sgs (s_settle σ) - sgs σ) [.ref (ad 0 0), .int (nI t)] (zP G ad σ) (some (.long (v_limit σ t))) (zP G ad (s_settle σ)) := by
  refine zC_of (by decide) (Nat.le_of_ble_eq_true rfl) (fun X K E hnm => ?_)
  show zV G X 3 (zP G ad σ) 0 0 0 [(0, .ref (ad 0 0)), (1, .int (nI t))] []
  refine zV.wd (k' := sgc σ - sgc σ) (n' := sgs σ - sgs σ) (Nat.zero_le _) (Nat.zero_le _) ?_
  refine zi_aload_n K (dX8_limit 0 rfl) 0 rfl ?_
  refine zi_iload_n K (dX8_limit 1 rfl) 1 rfl ?_
  refine zi_callV K (na := 1) [] [.ref (ad 7 t)] (c_coverAtW (σ := σ) t hw ht) (dX8_limit 2 rfl) w_1240 w_1242 w_21 w_25 w_1243 (by decide +kernel) rfl (fun H h => zi_recv K (zr_O (σ := σ) rfl H h).1 rfl) (fun H h => h) ⟨Nat.le_of_ble_eq_true rfl, Nat.le_of_ble_eq_true rfl⟩ ⟨(zq3 (settle_W hw).2.2.1.1), (zq3 (settle_W hw).2.2.1.2)⟩ (Nat.le_of_ble_eq_true rfl) rfl rfl ?_
  refine zi_astore_n K [(2, .ref (ad 7 t)), (0, .ref (ad 0 0)), (1, .int (nI t))] (dX8_limit 3 rfl) (by decide) rfl ?_
  refine zi_aload_n K (dX8_limit 4 rfl) 0 rfl ?_
  refine zg_COV_treaty K (hw.V ht).1 w_1163 (dX8_limit 5 rfl) ?_
  refine zi_callV K (na := 0) [] [.int (v_isLimited σ (t % 8))] (c_isLimited  (t % 8) (hw.cv _ (hw.V ht).1)) (dX8_limit 6 rfl) w_1206 w_375 w_376 w_55 w_377 (by decide +kernel) rfl (fun H h => zi_recv K (zr_TR (σ := σ) (hw.cv _ (hw.V ht).1) H h).1 rfl) (fun H h => h) ⟨Nat.le_of_ble_eq_true rfl, Nat.le_of_ble_eq_true rfl⟩ ⟨(zq3 (settle_W hw).2.2.1.1), (zq3 (settle_W hw).2.2.1.2)⟩ (Nat.le_of_ble_eq_true rfl) rfl rfl ?_
  refine zi_if_ne K 26 (dX8_limit 7 rfl) rfl (fun h13_0 => ?_) (fun h13_0 => ?_)
  rotate_left
  · exact absurd h13_0 hl
  refine zi_aload_n K (dX8_limit 13 rfl) 0 rfl ?_
  refine zg_COV_treaty K (hw.V ht).1 w_1163 (dX8_limit 14 rfl) ?_
  refine zg_TR_isCommuted K (hw.cv _ (hw.V ht).1) w_1121 (dX8_limit 15 rfl) ?_
  refine zi_if_eq K 46 (dX8_limit 16 rfl) rfl (fun h33_0 => ?_) (fun h33_0 => ?_)
  rotate_left
  · exact absurd hcm h33_0
  refine zi_aload_n K (dX8_limit 22 rfl) 1 rfl ?_
  refine zi_callV K (na := 0) [] [] (c_settle (σ := σ) hw.wf0) (dX8_limit 23 rfl) w_546 w_548 w_13 w_25 w_549 (by decide +kernel) rfl (fun H h => zi_recv K (zr_O (σ := σ) rfl H h).1 rfl) (fun H h => h) ⟨Nat.le_of_ble_eq_true rfl, Nat.le_of_ble_eq_true rfl⟩ ⟨(zq1 (zLeR σ).1 (settle_W hw).2.2.1.1 (zLeR _).1), (zq1 (zLeR σ).2 (settle_W hw).2.2.1.2 (zLeR _).2)⟩ (Nat.le_of_ble_eq_true rfl) rfl rfl ?_
  have e1 : zSx zQd (s_settle σ) σ := ((settle_W hw).2.1).trans zSx.rf
  refine zV.wd (k' := sgc (s_settle σ) - sgc σ) (n' := sgs (s_settle σ) - sgs σ) (zq2 (zLeR σ).1 (settle_W hw).2.2.1.1) (zq2 (zLeR σ).2 (settle_W hw).2.2.1.2) ?_
  refine zi_aload_n K (dX8_limit 24 rfl) 0 rfl ?_
  refine zg_COV_limitLeft K (zSx_V e1 (hw.V ht).1) w_1169 (dX8_limit 25 rfl) ?_
  exact zi_lret K E (dX8_limit 26 rfl) (Nat.le_refl _) (Nat.le_refl _) rfl (fun H h => by exact h)
def v_reinstated (σ : zSt) (t : Nat) : Int64 := sL (s_settle σ) 4 t 0
set_option maxRecDepth 100000 in
set_option maxHeartbeats 4000000 in
theorem c_reinstated {G : zG} {ad : Nat → Nat → Nat} {σ : zSt} (t : Nat) (hw : zW σ) (ht : t < sN σ 2) : zC G yX8_reinstated cX8_reinstated 2 (some FieldType.long) 14 403 (sgc (s_settle σ) - sgc σ) (sgs (s_settle σ) - sgs σ) [.ref (ad 0 0), .int (nI t)] (zP G ad σ) (some (.long (v_reinstated σ t))) (zP G ad (s_settle σ)) := by
  refine zC_of (by decide) (Nat.le_of_ble_eq_true rfl) (fun X K E hnm => ?_)
  show zV G X 2 (zP G ad σ) 0 0 0 [(0, .ref (ad 0 0)), (1, .int (nI t))] []
  refine zV.wd (k' := sgc σ - sgc σ) (n' := sgs σ - sgs σ) (Nat.zero_le _) (Nat.zero_le _) ?_
  refine zi_aload_n K (dX8_reinstated 0 rfl) 0 rfl ?_
  refine zi_callV K (na := 0) [] [] (c_settle (σ := σ) hw.wf0) (dX8_reinstated 1 rfl) w_546 w_548 w_13 w_25 w_549 (by decide +kernel) rfl (fun H h => zi_recv K (zr_O (σ := σ) rfl H h).1 rfl) (fun H h => h) ⟨Nat.le_of_ble_eq_true rfl, Nat.le_of_ble_eq_true rfl⟩ ⟨(zq1 (zLeR σ).1 (settle_W hw).2.2.1.1 (zLeR _).1), (zq1 (zLeR σ).2 (settle_W hw).2.2.1.2 (zLeR _).2)⟩ (Nat.le_of_ble_eq_true rfl) rfl rfl ?_
  have e1 : zSx zQd (s_settle σ) σ := ((settle_W hw).2.1).trans zSx.rf
  refine zV.wd (k' := sgc (s_settle σ) - sgc σ) (n' := sgs (s_settle σ) - sgs σ) (zq2 (zLeR σ).1 (settle_W hw).2.2.1.1) (zq2 (zLeR σ).2 (settle_W hw).2.2.1.2) ?_
  refine zi_aload_n K (dX8_reinstated 2 rfl) 0 rfl ?_
  refine zi_iload_n K (dX8_reinstated 3 rfl) 1 rfl ?_
  refine zi_callV K (na := 1) [] [.ref (ad 7 t)] (c_coverAtW (σ := (s_settle σ)) t (settle_W hw).1 (zSx_N (settle_W hw).2.1 ht)) (dX8_reinstated 4 rfl) w_1240 w_1242 w_21 w_25 w_1243 (by decide +kernel) rfl (fun H h => zi_recv K (zr_O (σ := (s_settle σ)) rfl H h).1 rfl) (fun H h => h) ⟨Nat.le_of_ble_eq_true rfl, Nat.le_of_ble_eq_true rfl⟩ ⟨(zq3 (zLeR _).1), (zq3 (zLeR _).2)⟩ (Nat.le_of_ble_eq_true rfl) rfl rfl ?_
  refine zg_COV_reinstated K (zSx_V e1 (hw.V ht).1) w_1174 (dX8_reinstated 5 rfl) ?_
  exact zi_lret K E (dX8_reinstated 6 rfl) (Nat.le_refl _) (Nat.le_refl _) rfl (fun H h => by exact h)
def v_owed (σ : zSt) (t : Nat) : Int64 := sL (s_settle σ) 5 t 0
set_option maxRecDepth 100000 in
set_option maxHeartbeats 4000000 in
theorem c_owed {G : zG} {ad : Nat → Nat → Nat} {σ : zSt} (t : Nat) (hw : zW σ) (ht : t < sN σ 2) : zC G yX8_owed cX8_owed 2 (some FieldType.long) 14 403 (sgc (s_settle σ) - sgc σ) (sgs (s_settle σ) - sgs σ) [.ref (ad 0 0), .int (nI t)] (zP G ad σ) (some (.long (v_owed σ t))) (zP G ad (s_settle σ)) := by
  refine zC_of (by decide) (Nat.le_of_ble_eq_true rfl) (fun X K E hnm => ?_)
  show zV G X 2 (zP G ad σ) 0 0 0 [(0, .ref (ad 0 0)), (1, .int (nI t))] []
  refine zV.wd (k' := sgc σ - sgc σ) (n' := sgs σ - sgs σ) (Nat.zero_le _) (Nat.zero_le _) ?_
  refine zi_aload_n K (dX8_owed 0 rfl) 0 rfl ?_
  refine zi_callV K (na := 0) [] [] (c_settle (σ := σ) hw.wf0) (dX8_owed 1 rfl) w_546 w_548 w_13 w_25 w_549 (by decide +kernel) rfl (fun H h => zi_recv K (zr_O (σ := σ) rfl H h).1 rfl) (fun H h => h) ⟨Nat.le_of_ble_eq_true rfl, Nat.le_of_ble_eq_true rfl⟩ ⟨(zq1 (zLeR σ).1 (settle_W hw).2.2.1.1 (zLeR _).1), (zq1 (zLeR σ).2 (settle_W hw).2.2.1.2 (zLeR _).2)⟩ (Nat.le_of_ble_eq_true rfl) rfl rfl ?_
  have e1 : zSx zQd (s_settle σ) σ := ((settle_W hw).2.1).trans zSx.rf
  refine zV.wd (k' := sgc (s_settle σ) - sgc σ) (n' := sgs (s_settle σ) - sgs σ) (zq2 (zLeR σ).1 (settle_W hw).2.2.1.1) (zq2 (zLeR σ).2 (settle_W hw).2.2.1.2) ?_
  refine zi_aload_n K (dX8_owed 2 rfl) 0 rfl ?_
  refine zi_iload_n K (dX8_owed 3 rfl) 1 rfl ?_
  refine zi_callV K (na := 1) [] [.ref (ad 7 t)] (c_coverAtW (σ := (s_settle σ)) t (settle_W hw).1 (zSx_N (settle_W hw).2.1 ht)) (dX8_owed 4 rfl) w_1240 w_1242 w_21 w_25 w_1243 (by decide +kernel) rfl (fun H h => zi_recv K (zr_O (σ := (s_settle σ)) rfl H h).1 rfl) (fun H h => h) ⟨Nat.le_of_ble_eq_true rfl, Nat.le_of_ble_eq_true rfl⟩ ⟨(zq3 (zLeR _).1), (zq3 (zLeR _).2)⟩ (Nat.le_of_ble_eq_true rfl) rfl rfl ?_
  refine zg_COV_owed K (zSx_V e1 (hw.V ht).1) w_1176 (dX8_owed 5 rfl) ?_
  exact zi_lret K E (dX8_owed 6 rfl) (Nat.le_refl _) (Nat.le_refl _) rfl (fun H h => by exact h)
def v_events (σ : zSt) (t z : Nat) : Int32 := sI (s_settle σ) 22 t z
set_option maxRecDepth 100000 in
set_option maxHeartbeats 4000000 in
theorem c_events {G : zG} {ad : Nat → Nat → Nat} {σ : zSt} (t z : Nat) (hw : zW σ) (ht : t < sN σ 2) (hz4 : z < 4) (hz : v_isOut σ (nI z) 0 3 = 0) (he : sI σ 8 (t % 8) 0 = 101) : zC G yX8_events cX8_events 4 (some FieldType.int) 14 403 (sgc (s_settle σ) - sgc σ) (sgs (s_settle σ) - sgs σ) [.ref (ad 0 0), .int (nI t), .int (nI z)] (zP G ad σ) (some (.int (v_events σ t z))) (zP G ad (s_settle σ)) := by
  refine zC_of (by decide) (Nat.le_of_ble_eq_true rfl) (fun X K E hnm => ?_)
  show zV G X 4 (zP G ad σ) 0 0 0 [(0, .ref (ad 0 0)), (1, .int (nI t)), (2, .int (nI z))] []
  refine zV.wd (k' := sgc σ - sgc σ) (n' := sgs σ - sgs σ) (Nat.zero_le _) (Nat.zero_le _) ?_
  refine zi_aload_n K (dX8_events 0 rfl) 0 rfl ?_
  refine zi_iload_n K (dX8_events 1 rfl) 1 rfl ?_
  refine zi_callV K (na := 1) [] [.ref (ad 7 t)] (c_coverAtW (σ := σ) t hw ht) (dX8_events 2 rfl) w_1240 w_1242 w_21 w_25 w_1243 (by decide +kernel) rfl (fun H h => zi_recv K (zr_O (σ := σ) rfl H h).1 rfl) (fun H h => h) ⟨Nat.le_of_ble_eq_true rfl, Nat.le_of_ble_eq_true rfl⟩ ⟨(zq3 (settle_W hw).2.2.1.1), (zq3 (settle_W hw).2.2.1.2)⟩ (Nat.le_of_ble_eq_true rfl) rfl rfl ?_
  refine zi_astore_n K [(3, .ref (ad 7 t)), (0, .ref (ad 0 0)), (1, .int (nI t)), (2, .int (nI z))] (dX8_events 3 rfl) (by decide) rfl ?_
  refine zi_iload_n K (dX8_events 4 rfl) 3 rfl ?_
  refine zi_iconst K (dX8_events 5 rfl) zk_i0 ?_
  refine zi_iconst K (dX8_events 6 rfl) zk_i3 ?_
  refine zi_callS K (na := 3) (As := [.int (nI z), .int 0, .int 3]) [] [.int (v_isOut σ (nI z) 0 3)] (c_isOut  (nI z) 0 3) (dX8_events 7 rfl) w_234 w_235 w_25 w_236 (by decide +kernel) rfl (fun H h => h) ⟨Nat.le_of_ble_eq_true rfl, Nat.le_of_ble_eq_true rfl⟩ ⟨(zq3 (settle_W hw).2.2.1.1), (zq3 (settle_W hw).2.2.1.2)⟩ (Nat.le_of_ble_eq_true rfl) rfl rfl ?_
  refine zi_if_eq K 26 (dX8_events 8 rfl) rfl (fun h12_0 => ?_) (fun h12_0 => ?_)
  rotate_left
  · exact absurd hz h12_0
  refine zi_aload_n K (dX8_events 14 rfl) 0 rfl ?_
  refine zg_COV_treaty K (hw.V ht).1 w_1163 (dX8_events 15 rfl) ?_
  refine zi_callS K (na := 1) (As := [.ref (ad 5 (t % 8))]) [] [] (c_hasEvents (σ := σ) (t % 8) (hw.cv _ (hw.V ht).1) he) (dX8_events 16 rfl) w_324 w_325 w_25 w_326 (by decide +kernel) rfl (fun H h => h) ⟨Nat.le_of_ble_eq_true rfl, Nat.le_of_ble_eq_true rfl⟩ ⟨(zq3 (settle_W hw).2.2.1.1), (zq3 (settle_W hw).2.2.1.2)⟩ (Nat.le_of_ble_eq_true rfl) rfl rfl ?_
  refine zi_aload_n K (dX8_events 17 rfl) 1 rfl ?_
  refine zi_callV K (na := 0) [] [] (c_settle (σ := σ) hw.wf0) (dX8_events 18 rfl) w_546 w_548 w_13 w_25 w_549 (by decide +kernel) rfl (fun H h => zi_recv K (zr_O (σ := σ) rfl H h).1 rfl) (fun H h => h) ⟨Nat.le_of_ble_eq_true rfl, Nat.le_of_ble_eq_true rfl⟩ ⟨(zq1 (zLeR σ).1 (settle_W hw).2.2.1.1 (zLeR _).1), (zq1 (zLeR σ).2 (settle_W hw).2.2.1.2 (zLeR _).2)⟩ (Nat.le_of_ble_eq_true rfl) rfl rfl ?_
  have e1 : zSx zQd (s_settle σ) σ := ((settle_W hw).2.1).trans zSx.rf
  refine zV.wd (k' := sgc (s_settle σ) - sgc σ) (n' := sgs (s_settle σ) - sgs σ) (zq2 (zLeR σ).1 (settle_W hw).2.2.1.1) (zq2 (zLeR σ).2 (settle_W hw).2.2.1.2) ?_
  refine zi_aload_n K (dX8_events 19 rfl) 0 rfl ?_
  refine zg_COV_events K (zSx_V e1 (hw.V ht).1) w_1166 (dX8_events 20 rfl) ?_
  refine zi_iload_n K (dX8_events 21 rfl) 3 rfl ?_
  refine zl_CEV K (zSx_V e1 (hw.V ht).1) z rfl hz4 (dX8_events 22 rfl) ?_
  exact zi_iret K E (dX8_events 23 rfl) (Nat.le_refl _) (Nat.le_refl _) rfl (fun H h => by exact h)
def v_isSame (σ : zSt) (t : Nat) : Int32 := v_laidBest σ 0 t
set_option maxRecDepth 100000 in
set_option maxHeartbeats 4000000 in
theorem c_isSame {G : zG} {ad : Nat → Nat → Nat} {σ : zSt} (t : Nat) (hw : zW σ) (ht : t < sN σ 2) (he : sI σ 8 t 0 = 101) : zC G yX8_isSame cX8_isSame 3 (some FieldType.boolean) 14 404 (sgc (s_run σ 0 (nI t)) - sgc σ) (sgs (s_run σ 0 (nI t)) - sgs σ) [.ref (ad 0 0), .int (nI t)] (zP G ad σ) (some (.int (v_isSame σ t))) (zP G ad (s_run σ 0 (nI t))) := by
  refine zC_of (by decide) (Nat.le_of_ble_eq_true rfl) (fun X K E hnm => ?_)
  show zV G X 3 (zP G ad σ) 0 0 0 [(0, .ref (ad 0 0)), (1, .int (nI t))] []
  refine zV.wd (k' := sgc σ - sgc σ) (n' := sgs σ - sgs σ) (Nat.zero_le _) (Nat.zero_le _) ?_
  refine zi_aload_n K (dX8_isSame 0 rfl) 0 rfl ?_
  refine zi_iload_n K (dX8_isSame 1 rfl) 1 rfl ?_
  refine zi_callV K (na := 1) [] [.ref (ad 5 t)] (c_treatyAtW (σ := σ) t hw ht) (dX8_isSame 2 rfl) w_226 w_228 w_0 w_25 w_229 (by decide +kernel) rfl (fun H h => zi_recv K (zr_O (σ := σ) rfl H h).1 rfl) (fun H h => h) ⟨Nat.le_of_ble_eq_true rfl, Nat.le_of_ble_eq_true rfl⟩ ⟨(zq3 (run0_W (tr := nI t) hw).2.2.1.1), (zq3 (run0_W (tr := nI t) hw).2.2.1.2)⟩ (Nat.le_of_ble_eq_true rfl) rfl rfl ?_
  refine zi_astore_n K [(2, .ref (ad 5 t)), (0, .ref (ad 0 0)), (1, .int (nI t))] (dX8_isSame 3 rfl) (by decide) rfl ?_
  refine zi_aload_n K (dX8_isSame 4 rfl) 0 rfl ?_
  refine zi_callS K (na := 1) (As := [.ref (ad 5 t)]) [] [] (c_hasEvents (σ := σ) t ht he) (dX8_isSame 5 rfl) w_324 w_325 w_25 w_326 (by decide +kernel) rfl (fun H h => h) ⟨Nat.le_of_ble_eq_true rfl, Nat.le_of_ble_eq_true rfl⟩ ⟨(zq3 (run0_W (tr := nI t) hw).2.2.1.1), (zq3 (run0_W (tr := nI t) hw).2.2.1.2)⟩ (Nat.le_of_ble_eq_true rfl) rfl rfl ?_
  refine zi_aload_n K (dX8_isSame 6 rfl) 1 rfl ?_
  refine zg_O_real K rfl w_199 (dX8_isSame 7 rfl) ?_
  refine zi_aload_n K (dX8_isSame 8 rfl) 0 rfl ?_
  refine zi_callV K (na := 1) [] [.int (v_laidBest σ 0 t)] (c_laidBest (σ := σ) 0 t (by decide) hw.wf0 ht) (dX8_isSame 9 rfl) w_343 w_344 w_345 w_29 w_346 (by decide +kernel) rfl (fun H h => zi_recv K (zr_FL (σ := σ) (by decide) H h).1 rfl) (fun H h => h) ⟨Nat.le_of_ble_eq_true rfl, Nat.le_of_ble_eq_true rfl⟩ ⟨(zq1 (zLeR σ).1 (run0_W (tr := nI t) hw).2.2.1.1 (zLeR _).1), (zq1 (zLeR σ).2 (run0_W (tr := nI t) hw).2.2.1.2 (zLeR _).2)⟩ (Nat.le_of_ble_eq_true rfl) rfl rfl ?_
  have e1 : zSx zQd (s_run σ 0 (nI t)) σ := (zSx.wk (zQbd (by decide)) (run0_W (tr := nI t) hw).2.1).trans zSx.rf
  refine zV.wd (k' := sgc (s_run σ 0 (nI t)) - sgc σ) (n' := sgs (s_run σ 0 (nI t)) - sgs σ) (zq2 (zLeR σ).1 (run0_W (tr := nI t) hw).2.2.1.1) (zq2 (zLeR σ).2 (run0_W (tr := nI t) hw).2.2.1.2) ?_
  exact zi_zret K E (dX8_isSame 10 rfl) (Nat.le_refl _) (Nat.le_refl _) rfl ((run26 (by decide) hw.wf0).ok).1 (fun H h => by exact h)
def v_paid (σ : zSt) (t r : Nat) : Int64 := if sI (s_settle σ) 31 0 r = 0 then v_partOf (s_settle σ) 0 t r else 0
set_option maxRecDepth 100000 in
set_option maxHeartbeats 4000000 in
theorem c_paid {G : zG} {ad : Nat → Nat → Nat} {σ : zSt} (t r : Nat) (hw : zW σ) (ht : t < sN σ 2) (hr : r < 5) : zC G yX8_paid cX8_paid 4 (some FieldType.long) 14 403 (sgc (s_settle σ) - sgc σ) (sgs (s_settle σ) - sgs σ) [.ref (ad 0 0), .int (nI t), .int (nI r)] (zP G ad σ) (some (.long (v_paid σ t r))) (zP G ad (s_settle σ)) := by
  refine zC_of (by decide) (Nat.le_of_ble_eq_true rfl) (fun X K E hnm => ?_)
  show zV G X 4 (zP G ad σ) 0 0 0 [(0, .ref (ad 0 0)), (1, .int (nI t)), (2, .int (nI r))] []
  refine zV.wd (k' := sgc σ - sgc σ) (n' := sgs σ - sgs σ) (Nat.zero_le _) (Nat.zero_le _) ?_
  refine zi_aload_n K (dX8_paid 0 rfl) 0 rfl ?_
  refine zi_iload_n K (dX8_paid 1 rfl) 1 rfl ?_
  refine zi_callV K (na := 1) [] [.ref (ad 5 t)] (c_treatyAtW (σ := σ) t hw ht) (dX8_paid 2 rfl) w_226 w_228 w_0 w_25 w_229 (by decide +kernel) rfl (fun H h => zi_recv K (zr_O (σ := σ) rfl H h).1 rfl) (fun H h => h) ⟨Nat.le_of_ble_eq_true rfl, Nat.le_of_ble_eq_true rfl⟩ ⟨(zq3 (settle_W hw).2.2.1.1), (zq3 (settle_W hw).2.2.1.2)⟩ (Nat.le_of_ble_eq_true rfl) rfl rfl ?_
  refine zi_astore_n K [(3, .ref (ad 5 t)), (0, .ref (ad 0 0)), (1, .int (nI t)), (2, .int (nI r))] (dX8_paid 3 rfl) (by decide) rfl ?_
  refine zi_iload_n K (dX8_paid 4 rfl) 3 rfl ?_
  refine zi_callS K (na := 1) (As := [.int (nI r)]) [] [] (c_checkRe (σ := σ) r hr) (dX8_paid 5 rfl) w_1223 w_1224 w_25 w_1225 (by decide +kernel) rfl (fun H h => h) ⟨Nat.le_of_ble_eq_true rfl, Nat.le_of_ble_eq_true rfl⟩ ⟨(zq3 (settle_W hw).2.2.1.1), (zq3 (settle_W hw).2.2.1.2)⟩ (Nat.le_of_ble_eq_true rfl) rfl rfl ?_
  refine zi_aload_n K (dX8_paid 6 rfl) 1 rfl ?_
  refine zi_callV K (na := 0) [] [] (c_settle (σ := σ) hw.wf0) (dX8_paid 7 rfl) w_546 w_548 w_13 w_25 w_549 (by decide +kernel) rfl (fun H h => zi_recv K (zr_O (σ := σ) rfl H h).1 rfl) (fun H h => h) ⟨Nat.le_of_ble_eq_true rfl, Nat.le_of_ble_eq_true rfl⟩ ⟨(zq1 (zLeR σ).1 (settle_W hw).2.2.1.1 (zLeR _).1), (zq1 (zLeR σ).2 (settle_W hw).2.2.1.2 (zLeR _).2)⟩ (Nat.le_of_ble_eq_true rfl) rfl rfl ?_
  have e1 : zSx zQd (s_settle σ) σ := ((settle_W hw).2.1).trans zSx.rf
  refine zV.wd (k' := sgc (s_settle σ) - sgc σ) (n' := sgs (s_settle σ) - sgs σ) (zq2 (zLeR σ).1 (settle_W hw).2.2.1.1) (zq2 (zLeR σ).2 (settle_W hw).2.2.1.2) ?_
  refine zi_aload_n K (dX8_paid 8 rfl) 1 rfl ?_
  refine zg_O_pool K rfl w_201 (dX8_paid 9 rfl) ?_
  refine zg_POOL_isFailed K rfl w_160 (dX8_paid 10 rfl) ?_
  refine zi_iload_n K (dX8_paid 11 rfl) 3 rfl ?_
  refine zl_PFAIL K rfl r rfl hr (dX8_paid 12 rfl) ?_
  refine zi_if_eq K 30 (dX8_paid 13 rfl) rfl (fun h23_0 => ?_) (fun h23_0 => ?_)
  · skip
    refine zi_aload_n K (dX8_paid 16 rfl) 1 rfl ?_
    refine zg_O_real K rfl w_199 (dX8_paid 17 rfl) ?_
    refine zi_aload_n K (dX8_paid 18 rfl) 0 rfl ?_
    refine zi_iload_n K (dX8_paid 19 rfl) 3 rfl ?_
    refine zi_callV K (na := 2) [] [.long (v_partOf (s_settle σ) 0 t r)] (c_partOf (σ := (s_settle σ)) 0 t r (by decide) (zSx_N e1 ht) hr (hw.V ht).2 (settle_W hw).1.wf0.2.2.2.2.1) (dX8_paid 20 rfl) w_1431 w_561 w_562 w_29 w_563 (by decide +kernel) rfl (fun H h => zi_recv K (zr_FL (σ := (s_settle σ)) (by decide) H h).1 rfl) (fun H h => h) ⟨Nat.le_of_ble_eq_true rfl, Nat.le_of_ble_eq_true rfl⟩ ⟨(zq3 (zLeR _).1), (zq3 (zLeR _).2)⟩ (Nat.le_of_ble_eq_true rfl) rfl rfl ?_
    exact zi_lret K E (dX8_paid 21 rfl) (Nat.le_refl _) (Nat.le_refl _) (by unfold v_paid; rw [if_pos h23_0]) (fun H h => by exact h)
  · skip
    refine zi_lconst K (dX8_paid 14 rfl) zk_l0 ?_
    refine zi_goto K 39 (dX8_paid 15 rfl) rfl ?_
    exact zi_lret K E (dX8_paid 21 rfl) (Nat.le_refl _) (Nat.le_refl _) (by unfold v_paid; rw [if_neg h23_0]) (fun H h => by exact h)
def v_lost (σ : zSt) (r : Nat) : Int64 := if sI (s_settle σ) 31 0 r = 0 then 0 else v_allPartsOf (s_settle σ) 0 r
set_option maxRecDepth 100000 in
set_option maxHeartbeats 4000000 in
theorem c_lost {G : zG} {ad : Nat → Nat → Nat} {σ : zSt} (r : Nat) (hw : zW σ) (hr : r < 5) : zC G yX8_lost cX8_lost 2 (some FieldType.long) 14 403 (sgc (s_settle σ) - sgc σ) (sgs (s_settle σ) - sgs σ) [.ref (ad 0 0), .int (nI r)] (zP G ad σ) (some (.long (v_lost σ r))) (zP G ad (s_settle σ)) := by
  refine zC_of (by decide) (Nat.le_of_ble_eq_true rfl) (fun X K E hnm => ?_)
  show zV G X 2 (zP G ad σ) 0 0 0 [(0, .ref (ad 0 0)), (1, .int (nI r))] []
  refine zV.wd (k' := sgc σ - sgc σ) (n' := sgs σ - sgs σ) (Nat.zero_le _) (Nat.zero_le _) ?_
  refine zi_iload_n K (dX8_lost 0 rfl) 1 rfl ?_
  refine zi_callS K (na := 1) (As := [.int (nI r)]) [] [] (c_checkRe (σ := σ) r hr) (dX8_lost 1 rfl) w_1223 w_1224 w_25 w_1225 (by decide +kernel) rfl (fun H h => h) ⟨Nat.le_of_ble_eq_true rfl, Nat.le_of_ble_eq_true rfl⟩ ⟨(zq3 (settle_W hw).2.2.1.1), (zq3 (settle_W hw).2.2.1.2)⟩ (Nat.le_of_ble_eq_true rfl) rfl rfl ?_
  refine zi_aload_n K (dX8_lost 2 rfl) 0 rfl ?_
  refine zi_callV K (na := 0) [] [] (c_settle (σ := σ) hw.wf0) (dX8_lost 3 rfl) w_546 w_548 w_13 w_25 w_549 (by decide +kernel) rfl (fun H h => zi_recv K (zr_O (σ := σ) rfl H h).1 rfl) (fun H h => h) ⟨Nat.le_of_ble_eq_true rfl, Nat.le_of_ble_eq_true rfl⟩ ⟨(zq1 (zLeR σ).1 (settle_W hw).2.2.1.1 (zLeR _).1), (zq1 (zLeR σ).2 (settle_W hw).2.2.1.2 (zLeR _).2)⟩ (Nat.le_of_ble_eq_true rfl) rfl rfl ?_
  have e1 : zSx zQd (s_settle σ) σ := ((settle_W hw).2.1).trans zSx.rf
  refine zV.wd (k' := sgc (s_settle σ) - sgc σ) (n' := sgs (s_settle σ) - sgs σ) (zq2 (zLeR σ).1 (settle_W hw).2.2.1.1) (zq2 (zLeR σ).2 (settle_W hw).2.2.1.2) ?_
  refine zi_aload_n K (dX8_lost 4 rfl) 0 rfl ?_
  refine zg_O_pool K rfl w_201 (dX8_lost 5 rfl) ?_
  refine zg_POOL_isFailed K rfl w_160 (dX8_lost 6 rfl) ?_
  refine zi_iload_n K (dX8_lost 7 rfl) 1 rfl ?_
  refine zl_PFAIL K rfl r rfl hr (dX8_lost 8 rfl) ?_
  refine zi_if_eq K 31 (dX8_lost 9 rfl) rfl (fun h17_0 => ?_) (fun h17_0 => ?_)
  · skip
    refine zi_lconst K (dX8_lost 15 rfl) zk_l0 ?_
    exact zi_lret K E (dX8_lost 16 rfl) (Nat.le_refl _) (Nat.le_refl _) (by unfold v_lost; rw [if_pos h17_0]) (fun H h => by exact h)
  · skip
    refine zi_aload_n K (dX8_lost 10 rfl) 0 rfl ?_
    refine zg_O_real K rfl w_199 (dX8_lost 11 rfl) ?_
    refine zi_iload_n K (dX8_lost 12 rfl) 1 rfl ?_
    refine zi_callV K (na := 1) [] [.long (v_allPartsOf (s_settle σ) 0 r)] (c_allPartsOf (σ := (s_settle σ)) 0 r (by decide) hr (settle_W hw).1.wf0.2.2.2.1 (settle_W hw).1.wf0.2.2.2.2.1 (settle_W hw).1.wf0.2.2.2.2.2.2.1) (dX8_lost 13 rfl) w_556 w_557 w_558 w_29 w_559 (by decide +kernel) rfl (fun H h => zi_recv K (zr_FL (σ := (s_settle σ)) (by decide) H h).1 rfl) (fun H h => h) ⟨Nat.le_of_ble_eq_true rfl, Nat.le_of_ble_eq_true rfl⟩ ⟨(zq3 (zLeR _).1), (zq3 (zLeR _).2)⟩ (Nat.le_of_ble_eq_true rfl) rfl rfl ?_
    refine zi_goto K 32 (dX8_lost 14 rfl) rfl ?_
    exact zi_lret K E (dX8_lost 16 rfl) (Nat.le_refl _) (Nat.le_refl _) (by unfold v_lost; rw [if_neg h17_0]) (fun H h => by exact h)
def v_comes (σ : zSt) (r : Nat) : Int64 := sL (s_settlePool σ) 10 0 r
set_option maxRecDepth 100000 in
set_option maxHeartbeats 4000000 in
theorem c_comes {G : zG} {ad : Nat → Nat → Nat} {σ : zSt} (r : Nat) (hw : zW σ) (hr : r < 5) : zC G yX8_comes cX8_comes 2 (some FieldType.long) 17 481 (sgc (s_settlePool σ) - sgc σ) (sgs (s_settlePool σ) - sgs σ) [.ref (ad 0 0), .int (nI r)] (zP G ad σ) (some (.long (v_comes σ r))) (zP G ad (s_settlePool σ)) := by
  refine zC_of (by decide) (Nat.le_of_ble_eq_true rfl) (fun X K E hnm => ?_)
  show zV G X 2 (zP G ad σ) 0 0 0 [(0, .ref (ad 0 0)), (1, .int (nI r))] []
  refine zV.wd (k' := sgc σ - sgc σ) (n' := sgs σ - sgs σ) (Nat.zero_le _) (Nat.zero_le _) ?_
  refine zi_iload_n K (dX8_comes 0 rfl) 1 rfl ?_
  refine zi_callS K (na := 1) (As := [.int (nI r)]) [] [] (c_checkRe (σ := σ) r hr) (dX8_comes 1 rfl) w_1223 w_1224 w_25 w_1225 (by decide +kernel) rfl (fun H h => h) ⟨Nat.le_of_ble_eq_true rfl, Nat.le_of_ble_eq_true rfl⟩ ⟨(zq3 (settlePool_W hw).2.2.1.1), (zq3 (settlePool_W hw).2.2.1.2)⟩ (Nat.le_of_ble_eq_true rfl) rfl rfl ?_
  refine zi_aload_n K (dX8_comes 2 rfl) 0 rfl ?_
  refine zi_callV K (na := 0) [] [] (c_settlePool (σ := σ) hw) (dX8_comes 3 rfl) w_622 w_624 w_16 w_25 w_625 (by decide +kernel) rfl (fun H h => zi_recv K (zr_O (σ := σ) rfl H h).1 rfl) (fun H h => h) ⟨Nat.le_of_ble_eq_true rfl, Nat.le_of_ble_eq_true rfl⟩ ⟨(zq1 (zLeR σ).1 (settlePool_W hw).2.2.1.1 (zLeR _).1), (zq1 (zLeR σ).2 (settlePool_W hw).2.2.1.2 (zLeR _).2)⟩ (Nat.le_of_ble_eq_true rfl) rfl rfl ?_
  have e1 : zSx zQd (s_settlePool σ) σ := ((settlePool_W hw).2.1).trans zSx.rf
  refine zV.wd (k' := sgc (s_settlePool σ) - sgc σ) (n' := sgs (s_settlePool σ) - sgs σ) (zq2 (zLeR σ).1 (settlePool_W hw).2.2.1.1) (zq2 (zLeR σ).2 (settlePool_W hw).2.2.1.2) ?_
  refine zi_aload_n K (dX8_comes 4 rfl) 0 rfl ?_
  refine zg_O_pool K rfl w_201 (dX8_comes 5 rfl) ?_
  refine zg_POOL_comes K rfl w_170 (dX8_comes 6 rfl) ?_
  refine zi_iload_n K (dX8_comes 7 rfl) 1 rfl ?_
  refine zl_PCOM K rfl r rfl hr (dX8_comes 8 rfl) ?_
  exact zi_lret K E (dX8_comes 9 rfl) (Nat.le_refl _) (Nat.le_refl _) rfl (fun H h => by exact h)
def v_stays (σ : zSt) (r : Nat) : Int64 := (sL (s_settlePool σ) 10 0 r) - (v_handedOn (s_settlePool σ) r (sL (s_settlePool σ) 10 0 r))
set_option maxRecDepth 100000 in
set_option maxHeartbeats 4000000 in
theorem c_stays {G : zG} {ad : Nat → Nat → Nat} {σ : zSt} (r : Nat) (hw : zW σ) (hr : r < 5) : zC G yX8_stays cX8_stays 2 (some FieldType.long) 17 481 (sgc (s_settlePool σ) - sgc σ) (sgs (s_settlePool σ) - sgs σ) [.ref (ad 0 0), .int (nI r)] (zP G ad σ) (some (.long (v_stays σ r))) (zP G ad (s_settlePool σ)) := by
  refine zC_of (by decide) (Nat.le_of_ble_eq_true rfl) (fun X K E hnm => ?_)
  show zV G X 2 (zP G ad σ) 0 0 0 [(0, .ref (ad 0 0)), (1, .int (nI r))] []
  refine zV.wd (k' := sgc σ - sgc σ) (n' := sgs σ - sgs σ) (Nat.zero_le _) (Nat.zero_le _) ?_
  refine zi_iload_n K (dX8_stays 0 rfl) 1 rfl ?_
  refine zi_callS K (na := 1) (As := [.int (nI r)]) [] [] (c_checkRe (σ := σ) r hr) (dX8_stays 1 rfl) w_1223 w_1224 w_25 w_1225 (by decide +kernel) rfl (fun H h => h) ⟨Nat.le_of_ble_eq_true rfl, Nat.le_of_ble_eq_true rfl⟩ ⟨(zq3 (settlePool_W hw).2.2.1.1), (zq3 (settlePool_W hw).2.2.1.2)⟩ (Nat.le_of_ble_eq_true rfl) rfl rfl ?_
  refine zi_aload_n K (dX8_stays 2 rfl) 0 rfl ?_
  refine zi_callV K (na := 0) [] [] (c_settlePool (σ := σ) hw) (dX8_stays 3 rfl) w_622 w_624 w_16 w_25 w_625 (by decide +kernel) rfl (fun H h => zi_recv K (zr_O (σ := σ) rfl H h).1 rfl) (fun H h => h) ⟨Nat.le_of_ble_eq_true rfl, Nat.le_of_ble_eq_true rfl⟩ ⟨(zq1 (zLeR σ).1 (settlePool_W hw).2.2.1.1 (zLeR _).1), (zq1 (zLeR σ).2 (settlePool_W hw).2.2.1.2 (zLeR _).2)⟩ (Nat.le_of_ble_eq_true rfl) rfl rfl ?_
  have e1 : zSx zQd (s_settlePool σ) σ := ((settlePool_W hw).2.1).trans zSx.rf
  refine zV.wd (k' := sgc (s_settlePool σ) - sgc σ) (n' := sgs (s_settlePool σ) - sgs σ) (zq2 (zLeR σ).1 (settlePool_W hw).2.2.1.1) (zq2 (zLeR σ).2 (settlePool_W hw).2.2.1.2) ?_
  refine zi_aload_n K (dX8_stays 4 rfl) 0 rfl ?_
  refine zg_O_pool K rfl w_201 (dX8_stays 5 rfl) ?_
  refine zg_POOL_comes K rfl w_170 (dX8_stays 6 rfl) ?_
  refine zi_iload_n K (dX8_stays 7 rfl) 1 rfl ?_
  refine zl_PCOM K rfl r rfl hr (dX8_stays 8 rfl) ?_
  refine zi_aload_n K (dX8_stays 9 rfl) 0 rfl ?_
  refine zg_O_pool K rfl w_201 (dX8_stays 10 rfl) ?_
  refine zi_iload_n K (dX8_stays 11 rfl) 1 rfl ?_
  refine zi_aload_n K (dX8_stays 12 rfl) 0 rfl ?_
  refine zg_O_pool K rfl w_201 (dX8_stays 13 rfl) ?_
  refine zg_POOL_comes K rfl w_170 (dX8_stays 14 rfl) ?_
  refine zi_iload_n K (dX8_stays 15 rfl) 1 rfl ?_
  refine zl_PCOM K rfl r rfl hr (dX8_stays 16 rfl) ?_
  refine zi_callV K (na := 2) [.long (sL (s_settlePool σ) 10 0 r)] [.long (v_handedOn (s_settlePool σ) r (sL (s_settlePool σ) 10 0 r)), .long (sL (s_settlePool σ) 10 0 r)] (c_handedOn (σ := (s_settlePool σ)) r (sL (s_settlePool σ) 10 0 r) hr) (dX8_stays 17 rfl) w_1299 w_637 w_638 w_31 w_639 (by decide +kernel) rfl (fun H h => zi_recv K (zr_POOL (σ := (s_settlePool σ)) rfl H h).1 rfl) (fun H h => h) ⟨Nat.le_of_ble_eq_true rfl, Nat.le_of_ble_eq_true rfl⟩ ⟨(zq3 (zLeR _).1), (zq3 (zLeR _).2)⟩ (Nat.le_of_ble_eq_true rfl) rfl rfl ?_
  refine zi_lsub K (dX8_stays 18 rfl) ?_
  exact zi_lret K E (dX8_stays 19 rfl) (Nat.le_refl _) (Nat.le_refl _) rfl (fun H h => by exact h)
def ntI (σ : zSt) (x : Int64) : Nat → Int64
  | 0 => x
  | i + 1 => if sI σ 19 ((lx σ 6 i) % 8) 0 = 0 then (ntI σ x i + sL σ 5 (lx σ 6 i) 0) + sL σ 3 (lx σ 6 i) 0 else (ntI σ x i + sL σ 5 (lx σ 6 i) 0) - (sL σ 3 (lx σ 6 i) 0 + (sI σ 20 ((lx σ 6 i) % 8) 0).toInt64)
def nrI (σ : zSt) (x : Int64) : Nat → Int64
  | 0 => x
  | i + 1 => if sI σ 31 0 i = 0 then nrI σ x i - v_allPartsOf σ 0 i else nrI σ x i
set_option maxRecDepth 100000 in
set_option maxHeartbeats 4000000 in
theorem f_netA {G : zG} {X : zX} {ad : Nat → Nat → Nat} {σ : zSt} (x : Int64) (hw : zW σ) {k n mc ms : Nat} (hm : k ≤ mc ∧ n ≤ ms) (K : zK G X cX8_net RX8 5 (some FieldType.long) { frames := 16, cells := mc, slots := ms, locals := 480 }) (kk : zV G X 5 (zP G ad σ) k n 98 [(0, .ref (ad 0 0)), (1, .long (ntI σ x (sZ σ 6)))] []) : zV G X 5 (zP G ad σ) k n 12 [(0, .ref (ad 0 0)), (1, .long x)] [] := by
  refine zi_iconst K (dX8_net_p0 6 rfl) zk_i0 ?_
  refine zi_istore_n K [(3, .int 0), (0, .ref (ad 0 0)), (1, .long x)] (dX8_net_p0 7 rfl) (by decide) rfl ?_
  refine zV.pick [1, 2, 0] (lo' := [(0, .ref (ad 0 0)), (1, .long x), (3, .int 0)]) rfl ?_
  suffices hloop14 : ∀ (r i : Nat), i ≤ sZ σ 6 → sZ σ 6 - i < r → zV G X 5 (zP G ad σ) (k) (n) 14 [(0, .ref (ad 0 0)), (1, .long (ntI σ x i)), (3, .int (nI i))] [] from hloop14 (sZ σ 6 + 1) 0 (Nat.zero_le _) (Nat.lt_succ_of_le (Nat.sub_le _ _))
  intro r
  induction r with
  | zero => intro i _ h; exact absurd h (Nat.not_lt_zero _)
  | succ r ih14 =>
    intro i hi14 hr14
    refine zi_iload_n K (dX8_net_p0 8 rfl) 2 rfl ?_
    refine zi_aload_n K (dX8_net_p0 9 rfl) 0 rfl ?_
    refine zg_O_real K rfl w_199 (dX8_net_p0 10 rfl) ?_
    refine zg_FL_covers K (by decide) w_135 (dX8_net_p0 11 rfl) ?_
    refine zi_callV K (na := 0) [.int (nI i)] [.int (nI (sZ σ 6)), .int (nI i)] (c_sizeN (σ := σ) 6 (sZ σ 6) (zL_ok (hw.1.1 6 (by omega)).1).1 rfl) (dX8_net_p0 12 rfl) w_230 w_231 w_232 w_28 w_233 (by decide +kernel) rfl (fun H h => zrecv_LST K (zL_ok (hw.1.1 6 (by omega)).1).1 h) (fun H h => h) ⟨Nat.le_of_ble_eq_true rfl, Nat.le_of_ble_eq_true rfl⟩ ⟨hm.1, hm.2⟩ (Nat.le_of_ble_eq_true rfl) rfl rfl ?_
    refine zi_icmp_ge K 98 (dX8_net_p0 13 rfl) rfl (fun h25_0 => ?_) (fun h25_0 => ?_)
    · skip
      have hN14 := zloop_exit rfl (zL_b (hw.1.1 6 (by omega)).1) hi14 h25_0
      subst hN14
      refine zV.pick [0, 1] (lo' := [(0, .ref (ad 0 0)), (1, .long (ntI σ x (sZ σ 6)))]) rfl ?_
      exact kk
    · skip
      have hlt14 := zloop_in rfl (zL_b (hw.1.1 6 (by omega)).1) hi14 h25_0
      refine zi_aload_n K (dX8_net_p0 14 rfl) 0 rfl ?_
      refine zg_O_real K rfl w_199 (dX8_net_p0 15 rfl) ?_
      refine zg_FL_covers K (by decide) w_135 (dX8_net_p0 16 rfl) ?_
      refine zi_iload_n K (dX8_net_p0 17 rfl) 2 rfl ?_
      refine zi_callV K (na := 1) [] [.ref (ad 7 (lx σ 6 i))] (c_getK (σ := σ) 6 i (lx σ 6 i) 7 rfl (zL_ok (hw.1.1 6 (by omega)).1) hlt14 (zL_x (hw.1.1 6 (by omega)).1 hlt14)) (dX8_net_p0 18 rfl) w_309 w_310 w_311 w_28 w_312 (by decide +kernel) rfl (fun H h => zrecv_LST K (zL_ok (hw.1.1 6 (by omega)).1).1 h) (fun H h => h) ⟨Nat.le_of_ble_eq_true rfl, Nat.le_of_ble_eq_true rfl⟩ ⟨hm.1, hm.2⟩ (Nat.le_of_ble_eq_true rfl) rfl rfl ?_
      refine zi_cast K (fun H h => (zr_COV (σ := σ) (zL_lv (hw.1.1 6 (by omega)).1 hlt14 rfl) H h).1) rfl w_555 (dX8_net_p0 19 rfl) ?_
      refine zi_astore K [(4, .ref (ad 7 (lx σ 6 i))), (0, .ref (ad 0 0)), (1, .long (ntI σ x i)), (3, .int (nI i))] (dX8_net_p0 20 rfl) (by decide) rfl ?_
      refine zi_lload_n K (dX8_net_p0 21 rfl) 2 rfl ?_
      refine zi_aload K (dX8_net_p0 22 rfl) 0 rfl ?_
      refine zg_COV_owed K (zL_lv (hw.1.1 6 (by omega)).1 hlt14 rfl) w_1176 (dX8_net_p0 23 rfl) ?_
      refine zi_ladd K (dX8_net_p0 24 rfl) ?_
      refine zi_lstore_n K [(1, .long ((ntI σ x i) + (sL σ 5 (lx σ 6 i) 0))), (4, .ref (ad 7 (lx σ 6 i))), (0, .ref (ad 0 0)), (3, .int (nI i))] (dX8_net_p0 25 rfl) (by decide) rfl ?_
      refine zi_aload K (dX8_net_p0 26 rfl) 1 rfl ?_
      refine zg_COV_treaty K (zL_lv (hw.1.1 6 (by omega)).1 hlt14 rfl) w_1163 (dX8_net_p0 27 rfl) ?_
      refine zg_TR_isCommuted K (hw.cv _ (zL_lv (hw.1.1 6 (by omega)).1 hlt14 rfl)) w_1121 (dX8_net_p0 28 rfl) ?_
      refine zi_if_eq K 84 (dX8_net_p0 29 rfl) rfl (fun h60_0 => ?_) (fun h60_0 => ?_)
      · skip
        refine zi_lload_n K (dX8_net_p0 41 rfl) 0 rfl ?_
        refine zi_aload K (dX8_net_p0 42 rfl) 1 rfl ?_
        refine zg_COV_taken K (zL_lv (hw.1.1 6 (by omega)).1 hlt14 rfl) w_1171 (dX8_net_p0 43 rfl) ?_
        refine zi_ladd K (dX8_net_p0 44 rfl) ?_
        refine zi_lstore_n K [(1, .long (((ntI σ x i) + (sL σ 5 (lx σ 6 i) 0)) + (sL σ 3 (lx σ 6 i) 0))), (4, .ref (ad 7 (lx σ 6 i))), (0, .ref (ad 0 0)), (3, .int (nI i))] (dX8_net_p0 45 rfl) (by decide) rfl ?_
        refine zi_iinc K (v := nI (i + 1)) [(3, .int (nI (i + 1))), (1, .long (((ntI σ x i) + (sL σ 5 (lx σ 6 i) 0)) + (sL σ 3 (lx σ 6 i) 0))), (4, .ref (ad 7 (lx σ 6 i))), (0, .ref (ad 0 0))] (dX8_net_p0 46 rfl) 3 rfl (zk_inc _) (by decide) rfl ?_
        refine zi_goto K 14 (dX8_net_p0 47 rfl) rfl ?_
        refine zV.pick [3, 1, 0] (lo' := [(0, .ref (ad 0 0)), (1, .long (((ntI σ x i) + (sL σ 5 (lx σ 6 i) 0)) + (sL σ 3 (lx σ 6 i) 0))), (3, .int (nI (i + 1)))]) rfl ?_
        refine zV.lov (lo' := [(0, .ref (ad 0 0)), (1, .long (ntI σ x (i + 1))), (3, .int (nI (i + 1)))]) (by simp only [ntI, if_pos h60_0]) ?_
        exact ih14 (i + 1) (by omega) (by omega)
      · skip
        refine zi_lload_n K (dX8_net_p0 30 rfl) 0 rfl ?_
        refine zi_aload K (dX8_net_p0 31 rfl) 1 rfl ?_
        refine zg_COV_taken K (zL_lv (hw.1.1 6 (by omega)).1 hlt14 rfl) w_1171 (dX8_net_p0 32 rfl) ?_
        refine zi_aload K (dX8_net_p0 33 rfl) 1 rfl ?_
        refine zg_COV_treaty K (zL_lv (hw.1.1 6 (by omega)).1 hlt14 rfl) w_1163 (dX8_net_p0 34 rfl) ?_
        refine zg_TR_commutedFor K (hw.cv _ (zL_lv (hw.1.1 6 (by omega)).1 hlt14 rfl)) w_1124 (dX8_net_p0 35 rfl) ?_
        refine zi_i2l K (dX8_net_p0 36 rfl) ?_
        refine zi_ladd K (dX8_net_p0 37 rfl) ?_
        refine zi_lsub K (dX8_net_p0 38 rfl) ?_
        refine zi_lstore_n K [(1, .long (((ntI σ x i) + (sL σ 5 (lx σ 6 i) 0)) - ((sL σ 3 (lx σ 6 i) 0) + ((sI σ 20 ((lx σ 6 i) % 8) 0).toInt64)))), (4, .ref (ad 7 (lx σ 6 i))), (0, .ref (ad 0 0)), (3, .int (nI i))] (dX8_net_p0 39 rfl) (by decide) rfl ?_
        refine zi_goto K 92 (dX8_net_p0 40 rfl) rfl ?_
        refine zi_iinc K (v := nI (i + 1)) [(3, .int (nI (i + 1))), (1, .long (((ntI σ x i) + (sL σ 5 (lx σ 6 i) 0)) - ((sL σ 3 (lx σ 6 i) 0) + ((sI σ 20 ((lx σ 6 i) % 8) 0).toInt64)))), (4, .ref (ad 7 (lx σ 6 i))), (0, .ref (ad 0 0))] (dX8_net_p0 46 rfl) 3 rfl (zk_inc _) (by decide) rfl ?_
        refine zi_goto K 14 (dX8_net_p0 47 rfl) rfl ?_
        refine zV.pick [3, 1, 0] (lo' := [(0, .ref (ad 0 0)), (1, .long (((ntI σ x i) + (sL σ 5 (lx σ 6 i) 0)) - ((sL σ 3 (lx σ 6 i) 0) + ((sI σ 20 ((lx σ 6 i) % 8) 0).toInt64)))), (3, .int (nI (i + 1)))]) rfl ?_
        refine zV.lov (lo' := [(0, .ref (ad 0 0)), (1, .long (ntI σ x (i + 1))), (3, .int (nI (i + 1)))]) (by simp only [ntI, if_neg h60_0]) ?_
        exact ih14 (i + 1) (by omega) (by omega)
set_option maxRecDepth 100000 in
set_option maxHeartbeats 4000000 in
theorem f_netB {G : zG} {X : zX} {ad : Nat → Nat → Nat} {σ : zSt} (x : Int64) (hw : zW σ) {k n mc ms : Nat} (hm : k ≤ mc ∧ n ≤ ms) (K : zK G X cX8_net RX8 5 (some FieldType.long) { frames := 16, cells := mc, slots := ms, locals := 480 }) (kk : zV G X 5 (zP G ad σ) k n 134 [(0, .ref (ad 0 0)), (1, .long (nrI σ x 5))] []) : zV G X 5 (zP G ad σ) k n 98 [(0, .ref (ad 0 0)), (1, .long x)] [] := by
  refine zi_iconst K (dX8_net_p0 48 rfl) zk_i0 ?_
  refine zi_istore_n K [(3, .int 0), (0, .ref (ad 0 0)), (1, .long x)] (dX8_net_p0 49 rfl) (by decide) rfl ?_
  refine zV.pick [1, 2, 0] (lo' := [(0, .ref (ad 0 0)), (1, .long x), (3, .int 0)]) rfl ?_
  suffices hloop100 : ∀ (r i : Nat), i ≤ 5 → 5 - i < r → zV G X 5 (zP G ad σ) (k) (n) 100 [(0, .ref (ad 0 0)), (1, .long (nrI σ x i)), (3, .int (nI i))] [] from hloop100 (5 + 1) 0 (Nat.zero_le _) (Nat.lt_succ_of_le (Nat.sub_le _ _))
  intro r
  induction r with
  | zero => intro i _ h; exact absurd h (Nat.not_lt_zero _)
  | succ r ih100 =>
    intro i hi100 hr100
    refine zi_iload_n K (dX8_net_p1 0 rfl) 2 rfl ?_
    refine zi_iconst K (dX8_net_p1 1 rfl) zk_i5 ?_
    refine zi_icmp_ge K 134 (dX8_net_p1 2 rfl) rfl (fun h102_0 => ?_) (fun h102_0 => ?_)
    · skip
      have hN100 := zloop_exit (by decide) (Nat.le_of_ble_eq_true rfl) hi100 h102_0
      subst hN100
      refine zV.pick [0, 1] (lo' := [(0, .ref (ad 0 0)), (1, .long (nrI σ x 5))]) rfl ?_
      exact kk
    · skip
      have hlt100 := zloop_in (by decide) (Nat.le_of_ble_eq_true rfl) hi100 h102_0
      refine zi_aload_n K (dX8_net_p1 3 rfl) 0 rfl ?_
      refine zg_O_pool K rfl w_201 (dX8_net_p1 4 rfl) ?_
      refine zg_POOL_isFailed K rfl w_160 (dX8_net_p1 5 rfl) ?_
      refine zi_iload_n K (dX8_net_p1 6 rfl) 2 rfl ?_
      refine zl_PFAIL K rfl i rfl hlt100 (dX8_net_p1 7 rfl) ?_
      refine zi_if_ne K 128 (dX8_net_p1 8 rfl) rfl (fun h114_0 => ?_) (fun h114_0 => ?_)
      · skip
        refine zi_iinc K (v := nI (i + 1)) [(3, .int (nI (i + 1))), (0, .ref (ad 0 0)), (1, .long (nrI σ x i))] (dX8_net_p1 16 rfl) 2 rfl (zk_inc _) (by decide) rfl ?_
        refine zi_goto K 100 (dX8_net_p1 17 rfl) rfl ?_
        refine zV.pick [1, 2, 0] (lo' := [(0, .ref (ad 0 0)), (1, .long (nrI σ x i)), (3, .int (nI (i + 1)))]) rfl ?_
        refine zV.lov (lo' := [(0, .ref (ad 0 0)), (1, .long (nrI σ x (i + 1))), (3, .int (nI (i + 1)))]) (by simp only [nrI, if_neg h114_0]) ?_
        exact ih100 (i + 1) (by omega) (by omega)
      · skip
        refine zi_lload_n K (dX8_net_p1 9 rfl) 1 rfl ?_
        refine zi_aload_n K (dX8_net_p1 10 rfl) 0 rfl ?_
        refine zg_O_real K rfl w_199 (dX8_net_p1 11 rfl) ?_
        refine zi_iload_n K (dX8_net_p1 12 rfl) 2 rfl ?_
        refine zi_callV K (na := 1) [.long (nrI σ x i)] [.long (v_allPartsOf σ 0 i), .long (nrI σ x i)] (c_allPartsOf (σ := σ) 0 i (by decide) hlt100 hw.wf0.2.2.2.1 hw.wf0.2.2.2.2.1 hw.wf0.2.2.2.2.2.2.1) (dX8_net_p1 13 rfl) w_556 w_557 w_558 w_29 w_559 (by decide +kernel) rfl (fun H h => zi_recv K (zr_FL (σ := σ) (by decide) H h).1 rfl) (fun H h => h) ⟨Nat.le_of_ble_eq_true rfl, Nat.le_of_ble_eq_true rfl⟩ ⟨hm.1, hm.2⟩ (Nat.le_of_ble_eq_true rfl) rfl rfl ?_
        refine zi_lsub K (dX8_net_p1 14 rfl) ?_
        refine zi_lstore_n K [(1, .long ((nrI σ x i) - (v_allPartsOf σ 0 i))), (0, .ref (ad 0 0)), (3, .int (nI i))] (dX8_net_p1 15 rfl) (by decide) rfl ?_
        refine zi_iinc K (v := nI (i + 1)) [(3, .int (nI (i + 1))), (1, .long ((nrI σ x i) - (v_allPartsOf σ 0 i))), (0, .ref (ad 0 0))] (dX8_net_p1 16 rfl) 2 rfl (zk_inc _) (by decide) rfl ?_
        refine zi_goto K 100 (dX8_net_p1 17 rfl) rfl ?_
        refine zV.pick [2, 1, 0] (lo' := [(0, .ref (ad 0 0)), (1, .long ((nrI σ x i) - (v_allPartsOf σ 0 i))), (3, .int (nI (i + 1)))]) rfl ?_
        refine zV.lov (lo' := [(0, .ref (ad 0 0)), (1, .long (nrI σ x (i + 1))), (3, .int (nI (i + 1)))]) (by simp only [nrI, if_pos h114_0]) ?_
        exact ih100 (i + 1) (by omega) (by omega)
def v_net (σ : zSt)  : Int64 := nrI (s_settle σ) (ntI (s_settle σ) (v_allLeft (s_settle σ) 0) (sZ (s_settle σ) 6)) 5
set_option maxRecDepth 100000 in
set_option maxHeartbeats 4000000 in
theorem c_net {G : zG} {ad : Nat → Nat → Nat} {σ : zSt}  (hw : zW σ)  : zC G yX8_net cX8_net 5 (some FieldType.long) 16 480 (sgc (s_settle σ) - sgc σ) (sgs (s_settle σ) - sgs σ) [.ref (ad 0 0)] (zP G ad σ) (some (.long (v_net σ ))) (zP G ad (s_settle σ)) := by
  refine zC_of (by decide) (Nat.le_of_ble_eq_true rfl) (fun X K E hnm => ?_)
  show zV G X 5 (zP G ad σ) 0 0 0 [(0, .ref (ad 0 0))] []
  refine zV.wd (k' := sgc σ - sgc σ) (n' := sgs σ - sgs σ) (Nat.zero_le _) (Nat.zero_le _) ?_
  refine zi_aload_n K (dX8_net_p0 0 rfl) 0 rfl ?_
  refine zi_callV K (na := 0) [] [] (c_settle (σ := σ) hw.wf0) (dX8_net_p0 1 rfl) w_546 w_548 w_13 w_25 w_549 (by decide +kernel) rfl (fun H h => zi_recv K (zr_O (σ := σ) rfl H h).1 rfl) (fun H h => h) ⟨Nat.le_of_ble_eq_true rfl, Nat.le_of_ble_eq_true rfl⟩ ⟨(zq1 (zLeR σ).1 (settle_W hw).2.2.1.1 (zLeR _).1), (zq1 (zLeR σ).2 (settle_W hw).2.2.1.2 (zLeR _).2)⟩ (Nat.le_of_ble_eq_true rfl) rfl rfl ?_
  have e1 : zSx zQd (s_settle σ) σ := ((settle_W hw).2.1).trans zSx.rf
  refine zV.wd (k' := sgc (s_settle σ) - sgc σ) (n' := sgs (s_settle σ) - sgs σ) (zq2 (zLeR σ).1 (settle_W hw).2.2.1.1) (zq2 (zLeR σ).2 (settle_W hw).2.2.1.2) ?_
  refine zi_aload_n K (dX8_net_p0 2 rfl) 0 rfl ?_
  refine zg_O_real K rfl w_199 (dX8_net_p0 3 rfl) ?_
  refine zi_callV K (na := 0) [] [.long (v_allLeft (s_settle σ) 0)] (c_allLeft (σ := (s_settle σ)) 0 (by decide) (settle_W hw).1.wf0.2.2.2.2.1) (dX8_net_p0 4 rfl) w_551 w_552 w_553 w_29 w_554 (by decide +kernel) rfl (fun H h => zi_recv K (zr_FL (σ := (s_settle σ)) (by decide) H h).1 rfl) (fun H h => h) ⟨Nat.le_of_ble_eq_true rfl, Nat.le_of_ble_eq_true rfl⟩ ⟨(zq3 (zLeR _).1), (zq3 (zLeR _).2)⟩ (Nat.le_of_ble_eq_true rfl) rfl rfl ?_
  refine zi_lstore_n K [(1, .long (v_allLeft (s_settle σ) 0)), (0, .ref (ad 0 0))] (dX8_net_p0 5 rfl) (by decide) rfl ?_
  refine zV.pick [1, 0] (lo' := [(0, .ref (ad 0 0)), (1, .long (v_allLeft (s_settle σ) 0))]) rfl ?_
  refine f_netA (σ := (s_settle σ)) (v_allLeft (s_settle σ) 0) (settle_W hw).1 ⟨(zq3 (zLeR _).1), (zq3 (zLeR _).2)⟩ K ?_
  refine zV.pick [0, 1] (lo' := [(0, .ref (ad 0 0)), (1, .long (ntI (s_settle σ) (v_allLeft (s_settle σ) 0) (sZ (s_settle σ) 6)))]) rfl ?_
  refine f_netB (σ := (s_settle σ)) (ntI (s_settle σ) (v_allLeft (s_settle σ) 0) (sZ (s_settle σ) 6)) (settle_W hw).1 ⟨(zq3 (zLeR _).1), (zq3 (zLeR _).2)⟩ K ?_
  refine zi_lload_n K (dX8_net_p1 18 rfl) 1 rfl ?_
  exact zi_lret K E (dX8_net_p1 19 rfl) (Nat.le_refl _) (Nat.le_refl _) rfl (fun H h => by exact h)
def v_scNet (σ : zSt) (c : Nat) : Int64 := sL (s_play σ c) 6 c 0
set_option maxRecDepth 100000 in
set_option maxHeartbeats 4000000 in
theorem c_scNet {G : zG} {ad : Nat → Nat → Nat} {σ : zSt} (c : Nat) (hw : zW σ) (hc : c < sN σ 3) : zC G yX8_scenarioNet cX8_scenarioNet 3 (some FieldType.long) 17 504 (sgc (s_play σ c) - sgc σ) (sgs (s_play σ c) - sgs σ) [.ref (ad 0 0), .int (nI c)] (zP G ad σ) (some (.long (v_scNet σ c))) (zP G ad (s_play σ c)) := by
  refine zC_of (by decide) (Nat.le_of_ble_eq_true rfl) (fun X K E hnm => ?_)
  show zV G X 3 (zP G ad σ) 0 0 0 [(0, .ref (ad 0 0)), (1, .int (nI c))] []
  refine zV.wd (k' := sgc σ - sgc σ) (n' := sgs σ - sgs σ) (Nat.zero_le _) (Nat.zero_le _) ?_
  refine zi_aload_n K (dX8_scenarioNet 0 rfl) 0 rfl ?_
  refine zi_iload_n K (dX8_scenarioNet 1 rfl) 1 rfl ?_
  refine zi_callV K (na := 1) [] [.ref (ad 9 c)] (c_scenarioAtW (σ := σ) c hw hc) (dX8_scenarioNet 2 rfl) w_1338 w_1340 w_22 w_25 w_1341 (by decide +kernel) rfl (fun H h => zi_recv K (zr_O (σ := σ) rfl H h).1 rfl) (fun H h => h) ⟨Nat.le_of_ble_eq_true rfl, Nat.le_of_ble_eq_true rfl⟩ ⟨(zq3 (play_W (c := c) hw).2.2.1.1), (zq3 (play_W (c := c) hw).2.2.1.2)⟩ (Nat.le_of_ble_eq_true rfl) rfl rfl ?_
  refine zi_astore_n K [(2, .ref (ad 9 c)), (0, .ref (ad 0 0)), (1, .int (nI c))] (dX8_scenarioNet 3 rfl) (by decide) rfl ?_
  refine zi_aload_n K (dX8_scenarioNet 4 rfl) 1 rfl ?_
  refine zi_aload_n K (dX8_scenarioNet 5 rfl) 0 rfl ?_
  refine zi_callV K (na := 1) [] [] (c_play (σ := σ) c hw hc) (dX8_scenarioNet 6 rfl) w_598 w_600 w_15 w_25 w_601 (by decide +kernel) rfl (fun H h => zi_recv K (zr_O (σ := σ) rfl H h).1 rfl) (fun H h => h) ⟨Nat.le_of_ble_eq_true rfl, Nat.le_of_ble_eq_true rfl⟩ ⟨(zq1 (zLeR σ).1 (play_W (c := c) hw).2.2.1.1 (zLeR _).1), (zq1 (zLeR σ).2 (play_W (c := c) hw).2.2.1.2 (zLeR _).2)⟩ (Nat.le_of_ble_eq_true rfl) rfl rfl ?_
  have e1 : zSx zQd (s_play σ c) σ := ((play_W (c := c) hw).2.1).trans zSx.rf
  refine zV.wd (k' := sgc (s_play σ c) - sgc σ) (n' := sgs (s_play σ c) - sgs σ) (zq2 (zLeR σ).1 (play_W (c := c) hw).2.2.1.1) (zq2 (zLeR σ).2 (play_W (c := c) hw).2.2.1.2) ?_
  refine zi_aload_n K (dX8_scenarioNet 7 rfl) 0 rfl ?_
  refine zg_SC_net K (zSx_N e1 hc) w_1321 (dX8_scenarioNet 8 rfl) ?_
  exact zi_lret K E (dX8_scenarioNet 9 rfl) (Nat.le_refl _) (Nat.le_refl _) rfl (fun H h => by exact h)
def v_commute (σ : zSt) (t : Nat) (p : Int32) : Int64 := sL (uI (uI (uI (s_settle σ) 19 (t % 8) 0 1) 20 (t % 8) 0 p) 35 0 0 0) 3 t 0
set_option maxRecDepth 100000 in
set_option maxHeartbeats 4000000 in
theorem c_commute {G : zG} {ad : Nat → Nat → Nat} {σ : zSt} (t : Nat) (p : Int32) (hw : zW σ) (ht : t < sN σ 2) (hp : v_isOut σ p 0 1000000 = 0) (hcm : sI σ 19 (t % 8) 0 = 0) : zC G yX8_commute cX8_commute 4 (some FieldType.long) 14 403 (sgc (s_settle σ) - sgc σ) (sgs (s_settle σ) - sgs σ) [.ref (ad 0 0), .int (nI t), .int p] (zP G ad σ) (some (.long (v_commute σ t p))) (zP G ad (uI (uI (uI (s_settle σ) 19 (t % 8) 0 1) 20 (t % 8) 0 p) 35 0 0 0)) := by
  refine zC_of (by decide) (Nat.le_of_ble_eq_true rfl) (fun X K E hnm => ?_)
  show zV G X 4 (zP G ad σ) 0 0 0 [(0, .ref (ad 0 0)), (1, .int (nI t)), (2, .int p)] []
  refine zV.wd (k' := sgc σ - sgc σ) (n' := sgs σ - sgs σ) (Nat.zero_le _) (Nat.zero_le _) ?_
  refine zi_aload_n K (dX8_commute 0 rfl) 0 rfl ?_
  refine zi_iload_n K (dX8_commute 1 rfl) 1 rfl ?_
  refine zi_callV K (na := 1) [] [.ref (ad 7 t)] (c_coverAtW (σ := σ) t hw ht) (dX8_commute 2 rfl) w_1240 w_1242 w_21 w_25 w_1243 (by decide +kernel) rfl (fun H h => zi_recv K (zr_O (σ := σ) rfl H h).1 rfl) (fun H h => h) ⟨Nat.le_of_ble_eq_true rfl, Nat.le_of_ble_eq_true rfl⟩ ⟨(zq3 (settle_W hw).2.2.1.1), (zq3 (settle_W hw).2.2.1.2)⟩ (Nat.le_of_ble_eq_true rfl) rfl rfl ?_
  refine zi_astore_n K [(3, .ref (ad 7 t)), (0, .ref (ad 0 0)), (1, .int (nI t)), (2, .int p)] (dX8_commute 3 rfl) (by decide) rfl ?_
  refine zi_iload_n K (dX8_commute 4 rfl) 3 rfl ?_
  refine zi_iconst K (dX8_commute 5 rfl) zk_i0 ?_
  refine zi_ldc K (dX8_commute 6 rfl) w_671 ?_
  refine zi_callS K (na := 3) (As := [.int p, .int 0, .int 1000000]) [] [.int (v_isOut σ p 0 1000000)] (c_isOut  p 0 1000000) (dX8_commute 7 rfl) w_234 w_235 w_25 w_236 (by decide +kernel) rfl (fun H h => h) ⟨Nat.le_of_ble_eq_true rfl, Nat.le_of_ble_eq_true rfl⟩ ⟨(zq3 (settle_W hw).2.2.1.1), (zq3 (settle_W hw).2.2.1.2)⟩ (Nat.le_of_ble_eq_true rfl) rfl rfl ?_
  refine zi_if_eq K 26 (dX8_commute 8 rfl) rfl (fun h13_0 => ?_) (fun h13_0 => ?_)
  rotate_left
  · exact absurd hp h13_0
  refine zi_aload_n K (dX8_commute 14 rfl) 0 rfl ?_
  refine zg_COV_treaty K (hw.V ht).1 w_1163 (dX8_commute 15 rfl) ?_
  refine zg_TR_isCommuted K (hw.cv _ (hw.V ht).1) w_1121 (dX8_commute 16 rfl) ?_
  refine zi_if_eq K 46 (dX8_commute 17 rfl) rfl (fun h33_0 => ?_) (fun h33_0 => ?_)
  rotate_left
  · exact absurd hcm h33_0
  refine zi_aload_n K (dX8_commute 23 rfl) 1 rfl ?_
  refine zi_callV K (na := 0) [] [] (c_settle (σ := σ) hw.wf0) (dX8_commute 24 rfl) w_546 w_548 w_13 w_25 w_549 (by decide +kernel) rfl (fun H h => zi_recv K (zr_O (σ := σ) rfl H h).1 rfl) (fun H h => h) ⟨Nat.le_of_ble_eq_true rfl, Nat.le_of_ble_eq_true rfl⟩ ⟨(zq1 (zLeR σ).1 (settle_W hw).2.2.1.1 (zLeR _).1), (zq1 (zLeR σ).2 (settle_W hw).2.2.1.2 (zLeR _).2)⟩ (Nat.le_of_ble_eq_true rfl) rfl rfl ?_
  have e1 : zSx zQd (s_settle σ) σ := ((settle_W hw).2.1).trans zSx.rf
  refine zV.wd (k' := sgc (s_settle σ) - sgc σ) (n' := sgs (s_settle σ) - sgs σ) (zq2 (zLeR σ).1 (settle_W hw).2.2.1.1) (zq2 (zLeR σ).2 (settle_W hw).2.2.1.2) ?_
  refine zi_aload_n K (dX8_commute 25 rfl) 0 rfl ?_
  refine zg_COV_treaty K (zSx_V e1 (hw.V ht).1) w_1163 (dX8_commute 26 rfl) ?_
  refine zi_iconst K (dX8_commute 27 rfl) zk_i1 ?_
  refine zp_TR_isCommuted K (zSx_N e1 (hw.cv _ (hw.V ht).1)) w_1121 ⟨rfl, rfl⟩ (dX8_commute 28 rfl) ?_
  have e2 : zSx zQd (uI (s_settle σ) 19 (t % 8) 0 1) σ := (zSx.of (uI_22 (s_settle σ) 19 (t % 8) 0 1)).trans e1
  refine zi_aload_n K (dX8_commute 29 rfl) 0 rfl ?_
  refine zg_COV_treaty K (zSx_V e2 (hw.V ht).1) w_1163 (dX8_commute 30 rfl) ?_
  refine zi_iload_n K (dX8_commute 31 rfl) 3 rfl ?_
  refine zp_TR_commutedFor K (zSx_N e2 (hw.cv _ (hw.V ht).1)) w_1124 (dX8_commute 32 rfl) ?_
  have e3 : zSx zQd (uI (uI (s_settle σ) 19 (t % 8) 0 1) 20 (t % 8) 0 p) σ := (zSx.of (uI_22 (uI (s_settle σ) 19 (t % 8) 0 1) 20 (t % 8) 0 p)).trans e2
  refine zi_aload_n K (dX8_commute 33 rfl) 1 rfl ?_
  refine zi_iconst K (dX8_commute 34 rfl) zk_i0 ?_
  refine zp_O_isSettled K rfl w_202 ⟨rfl, rfl⟩ (dX8_commute 35 rfl) ?_
  have e4 : zSx zQd (uI (uI (uI (s_settle σ) 19 (t % 8) 0 1) 20 (t % 8) 0 p) 35 0 0 0) σ := (zSx.of (uI_22 (uI (uI (s_settle σ) 19 (t % 8) 0 1) 20 (t % 8) 0 p) 35 0 0 0)).trans e3
  refine zi_aload_n K (dX8_commute 36 rfl) 0 rfl ?_
  refine zg_COV_taken K (zSx_V e4 (hw.V ht).1) w_1171 (dX8_commute 37 rfl) ?_
  refine zV.wd (k' := sgc (uI (uI (uI (s_settle σ) 19 (t % 8) 0 1) 20 (t % 8) 0 p) 35 0 0 0) - sgc σ) (n' := sgs (uI (uI (uI (s_settle σ) 19 (t % 8) 0 1) 20 (t % 8) 0 p) 35 0 0 0) - sgs σ) (zq4 (zG_22 (σ' := (uI (uI (uI (s_settle σ) 19 (t % 8) 0 1) 20 (t % 8) 0 p) 35 0 0 0)) (σ := (s_settle σ)) ((uI_22 (uI (uI (s_settle σ) 19 (t % 8) 0 1) 20 (t % 8) 0 p) 35 0 0 0).trans ((uI_22 (uI (s_settle σ) 19 (t % 8) 0 1) 20 (t % 8) 0 p).trans ((uI_22 (s_settle σ) 19 (t % 8) 0 1).trans rfl)))).1) (zq4 (zG_22 (σ' := (uI (uI (uI (s_settle σ) 19 (t % 8) 0 1) 20 (t % 8) 0 p) 35 0 0 0)) (σ := (s_settle σ)) ((uI_22 (uI (uI (s_settle σ) 19 (t % 8) 0 1) 20 (t % 8) 0 p) 35 0 0 0).trans ((uI_22 (uI (s_settle σ) 19 (t % 8) 0 1) 20 (t % 8) 0 p).trans ((uI_22 (s_settle σ) 19 (t % 8) 0 1).trans rfl)))).2) ?_
  exact zi_lret K E (dX8_commute 38 rfl) (Nat.le_refl _) (Nat.le_refl _) rfl (fun H h => by exact h)
