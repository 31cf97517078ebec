/-! Pool: rings settled, what fits; bool loops -/
theorem zfL_1 (σ : zSt) (t o : Nat) (v : Int64) (i : Nat) : (zfL σ t o v i).1 = σ.1 := by
  induction i with
  | zero => rfl
  | succ i ih => exact ih
theorem s_fill_PCOM_1 (σ : zSt) (k : Nat) (v : Int64) : (s_fill_PCOM σ k v).1 = σ.1 := zfL_1 _ _ _ _ _
theorem s_fill_PABV_1 (σ : zSt) (k : Nat) (v : Int64) : (s_fill_PABV σ k v).1 = σ.1 := zfL_1 _ _ _ _ _
theorem s_goR_PCOM_1 (σ : zSt) (n : Nat) : (s_goR_PCOM σ n).1 = σ.1 := gR_1 _ _ _
theorem s_goR_PABV_1 (σ : zSt) (n : Nat) : (s_goR_PABV σ n).1 = σ.1 := gR_1 _ _ _
/-- what still rises is taken from above -/
def rgL (σ : zSt) : Nat → zSt
  | 0 => σ
  | i + 1 => if sL (rgL σ i) 10 0 i = sL (rgL σ i) 11 0 i then rgL σ i else uL (rgL σ i) 10 0 i (sL (rgL σ i) 12 0 i)
theorem rgL_1 (σ : zSt) (i : Nat) : (rgL σ i).1 = σ.1 := by
  induction i with
  | zero => rfl
  | succ i ih =>
    unfold rgL
    split
    · exact ih
    · exact ih
theorem rgL_22 (σ : zSt) (i : Nat) : (rgL σ i).2.2 = σ.2.2 := by
  induction i with
  | zero => rfl
  | succ i ih =>
    unfold rgL
    split
    · exact ih
    · exact ih
def zall (p : Nat → Bool) : Nat → Bool
  | 0 => true
  | n + 1 => zall p n && p n
theorem zall_s {p : Nat → Bool} {n : Nat} (h : zall p n = true) (h2 : p n = true) : zall p (n + 1) = true := by
  show (zall p n && p n) = true
  rw [h, h2]
  rfl
theorem zall_f {p : Nat → Bool} {i : Nat} (h : p i = false) : ∀ {n : Nat}, i < n → zall p n = false := by
  intro n
  induction n with
  | zero => intro hi; exact absurd hi (Nat.not_lt_zero _)
  | succ n ih =>
    intro hi
    show (zall p n && p n) = false
    by_cases e : i = n
    · rw [← e, h, Bool.and_false]
    · rw [ih (by omega), Bool.false_and]
theorem zall_iff {p : Nat → Bool} {n : Nat} : zall p n = true ↔ ∀ i, i < n → p i = true := by
  constructor
  · intro h i hi
    cases hp : p i with
    | true => rfl
    | false => rw [zall_f hp hi] at h; cases h
  · intro h
    induction n with
    | zero => rfl
    | succ n ih => exact zall_s (ih fun i hi => h i (by omega)) (h n (by omega))
def s_rings (σ : zSt)  : zSt := (rgL (s_goR_PABV (s_fill_PABV (s_goR_PCOM (zcpr (s_goR_PCOM (s_fill_PCOM σ 0 0) 10) 11 10) 5) 0 1000000000000) 10) 5)
theorem s_rings_22 (σ : zSt)  : (s_rings σ ).2.2 = σ.2.2 := by
  unfold s_rings
  (repeat' split) <;> first | exact ((rgL_22 (s_goR_PABV (s_fill_PABV (s_goR_PCOM (zcpr (s_goR_PCOM (s_fill_PCOM σ 0 0) 10) 11 10) 5) 0 1000000000000) 10) 5).trans ((s_goR_PABV_22 (s_fill_PABV (s_goR_PCOM (zcpr (s_goR_PCOM (s_fill_PCOM σ 0 0) 10) 11 10) 5) 0 1000000000000) 10).trans ((s_fill_PABV_22 (s_goR_PCOM (zcpr (s_goR_PCOM (s_fill_PCOM σ 0 0) 10) 11 10) 5) 0 1000000000000).trans ((s_goR_PCOM_22 (zcpr (s_goR_PCOM (s_fill_PCOM σ 0 0) 10) 11 10) 5).trans ((zcpr_22 (s_goR_PCOM (s_fill_PCOM σ 0 0) 10) 11 10).trans ((s_goR_PCOM_22 (s_fill_PCOM σ 0 0) 10).trans ((s_fill_PCOM_22 σ 0 0).trans rfl)))))))
set_option maxRecDepth 100000 in
set_option maxHeartbeats 4000000 in
theorem c_rings {G : zG} {ad : Nat → Nat → Nat} {σ : zSt}  (hrc : zRc σ) : zC G yX5_settleRings cX5_settleRings 2 none 3 64 0 0 [.ref (ad 18 0)] (zP G ad σ) none (zP G ad (s_rings σ )) := by
  refine zC_of (by decide) (Nat.le_of_ble_eq_true rfl) (fun X K E hnm => ?_)
  show zV G X 2 (zP G ad σ) 0 0 0 [(0, .ref (ad 18 0))] []
  refine zi_aload_n K (dX5_settleRings 0 rfl) 0 rfl ?_
  refine zg_POOL_comes K rfl w_169 (dX5_settleRings 1 rfl) ?_
  refine zi_lconst K (dX5_settleRings 2 rfl) zk_l0 ?_
  refine zi_callS K (na := 2) (As := [.ref (ad 24 0), .long 0]) [] [] (c_fill_PCOM  0 0 rfl) (dX5_settleRings 3 rfl) w_630 w_359 w_40 w_360 (by decide +kernel) rfl (fun H h => h) ⟨Nat.le_of_ble_eq_true rfl, Nat.le_of_ble_eq_true rfl⟩ ⟨Nat.le_refl _, Nat.le_refl _⟩ (Nat.le_of_ble_eq_true rfl) rfl rfl ?_
  have e1 : (s_fill_PCOM σ 0 0).2.2 = σ.2.2 := (s_fill_PCOM_22 σ 0 0).trans rfl
  refine zi_aload_n K (dX5_settleRings 4 rfl) 0 rfl ?_
  refine zi_aload_n K (dX5_settleRings 5 rfl) 0 rfl ?_
  refine zg_POOL_comes K rfl w_169 (dX5_settleRings 6 rfl) ?_
  refine zi_bipush K (dX5_settleRings 7 rfl) zk_b10 ?_
  refine zi_callV K (na := 2) [] [] (c_goR_PCOM (σ := (s_fill_PCOM σ 0 0)) 10 (by decide) (zRc_mv (σ := σ) (σ' := (s_fill_PCOM σ 0 0)) ((s_fill_PCOM_1 σ 0 0).trans rfl) hrc)) (dX5_settleRings 8 rfl) w_631 w_633 w_17 w_31 w_634 (by decide +kernel) rfl (fun H h => zi_recv K (zr_POOL (σ := (s_fill_PCOM σ 0 0)) rfl H h).1 rfl) (fun H h => h) ⟨Nat.le_of_ble_eq_true rfl, Nat.le_of_ble_eq_true rfl⟩ ⟨Nat.le_refl _, Nat.le_refl _⟩ (Nat.le_of_ble_eq_true rfl) rfl rfl ?_
  have e2 : (s_goR_PCOM (s_fill_PCOM σ 0 0) 10).2.2 = σ.2.2 := (s_goR_PCOM_22 (s_fill_PCOM σ 0 0) 10).trans e1
  refine zi_aload_n K (dX5_settleRings 9 rfl) 0 rfl ?_
  refine zg_POOL_comes K rfl w_169 (dX5_settleRings 10 rfl) ?_
  refine zi_iconst K (dX5_settleRings 11 rfl) zk_i0 ?_
  refine zi_aload_n K (dX5_settleRings 12 rfl) 0 rfl ?_
  refine zg_POOL_early K rfl w_171 (dX5_settleRings 13 rfl) ?_
  refine zi_iconst K (dX5_settleRings 14 rfl) zk_i0 ?_
  refine zi_iconst K (dX5_settleRings 15 rfl) zk_i5 ?_
  refine zcp_PCOM_PEAR K [] w_635 ⟨Nat.le_of_ble_eq_true rfl, Nat.le_of_ble_eq_true rfl⟩ (dX5_settleRings 16 rfl) ?_
  have e3 : (zcpr (s_goR_PCOM (s_fill_PCOM σ 0 0) 10) 11 10).2.2 = σ.2.2 := (zcpr_22 (s_goR_PCOM (s_fill_PCOM σ 0 0) 10) 11 10).trans e2
  refine zi_aload_n K (dX5_settleRings 17 rfl) 0 rfl ?_
  refine zi_aload_n K (dX5_settleRings 18 rfl) 0 rfl ?_
  refine zg_POOL_comes K rfl w_169 (dX5_settleRings 19 rfl) ?_
  refine zi_iconst K (dX5_settleRings 20 rfl) zk_i5 ?_
  refine zi_callV K (na := 2) [] [] (c_goR_PCOM (σ := (zcpr (s_goR_PCOM (s_fill_PCOM σ 0 0) 10) 11 10)) 5 (by decide) (zRc_mv (σ := σ) (σ' := (zcpr (s_goR_PCOM (s_fill_PCOM σ 0 0) 10) 11 10)) ((zcpr_1 (s_goR_PCOM (s_fill_PCOM σ 0 0) 10) 11 10).trans ((s_goR_PCOM_1 (s_fill_PCOM σ 0 0) 10).trans ((s_fill_PCOM_1 σ 0 0).trans rfl))) hrc)) (dX5_settleRings 21 rfl) w_631 w_633 w_17 w_31 w_634 (by decide +kernel) rfl (fun H h => zi_recv K (zr_POOL (σ := (zcpr (s_goR_PCOM (s_fill_PCOM σ 0 0) 10) 11 10)) rfl H h).1 rfl) (fun H h => h) ⟨Nat.le_of_ble_eq_true rfl, Nat.le_of_ble_eq_true rfl⟩ ⟨Nat.le_refl _, Nat.le_refl _⟩ (Nat.le_of_ble_eq_true rfl) rfl rfl ?_
  have e4 : (s_goR_PCOM (zcpr (s_goR_PCOM (s_fill_PCOM σ 0 0) 10) 11 10) 5).2.2 = σ.2.2 := (s_goR_PCOM_22 (zcpr (s_goR_PCOM (s_fill_PCOM σ 0 0) 10) 11 10) 5).trans e3
  refine zi_aload_n K (dX5_settleRings 22 rfl) 0 rfl ?_
  refine zg_POOL_above K rfl w_172 (dX5_settleRings 23 rfl) ?_
  refine zi_ldc2 K (dX5_settleRings 24 rfl) w_642 ?_
  refine zi_callS K (na := 2) (As := [.ref (ad 26 0), .long 1000000000000]) [] [] (c_fill_PABV (σ := (s_goR_PCOM (zcpr (s_goR_PCOM (s_fill_PCOM σ 0 0) 10) 11 10) 5)) 0 1000000000000 rfl) (dX5_settleRings 25 rfl) w_630 w_359 w_40 w_360 (by decide +kernel) rfl (fun H h => h) ⟨Nat.le_of_ble_eq_true rfl, Nat.le_of_ble_eq_true rfl⟩ ⟨Nat.le_refl _, Nat.le_refl _⟩ (Nat.le_of_ble_eq_true rfl) rfl rfl ?_
  have e5 : (s_fill_PABV (s_goR_PCOM (zcpr (s_goR_PCOM (s_fill_PCOM σ 0 0) 10) 11 10) 5) 0 1000000000000).2.2 = σ.2.2 := (s_fill_PABV_22 (s_goR_PCOM (zcpr (s_goR_PCOM (s_fill_PCOM σ 0 0) 10) 11 10) 5) 0 1000000000000).trans e4
  refine zi_aload_n K (dX5_settleRings 26 rfl) 0 rfl ?_
  refine zi_aload_n K (dX5_settleRings 27 rfl) 0 rfl ?_
  refine zg_POOL_above K rfl w_172 (dX5_settleRings 28 rfl) ?_
  refine zi_bipush K (dX5_settleRings 29 rfl) zk_b10 ?_
  refine zi_callV K (na := 2) [] [] (c_goR_PABV (σ := (s_fill_PABV (s_goR_PCOM (zcpr (s_goR_PCOM (s_fill_PCOM σ 0 0) 10) 11 10) 5) 0 1000000000000)) 10 (by decide) (zRc_mv (σ := σ) (σ' := (s_fill_PABV (s_goR_PCOM (zcpr (s_goR_PCOM (s_fill_PCOM σ 0 0) 10) 11 10) 5) 0 1000000000000)) ((s_fill_PABV_1 (s_goR_PCOM (zcpr (s_goR_PCOM (s_fill_PCOM σ 0 0) 10) 11 10) 5) 0 1000000000000).trans ((s_goR_PCOM_1 (zcpr (s_goR_PCOM (s_fill_PCOM σ 0 0) 10) 11 10) 5).trans ((zcpr_1 (s_goR_PCOM (s_fill_PCOM σ 0 0) 10) 11 10).trans ((s_goR_PCOM_1 (s_fill_PCOM σ 0 0) 10).trans ((s_fill_PCOM_1 σ 0 0).trans rfl))))) hrc)) (dX5_settleRings 30 rfl) w_631 w_633 w_17 w_31 w_634 (by decide +kernel) rfl (fun H h => zi_recv K (zr_POOL (σ := (s_fill_PABV (s_goR_PCOM (zcpr (s_goR_PCOM (s_fill_PCOM σ 0 0) 10) 11 10) 5) 0 1000000000000)) rfl H h).1 rfl) (fun H h => h) ⟨Nat.le_of_ble_eq_true rfl, Nat.le_of_ble_eq_true rfl⟩ ⟨Nat.le_refl _, Nat.le_refl _⟩ (Nat.le_of_ble_eq_true rfl) rfl rfl ?_
  have e6 : (s_goR_PABV (s_fill_PABV (s_goR_PCOM (zcpr (s_goR_PCOM (s_fill_PCOM σ 0 0) 10) 11 10) 5) 0 1000000000000) 10).2.2 = σ.2.2 := (s_goR_PABV_22 (s_fill_PABV (s_goR_PCOM (zcpr (s_goR_PCOM (s_fill_PCOM σ 0 0) 10) 11 10) 5) 0 1000000000000) 10).trans e5
  refine zi_iconst K (dX5_settleRings 31 rfl) zk_i0 ?_
  refine zi_istore_n K [(1, .int 0), (0, .ref (ad 18 0))] (dX5_settleRings 32 rfl) (by decide) rfl ?_
  refine zV.pick [1, 0] (lo' := [(0, .ref (ad 18 0)), (1, .int 0)]) rfl ?_
  suffices hloop63 : ∀ (r i : Nat), i ≤ 5 → 5 - i < r → zV G X 2 (zP G ad (rgL (s_goR_PABV (s_fill_PABV (s_goR_PCOM (zcpr (s_goR_PCOM (s_fill_PCOM σ 0 0) 10) 11 10) 5) 0 1000000000000) 10) i)) (0) (0) 63 [(0, .ref (ad 18 0)), (1, .int (nI i))] [] from hloop63 (5 + 1) 0 (Nat.zero_le _) (Nat.lt_succ_of_le (Nat.sub_le _ _))
  intro r
  induction r with
  | zero => intro i _ h; exact absurd h (Nat.not_lt_zero _)
  | succ r ih63 =>
    intro i hi63 hr63
    refine zi_iload_n K (dX5_settleRings 33 rfl) 1 rfl ?_
    refine zi_iconst K (dX5_settleRings 34 rfl) zk_i5 ?_
    refine zi_icmp_ge K 102 (dX5_settleRings 35 rfl) rfl (fun h65_0 => ?_) (fun h65_0 => ?_)
    · skip
      have hN63 := zloop_exit (by decide) (Nat.le_of_ble_eq_true rfl) hi63 h65_0
      subst hN63
      exact zi_vret K E (dX5_settleRings 56 rfl) (Nat.le_refl _) (Nat.le_refl _) rfl (fun H h => by exact h)
    · skip
      have hlt63 := zloop_in (by decide) (Nat.le_of_ble_eq_true rfl) hi63 h65_0
      refine zi_aload_n K (dX5_settleRings 36 rfl) 0 rfl ?_
      refine zg_POOL_comes K rfl w_169 (dX5_settleRings 37 rfl) ?_
      refine zi_iload_n K (dX5_settleRings 38 rfl) 1 rfl ?_
      refine zl_PCOM K rfl i rfl (by omega) (dX5_settleRings 39 rfl) ?_
      refine zi_aload_n K (dX5_settleRings 40 rfl) 0 rfl ?_
      refine zg_POOL_early K rfl w_171 (dX5_settleRings 41 rfl) ?_
      refine zi_iload_n K (dX5_settleRings 42 rfl) 1 rfl ?_
      refine zl_PEAR K rfl i rfl (by omega) (dX5_settleRings 43 rfl) ?_
      refine zi_lif_eq K 96 (dX5_settleRings 44 rfl) (dX5_settleRings 45 rfl) rfl (fun h80_0 => ?_) (fun h80_0 => ?_)
      · skip
        refine zi_iinc K (v := nI (i + 1)) [(1, .int (nI (i + 1))), (0, .ref (ad 18 0))] (dX5_settleRings 54 rfl) 1 rfl (zk_inc _) (by decide) rfl ?_
        refine zi_goto K 63 (dX5_settleRings 55 rfl) rfl ?_
        refine zV.pick [1, 0] (lo' := [(0, .ref (ad 18 0)), (1, .int (nI (i + 1)))]) rfl ?_
        refine zV.st (σ' := rgL (s_goR_PABV (s_fill_PABV (s_goR_PCOM (zcpr (s_goR_PCOM (s_fill_PCOM σ 0 0) 10) 11 10) 5) 0 1000000000000) 10) (i + 1)) (by simp only [rgL, if_pos h80_0]) ?_
        exact ih63 (i + 1) (by omega) (by omega)
      · skip
        refine zi_aload_n K (dX5_settleRings 46 rfl) 0 rfl ?_
        refine zg_POOL_comes K rfl w_169 (dX5_settleRings 47 rfl) ?_
        refine zi_iload_n K (dX5_settleRings 48 rfl) 1 rfl ?_
        refine zi_aload_n K (dX5_settleRings 49 rfl) 0 rfl ?_
        refine zg_POOL_above K rfl w_172 (dX5_settleRings 50 rfl) ?_
        refine zi_iload_n K (dX5_settleRings 51 rfl) 1 rfl ?_
        refine zl_PABV K rfl i rfl (by omega) (dX5_settleRings 52 rfl) ?_
        refine zs_PCOM K rfl i rfl (by omega) (dX5_settleRings 53 rfl) ?_
        have e7 : (uL (rgL (s_goR_PABV (s_fill_PABV (s_goR_PCOM (zcpr (s_goR_PCOM (s_fill_PCOM σ 0 0) 10) 11 10) 5) 0 1000000000000) 10) i) 10 0 i (sL (rgL (s_goR_PABV (s_fill_PABV (s_goR_PCOM (zcpr (s_goR_PCOM (s_fill_PCOM σ 0 0) 10) 11 10) 5) 0 1000000000000) 10) i) 12 0 i)).2.2 = σ.2.2 := (uL_22 (rgL (s_goR_PABV (s_fill_PABV (s_goR_PCOM (zcpr (s_goR_PCOM (s_fill_PCOM σ 0 0) 10) 11 10) 5) 0 1000000000000) 10) i) 10 0 i (sL (rgL (s_goR_PABV (s_fill_PABV (s_goR_PCOM (zcpr (s_goR_PCOM (s_fill_PCOM σ 0 0) 10) 11 10) 5) 0 1000000000000) 10) i) 12 0 i)).trans ((rgL_22 _ _).trans ((s_goR_PABV_22 (s_fill_PABV (s_goR_PCOM (zcpr (s_goR_PCOM (s_fill_PCOM σ 0 0) 10) 11 10) 5) 0 1000000000000) 10).trans ((s_fill_PABV_22 (s_goR_PCOM (zcpr (s_goR_PCOM (s_fill_PCOM σ 0 0) 10) 11 10) 5) 0 1000000000000).trans ((s_goR_PCOM_22 (zcpr (s_goR_PCOM (s_fill_PCOM σ 0 0) 10) 11 10) 5).trans ((zcpr_22 (s_goR_PCOM (s_fill_PCOM σ 0 0) 10) 11 10).trans ((s_goR_PCOM_22 (s_fill_PCOM σ 0 0) 10).trans ((s_fill_PCOM_22 σ 0 0).trans rfl)))))))
        refine zi_iinc K (v := nI (i + 1)) [(1, .int (nI (i + 1))), (0, .ref (ad 18 0))] (dX5_settleRings 54 rfl) 1 rfl (zk_inc _) (by decide) rfl ?_
        refine zi_goto K 63 (dX5_settleRings 55 rfl) rfl ?_
        refine zV.pick [1, 0] (lo' := [(0, .ref (ad 18 0)), (1, .int (nI (i + 1)))]) rfl ?_
        refine zV.st (σ' := rgL (s_goR_PABV (s_fill_PABV (s_goR_PCOM (zcpr (s_goR_PCOM (s_fill_PCOM σ 0 0) 10) 11 10) 5) 0 1000000000000) 10) (i + 1)) (by simp only [rgL, if_neg h80_0]) ?_
        exact ih63 (i + 1) (by omega) (by omega)
def v_fits (σ : zSt)  : Int32 := if zall (fun y => sL (s_goR_PABV (zcpr σ 12 10) 1) 12 0 y == sL (s_goR_PABV (zcpr σ 12 10) 1) 10 0 y) 5 = true then 1 else 0
def s_fits (σ : zSt)  : zSt := (s_goR_PABV (zcpr σ 12 10) 1)
theorem s_fits_22 (σ : zSt)  : (s_fits σ ).2.2 = σ.2.2 := by
  unfold s_fits
  (repeat' split) <;> first | exact ((s_goR_PABV_22 (zcpr σ 12 10) 1).trans ((zcpr_22 σ 12 10).trans rfl))
set_option maxRecDepth 100000 in
set_option maxHeartbeats 4000000 in
theorem c_fits {G : zG} {ad : Nat → Nat → Nat} {σ : zSt}  (hrc : zRc σ) : zC G yX5_fits cX5_fits 2 (some FieldType.boolean) 3 64 0 0 [.ref (ad 18 0)] (zP G ad σ) (some (.int (v_fits σ ))) (zP G ad (s_fits σ )) := by
  refine zC_of (by decide) (Nat.le_of_ble_eq_true rfl) (fun X K E hnm => ?_)
  show zV G X 2 (zP G ad σ) 0 0 0 [(0, .ref (ad 18 0))] []
  refine zi_aload_n K (dX5_fits 0 rfl) 0 rfl ?_
  refine zg_POOL_comes K rfl w_169 (dX5_fits 1 rfl) ?_
  refine zi_iconst K (dX5_fits 2 rfl) zk_i0 ?_
  refine zi_aload_n K (dX5_fits 3 rfl) 0 rfl ?_
  refine zg_POOL_above K rfl w_172 (dX5_fits 4 rfl) ?_
  refine zi_iconst K (dX5_fits 5 rfl) zk_i0 ?_
  refine zi_iconst K (dX5_fits 6 rfl) zk_i5 ?_
  refine zcp_PCOM_PABV K [] w_635 ⟨Nat.le_of_ble_eq_true rfl, Nat.le_of_ble_eq_true rfl⟩ (dX5_fits 7 rfl) ?_
  refine zi_aload_n K (dX5_fits 8 rfl) 0 rfl ?_
  refine zi_aload_n K (dX5_fits 9 rfl) 0 rfl ?_
  refine zg_POOL_above K rfl w_172 (dX5_fits 10 rfl) ?_
  refine zi_iconst K (dX5_fits 11 rfl) zk_i1 ?_
  refine zi_callV K (na := 2) [] [] (c_goR_PABV (σ := (zcpr σ 12 10)) 1 (by decide) (zRc_mv (σ := σ) (σ' := (zcpr σ 12 10)) ((zcpr_1 σ 12 10).trans rfl) hrc)) (dX5_fits 12 rfl) w_631 w_633 w_17 w_31 w_634 (by decide +kernel) rfl (fun H h => zi_recv K (zr_POOL (σ := (zcpr σ 12 10)) rfl H h).1 rfl) (fun H h => h) ⟨Nat.le_of_ble_eq_true rfl, Nat.le_of_ble_eq_true rfl⟩ ⟨Nat.le_refl _, Nat.le_refl _⟩ (Nat.le_of_ble_eq_true rfl) rfl rfl ?_
  have e1 : (s_goR_PABV (zcpr σ 12 10) 1).2.2 = σ.2.2 := (s_goR_PABV_22 (zcpr σ 12 10) 1).trans rfl
  refine zi_iconst K (dX5_fits 13 rfl) zk_i0 ?_
  refine zi_istore_n K [(1, .int 0), (0, .ref (ad 18 0))] (dX5_fits 14 rfl) (by decide) rfl ?_
  refine zV.pick [1, 0] (lo' := [(0, .ref (ad 18 0)), (1, .int 0)]) rfl ?_
  suffices hloop25 : ∀ (r i : Nat), i ≤ 5 → 5 - i < r → zall (fun y => sL (s_goR_PABV (zcpr σ 12 10) 1) 12 0 y == sL (s_goR_PABV (zcpr σ 12 10) 1) 10 0 y) i = true → zV G X 2 (zP G ad (s_goR_PABV (zcpr σ 12 10) 1)) (0) (0) 25 [(0, .ref (ad 18 0)), (1, .int (nI i))] [] from hloop25 (5 + 1) 0 (Nat.zero_le _) (Nat.lt_succ_of_le (Nat.sub_le _ _)) rfl
  intro r
  induction r with
  | zero => intro i _ h; exact absurd h (Nat.not_lt_zero _)
  | succ r ih25 =>
    intro i hi25 hr25 hv25
    refine zi_iload_n K (dX5_fits 15 rfl) 1 rfl ?_
    refine zi_iconst K (dX5_fits 16 rfl) zk_i5 ?_
    refine zi_icmp_ge K 54 (dX5_fits 17 rfl) rfl (fun h27_0 => ?_) (fun h27_0 => ?_)
    · skip
      have hN25 := zloop_exit (by decide) (Nat.le_of_ble_eq_true rfl) hi25 h27_0
      subst hN25
      refine zi_iconst K (dX5_fits 32 rfl) zk_i1 ?_
      exact zi_zret K E (dX5_fits 33 rfl) (Nat.le_refl _) (Nat.le_refl _) (by unfold v_fits; rw [if_pos hv25]) rfl (fun H h => by exact h)
    · skip
      have hlt25 := zloop_in (by decide) (Nat.le_of_ble_eq_true rfl) hi25 h27_0
      refine zi_aload_n K (dX5_fits 18 rfl) 0 rfl ?_
      refine zg_POOL_above K rfl w_172 (dX5_fits 19 rfl) ?_
      refine zi_iload_n K (dX5_fits 20 rfl) 1 rfl ?_
      refine zl_PABV K rfl i rfl (by omega) (dX5_fits 21 rfl) ?_
      refine zi_aload_n K (dX5_fits 22 rfl) 0 rfl ?_
      refine zg_POOL_comes K rfl w_169 (dX5_fits 23 rfl) ?_
      refine zi_iload_n K (dX5_fits 24 rfl) 1 rfl ?_
      refine zl_PCOM K rfl i rfl (by omega) (dX5_fits 25 rfl) ?_
      refine zi_lif_eq K 48 (dX5_fits 26 rfl) (dX5_fits 27 rfl) rfl (fun h42_0 => ?_) (fun h42_0 => ?_)
      · skip
        refine zi_iinc K (v := nI (i + 1)) [(1, .int (nI (i + 1))), (0, .ref (ad 18 0))] (dX5_fits 30 rfl) 1 rfl (zk_inc _) (by decide) rfl ?_
        refine zi_goto K 25 (dX5_fits 31 rfl) rfl ?_
        refine zV.pick [1, 0] (lo' := [(0, .ref (ad 18 0)), (1, .int (nI (i + 1)))]) rfl ?_
        exact ih25 (i + 1) (by omega) (by omega) (zall_s hv25 (by simp only [beq_iff_eq]; exact h42_0))
      · skip
        refine zi_iconst K (dX5_fits 28 rfl) zk_i0 ?_
        exact zi_zret K E (dX5_fits 29 rfl) (Nat.le_refl _) (Nat.le_refl _) (by unfold v_fits; rw [if_neg (by rw [zall_f (p := fun y => sL (s_goR_PABV (zcpr σ 12 10) 1) 12 0 y == sL (s_goR_PABV (zcpr σ 12 10) 1) 10 0 y) (i := i) (by simp only [beq_eq_false_iff_ne]; exact h42_0) hlt25]; decide)]) rfl (fun H h => by exact h)
