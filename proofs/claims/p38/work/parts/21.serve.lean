/-! Flow.serveLoss: one loss through the treaties for each loss -/
def slI (σ : zSt) (b k : Nat) : Nat → zSt
  | 0 => σ
  | i + 1 => if v_forEach (slI σ b k i) ((lx σ (6 + 4 * b) i) % 8) = 0 then (slI σ b k i) else if v_covers (slI σ b k i) ((lx σ (6 + 4 * b) i) % 8) k = 0 then (slI σ b k i) else s_refill (s_takeFrom (slI σ b k i) (lx σ (6 + 4 * b) i) k (zmnl (v_wantedOf (slI σ b k i) ((lx σ (6 + 4 * b) i) % 8) k) (sL (slI σ b k i) 2 (lx σ (6 + 4 * b) i) 0))) (lx σ (6 + 4 * b) i) (zmnl (v_wantedOf (slI σ b k i) ((lx σ (6 + 4 * b) i) % 8) k) (sL (slI σ b k i) 2 (lx σ (6 + 4 * b) i) 0)) (sI (s_takeFrom (slI σ b k i) (lx σ (6 + 4 * b) i) k (zmnl (v_wantedOf (slI σ b k i) ((lx σ (6 + 4 * b) i) % 8) k) (sL (slI σ b k i) 2 (lx σ (6 + 4 * b) i) 0))) 4 k 0)
theorem s_takeFrom_1 (σ : zSt) (j k : Nat) (x : Int64) : (s_takeFrom σ j k x).1 = σ.1 := rfl
theorem s_refill_1 (σ : zSt) (j : Nat) (x : Int64) (day : Int32) : (s_refill σ j x day).1 = σ.1 := by
  unfold s_refill
  split <;> rfl
theorem slI_1 (σ : zSt) (b k i : Nat) : (slI σ b k i).1 = σ.1 := by
  induction i with
  | zero => rfl
  | succ i ih =>
    simp only [slI]
    split
    · exact ih
    · split
      · exact ih
      · exact (s_refill_1 _ _ _ _).trans ((s_takeFrom_1 _ _ _ _).trans ih)
theorem slI_22 (σ : zSt) (b k i : Nat) : (slI σ b k i).2.2 = σ.2.2 := by
  induction i with
  | zero => rfl
  | succ i ih =>
    simp only [slI]
    split
    · exact ih
    · split
      · exact ih
      · exact (s_refill_22 _ _ _ _).trans ((s_takeFrom_22 _ _ _ _).trans ih)
/-- a treaty's numbers that divide -/
def zTz (σ : zSt) (t : Nat) : Prop := (¬ (sI σ 13 t 0).toInt64 * 100 = 0) ∧ ¬ (sI σ 11 t 0 - sI σ 10 t 0 + 1).toInt64 = 0
def zPz (σ : zSt) (k : Nat) : Prop := ¬ (sI σ 0 (sP σ k) 0).toInt64 = 0
theorem zTz_mv {σ σ' : zSt} (e : σ'.1 = σ.1) {t : Nat} (h : zTz σ t) : zTz σ' t := by
  obtain ⟨a, c⟩ := σ
  obtain ⟨a', c'⟩ := σ'
  cases e
  exact h
theorem zPz_mv {σ σ' : zSt} (e1 : σ'.1 = σ.1) (e : σ'.2.2 = σ.2.2) {k : Nat} (h : zPz σ k) : zPz σ' k := by
  obtain ⟨a, x, c⟩ := σ
  obtain ⟨a', x', c'⟩ := σ'
  cases e1
  cases e
  exact h
def s_serveLoss (σ : zSt) (b k : Nat) : zSt := (slI σ b k (sZ σ (6 + 4 * b)))
theorem s_serveLoss_22 (σ : zSt) (b k : Nat) : (s_serveLoss σ b k).2.2 = σ.2.2 := by
  unfold s_serveLoss
  (repeat' split) <;> first | exact ((slI_22 σ b k (sZ σ (6 + 4 * b))).trans rfl)
set_option maxRecDepth 100000 in
set_option maxHeartbeats 4000000 in
theorem c_serveLoss {G : zG} {ad : Nat → Nat → Nat} {σ : zSt} (b k : Nat) (hb : b < 2) (hk : zlC σ k) (hp : sP σ k < sN σ 0) (hz : zPz σ k) (hT : ∀ t, t < sN σ 2 → zTz σ t) (hcv : ∀ j, zlV σ j → j % 8 < sN σ 2) (h6 : zLW σ (6 + 4 * b)) : zC G yX2_serveLoss cX2_serveLoss 6 none 3 67 0 0 [.ref (ad 11 b), .ref (ad 2 k)] (zP G ad σ) none (zP G ad (s_serveLoss σ b k)) := by
  refine zC_of (by decide) (Nat.le_of_ble_eq_true rfl) (fun X K E hnm => ?_)
  show zV G X 6 (zP G ad σ) 0 0 0 [(0, .ref (ad 11 b)), (1, .ref (ad 2 k))] []
  refine zi_iconst K (dX2_serveLoss 0 rfl) zk_i0 ?_
  refine zi_istore_n K [(2, .int 0), (0, .ref (ad 11 b)), (1, .ref (ad 2 k))] (dX2_serveLoss 1 rfl) (by decide) rfl ?_
  refine zV.pick [1, 2, 0] (lo' := [(0, .ref (ad 11 b)), (1, .ref (ad 2 k)), (2, .int 0)]) rfl ?_
  suffices hloop2 : ∀ (r i : Nat), i ≤ sZ σ (6 + 4 * b) → sZ σ (6 + 4 * b) - i < r → zV G X 6 (zP G ad (slI σ b k i)) (0) (0) 2 [(0, .ref (ad 11 b)), (1, .ref (ad 2 k)), (2, .int (nI i))] [] from hloop2 (sZ σ (6 + 4 * b) + 1) 0 (Nat.zero_le _) (Nat.lt_succ_of_le (Nat.sub_le _ _))
  intro r
  induction r with
  | zero => intro i _ h; exact absurd h (Nat.not_lt_zero _)
  | succ r ih2 =>
    intro i hi2 hr2
    refine zi_iload_n K (dX2_serveLoss 2 rfl) 2 rfl ?_
    refine zi_aload_n K (dX2_serveLoss 3 rfl) 0 rfl ?_
    refine zg_FL_covers K hb w_134 (dX2_serveLoss 4 rfl) ?_
    refine zi_callV K (na := 0) [.int (nI i)] [.int (nI (sZ σ (6 + 4 * b))), .int (nI i)] (c_sizeN (σ := (slI σ b k i)) (6 + 4 * b) (sZ σ (6 + 4 * b)) (zL_ok h6).1 (zZ_mv (slI_22 σ b k i) (6 + 4 * b))) (dX2_serveLoss 5 rfl) w_351 w_231 w_232 w_28 w_233 (by decide +kernel) rfl (fun H h => zrecv_LST K (zL_ok h6).1 h) (fun H h => h) ⟨Nat.le_of_ble_eq_true rfl, Nat.le_of_ble_eq_true rfl⟩ ⟨Nat.le_refl _, Nat.le_refl _⟩ (Nat.le_of_ble_eq_true rfl) rfl rfl ?_
    refine zi_icmp_ge K 86 (dX2_serveLoss 6 rfl) rfl (fun h10_0 => ?_) (fun h10_0 => ?_)
    · skip
      have hN2 := zloop_exit rfl (zL_b h6) hi2 h10_0
      subst hN2
      exact zi_vret K E (dX2_serveLoss 41 rfl) (Nat.le_refl _) (Nat.le_refl _) rfl (fun H h => by exact h)
    · skip
      have hlt2 := zloop_in rfl (zL_b h6) hi2 h10_0
      refine zi_aload_n K (dX2_serveLoss 7 rfl) 0 rfl ?_
      refine zg_FL_covers K hb w_134 (dX2_serveLoss 8 rfl) ?_
      refine zi_iload_n K (dX2_serveLoss 9 rfl) 2 rfl ?_
      refine zi_callV K (na := 1) [] [.ref (ad 7 (lx σ (6 + 4 * b) i))] (c_getK (σ := (slI σ b k i)) (6 + 4 * b) i (lx σ (6 + 4 * b) i) 7 (zeK6 hb) (zL_ok (zLW_mv (slI_22 σ b k i) h6)) ((zZ_mv (slI_22 σ b k i) (6 + 4 * b)).symm ▸ hlt2) ((zE_mv (slI_22 σ b k i) (6 + 4 * b) i).trans (zL_x h6 hlt2))) (dX2_serveLoss 10 rfl) w_352 w_310 w_311 w_28 w_312 (by decide +kernel) rfl (fun H h => zrecv_LST K (zL_ok h6).1 h) (fun H h => h) ⟨Nat.le_of_ble_eq_true rfl, Nat.le_of_ble_eq_true rfl⟩ ⟨Nat.le_refl _, Nat.le_refl _⟩ (Nat.le_of_ble_eq_true rfl) rfl rfl ?_
      refine zi_cast K (fun H h => (zr_COV (σ := (slI σ b k i)) (zlCV_V (slI_22 σ b k i) (zL_lv h6 hlt2 (zeK6 hb))) H h).1) rfl w_364 (dX2_serveLoss 11 rfl) ?_
      refine zi_astore_n K [(3, .ref (ad 7 (lx σ (6 + 4 * b) i))), (0, .ref (ad 11 b)), (1, .ref (ad 2 k)), (2, .int (nI i))] (dX2_serveLoss 12 rfl) (by decide) rfl ?_
      refine zi_aload_n K (dX2_serveLoss 13 rfl) 0 rfl ?_
      refine zg_COV_treaty K (zlCV_V (slI_22 σ b k i) (zL_lv h6 hlt2 (zeK6 hb))) w_1162 (dX2_serveLoss 14 rfl) ?_
      refine zi_callV K (na := 0) [] [.int (v_forEach (slI σ b k i) ((lx σ (6 + 4 * b) i) % 8))] (c_forEach (σ := (slI σ b k i)) ((lx σ (6 + 4 * b) i) % 8) (zlCV_N (slI_22 σ b k i) (hcv _ (zL_lv h6 hlt2 (zeK6 hb))))) (dX2_serveLoss 15 rfl) w_383 w_384 w_385 w_55 w_386 (by decide +kernel) rfl (fun H h => zi_recv K (zr_TR (σ := (slI σ b k i)) (zlCV_N (slI_22 σ b k i) (hcv _ (zL_lv h6 hlt2 (zeK6 hb)))) H h).1 rfl) (fun H h => h) ⟨Nat.le_of_ble_eq_true rfl, Nat.le_of_ble_eq_true rfl⟩ ⟨Nat.le_refl _, Nat.le_refl _⟩ (Nat.le_of_ble_eq_true rfl) rfl rfl ?_
      refine zi_if_eq K 80 (dX2_serveLoss 16 rfl) rfl (fun h32_0 => ?_) (fun h32_0 => ?_)
      · skip
        refine zi_iinc K (v := nI (i + 1)) [(2, .int (nI (i + 1))), (3, .ref (ad 7 (lx σ (6 + 4 * b) i))), (0, .ref (ad 11 b)), (1, .ref (ad 2 k))] (dX2_serveLoss 39 rfl) 3 rfl (zk_inc _) (by decide) rfl ?_
        refine zi_goto K 2 (dX2_serveLoss 40 rfl) rfl ?_
        refine zV.pick [2, 3, 0] (lo' := [(0, .ref (ad 11 b)), (1, .ref (ad 2 k)), (2, .int (nI (i + 1)))]) rfl ?_
        refine zV.st (σ' := slI σ b k (i + 1)) (by simp only [slI, if_pos h32_0]) ?_
        exact ih2 (i + 1) (by omega) (by omega)
      · skip
        refine zi_aload_n K (dX2_serveLoss 17 rfl) 0 rfl ?_
        refine zg_COV_treaty K (zlCV_V (slI_22 σ b k i) (zL_lv h6 hlt2 (zeK6 hb))) w_1162 (dX2_serveLoss 18 rfl) ?_
        refine zi_aload_n K (dX2_serveLoss 19 rfl) 2 rfl ?_
        refine zi_callV K (na := 1) [] [.int (v_covers (slI σ b k i) ((lx σ (6 + 4 * b) i) % 8) k)] (c_covers (σ := (slI σ b k i)) ((lx σ (6 + 4 * b) i) % 8) k (zlCV_N (slI_22 σ b k i) (hcv _ (zL_lv h6 hlt2 (zeK6 hb)))) (zlCV_C (slI_22 σ b k i) hk) (zlCV_P (slI_22 σ b k i) hp)) (dX2_serveLoss 20 rfl) w_387 w_388 w_389 w_55 w_390 (by decide +kernel) rfl (fun H h => zi_recv K (zr_TR (σ := (slI σ b k i)) (zlCV_N (slI_22 σ b k i) (hcv _ (zL_lv h6 hlt2 (zeK6 hb)))) H h).1 rfl) (fun H h => h) ⟨Nat.le_of_ble_eq_true rfl, Nat.le_of_ble_eq_true rfl⟩ ⟨Nat.le_refl _, Nat.le_refl _⟩ (Nat.le_of_ble_eq_true rfl) rfl rfl ?_
        refine zi_if_eq K 80 (dX2_serveLoss 21 rfl) rfl (fun h43_1 => ?_) (fun h43_1 => ?_)
        · skip
          refine zi_iinc K (v := nI (i + 1)) [(2, .int (nI (i + 1))), (3, .ref (ad 7 (lx σ (6 + 4 * b) i))), (0, .ref (ad 11 b)), (1, .ref (ad 2 k))] (dX2_serveLoss 39 rfl) 3 rfl (zk_inc _) (by decide) rfl ?_
          refine zi_goto K 2 (dX2_serveLoss 40 rfl) rfl ?_
          refine zV.pick [2, 3, 0] (lo' := [(0, .ref (ad 11 b)), (1, .ref (ad 2 k)), (2, .int (nI (i + 1)))]) rfl ?_
          refine zV.st (σ' := slI σ b k (i + 1)) (by simp only [slI, if_neg h32_0, if_pos h43_1]) ?_
          exact ih2 (i + 1) (by omega) (by omega)
        · skip
          refine zi_aload_n K (dX2_serveLoss 22 rfl) 0 rfl ?_
          refine zg_COV_treaty K (zlCV_V (slI_22 σ b k i) (zL_lv h6 hlt2 (zeK6 hb))) w_1162 (dX2_serveLoss 23 rfl) ?_
          refine zi_aload_n K (dX2_serveLoss 24 rfl) 2 rfl ?_
          refine zi_callV K (na := 1) [] [.long (v_wantedOf (slI σ b k i) ((lx σ (6 + 4 * b) i) % 8) k)] (c_wantedOf (σ := (slI σ b k i)) ((lx σ (6 + 4 * b) i) % 8) k (zlCV_N (slI_22 σ b k i) (hcv _ (zL_lv h6 hlt2 (zeK6 hb)))) (zlCV_C (slI_22 σ b k i) hk) (zlCV_P (slI_22 σ b k i) hp) (zPz_mv ((slI_1 σ b k i).trans rfl) (slI_22 σ b k i) hz)) (dX2_serveLoss 25 rfl) w_391 w_392 w_393 w_55 w_394 (by decide +kernel) rfl (fun H h => zi_recv K (zr_TR (σ := (slI σ b k i)) (zlCV_N (slI_22 σ b k i) (hcv _ (zL_lv h6 hlt2 (zeK6 hb)))) H h).1 rfl) (fun H h => h) ⟨Nat.le_of_ble_eq_true rfl, Nat.le_of_ble_eq_true rfl⟩ ⟨Nat.le_refl _, Nat.le_refl _⟩ (Nat.le_of_ble_eq_true rfl) rfl rfl ?_
          refine zi_aload_n K (dX2_serveLoss 26 rfl) 0 rfl ?_
          refine zg_COV_limitLeft K (zlCV_V (slI_22 σ b k i) (zL_lv h6 hlt2 (zeK6 hb))) w_1168 (dX2_serveLoss 27 rfl) ?_
          refine zi_minl K [] (dX2_serveLoss 28 rfl) w_409 ⟨Nat.le_of_ble_eq_true rfl, Nat.le_of_ble_eq_true rfl⟩ ⟨Nat.le_refl _, Nat.le_refl _⟩ ?_
          refine zi_lstore K [(4, .long (zmnl (v_wantedOf (slI σ b k i) ((lx σ (6 + 4 * b) i) % 8) k) (sL (slI σ b k i) 2 (lx σ (6 + 4 * b) i) 0))), (3, .ref (ad 7 (lx σ (6 + 4 * b) i))), (0, .ref (ad 11 b)), (1, .ref (ad 2 k)), (2, .int (nI i))] (dX2_serveLoss 29 rfl) (by decide) rfl ?_
          refine zi_aload_n K (dX2_serveLoss 30 rfl) 1 rfl ?_
          refine zi_aload_n K (dX2_serveLoss 31 rfl) 3 rfl ?_
          refine zi_lload K (dX2_serveLoss 32 rfl) 0 rfl ?_
          refine zi_callV K (na := 2) [] [] (c_takeFrom (σ := (slI σ b k i)) (lx σ (6 + 4 * b) i) k (zmnl (v_wantedOf (slI σ b k i) ((lx σ (6 + 4 * b) i) % 8) k) (sL (slI σ b k i) 2 (lx σ (6 + 4 * b) i) 0)) (zlCV_V (slI_22 σ b k i) (zL_lv h6 hlt2 (zeK6 hb))) (zlCV_N (slI_22 σ b k i) (hcv _ (zL_lv h6 hlt2 (zeK6 hb)))) (zlCV_C (slI_22 σ b k i) hk)) (dX2_serveLoss 33 rfl) w_410 w_411 w_412 w_56 w_413 (by decide +kernel) rfl (fun H h => zi_recv K (zr_COV (σ := (slI σ b k i)) (zlCV_V (slI_22 σ b k i) (zL_lv h6 hlt2 (zeK6 hb))) H h).1 rfl) (fun H h => h) ⟨Nat.le_of_ble_eq_true rfl, Nat.le_of_ble_eq_true rfl⟩ ⟨Nat.le_refl _, Nat.le_refl _⟩ (Nat.le_of_ble_eq_true rfl) rfl rfl ?_
          have e1 : (s_takeFrom (slI σ b k i) (lx σ (6 + 4 * b) i) k (zmnl (v_wantedOf (slI σ b k i) ((lx σ (6 + 4 * b) i) % 8) k) (sL (slI σ b k i) 2 (lx σ (6 + 4 * b) i) 0))).2.2 = σ.2.2 := (s_takeFrom_22 (slI σ b k i) (lx σ (6 + 4 * b) i) k (zmnl (v_wantedOf (slI σ b k i) ((lx σ (6 + 4 * b) i) % 8) k) (sL (slI σ b k i) 2 (lx σ (6 + 4 * b) i) 0))).trans (slI_22 σ b k i)
          refine zi_aload_n K (dX2_serveLoss 34 rfl) 1 rfl ?_
          refine zi_lload K (dX2_serveLoss 35 rfl) 0 rfl ?_
          refine zi_aload_n K (dX2_serveLoss 36 rfl) 3 rfl ?_
          refine zg_CL_day K (zlCV_C e1 hk) w_748 (dX2_serveLoss 37 rfl) ?_
          refine zi_callV K (na := 2) [] [] (c_refill (σ := (s_takeFrom (slI σ b k i) (lx σ (6 + 4 * b) i) k (zmnl (v_wantedOf (slI σ b k i) ((lx σ (6 + 4 * b) i) % 8) k) (sL (slI σ b k i) 2 (lx σ (6 + 4 * b) i) 0)))) (lx σ (6 + 4 * b) i) (zmnl (v_wantedOf (slI σ b k i) ((lx σ (6 + 4 * b) i) % 8) k) (sL (slI σ b k i) 2 (lx σ (6 + 4 * b) i) 0)) (sI (s_takeFrom (slI σ b k i) (lx σ (6 + 4 * b) i) k (zmnl (v_wantedOf (slI σ b k i) ((lx σ (6 + 4 * b) i) % 8) k) (sL (slI σ b k i) 2 (lx σ (6 + 4 * b) i) 0))) 4 k 0) (zlCV_V e1 (zL_lv h6 hlt2 (zeK6 hb))) (zlCV_N e1 (hcv _ (zL_lv h6 hlt2 (zeK6 hb)))) (zTz_mv ((s_takeFrom_1 (slI σ b k i) (lx σ (6 + 4 * b) i) k (zmnl (v_wantedOf (slI σ b k i) ((lx σ (6 + 4 * b) i) % 8) k) (sL (slI σ b k i) 2 (lx σ (6 + 4 * b) i) 0))).trans ((slI_1 σ b k i).trans rfl)) (hT _ (hcv _ (zL_lv h6 hlt2 (zeK6 hb))))).1 (zTz_mv ((s_takeFrom_1 (slI σ b k i) (lx σ (6 + 4 * b) i) k (zmnl (v_wantedOf (slI σ b k i) ((lx σ (6 + 4 * b) i) % 8) k) (sL (slI σ b k i) 2 (lx σ (6 + 4 * b) i) 0))).trans ((slI_1 σ b k i).trans rfl)) (hT _ (hcv _ (zL_lv h6 hlt2 (zeK6 hb))))).2) (dX2_serveLoss 38 rfl) w_414 w_415 w_416 w_56 w_417 (by decide +kernel) rfl (fun H h => zi_recv K (zr_COV (σ := (s_takeFrom (slI σ b k i) (lx σ (6 + 4 * b) i) k (zmnl (v_wantedOf (slI σ b k i) ((lx σ (6 + 4 * b) i) % 8) k) (sL (slI σ b k i) 2 (lx σ (6 + 4 * b) i) 0)))) (zlCV_V e1 (zL_lv h6 hlt2 (zeK6 hb))) H h).1 rfl) (fun H h => h) ⟨Nat.le_of_ble_eq_true rfl, Nat.le_of_ble_eq_true rfl⟩ ⟨Nat.le_refl _, Nat.le_refl _⟩ (Nat.le_of_ble_eq_true rfl) rfl rfl ?_
          have e2 : (s_refill (s_takeFrom (slI σ b k i) (lx σ (6 + 4 * b) i) k (zmnl (v_wantedOf (slI σ b k i) ((lx σ (6 + 4 * b) i) % 8) k) (sL (slI σ b k i) 2 (lx σ (6 + 4 * b) i) 0))) (lx σ (6 + 4 * b) i) (zmnl (v_wantedOf (slI σ b k i) ((lx σ (6 + 4 * b) i) % 8) k) (sL (slI σ b k i) 2 (lx σ (6 + 4 * b) i) 0)) (sI (s_takeFrom (slI σ b k i) (lx σ (6 + 4 * b) i) k (zmnl (v_wantedOf (slI σ b k i) ((lx σ (6 + 4 * b) i) % 8) k) (sL (slI σ b k i) 2 (lx σ (6 + 4 * b) i) 0))) 4 k 0)).2.2 = σ.2.2 := (s_refill_22 (s_takeFrom (slI σ b k i) (lx σ (6 + 4 * b) i) k (zmnl (v_wantedOf (slI σ b k i) ((lx σ (6 + 4 * b) i) % 8) k) (sL (slI σ b k i) 2 (lx σ (6 + 4 * b) i) 0))) (lx σ (6 + 4 * b) i) (zmnl (v_wantedOf (slI σ b k i) ((lx σ (6 + 4 * b) i) % 8) k) (sL (slI σ b k i) 2 (lx σ (6 + 4 * b) i) 0)) (sI (s_takeFrom (slI σ b k i) (lx σ (6 + 4 * b) i) k (zmnl (v_wantedOf (slI σ b k i) ((lx σ (6 + 4 * b) i) % 8) k) (sL (slI σ b k i) 2 (lx σ (6 + 4 * b) i) 0))) 4 k 0)).trans e1
          refine zi_iinc K (v := nI (i + 1)) [(2, .int (nI (i + 1))), (4, .long (zmnl (v_wantedOf (slI σ b k i) ((lx σ (6 + 4 * b) i) % 8) k) (sL (slI σ b k i) 2 (lx σ (6 + 4 * b) i) 0))), (3, .ref (ad 7 (lx σ (6 + 4 * b) i))), (0, .ref (ad 11 b)), (1, .ref (ad 2 k))] (dX2_serveLoss 39 rfl) 4 rfl (zk_inc _) (by decide) rfl ?_
          refine zi_goto K 2 (dX2_serveLoss 40 rfl) rfl ?_
          refine zV.pick [3, 4, 0] (lo' := [(0, .ref (ad 11 b)), (1, .ref (ad 2 k)), (2, .int (nI (i + 1)))]) rfl ?_
          refine zV.st (σ' := slI σ b k (i + 1)) (by simp only [slI, if_neg h32_0, if_neg h43_1]) ?_
          exact ih2 (i + 1) (by omega) (by omega)
