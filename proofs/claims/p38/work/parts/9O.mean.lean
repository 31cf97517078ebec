/-! a mean of whole numbers is not above a bound of theirs -/
theorem fq_core {c Sn P P' d Wn R R' D D' : Nat} (a1 : c * P = Sn * P') (a2 : d * R = Wn * R') (e : D * P' * R = D' * P * R') (h : 0 < P * R') : c * Wn * D = Sn * d * D' := by
  refine Nat.eq_of_mul_eq_mul_right h ?_
  calc c * Wn * D * (P * R') = (c * P) * (Wn * R') * D := by ac_rfl
    _ = (Sn * P') * (d * R) * D := by rw [a1, ← a2]
    _ = Sn * d * (D * P' * R) := by ac_rfl
    _ = Sn * d * (D' * P * R') := by rw [e]
    _ = Sn * d * D' * (P * R') := by ac_rfl
theorem fq_val {S W : Int64} (hS : 0 ≤ S.toInt ∧ S.toInt < 9007199254740992) (hW : 0 < W.toInt ∧ W.toInt < 9007199254740992) : FP.Core.val64 (FP.ddiv (FP.l2d S) (FP.l2d W)) = FP.Core.roundRatio FP.Core.b64 false S.toInt.natAbs W.toInt.natAbs 0 := by
  have e0 : FP.Core.val64 (FP.ddiv (FP.l2d S) (FP.l2d W)) = FP.Core.quotient FP.Core.b64 (FP.Core.val64 (FP.Core.l2d S)) (FP.Core.val64 (FP.Core.l2d W)) := FP.Core.val64_ddiv _ _
  rw [e0]
  have wS := FP.Core.l2d_whole (a := S) ⟨by omega, by omega⟩
  have wW := FP.Core.l2d_whole (a := W) ⟨by omega, by omega⟩
  obtain ⟨c, q, h⟩ := FP.Core.l2d_shape S
  obtain ⟨d, r, k⟩ := FP.Core.l2d_shape W
  rw [decide_eq_false (show ¬ S.toInt < 0 by omega)] at h
  rw [decide_eq_false (show ¬ W.toInt < 0 by omega)] at k
  rw [h] at wS ⊢
  rw [k] at wW ⊢
  have hd : d ≠ 0 := fun z => by
    have := (FP.Core.whole_zero wW).mp z
    omega
  have a1 := FP.Core.whole_natAbs wS
  have a2 := FP.Core.whole_natAbs wW
  show (if d = 0 then (if c = 0 then FP.Core.Datum.nan else FP.Core.Datum.inf (false != false)) else FP.Core.roundRatio FP.Core.b64 (false != false) c d (q - r)) = _
  rw [if_neg hd]
  refine FP.Core.roundRatio_congr (by omega) (by omega) ?_
  refine fq_core a1 a2 ?_ (Nat.mul_pos (Nat.two_pow_pos _) (Nat.two_pow_pos _))
  rw [← Nat.pow_add, ← Nat.pow_add, ← Nat.pow_add, ← Nat.pow_add]
  congr 1
  omega
theorem fq_le {S W M : Int64} (hS : 0 ≤ S.toInt ∧ S.toInt < 9007199254740992) (hW : 0 < W.toInt ∧ W.toInt < 9007199254740992) (hM : 0 ≤ M.toInt ∧ M.toInt < 9007199254740992) (h : S.toInt ≤ M.toInt * W.toInt) : vf_n64 (FP.ddiv (FP.l2d S) (FP.l2d W)) ∧ (FP.dcmp (FP.ddiv (FP.l2d S) (FP.l2d W)) (FP.l2d M) = some .lt ∨ FP.dcmp (FP.ddiv (FP.l2d S) (FP.l2d W)) (FP.l2d M) = some .eq) := by
  have ev := fq_val hS hW
  have nn : FP.Core.val64 (FP.ddiv (FP.l2d S) (FP.l2d W)) ≠ .nan := by
    rw [ev]
    exact FP.Core.roundRatio_ne_nan _ _ _ _ _
  refine ⟨?_, ?_⟩
  · unfold vf_n64
    refine UInt64.le_iff_toNat_le.mpr ?_
    rw [FP.Core.mask_toNat]
    exact (FP.Core.ne_nan _).mp nn
  · have wM : FP.Core.DInt M.toInt (FP.Core.l2d M) := FP.Core.l2d_int (by omega)
    have nM := FP.Core.DInt_ne_nan wM
    have zM := FP.Core.DInt_zval wM
    refine FP.Core.dcmp_le.mpr ⟨nn, nM, ?_⟩
    have p := FP.Core.pow_qmin64
    obtain ⟨d, r, k⟩ := FP.Core.l2d_shape M
    rw [decide_eq_false (show ¬ M.toInt < 0 by omega)] at k
    have sM : FP.Core.zval FP.Core.b64 (FP.Core.val64 (FP.Core.l2d M)) = (FP.Core.zmag FP.Core.b64 (FP.Core.val64 (FP.Core.l2d M)) : Int) := by
      unfold FP.Core.zval
      rw [k]
      rfl
    rw [sM] at zM
    have zN : FP.Core.zmag FP.Core.b64 (FP.Core.val64 (FP.Core.l2d M)) = M.toInt.natAbs * FP.Core.one64 := by
      have n2 : (M.toInt.natAbs : Int) = M.toInt := by omega
      refine Int.ofNat_inj.mp (zM.trans ?_)
      rw [Int.natCast_mul, n2]
    have le := FP.Core.zmag_roundRatio_le FP.Core.good_b64 (s := false) (A := S.toInt.natAbs) (B := W.toInt.natAbs) (e := 0) (e0 := FP.Core.b64.qmin) (V := FP.Core.val64 (FP.Core.l2d M)) (by omega) (FP.Core.val64_fits _) nM (Int.le_refl _) (by decide +kernel) (by
      rw [zN, Int.sub_self]
      show S.toInt.natAbs * 2 ^ (0 - FP.Core.b64.qmin).toNat ≤ M.toInt.natAbs * FP.Core.one64 * 1 * W.toInt.natAbs
      rw [Int.zero_sub, p, Nat.mul_one, Nat.mul_right_comm]
      refine Nat.mul_le_mul_right _ (Int.ofNat_le.mp ?_)
      rw [Int.natCast_mul]
      have n1 : (S.toInt.natAbs : Int) = S.toInt := by omega
      have n2 : (M.toInt.natAbs : Int) = M.toInt := by omega
      have n3 : (W.toInt.natAbs : Int) = W.toInt := by omega
      rw [n1, n2, n3]
      exact h)
    show FP.Core.zval FP.Core.b64 (FP.Core.val64 (FP.ddiv (FP.l2d S) (FP.l2d W))) ≤ FP.Core.zval FP.Core.b64 (FP.Core.val64 (FP.Core.l2d M))
    rw [sM, ev]
    unfold FP.Core.zval
    rw [FP.Core.sgn_roundRatio]
    exact Int.ofNat_le.mpr le
