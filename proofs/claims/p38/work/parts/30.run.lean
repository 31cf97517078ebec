/-! Flow.run, in stretches -/
theorem zfI_I (σ : zSt) (t o : Nat) (v : Int32) (i : Nat) {t' : Nat} (h : t' ≠ t) (o' e' : Nat) : sI (zfI σ t o v i) t' o' e' = sI σ t' o' e' := by
  induction i with
  | zero => rfl
  | succ i ih => exact (uI_t h _ _).trans ih
theorem zfL_11 (σ : zSt) (t o : Nat) (v : Int64) (i : Nat) : (zfL σ t o v i).1 = σ.1 := zfL_1 _ _ _ _ _
theorem clBegin_I (σ : zSt) (k : Nat) {t : Nat} (h : t ≠ 7) (o x : Nat) : sI (s_clBegin σ k) t o x = sI σ t o x := by
  refine (zfI_I _ _ _ _ _ h o x).trans ?_
  show (s_fill_TOOK (uL σ 0 k 0 (sI σ 6 k 0).toInt64) k 0).1 t o x = σ.1 t o x
  exact congrArg (fun q => q t o x) (zfL_1 _ _ _ _ _)
theorem cvBegin_I (σ : zSt) (j : Nat) {t : Nat} (h : t ≠ 22) (o x : Nat) : sI (s_cvBegin σ j) t o x = sI σ t o x := by
  have e : sI (s_fill_CEV σ j 0) t o x = sI σ t o x := zfI_I _ _ _ _ _ h o x
  unfold s_cvBegin
  split
  · exact e
  · exact e
def rnA (σ : zSt) (b : Nat) : Nat → zSt
  | 0 => σ
  | i + 1 => s_clBegin (rnA σ b i) (lx σ (5 + 4 * b) i)
def rnB (σ : zSt) (b : Nat) : Nat → zSt
  | 0 => σ
  | i + 1 => s_cvBegin (rnB σ b i) (lx σ (6 + 4 * b) i)
def rnC (σ : zSt) (b : Nat) : Nat → zSt
  | 0 => σ
  | i + 1 => s_serveLoss (rnC σ b i) b (lx σ (5 + 4 * b) i)
theorem rnA_22 (σ : zSt) (b i : Nat) : (rnA σ b i).2.2 = σ.2.2 := by
  induction i with
  | zero => rfl
  | succ i ih => exact (s_clBegin_22 _ _).trans ih
theorem rnB_22 (σ : zSt) (b i : Nat) : (rnB σ b i).2.2 = σ.2.2 := by
  induction i with
  | zero => rfl
  | succ i ih => exact (s_cvBegin_22 _ _).trans ih
theorem rnC_22 (σ : zSt) (b i : Nat) : (rnC σ b i).2.2 = σ.2.2 := by
  induction i with
  | zero => rfl
  | succ i ih => exact (s_serveLoss_22 _ _ _).trans ih
theorem rnA_I (σ : zSt) (b i : Nat) {t : Nat} (h : t ≠ 7) (o x : Nat) : sI (rnA σ b i) t o x = sI σ t o x := by
  induction i with
  | zero => rfl
  | succ i ih => exact (clBegin_I _ _ h _ _).trans ih
theorem rnB_I (σ : zSt) (b i : Nat) {t : Nat} (h : t ≠ 22) (o x : Nat) : sI (rnB σ b i) t o x = sI σ t o x := by
  induction i with
  | zero => rfl
  | succ i ih => exact (cvBegin_I _ _ h _ _).trans ih
theorem rnC_1 (σ : zSt) (b i : Nat) : (rnC σ b i).1 = σ.1 := by
  induction i with
  | zero => rfl
  | succ i ih => exact (slI_1 _ _ _ _).trans ih
theorem foI_sx {σ : zSt} {b j : Nat} (i : Nat) : zSx (fun y => y = (7 + 4 * b)) (foI σ b j i) σ := by
  induction i with
  | zero => exact s_clear_sx _ _ _ rfl
  | succ i ih =>
    simp only [foI]
    repeat' split
    all_goals first | exact ih | exact (s_add_sx _ _ _ (fun y => y = (7 + 4 * b)) rfl).trans ih
theorem findOpen_ok {σ : zSt} {b j : Nat} (hb : b < 2) (hw : zWF b σ) : zWF b (s_findOpen σ b j) ∧ zFr b (s_findOpen σ b j) σ := by
  obtain ⟨f1, f2, f3⟩ := foI_ok (j := j) hb hw.2.2.2.2.1 hw.2.2.2.2.2.1 hw.2.2.2.2.2.2.2.2.1 (sZ σ (5 + 4 * b)) (Nat.le_refl _)
  exact ⟨hw.fr f1 f2 (Nat.le_trans f3 hw.2.2.2.2.2.1) (zSx_LC (foI_sx (j := j) (sZ σ (5 + 4 * b))) (by omega) hw.2.2.2.2.2.2.2.2.2.1), f1⟩
theorem gather_ok {σ : zSt} {b : Nat} {z f l : Int32} (hb : b < 2) (hw : zWF b σ) : zWF b (s_gather σ b z f l) ∧ zFr b (s_gather σ b z f l) σ := by
  obtain ⟨g1, g2, g3, g4⟩ := gaI_ok (z := z) (f := f) (l := l) hb hw.2.2.2.2.2.2.2.2.1.1 hw.2.2.2.2.2.2.2.2.2.2 hw.2.2.2.2.2.2.2.2.2.1 _ (Nat.le_refl _)
  have hq := g2.2.2 (7 + 4 * b) (by omega)
  exact ⟨hw.fr g1 (zSx_LC g2 (by omega) hw.2.2.2.2.2.2.2.2.1) (by show sZ (gaI _ _ _ _ _ _) _ ≤ 30; rw [hq.2.1]; exact hw.2.2.2.2.2.2.2.2.2.2) g3, g1⟩
theorem group_ok {σ : zSt} {b j : Nat} (hw : zWF b σ) : zWF b (s_serveGroup σ b j) ∧ zFr b (s_serveGroup σ b j) σ := ⟨hw.mv (s_serveGroup_22 _ _ _) (zFr.of1 (serveGroup_1 _ _ _) (s_serveGroup_22 _ _ _)), zFr.of1 (serveGroup_1 _ _ _) (s_serveGroup_22 _ _ _)⟩
def zoZ (σ : zSt) (b i : Nat) (tr : Int32) : Nat → zSt
  | 0 => σ
  | z + 1 => if nI i = tr then s_serveZone (zoZ σ b i tr z) b (lx σ (6 + 4 * b) i) z 1 else s_serveZone (zoZ σ b i tr z) b (lx σ (6 + 4 * b) i) z 0
theorem zoZ_ok {σ : zSt} {b i : Nat} {tr : Int32} (hb : b < 2) (hw : zWF b σ) (hi : i < sZ σ (6 + 4 * b)) (z : Nat) : zWF b (zoZ σ b i tr z) ∧ zFr b (zoZ σ b i tr z) σ ∧ sZ (zoZ σ b i tr z) (7 + 4 * b) = sZ σ (7 + 4 * b) := by
  induction z with
  | zero => exact ⟨hw, zFr.rf, rfl⟩
  | succ z ih =>
    have hj : zlV (zoZ σ b i tr z) (lx σ (6 + 4 * b) i) := zSx_V ih.2.1.1 (zL_lv hw.2.2.2.2.2.2.1 hi (zeK6 hb))
    have h1 := serveZone_ok (z := z) (c := 1) hb ih.1 hj
    have h0 := serveZone_ok (z := z) (c := 0) hb ih.1 hj
    simp only [zoZ]
    split
    · exact ⟨h1.1, h1.2.1.trans ih.2.1, h1.2.2.2.trans ih.2.2⟩
    · exact ⟨h0.1, h0.2.1.trans ih.2.1, h0.2.2.2.trans ih.2.2⟩
theorem zoZ_mono {σ : zSt} {b i : Nat} {tr : Int32} (hb : b < 2) (hw : zWF b σ) (hi : i < sZ σ (6 + 4 * b)) {z n : Nat} (h : z ≤ n) : sgc (zoZ σ b i tr z) ≤ sgc (zoZ σ b i tr n) ∧ sgs (zoZ σ b i tr z) ≤ sgs (zoZ σ b i tr n) := by
  induction n with
  | zero => rw [show z = 0 by omega]; exact ⟨Nat.le_refl _, Nat.le_refl _⟩
  | succ n ih =>
    by_cases e : z = n + 1
    · subst e; exact ⟨Nat.le_refl _, Nat.le_refl _⟩
    · refine zLeT (ih (by omega)) ?_
      have g := zoZ_ok (tr := tr) hb hw hi n
      have hj : zlV (zoZ σ b i tr n) (lx σ (6 + 4 * b) i) := zSx_V g.2.1.1 (zL_lv hw.2.2.2.2.2.2.1 hi (zeK6 hb))
      simp only [zoZ]
      split
      · exact (serveZone_ok hb g.1 hj).2.1.2.1
      · exact (serveZone_ok hb g.1 hj).2.1.2.1
def s_run1 (σ : zSt) (b : Nat) : zSt := (rnA σ b (sZ σ (5 + 4 * b)))
theorem s_run1_22 (σ : zSt) (b : Nat) : (s_run1 σ b).2.2 = σ.2.2 := by
  unfold s_run1
  (repeat' split) <;> first | exact ((rnA_22 σ b (sZ σ (5 + 4 * b))).trans rfl)
set_option maxRecDepth 100000 in
set_option maxHeartbeats 4000000 in
theorem f_run1 {G : zG} {X : zX} {ad : Nat → Nat → Nat} {σ : zSt} (b : Nat) (tr : Int32) (hb : b < 2) (hw : zWF b σ) {k n mc ms : Nat} (hm : k ≤ mc ∧ n ≤ ms) (K : zK G X cX2_run RX2 4 none { frames := 12, cells := mc, slots := ms, locals := 360 }) (kk : zV G X 4 (zP G ad (s_run1 σ b)) k n 38 [(0, .ref (ad 11 b)), (1, .int tr)] []) : zV G X 4 (zP G ad σ) k n 5 [(0, .ref (ad 11 b)), (1, .int tr)] [] := by
  refine zi_iconst K (dX2_run_p0 3 rfl) zk_i0 ?_
  refine zi_istore_n K [(2, .int 0), (0, .ref (ad 11 b)), (1, .int tr)] (dX2_run_p0 4 rfl) (by decide) rfl ?_
  refine zV.pick [1, 2, 0] (lo' := [(0, .ref (ad 11 b)), (1, .int tr), (2, .int 0)]) rfl ?_
  suffices hloop7 : ∀ (r i : Nat), i ≤ sZ σ (5 + 4 * b) → sZ σ (5 + 4 * b) - i < r → zV G X 4 (zP G ad (rnA σ b i)) (k) (n) 7 [(0, .ref (ad 11 b)), (1, .int tr), (2, .int (nI i))] [] from hloop7 (sZ σ (5 + 4 * b) + 1) 0 (Nat.zero_le _) (Nat.lt_succ_of_le (Nat.sub_le _ _))
  intro r
  induction r with
  | zero => intro i _ h; exact absurd h (Nat.not_lt_zero _)
  | succ r ih7 =>
    intro i hi7 hr7
    refine zi_iload_n K (dX2_run_p0 5 rfl) 2 rfl ?_
    refine zi_aload_n K (dX2_run_p0 6 rfl) 0 rfl ?_
    refine zg_FL_claims K hb w_132 (dX2_run_p0 7 rfl) ?_
    refine zi_callV K (na := 0) [.int (nI i)] [.int (nI (sZ σ (5 + 4 * b))), .int (nI i)] (c_sizeN (σ := (rnA σ b i)) (5 + 4 * b) (sZ σ (5 + 4 * b)) (zL_ok hw.2.2.2.2.1).1 (zZ_mv (rnA_22 σ b i) (5 + 4 * b))) (dX2_run_p0 8 rfl) w_351 w_231 w_232 w_28 w_233 (by decide +kernel) rfl (fun H h => zrecv_LST K (zL_ok hw.2.2.2.2.1).1 h) (fun H h => h) ⟨Nat.le_of_ble_eq_true rfl, Nat.le_of_ble_eq_true rfl⟩ ⟨hm.1, hm.2⟩ (Nat.le_of_ble_eq_true rfl) rfl rfl ?_
    refine zi_icmp_ge K 38 (dX2_run_p0 9 rfl) rfl (fun h15_0 => ?_) (fun h15_0 => ?_)
    · skip
      have hN7 := zloop_exit rfl (zL_b hw.2.2.2.2.1) hi7 h15_0
      subst hN7
      refine zV.pick [0, 1] (lo' := [(0, .ref (ad 11 b)), (1, .int tr)]) rfl ?_
      have hSe : s_run1 σ b = (rnA σ b (sZ σ (5 + 4 * b))) := rfl
      rw [hSe] at kk
      exact kk
    · skip
      have hlt7 := zloop_in rfl (zL_b hw.2.2.2.2.1) hi7 h15_0
      refine zi_aload_n K (dX2_run_p0 10 rfl) 0 rfl ?_
      refine zg_FL_claims K hb w_132 (dX2_run_p0 11 rfl) ?_
      refine zi_iload_n K (dX2_run_p0 12 rfl) 2 rfl ?_
      refine zi_callV K (na := 1) [] [.ref (ad 2 (lx σ (5 + 4 * b) i))] (c_getK (σ := (rnA σ b i)) (5 + 4 * b) i (lx σ (5 + 4 * b) i) 2 (zeK5 hb) (zL_ok (zLW_mv (rnA_22 σ b i) hw.2.2.2.2.1)) ((zZ_mv (rnA_22 σ b i) (5 + 4 * b)).symm ▸ hlt7) ((zE_mv (rnA_22 σ b i) (5 + 4 * b) i).trans (zL_x hw.2.2.2.2.1 hlt7))) (dX2_run_p0 13 rfl) w_352 w_310 w_311 w_28 w_312 (by decide +kernel) rfl (fun H h => zrecv_LST K (zL_ok hw.2.2.2.2.1).1 h) (fun H h => h) ⟨Nat.le_of_ble_eq_true rfl, Nat.le_of_ble_eq_true rfl⟩ ⟨hm.1, hm.2⟩ (Nat.le_of_ble_eq_true rfl) rfl rfl ?_
      refine zi_cast K (fun H h => (zr_CL (σ := (rnA σ b i)) (zlCV_C (rnA_22 σ b i) (zL_lv hw.2.2.2.2.1 hlt7 (zeK5 hb))) H h).1) rfl w_353 (dX2_run_p0 14 rfl) ?_
      refine zi_callV K (na := 0) [] [] (c_clBegin (σ := (rnA σ b i)) (lx σ (5 + 4 * b) i) (zlCV_C (rnA_22 σ b i) (zL_lv hw.2.2.2.2.1 hlt7 (zeK5 hb)))) (dX2_run_p0 15 rfl) w_354 w_355 w_356 w_42 w_357 (by decide +kernel) rfl (fun H h => zi_recv K (zr_CL (σ := (rnA σ b i)) (zlCV_C (rnA_22 σ b i) (zL_lv hw.2.2.2.2.1 hlt7 (zeK5 hb))) H h).1 rfl) (fun H h => h) ⟨Nat.le_of_ble_eq_true rfl, Nat.le_of_ble_eq_true rfl⟩ ⟨hm.1, hm.2⟩ (Nat.le_of_ble_eq_true rfl) rfl rfl ?_
      have e1 : (s_clBegin (rnA σ b i) (lx σ (5 + 4 * b) i)).2.2 = σ.2.2 := (s_clBegin_22 (rnA σ b i) (lx σ (5 + 4 * b) i)).trans (rnA_22 σ b i)
      refine zi_iinc K (v := nI (i + 1)) [(2, .int (nI (i + 1))), (0, .ref (ad 11 b)), (1, .int tr)] (dX2_run_p0 16 rfl) 2 rfl (zk_inc _) (by decide) rfl ?_
      refine zi_goto K 7 (dX2_run_p0 17 rfl) rfl ?_
      refine zV.pick [1, 2, 0] (lo' := [(0, .ref (ad 11 b)), (1, .int tr), (2, .int (nI (i + 1)))]) rfl ?_
      refine zV.st (σ' := rnA σ b (i + 1)) (by first | rfl | (simp only [rnA])) ?_
      exact ih7 (i + 1) (by omega) (by omega)
def s_run2 (σ : zSt) (b : Nat) : zSt := (rnB σ b (sZ σ (6 + 4 * b)))
theorem s_run2_22 (σ : zSt) (b : Nat) : (s_run2 σ b).2.2 = σ.2.2 := by
  unfold s_run2
  (repeat' split) <;> first | exact ((rnB_22 σ b (sZ σ (6 + 4 * b))).trans rfl)
set_option maxRecDepth 100000 in
set_option maxHeartbeats 4000000 in
theorem f_run2 {G : zG} {X : zX} {ad : Nat → Nat → Nat} {σ : zSt} (b : Nat) (tr : Int32) (hb : b < 2) (hw : zWF b σ) {k n mc ms : Nat} (hm : k ≤ mc ∧ n ≤ ms) (K : zK G X cX2_run RX2 4 none { frames := 12, cells := mc, slots := ms, locals := 360 }) (kk : zV G X 4 (zP G ad (s_run2 σ b)) k n 71 [(0, .ref (ad 11 b)), (1, .int tr)] []) : zV G X 4 (zP G ad σ) k n 38 [(0, .ref (ad 11 b)), (1, .int tr)] [] := by
  refine zi_iconst K (dX2_run_p0 18 rfl) zk_i0 ?_
  refine zi_istore_n K [(2, .int 0), (0, .ref (ad 11 b)), (1, .int tr)] (dX2_run_p0 19 rfl) (by decide) rfl ?_
  refine zV.pick [1, 2, 0] (lo' := [(0, .ref (ad 11 b)), (1, .int tr), (2, .int 0)]) rfl ?_
  suffices hloop40 : ∀ (r i : Nat), i ≤ sZ σ (6 + 4 * b) → sZ σ (6 + 4 * b) - i < r → zV G X 4 (zP G ad (rnB σ b i)) (k) (n) 40 [(0, .ref (ad 11 b)), (1, .int tr), (2, .int (nI i))] [] from hloop40 (sZ σ (6 + 4 * b) + 1) 0 (Nat.zero_le _) (Nat.lt_succ_of_le (Nat.sub_le _ _))
  intro r
  induction r with
  | zero => intro i _ h; exact absurd h (Nat.not_lt_zero _)
  | succ r ih40 =>
    intro i hi40 hr40
    refine zi_iload_n K (dX2_run_p0 20 rfl) 2 rfl ?_
    refine zi_aload_n K (dX2_run_p0 21 rfl) 0 rfl ?_
    refine zg_FL_covers K hb w_134 (dX2_run_p0 22 rfl) ?_
    refine zi_callV K (na := 0) [.int (nI i)] [.int (nI (sZ σ (6 + 4 * b))), .int (nI i)] (c_sizeN (σ := (rnB σ b i)) (6 + 4 * b) (sZ σ (6 + 4 * b)) (zL_ok hw.2.2.2.2.2.2.1).1 (zZ_mv (rnB_22 σ b i) (6 + 4 * b))) (dX2_run_p0 23 rfl) w_351 w_231 w_232 w_28 w_233 (by decide +kernel) rfl (fun H h => zrecv_LST K (zL_ok hw.2.2.2.2.2.2.1).1 h) (fun H h => h) ⟨Nat.le_of_ble_eq_true rfl, Nat.le_of_ble_eq_true rfl⟩ ⟨hm.1, hm.2⟩ (Nat.le_of_ble_eq_true rfl) rfl rfl ?_
    refine zi_icmp_ge K 71 (dX2_run_p0 24 rfl) rfl (fun h48_0 => ?_) (fun h48_0 => ?_)
    · skip
      have hN40 := zloop_exit rfl (zL_b hw.2.2.2.2.2.2.1) hi40 h48_0
      subst hN40
      refine zV.pick [0, 1] (lo' := [(0, .ref (ad 11 b)), (1, .int tr)]) rfl ?_
      have hSe : s_run2 σ b = (rnB σ b (sZ σ (6 + 4 * b))) := rfl
      rw [hSe] at kk
      exact kk
    · skip
      have hlt40 := zloop_in rfl (zL_b hw.2.2.2.2.2.2.1) hi40 h48_0
      refine zi_aload_n K (dX2_run_p0 25 rfl) 0 rfl ?_
      refine zg_FL_covers K hb w_134 (dX2_run_p0 26 rfl) ?_
      refine zi_iload_n K (dX2_run_p0 27 rfl) 2 rfl ?_
      refine zi_callV K (na := 1) [] [.ref (ad 7 (lx σ (6 + 4 * b) i))] (c_getK (σ := (rnB σ b i)) (6 + 4 * b) i (lx σ (6 + 4 * b) i) 7 (zeK6 hb) (zL_ok (zLW_mv (rnB_22 σ b i) hw.2.2.2.2.2.2.1)) ((zZ_mv (rnB_22 σ b i) (6 + 4 * b)).symm ▸ hlt40) ((zE_mv (rnB_22 σ b i) (6 + 4 * b) i).trans (zL_x hw.2.2.2.2.2.2.1 hlt40))) (dX2_run_p0 28 rfl) w_352 w_310 w_311 w_28 w_312 (by decide +kernel) rfl (fun H h => zrecv_LST K (zL_ok hw.2.2.2.2.2.2.1).1 h) (fun H h => h) ⟨Nat.le_of_ble_eq_true rfl, Nat.le_of_ble_eq_true rfl⟩ ⟨hm.1, hm.2⟩ (Nat.le_of_ble_eq_true rfl) rfl rfl ?_
      refine zi_cast K (fun H h => (zr_COV (σ := (rnB σ b i)) (zlCV_V (rnB_22 σ b i) (zL_lv hw.2.2.2.2.2.2.1 hlt40 (zeK6 hb))) H h).1) rfl w_364 (dX2_run_p0 29 rfl) ?_
      refine zi_callV K (na := 0) [] [] (c_cvBegin (σ := (rnB σ b i)) (lx σ (6 + 4 * b) i) (zlCV_V (rnB_22 σ b i) (zL_lv hw.2.2.2.2.2.2.1 hlt40 (zeK6 hb))) (zlCV_N (rnB_22 σ b i) (hw.2.2.2.1 _ (zL_lv hw.2.2.2.2.2.2.1 hlt40 (zeK6 hb))))) (dX2_run_p0 30 rfl) w_365 w_366 w_367 w_56 w_368 (by decide +kernel) rfl (fun H h => zi_recv K (zr_COV (σ := (rnB σ b i)) (zlCV_V (rnB_22 σ b i) (zL_lv hw.2.2.2.2.2.2.1 hlt40 (zeK6 hb))) H h).1 rfl) (fun H h => h) ⟨Nat.le_of_ble_eq_true rfl, Nat.le_of_ble_eq_true rfl⟩ ⟨hm.1, hm.2⟩ (Nat.le_of_ble_eq_true rfl) rfl rfl ?_
      have e1 : (s_cvBegin (rnB σ b i) (lx σ (6 + 4 * b) i)).2.2 = σ.2.2 := (s_cvBegin_22 (rnB σ b i) (lx σ (6 + 4 * b) i)).trans (rnB_22 σ b i)
      refine zi_iinc K (v := nI (i + 1)) [(2, .int (nI (i + 1))), (0, .ref (ad 11 b)), (1, .int tr)] (dX2_run_p0 31 rfl) 2 rfl (zk_inc _) (by decide) rfl ?_
      refine zi_goto K 40 (dX2_run_p0 32 rfl) rfl ?_
      refine zV.pick [1, 2, 0] (lo' := [(0, .ref (ad 11 b)), (1, .int tr), (2, .int (nI (i + 1)))]) rfl ?_
      refine zV.st (σ' := rnB σ b (i + 1)) (by first | rfl | (simp only [rnB])) ?_
      exact ih40 (i + 1) (by omega) (by omega)
def s_run3 (σ : zSt) (b : Nat) : zSt := (rnC σ b (sZ σ (5 + 4 * b)))
theorem s_run3_22 (σ : zSt) (b : Nat) : (s_run3 σ b).2.2 = σ.2.2 := by
  unfold s_run3
  (repeat' split) <;> first | exact ((rnC_22 σ b (sZ σ (5 + 4 * b))).trans rfl)
set_option maxRecDepth 100000 in
set_option maxHeartbeats 4000000 in
theorem f_run3 {G : zG} {X : zX} {ad : Nat → Nat → Nat} {σ : zSt} (b : Nat) (tr : Int32) (hb : b < 2) (hw : zWF b σ) {k n mc ms : Nat} (hm : k ≤ mc ∧ n ≤ ms) (K : zK G X cX2_run RX2 4 none { frames := 12, cells := mc, slots := ms, locals := 360 }) (kk : zV G X 4 (zP G ad (s_run3 σ b)) k n 105 [(0, .ref (ad 11 b)), (1, .int tr)] []) : zV G X 4 (zP G ad σ) k n 71 [(0, .ref (ad 11 b)), (1, .int tr)] [] := by
  refine zi_iconst K (dX2_run_p0 33 rfl) zk_i0 ?_
  refine zi_istore_n K [(2, .int 0), (0, .ref (ad 11 b)), (1, .int tr)] (dX2_run_p0 34 rfl) (by decide) rfl ?_
  refine zV.pick [1, 2, 0] (lo' := [(0, .ref (ad 11 b)), (1, .int tr), (2, .int 0)]) rfl ?_
  suffices hloop73 : ∀ (r i : Nat), i ≤ sZ σ (5 + 4 * b) → sZ σ (5 + 4 * b) - i < r → zV G X 4 (zP G ad (rnC σ b i)) (k) (n) 73 [(0, .ref (ad 11 b)), (1, .int tr), (2, .int (nI i))] [] from hloop73 (sZ σ (5 + 4 * b) + 1) 0 (Nat.zero_le _) (Nat.lt_succ_of_le (Nat.sub_le _ _))
  intro r
  induction r with
  | zero => intro i _ h; exact absurd h (Nat.not_lt_zero _)
  | succ r ih73 =>
    intro i hi73 hr73
    have hw3 : zWF b (rnC σ b i) := hw.mv (rnC_22 _ _ _) (zFr.of1 (rnC_1 _ _ _) (rnC_22 _ _ _))
    refine zi_iload_n K (dX2_run_p0 35 rfl) 2 rfl ?_
    refine zi_aload_n K (dX2_run_p0 36 rfl) 0 rfl ?_
    refine zg_FL_claims K hb w_132 (dX2_run_p0 37 rfl) ?_
    refine zi_callV K (na := 0) [.int (nI i)] [.int (nI (sZ σ (5 + 4 * b))), .int (nI i)] (c_sizeN (σ := (rnC σ b i)) (5 + 4 * b) (sZ σ (5 + 4 * b)) (zL_ok hw.2.2.2.2.1).1 (zZ_mv (rnC_22 σ b i) (5 + 4 * b))) (dX2_run_p0 38 rfl) w_351 w_231 w_232 w_28 w_233 (by decide +kernel) rfl (fun H h => zrecv_LST K (zL_ok hw.2.2.2.2.1).1 h) (fun H h => h) ⟨Nat.le_of_ble_eq_true rfl, Nat.le_of_ble_eq_true rfl⟩ ⟨hm.1, hm.2⟩ (Nat.le_of_ble_eq_true rfl) rfl rfl ?_
    refine zi_icmp_ge K 105 (dX2_run_p0 39 rfl) rfl (fun h81_0 => ?_) (fun h81_0 => ?_)
    · skip
      have hN73 := zloop_exit rfl (zL_b hw.2.2.2.2.1) hi73 h81_0
      subst hN73
      refine zV.pick [0, 1] (lo' := [(0, .ref (ad 11 b)), (1, .int tr)]) rfl ?_
      have hSe : s_run3 σ b = (rnC σ b (sZ σ (5 + 4 * b))) := rfl
      rw [hSe] at kk
      exact kk
    · skip
      have hlt73 := zloop_in rfl (zL_b hw.2.2.2.2.1) hi73 h81_0
      refine zi_aload_n K (dX2_run_p0 40 rfl) 0 rfl ?_
      refine zi_aload_n K (dX2_run_p0 41 rfl) 0 rfl ?_
      refine zg_FL_claims K hb w_132 (dX2_run_p0 42 rfl) ?_
      refine zi_iload_n K (dX2_run_p0 43 rfl) 2 rfl ?_
      refine zi_callV K (na := 1) [.ref (ad 11 b)] [.ref (ad 2 (lx σ (5 + 4 * b) i)), .ref (ad 11 b)] (c_getK (σ := (rnC σ b i)) (5 + 4 * b) i (lx σ (5 + 4 * b) i) 2 (zeK5 hb) (zL_ok (zLW_mv (rnC_22 σ b i) hw.2.2.2.2.1)) ((zZ_mv (rnC_22 σ b i) (5 + 4 * b)).symm ▸ hlt73) ((zE_mv (rnC_22 σ b i) (5 + 4 * b) i).trans (zL_x hw.2.2.2.2.1 hlt73))) (dX2_run_p0 44 rfl) w_352 w_310 w_311 w_28 w_312 (by decide +kernel) rfl (fun H h => zrecv_LST K (zL_ok hw.2.2.2.2.1).1 h) (fun H h => h) ⟨Nat.le_of_ble_eq_true rfl, Nat.le_of_ble_eq_true rfl⟩ ⟨hm.1, hm.2⟩ (Nat.le_of_ble_eq_true rfl) rfl rfl ?_
      refine zi_cast K (fun H h => (zr_CL (σ := (rnC σ b i)) (zlCV_C (rnC_22 σ b i) (zL_lv hw.2.2.2.2.1 hlt73 (zeK5 hb))) H h).1) rfl w_353 (dX2_run_p0 45 rfl) ?_
      refine zi_callV K (na := 1) [] [] (c_serveLoss (σ := (rnC σ b i)) b (lx σ (5 + 4 * b) i) hb (zlCV_C (rnC_22 σ b i) (zL_lv hw.2.2.2.2.1 hlt73 (zeK5 hb))) (hw3.1 _ (zlCV_C (rnC_22 σ b i) (zL_lv hw.2.2.2.2.1 hlt73 (zeK5 hb)))) (hw3.2.1 _ (hw3.1 _ (zlCV_C (rnC_22 σ b i) (zL_lv hw.2.2.2.2.1 hlt73 (zeK5 hb))))) (fun t ht => (hw3.2.2.1 t ht).1) hw3.2.2.2.1 hw3.2.2.2.2.2.2.1) (dX2_run_p0 46 rfl) w_379 w_381 w_2 w_29 w_382 (by decide +kernel) rfl (fun H h => zi_recv K (zr_FL (σ := (rnC σ b i)) hb H h).1 rfl) (fun H h => h) ⟨Nat.le_of_ble_eq_true rfl, Nat.le_of_ble_eq_true rfl⟩ ⟨hm.1, hm.2⟩ (Nat.le_of_ble_eq_true rfl) rfl rfl ?_
      have e1 : (s_serveLoss (rnC σ b i) b (lx σ (5 + 4 * b) i)).2.2 = σ.2.2 := (s_serveLoss_22 (rnC σ b i) b (lx σ (5 + 4 * b) i)).trans (rnC_22 σ b i)
      refine zi_iinc K (v := nI (i + 1)) [(2, .int (nI (i + 1))), (0, .ref (ad 11 b)), (1, .int tr)] (dX2_run_p0 47 rfl) 2 rfl (zk_inc _) (by decide) rfl ?_
      refine zi_goto K 73 (dX2_run_p0 48 rfl) rfl ?_
      refine zV.pick [1, 2, 0] (lo' := [(0, .ref (ad 11 b)), (1, .int tr), (2, .int (nI (i + 1)))]) rfl ?_
      refine zV.st (σ' := rnC σ b (i + 1)) (by first | rfl | (simp only [rnC])) ?_
      exact ih73 (i + 1) (by omega) (by omega)
def s_zones (σ : zSt) (b i : Nat) (tr : Int32) : zSt := (zoZ σ b i tr 4)
set_option maxRecDepth 100000 in
set_option maxHeartbeats 4000000 in
theorem f_zones {G : zG} {X : zX} {ad : Nat → Nat → Nat} {σ : zSt} (b i : Nat) (tr : Int32) (hb : b < 2) (hw : zWF b σ) (hi : i < sZ σ (6 + 4 * b)) {k n mc ms : Nat} (hm : k + (sgc (s_zones σ b i tr) - sgc σ) ≤ mc ∧ n + (sgs (s_zones σ b i tr) - sgs σ) ≤ ms) (K : zK G X cX2_run RX2 4 none { frames := 12, cells := mc, slots := ms, locals := 360 }) (kk : zV G X 4 (zP G ad (s_zones σ b i tr)) (k + (sgc (s_zones σ b i tr) - sgc σ)) (n + (sgs (s_zones σ b i tr) - sgs σ)) 194 [(0, .ref (ad 11 b)), (1, .int tr), (2, .int (nI i))] []) : zV G X 4 (zP G ad σ) k n 155 [(0, .ref (ad 11 b)), (1, .int tr), (2, .int (nI i))] [] := by
  refine zV.wd (k' := k + (sgc σ - sgc σ)) (n' := n + (sgs σ - sgs σ)) (Nat.le_add_right _ _) (Nat.le_add_right _ _) ?_
  refine zi_iconst K (dX2_run_p1 22 rfl) zk_i0 ?_
  refine zi_istore_n K [(3, .int 0), (0, .ref (ad 11 b)), (1, .int tr), (2, .int (nI i))] (dX2_run_p1 23 rfl) (by decide) rfl ?_
  refine zV.pick [1, 2, 3, 0] (lo' := [(0, .ref (ad 11 b)), (1, .int tr), (2, .int (nI i)), (3, .int 0)]) rfl ?_
  refine zV.wd (k' := k + (sgc (zoZ σ b i tr 0) - sgc σ)) (n' := n + (sgs (zoZ σ b i tr 0) - sgs σ)) (Nat.le_refl _) (Nat.le_refl _) ?_
  suffices hloop157 : ∀ (r z : Nat), z ≤ 4 → 4 - z < r → zV G X 4 (zP G ad (zoZ σ b i tr z)) (k + (sgc (zoZ σ b i tr z) - sgc σ)) (n + (sgs (zoZ σ b i tr z) - sgs σ)) 157 [(0, .ref (ad 11 b)), (1, .int tr), (2, .int (nI i)), (3, .int (nI z))] [] from hloop157 (4 + 1) 0 (Nat.zero_le _) (Nat.lt_succ_of_le (Nat.sub_le _ _))
  intro r
  induction r with
  | zero => intro z _ h; exact absurd h (Nat.not_lt_zero _)
  | succ r ih157 =>
    intro z hi157 hr157
    have hI := zoZ_ok (tr := tr) hb hw hi z
    refine zi_iload_n K (dX2_run_p1 24 rfl) 3 rfl ?_
    refine zi_iconst K (dX2_run_p1 25 rfl) zk_i4 ?_
    refine zi_icmp_ge K 194 (dX2_run_p1 26 rfl) rfl (fun h159_0 => ?_) (fun h159_0 => ?_)
    · skip
      have hN157 := zloop_exit (by decide) (Nat.le_of_ble_eq_true rfl) hi157 h159_0
      subst hN157
      refine zV.pick [0, 1, 2] (lo' := [(0, .ref (ad 11 b)), (1, .int tr), (2, .int (nI i))]) rfl ?_
      have hSe : s_zones σ b i tr = (zoZ σ b i tr 4) := rfl
      rw [hSe] at kk
      exact kk
    · skip
      have hlt157 := zloop_in (by decide) (Nat.le_of_ble_eq_true rfl) hi157 h159_0
      refine zi_aload_n K (dX2_run_p1 27 rfl) 0 rfl ?_
      refine zi_aload_n K (dX2_run_p1 28 rfl) 0 rfl ?_
      refine zg_FL_covers K hb w_134 (dX2_run_p1 29 rfl) ?_
      refine zi_iload_n K (dX2_run_p1 30 rfl) 2 rfl ?_
      refine zi_callV K (na := 1) [.ref (ad 11 b)] [.ref (ad 7 (lx σ (6 + 4 * b) i)), .ref (ad 11 b)] (c_getK (σ := (zoZ σ b i tr z)) (6 + 4 * b) i (lx σ (6 + 4 * b) i) 7 (zeK6 hb) (zL_ok (zSx_LW hI.2.1.1 zQ6 hw.2.2.2.2.2.2.1)) ((zSx_Z hI.2.1.1 zQ6).symm ▸ hi) ((zSx_E hI.2.1.1 zQ6 i).trans (zL_x hw.2.2.2.2.2.2.1 hi))) (dX2_run_p1 31 rfl) w_352 w_310 w_311 w_28 w_312 (by decide +kernel) rfl (fun H h => zrecv_LST K (zL_ok hw.2.2.2.2.2.2.1).1 h) (fun H h => h) ⟨Nat.le_of_ble_eq_true rfl, Nat.le_of_ble_eq_true rfl⟩ ⟨(zr3 (zoZ_mono (tr := tr) hb hw hi hi157).1 hm.1), (zr3 (zoZ_mono (tr := tr) hb hw hi hi157).2 hm.2)⟩ (Nat.le_of_ble_eq_true rfl) rfl rfl ?_
      refine zi_cast K (fun H h => (zr_COV (σ := (zoZ σ b i tr z)) (zSx_V hI.2.1.1 (zL_lv hw.2.2.2.2.2.2.1 hi (zeK6 hb))) H h).1) rfl w_364 (dX2_run_p1 32 rfl) ?_
      refine zi_iload_n K (dX2_run_p1 33 rfl) 3 rfl ?_
      refine zi_iload_n K (dX2_run_p1 34 rfl) 2 rfl ?_
      refine zi_iload_n K (dX2_run_p1 35 rfl) 1 rfl ?_
      refine zi_icmp_ne K 184 (dX2_run_p1 36 rfl) rfl (fun h177_0 => ?_) (fun h177_0 => ?_)
      · skip
        refine zi_iconst K (dX2_run_p1 39 rfl) zk_i0 ?_
        have hE : zoZ σ b i tr (z + 1) = (s_serveZone (zoZ σ b i tr z) b (lx σ (6 + 4 * b) i) z 0) := by simp only [zoZ, if_neg h177_0]
        have hto : sgc (s_serveZone (zoZ σ b i tr z) b (lx σ (6 + 4 * b) i) z 0) ≤ sgc (zoZ σ b i tr 4) ∧ sgs (s_serveZone (zoZ σ b i tr z) b (lx σ (6 + 4 * b) i) z 0) ≤ sgs (zoZ σ b i tr 4) := by rw [← hE]; exact zoZ_mono (tr := tr) hb hw hi hlt157
        refine zi_callV K (na := 3) [] [] (c_serveZone (σ := (zoZ σ b i tr z)) b (lx σ (6 + 4 * b) i) z 0 hb hI.1 (zSx_V hI.2.1.1 (zL_lv hw.2.2.2.2.2.2.1 hi (zeK6 hb))) hlt157) (dX2_run_p1 40 rfl) w_497 w_499 w_7 w_29 w_500 (by decide +kernel) rfl (fun H h => zi_recv K (zr_FL (σ := (zoZ σ b i tr z)) hb H h).1 rfl) (fun H h => h) ⟨Nat.le_of_ble_eq_true rfl, Nat.le_of_ble_eq_true rfl⟩ ⟨(zr1 hI.2.1.2.1.1 (serveZone_ok (z := z) (c := 0) hb hI.1 (zSx_V hI.2.1.1 (zL_lv hw.2.2.2.2.2.2.1 hi (zeK6 hb)))).2.1.2.1.1 hto.1 hm.1), (zr1 hI.2.1.2.1.2 (serveZone_ok (z := z) (c := 0) hb hI.1 (zSx_V hI.2.1.1 (zL_lv hw.2.2.2.2.2.2.1 hi (zeK6 hb)))).2.1.2.1.2 hto.2 hm.2)⟩ (Nat.le_of_ble_eq_true rfl) rfl rfl ?_
        have e1 : zSx (zQb b) (s_serveZone (zoZ σ b i tr z) b (lx σ (6 + 4 * b) i) z 0) σ := ((serveZone_ok (z := z) (c := 0) hb hI.1 (zSx_V hI.2.1.1 (zL_lv hw.2.2.2.2.2.2.1 hi (zeK6 hb)))).2.1.1).trans hI.2.1.1
        refine zV.wd (k' := k + (sgc (s_serveZone (zoZ σ b i tr z) b (lx σ (6 + 4 * b) i) z 0) - sgc σ)) (n' := n + (sgs (s_serveZone (zoZ σ b i tr z) b (lx σ (6 + 4 * b) i) z 0) - sgs σ)) (zr2 hI.2.1.2.1.1 (serveZone_ok (z := z) (c := 0) hb hI.1 (zSx_V hI.2.1.1 (zL_lv hw.2.2.2.2.2.2.1 hi (zeK6 hb)))).2.1.2.1.1) (zr2 hI.2.1.2.1.2 (serveZone_ok (z := z) (c := 0) hb hI.1 (zSx_V hI.2.1.1 (zL_lv hw.2.2.2.2.2.2.1 hi (zeK6 hb)))).2.1.2.1.2) ?_
        refine zi_iinc K (v := nI (z + 1)) [(3, .int (nI (z + 1))), (0, .ref (ad 11 b)), (1, .int tr), (2, .int (nI i))] (dX2_run_p1 41 rfl) 3 rfl (zk_inc _) (by decide) rfl ?_
        refine zi_goto K 157 (dX2_run_p1 42 rfl) rfl ?_
        refine zV.pick [1, 2, 3, 0] (lo' := [(0, .ref (ad 11 b)), (1, .int tr), (2, .int (nI i)), (3, .int (nI (z + 1)))]) rfl ?_
        have hSx : zoZ σ b i tr (z + 1) = (s_serveZone (zoZ σ b i tr z) b (lx σ (6 + 4 * b) i) z 0) := (by simp only [zoZ, if_neg h177_0])
        have ihx := ih157 (z + 1) (by omega) (by omega)
        rw [hSx] at ihx
        exact ihx
      · skip
        refine zi_iconst K (dX2_run_p1 37 rfl) zk_i1 ?_
        refine zi_goto K 185 (dX2_run_p1 38 rfl) rfl ?_
        have hE : zoZ σ b i tr (z + 1) = (s_serveZone (zoZ σ b i tr z) b (lx σ (6 + 4 * b) i) z 1) := by simp only [zoZ, if_pos h177_0]
        have hto : sgc (s_serveZone (zoZ σ b i tr z) b (lx σ (6 + 4 * b) i) z 1) ≤ sgc (zoZ σ b i tr 4) ∧ sgs (s_serveZone (zoZ σ b i tr z) b (lx σ (6 + 4 * b) i) z 1) ≤ sgs (zoZ σ b i tr 4) := by rw [← hE]; exact zoZ_mono (tr := tr) hb hw hi hlt157
        refine zi_callV K (na := 3) [] [] (c_serveZone (σ := (zoZ σ b i tr z)) b (lx σ (6 + 4 * b) i) z 1 hb hI.1 (zSx_V hI.2.1.1 (zL_lv hw.2.2.2.2.2.2.1 hi (zeK6 hb))) hlt157) (dX2_run_p1 40 rfl) w_497 w_499 w_7 w_29 w_500 (by decide +kernel) rfl (fun H h => zi_recv K (zr_FL (σ := (zoZ σ b i tr z)) hb H h).1 rfl) (fun H h => h) ⟨Nat.le_of_ble_eq_true rfl, Nat.le_of_ble_eq_true rfl⟩ ⟨(zr1 hI.2.1.2.1.1 (serveZone_ok (z := z) (c := 1) hb hI.1 (zSx_V hI.2.1.1 (zL_lv hw.2.2.2.2.2.2.1 hi (zeK6 hb)))).2.1.2.1.1 hto.1 hm.1), (zr1 hI.2.1.2.1.2 (serveZone_ok (z := z) (c := 1) hb hI.1 (zSx_V hI.2.1.1 (zL_lv hw.2.2.2.2.2.2.1 hi (zeK6 hb)))).2.1.2.1.2 hto.2 hm.2)⟩ (Nat.le_of_ble_eq_true rfl) rfl rfl ?_
        have e2 : zSx (zQb b) (s_serveZone (zoZ σ b i tr z) b (lx σ (6 + 4 * b) i) z 1) σ := ((serveZone_ok (z := z) (c := 1) hb hI.1 (zSx_V hI.2.1.1 (zL_lv hw.2.2.2.2.2.2.1 hi (zeK6 hb)))).2.1.1).trans hI.2.1.1
        refine zV.wd (k' := k + (sgc (s_serveZone (zoZ σ b i tr z) b (lx σ (6 + 4 * b) i) z 1) - sgc σ)) (n' := n + (sgs (s_serveZone (zoZ σ b i tr z) b (lx σ (6 + 4 * b) i) z 1) - sgs σ)) (zr2 hI.2.1.2.1.1 (serveZone_ok (z := z) (c := 1) hb hI.1 (zSx_V hI.2.1.1 (zL_lv hw.2.2.2.2.2.2.1 hi (zeK6 hb)))).2.1.2.1.1) (zr2 hI.2.1.2.1.2 (serveZone_ok (z := z) (c := 1) hb hI.1 (zSx_V hI.2.1.1 (zL_lv hw.2.2.2.2.2.2.1 hi (zeK6 hb)))).2.1.2.1.2) ?_
        refine zi_iinc K (v := nI (z + 1)) [(3, .int (nI (z + 1))), (0, .ref (ad 11 b)), (1, .int tr), (2, .int (nI i))] (dX2_run_p1 41 rfl) 3 rfl (zk_inc _) (by decide) rfl ?_
        refine zi_goto K 157 (dX2_run_p1 42 rfl) rfl ?_
        refine zV.pick [1, 2, 3, 0] (lo' := [(0, .ref (ad 11 b)), (1, .int tr), (2, .int (nI i)), (3, .int (nI (z + 1)))]) rfl ?_
        have hSx : zoZ σ b i tr (z + 1) = (s_serveZone (zoZ σ b i tr z) b (lx σ (6 + 4 * b) i) z 1) := (by simp only [zoZ, if_pos h177_0])
        have ihx := ih157 (z + 1) (by omega) (by omega)
        rw [hSx] at ihx
        exact ihx
def rnE (σ : zSt) (b : Nat) (tr : Int32) : Nat → zSt
  | 0 => σ
  | i + 1 => if sI (rnE σ b tr i) 8 ((lx σ (6 + 4 * b) i) % 8) 0 = 101 then s_zones (s_findOpen (rnE σ b tr i) b (lx σ (6 + 4 * b) i)) b i tr else (rnE σ b tr i)
theorem rnE_ok {σ : zSt} {b : Nat} {tr : Int32} (hb : b < 2) (hw : zWF b σ) (i : Nat) (hi : i ≤ sZ σ (6 + 4 * b)) : zWF b (rnE σ b tr i) ∧ zFr b (rnE σ b tr i) σ := by
  induction i with
  | zero => exact ⟨hw, zFr.rf⟩
  | succ i ih =>
    obtain ⟨a1, a2⟩ := ih (by omega)
    simp only [rnE]
    split
    · obtain ⟨c1, c2⟩ := findOpen_ok (j := (lx σ (6 + 4 * b) i)) hb a1
      have hi2 : i < sZ (s_findOpen (rnE σ b tr i) b (lx σ (6 + 4 * b) i)) (6 + 4 * b) := by rw [zSx_Z (c2.trans a2).1 zQ6]; omega
      have d := zoZ_ok (tr := tr) hb c1 hi2 4
      exact ⟨d.1, d.2.1.trans (c2.trans a2)⟩
    · exact ⟨a1, a2⟩
theorem rnE_mono {σ : zSt} {b : Nat} {tr : Int32} (hb : b < 2) (hw : zWF b σ) {i n : Nat} (h : i ≤ n) (hn : n ≤ sZ σ (6 + 4 * b)) : sgc (rnE σ b tr i) ≤ sgc (rnE σ b tr n) ∧ sgs (rnE σ b tr i) ≤ sgs (rnE σ b tr n) := by
  induction n with
  | zero => rw [show i = 0 by omega]; exact ⟨Nat.le_refl _, Nat.le_refl _⟩
  | succ n ih =>
    by_cases e : i = n + 1
    · subst e; exact ⟨Nat.le_refl _, Nat.le_refl _⟩
    · refine zLeT (ih (by omega) (by omega)) ?_
      have g := rnE_ok (tr := tr) hb hw n (by omega)
      simp only [rnE]
      split
      · obtain ⟨c1, c2⟩ := findOpen_ok (j := (lx σ (6 + 4 * b) n)) hb g.1
        have hi2 : n < sZ (s_findOpen (rnE σ b tr n) b (lx σ (6 + 4 * b) n)) (6 + 4 * b) := by rw [zSx_Z (c2.trans g.2).1 zQ6]; omega
        exact ((zoZ_ok (tr := tr) hb c1 hi2 4).2.1.trans c2).2.1
      · exact ⟨Nat.le_refl _, Nat.le_refl _⟩
def s_run4 (σ : zSt) (b : Nat) (tr : Int32) : zSt := (rnE σ b tr (sZ σ (6 + 4 * b)))
set_option maxRecDepth 100000 in
set_option maxHeartbeats 4000000 in
theorem f_run4 {G : zG} {X : zX} {ad : Nat → Nat → Nat} {σ : zSt} (b : Nat) (tr : Int32) (hb : b < 2) (hw : zWF b σ) {k n mc ms : Nat} (hm : k + (sgc (s_run4 σ b tr) - sgc σ) ≤ mc ∧ n + (sgs (s_run4 σ b tr) - sgs σ) ≤ ms) (K : zK G X cX2_run RX2 4 none { frames := 12, cells := mc, slots := ms, locals := 360 }) (kk : zV G X 4 (zP G ad (s_run4 σ b tr)) (k + (sgc (s_run4 σ b tr) - sgc σ)) (n + (sgs (s_run4 σ b tr) - sgs σ)) 200 [(0, .ref (ad 11 b)), (1, .int tr)] []) : zV G X 4 (zP G ad σ) k n 105 [(0, .ref (ad 11 b)), (1, .int tr)] [] := by
  refine zV.wd (k' := k + (sgc σ - sgc σ)) (n' := n + (sgs σ - sgs σ)) (Nat.le_add_right _ _) (Nat.le_add_right _ _) ?_
  refine zi_iconst K (dX2_run_p0 49 rfl) zk_i0 ?_
  refine zi_istore_n K [(2, .int 0), (0, .ref (ad 11 b)), (1, .int tr)] (dX2_run_p1 0 rfl) (by decide) rfl ?_
  refine zV.pick [1, 2, 0] (lo' := [(0, .ref (ad 11 b)), (1, .int tr), (2, .int 0)]) rfl ?_
  refine zV.wd (k' := k + (sgc (rnE σ b tr 0) - sgc σ)) (n' := n + (sgs (rnE σ b tr 0) - sgs σ)) (Nat.le_refl _) (Nat.le_refl _) ?_
  suffices hloop107 : ∀ (r i : Nat), i ≤ sZ σ (6 + 4 * b) → sZ σ (6 + 4 * b) - i < r → zV G X 4 (zP G ad (rnE σ b tr i)) (k + (sgc (rnE σ b tr i) - sgc σ)) (n + (sgs (rnE σ b tr i) - sgs σ)) 107 [(0, .ref (ad 11 b)), (1, .int tr), (2, .int (nI i))] [] from hloop107 (sZ σ (6 + 4 * b) + 1) 0 (Nat.zero_le _) (Nat.lt_succ_of_le (Nat.sub_le _ _))
  intro r
  induction r with
  | zero => intro i _ h; exact absurd h (Nat.not_lt_zero _)
  | succ r ih107 =>
    intro i hi107 hr107
    have hI := rnE_ok (tr := tr) hb hw i hi107
    refine zi_iload_n K (dX2_run_p1 1 rfl) 2 rfl ?_
    refine zi_aload_n K (dX2_run_p1 2 rfl) 0 rfl ?_
    refine zg_FL_covers K hb w_134 (dX2_run_p1 3 rfl) ?_
    refine zi_callV K (na := 0) [.int (nI i)] [.int (nI (sZ σ (6 + 4 * b))), .int (nI i)] (c_sizeN (σ := (rnE σ b tr i)) (6 + 4 * b) (sZ σ (6 + 4 * b)) (zL_ok hw.2.2.2.2.2.2.1).1 (zSx_Z hI.2.1 zQ6)) (dX2_run_p1 4 rfl) w_351 w_231 w_232 w_28 w_233 (by decide +kernel) rfl (fun H h => zrecv_LST K (zL_ok hw.2.2.2.2.2.2.1).1 h) (fun H h => h) ⟨Nat.le_of_ble_eq_true rfl, Nat.le_of_ble_eq_true rfl⟩ ⟨(zr3 (rnE_mono (tr := tr) hb hw hi107 (Nat.le_refl _)).1 hm.1), (zr3 (rnE_mono (tr := tr) hb hw hi107 (Nat.le_refl _)).2 hm.2)⟩ (Nat.le_of_ble_eq_true rfl) rfl rfl ?_
    refine zi_icmp_ge K 200 (dX2_run_p1 5 rfl) rfl (fun h115_0 => ?_) (fun h115_0 => ?_)
    · skip
      have hN107 := zloop_exit rfl (zL_b hw.2.2.2.2.2.2.1) hi107 h115_0
      subst hN107
      refine zV.pick [0, 1] (lo' := [(0, .ref (ad 11 b)), (1, .int tr)]) rfl ?_
      have hSe : s_run4 σ b tr = (rnE σ b tr (sZ σ (6 + 4 * b))) := rfl
      rw [hSe] at kk
      exact kk
    · skip
      have hlt107 := zloop_in rfl (zL_b hw.2.2.2.2.2.2.1) hi107 h115_0
      refine zi_aload_n K (dX2_run_p1 6 rfl) 0 rfl ?_
      refine zg_FL_covers K hb w_134 (dX2_run_p1 7 rfl) ?_
      refine zi_iload_n K (dX2_run_p1 8 rfl) 2 rfl ?_
      refine zi_callV K (na := 1) [] [.ref (ad 7 (lx σ (6 + 4 * b) i))] (c_getK (σ := (rnE σ b tr i)) (6 + 4 * b) i (lx σ (6 + 4 * b) i) 7 (zeK6 hb) (zL_ok (zSx_LW hI.2.1 zQ6 hw.2.2.2.2.2.2.1)) ((zSx_Z hI.2.1 zQ6).symm ▸ hlt107) ((zSx_E hI.2.1 zQ6 i).trans (zL_x hw.2.2.2.2.2.2.1 hlt107))) (dX2_run_p1 9 rfl) w_352 w_310 w_311 w_28 w_312 (by decide +kernel) rfl (fun H h => zrecv_LST K (zL_ok hw.2.2.2.2.2.2.1).1 h) (fun H h => h) ⟨Nat.le_of_ble_eq_true rfl, Nat.le_of_ble_eq_true rfl⟩ ⟨(zr3 (rnE_mono (tr := tr) hb hw hi107 (Nat.le_refl _)).1 hm.1), (zr3 (rnE_mono (tr := tr) hb hw hi107 (Nat.le_refl _)).2 hm.2)⟩ (Nat.le_of_ble_eq_true rfl) rfl rfl ?_
      refine zi_cast K (fun H h => (zr_COV (σ := (rnE σ b tr i)) (zSx_V hI.2.1 (zL_lv hw.2.2.2.2.2.2.1 hlt107 (zeK6 hb))) H h).1) rfl w_364 (dX2_run_p1 10 rfl) ?_
      refine zg_COV_treaty K (zSx_V hI.2.1 (zL_lv hw.2.2.2.2.2.2.1 hlt107 (zeK6 hb))) w_1162 (dX2_run_p1 11 rfl) ?_
      refine zg_TR_kind K (zSx_N hI.2.1 (hw.2.2.2.1 _ (zL_lv hw.2.2.2.2.2.2.1 hlt107 (zeK6 hb)))) w_1096 (dX2_run_p1 12 rfl) ?_
      refine zi_bipush K (dX2_run_p1 13 rfl) zk_b101 ?_
      refine zi_icmp_ne K 194 (dX2_run_p1 14 rfl) rfl (fun h137_0 => ?_) (fun h137_0 => ?_)
      · skip
        refine zi_iinc K (v := nI (i + 1)) [(2, .int (nI (i + 1))), (0, .ref (ad 11 b)), (1, .int tr)] (dX2_run_p1 43 rfl) 2 rfl (zk_inc _) (by decide) rfl ?_
        refine zi_goto K 107 (dX2_run_p1 44 rfl) rfl ?_
        refine zV.pick [1, 2, 0] (lo' := [(0, .ref (ad 11 b)), (1, .int tr), (2, .int (nI (i + 1)))]) rfl ?_
        have hSx : rnE σ b tr (i + 1) = (rnE σ b tr i) := (by simp only [rnE, if_neg h137_0])
        have ihx := ih107 (i + 1) (by omega) (by omega)
        rw [hSx] at ihx
        exact ihx
      · skip
        refine zi_aload_n K (dX2_run_p1 15 rfl) 0 rfl ?_
        refine zi_aload_n K (dX2_run_p1 16 rfl) 0 rfl ?_
        refine zg_FL_covers K hb w_134 (dX2_run_p1 17 rfl) ?_
        refine zi_iload_n K (dX2_run_p1 18 rfl) 2 rfl ?_
        refine zi_callV K (na := 1) [.ref (ad 11 b)] [.ref (ad 7 (lx σ (6 + 4 * b) i)), .ref (ad 11 b)] (c_getK (σ := (rnE σ b tr i)) (6 + 4 * b) i (lx σ (6 + 4 * b) i) 7 (zeK6 hb) (zL_ok (zSx_LW hI.2.1 zQ6 hw.2.2.2.2.2.2.1)) ((zSx_Z hI.2.1 zQ6).symm ▸ hlt107) ((zSx_E hI.2.1 zQ6 i).trans (zL_x hw.2.2.2.2.2.2.1 hlt107))) (dX2_run_p1 19 rfl) w_352 w_310 w_311 w_28 w_312 (by decide +kernel) rfl (fun H h => zrecv_LST K (zL_ok hw.2.2.2.2.2.2.1).1 h) (fun H h => h) ⟨Nat.le_of_ble_eq_true rfl, Nat.le_of_ble_eq_true rfl⟩ ⟨(zr3 (rnE_mono (tr := tr) hb hw hi107 (Nat.le_refl _)).1 hm.1), (zr3 (rnE_mono (tr := tr) hb hw hi107 (Nat.le_refl _)).2 hm.2)⟩ (Nat.le_of_ble_eq_true rfl) rfl rfl ?_
        refine zi_cast K (fun H h => (zr_COV (σ := (rnE σ b tr i)) (zSx_V hI.2.1 (zL_lv hw.2.2.2.2.2.2.1 hlt107 (zeK6 hb))) H h).1) rfl w_364 (dX2_run_p1 20 rfl) ?_
        have hc := findOpen_ok (j := (lx σ (6 + 4 * b) i)) hb hI.1
        have hi2 : i < sZ (s_findOpen (rnE σ b tr i) b (lx σ (6 + 4 * b) i)) (6 + 4 * b) := by rw [zSx_Z (hc.2.trans hI.2).1 zQ6]; exact hlt107
        have hd := zoZ_ok (tr := tr) hb hc.1 hi2 4
        have hE : rnE σ b tr (i + 1) = (s_zones (s_findOpen (rnE σ b tr i) b (lx σ (6 + 4 * b) i)) b i tr) := by simp only [rnE, if_pos h137_0]
        have hto : sgc (s_zones (s_findOpen (rnE σ b tr i) b (lx σ (6 + 4 * b) i)) b i tr) ≤ sgc (rnE σ b tr (sZ σ (6 + 4 * b))) ∧ sgs (s_zones (s_findOpen (rnE σ b tr i) b (lx σ (6 + 4 * b) i)) b i tr) ≤ sgs (rnE σ b tr (sZ σ (6 + 4 * b))) := by rw [← hE]; exact rnE_mono (tr := tr) hb hw hlt107 (Nat.le_refl _)
        refine zi_callV K (na := 1) [] [] (c_findOpen (σ := (rnE σ b tr i)) b (lx σ (6 + 4 * b) i) hb (zSx_V hI.2.1 (zL_lv hw.2.2.2.2.2.2.1 hlt107 (zeK6 hb))) (hI.1.2.2.2.1 _ (zSx_V hI.2.1 (zL_lv hw.2.2.2.2.2.2.1 hlt107 (zeK6 hb)))) hI.1.2.2.2.2.1 hI.1.2.2.2.2.2.1 hI.1.2.2.2.2.2.2.2.2.1 hI.1.1) (dX2_run_p1 21 rfl) w_427 w_429 w_3 w_29 w_430 (by decide +kernel) rfl (fun H h => zi_recv K (zr_FL (σ := (rnE σ b tr i)) hb H h).1 rfl) (fun H h => h) ⟨Nat.le_of_ble_eq_true rfl, Nat.le_of_ble_eq_true rfl⟩ ⟨(zr1 hI.2.2.1.1 (findOpen_ok (j := (lx σ (6 + 4 * b) i)) hb hI.1).2.2.1.1 (zLeT hd.2.1.2.1 hto).1 hm.1), (zr1 hI.2.2.1.2 (findOpen_ok (j := (lx σ (6 + 4 * b) i)) hb hI.1).2.2.1.2 (zLeT hd.2.1.2.1 hto).2 hm.2)⟩ (Nat.le_of_ble_eq_true rfl) rfl rfl ?_
        have e1 : zSx (zQb b) (s_findOpen (rnE σ b tr i) b (lx σ (6 + 4 * b) i)) σ := ((findOpen_ok (j := (lx σ (6 + 4 * b) i)) hb hI.1).2.1).trans hI.2.1
        refine zV.wd (k' := k + (sgc (s_findOpen (rnE σ b tr i) b (lx σ (6 + 4 * b) i)) - sgc σ)) (n' := n + (sgs (s_findOpen (rnE σ b tr i) b (lx σ (6 + 4 * b) i)) - sgs σ)) (zr2 hI.2.2.1.1 (findOpen_ok (j := (lx σ (6 + 4 * b) i)) hb hI.1).2.2.1.1) (zr2 hI.2.2.1.2 (findOpen_ok (j := (lx σ (6 + 4 * b) i)) hb hI.1).2.2.1.2) ?_
        refine zV.pick [0, 1, 2] (lo' := [(0, .ref (ad 11 b)), (1, .int tr), (2, .int (nI i))]) rfl ?_
        refine f_zones (σ := (s_findOpen (rnE σ b tr i) b (lx σ (6 + 4 * b) i))) b i tr hb hc.1 hi2 ⟨(zr1 (hc.2.trans hI.2).2.1.1 hd.2.1.2.1.1 hto.1 hm.1), (zr1 (hc.2.trans hI.2).2.1.2 hd.2.1.2.1.2 hto.2 hm.2)⟩ K ?_
        have e2 : zSx (zQb b) (s_zones (s_findOpen (rnE σ b tr i) b (lx σ (6 + 4 * b) i)) b i tr) σ := (hd.2.1.1).trans e1
        refine zV.wd (k' := k + (sgc (s_zones (s_findOpen (rnE σ b tr i) b (lx σ (6 + 4 * b) i)) b i tr) - sgc σ)) (n' := n + (sgs (s_zones (s_findOpen (rnE σ b tr i) b (lx σ (6 + 4 * b) i)) b i tr) - sgs σ)) (zr2 (hc.2.trans hI.2).2.1.1 hd.2.1.2.1.1) (zr2 (hc.2.trans hI.2).2.1.2 hd.2.1.2.1.2) ?_
        refine zi_iinc K (v := nI (i + 1)) [(2, .int (nI (i + 1))), (0, .ref (ad 11 b)), (1, .int tr)] (dX2_run_p1 43 rfl) 2 rfl (zk_inc _) (by decide) rfl ?_
        refine zi_goto K 107 (dX2_run_p1 44 rfl) rfl ?_
        refine zV.pick [1, 2, 0] (lo' := [(0, .ref (ad 11 b)), (1, .int tr), (2, .int (nI (i + 1)))]) rfl ?_
        have hSx : rnE σ b tr (i + 1) = (s_zones (s_findOpen (rnE σ b tr i) b (lx σ (6 + 4 * b) i)) b i tr) := (by simp only [rnE, if_pos h137_0])
        have ihx := ih107 (i + 1) (by omega) (by omega)
        rw [hSx] at ihx
        exact ihx
def rnG (σ : zSt) (b : Nat) : Nat → zSt
  | 0 => σ
  | i + 1 => if sI (rnG σ b i) 8 ((lx σ (6 + 4 * b) i) % 8) 0 = 97 then (s_serveGroup (s_gather (s_findOpen (rnG σ b i) b (lx σ (6 + 4 * b) i)) b (-1) 0 999) b (lx σ (6 + 4 * b) i)) else (rnG σ b i)
theorem rnG_s {S : zSt} {b j : Nat} (hb : b < 2) (h : zWF b S) : zWF b (s_serveGroup (s_gather (s_findOpen S b j) b (-1) 0 999) b j) ∧ zFr b (s_serveGroup (s_gather (s_findOpen S b j) b (-1) 0 999) b j) S := by
  obtain ⟨c1, c2⟩ := findOpen_ok (j := j) hb h
  obtain ⟨d1, d2⟩ := gather_ok (z := -1) (f := 0) (l := 999) hb c1
  obtain ⟨e1, e2⟩ := group_ok (j := j) d1
  exact ⟨e1, e2.trans (d2.trans c2)⟩
theorem rnG_ok {σ : zSt} {b : Nat} (hb : b < 2) (hw : zWF b σ) (i : Nat) : zWF b (rnG σ b i) ∧ zFr b (rnG σ b i) σ := by
  induction i with
  | zero => exact ⟨hw, zFr.rf⟩
  | succ i ih =>
    obtain ⟨a1, a2⟩ := ih
    simp only [rnG]
    split
    · exact ⟨(rnG_s hb a1).1, (rnG_s hb a1).2.trans a2⟩
    · exact ⟨a1, a2⟩
theorem rnG_mono {σ : zSt} {b : Nat} (hb : b < 2) (hw : zWF b σ) {i n : Nat} (h : i ≤ n) : sgc (rnG σ b i) ≤ sgc (rnG σ b n) ∧ sgs (rnG σ b i) ≤ sgs (rnG σ b n) := by
  induction n with
  | zero => rw [show i = 0 by omega]; exact ⟨Nat.le_refl _, Nat.le_refl _⟩
  | succ n ih =>
    by_cases e : i = n + 1
    · subst e; exact ⟨Nat.le_refl _, Nat.le_refl _⟩
    · refine zLeT (ih (by omega)) ?_
      simp only [rnG]
      split
      · exact (rnG_s hb (rnG_ok hb hw n).1).2.2.1
      · exact ⟨Nat.le_refl _, Nat.le_refl _⟩
def s_run5 (σ : zSt) (b : Nat) : zSt := (rnG σ b (sZ σ (6 + 4 * b)))
set_option maxRecDepth 100000 in
set_option maxHeartbeats 4000000 in
theorem f_run5 {G : zG} {X : zX} {ad : Nat → Nat → Nat} {σ : zSt} (b : Nat) (tr : Int32) (hb : b < 2) (hw : zWF b σ) {k n mc ms : Nat} (hm : k + (sgc (s_run5 σ b) - sgc σ) ≤ mc ∧ n + (sgs (s_run5 σ b) - sgs σ) ≤ ms) (K : zK G X cX2_run RX2 4 none { frames := 12, cells := mc, slots := ms, locals := 360 }) (kk : zV G X 4 (zP G ad (s_run5 σ b)) (k + (sgc (s_run5 σ b) - sgc σ)) (n + (sgs (s_run5 σ b) - sgs σ)) 281 [] []) : zV G X 4 (zP G ad σ) k n 200 [(0, .ref (ad 11 b)), (1, .int tr)] [] := by
  refine zV.wd (k' := k + (sgc σ - sgc σ)) (n' := n + (sgs σ - sgs σ)) (Nat.le_add_right _ _) (Nat.le_add_right _ _) ?_
  refine zi_iconst K (dX2_run_p1 45 rfl) zk_i0 ?_
  refine zi_istore_n K [(2, .int 0), (0, .ref (ad 11 b)), (1, .int tr)] (dX2_run_p1 46 rfl) (by decide) rfl ?_
  refine zV.pick [1, 2, 0] (lo' := [(0, .ref (ad 11 b)), (1, .int tr), (2, .int 0)]) rfl ?_
  refine zV.wd (k' := k + (sgc (rnG σ b 0) - sgc σ)) (n' := n + (sgs (rnG σ b 0) - sgs σ)) (Nat.le_refl _) (Nat.le_refl _) ?_
  suffices hloop202 : ∀ (r i : Nat), i ≤ sZ σ (6 + 4 * b) → sZ σ (6 + 4 * b) - i < r → zV G X 4 (zP G ad (rnG σ b i)) (k + (sgc (rnG σ b i) - sgc σ)) (n + (sgs (rnG σ b i) - sgs σ)) 202 [(0, .ref (ad 11 b)), (1, .int tr), (2, .int (nI i))] [] from hloop202 (sZ σ (6 + 4 * b) + 1) 0 (Nat.zero_le _) (Nat.lt_succ_of_le (Nat.sub_le _ _))
  intro r
  induction r with
  | zero => intro i _ h; exact absurd h (Nat.not_lt_zero _)
  | succ r ih202 =>
    intro i hi202 hr202
    have hI := rnG_ok hb hw i
    refine zi_iload_n K (dX2_run_p1 47 rfl) 2 rfl ?_
    refine zi_aload_n K (dX2_run_p1 48 rfl) 0 rfl ?_
    refine zg_FL_covers K hb w_134 (dX2_run_p1 49 rfl) ?_
    refine zi_callV K (na := 0) [.int (nI i)] [.int (nI (sZ σ (6 + 4 * b))), .int (nI i)] (c_sizeN (σ := (rnG σ b i)) (6 + 4 * b) (sZ σ (6 + 4 * b)) (zL_ok hw.2.2.2.2.2.2.1).1 (zSx_Z hI.2.1 zQ6)) (dX2_run_p2 0 rfl) w_351 w_231 w_232 w_28 w_233 (by decide +kernel) rfl (fun H h => zrecv_LST K (zL_ok hw.2.2.2.2.2.2.1).1 h) (fun H h => h) ⟨Nat.le_of_ble_eq_true rfl, Nat.le_of_ble_eq_true rfl⟩ ⟨(zr3 (rnG_mono hb hw hi202).1 hm.1), (zr3 (rnG_mono hb hw hi202).2 hm.2)⟩ (Nat.le_of_ble_eq_true rfl) rfl rfl ?_
    refine zi_icmp_ge K 281 (dX2_run_p2 1 rfl) rfl (fun h210_0 => ?_) (fun h210_0 => ?_)
    · skip
      have hN202 := zloop_exit rfl (zL_b hw.2.2.2.2.2.2.1) hi202 h210_0
      subst hN202
      refine zV.pick [] (lo' := []) rfl ?_
      have hSe : s_run5 σ b = (rnG σ b (sZ σ (6 + 4 * b))) := rfl
      rw [hSe] at kk
      exact kk
    · skip
      have hlt202 := zloop_in rfl (zL_b hw.2.2.2.2.2.2.1) hi202 h210_0
      refine zi_aload_n K (dX2_run_p2 2 rfl) 0 rfl ?_
      refine zg_FL_covers K hb w_134 (dX2_run_p2 3 rfl) ?_
      refine zi_iload_n K (dX2_run_p2 4 rfl) 2 rfl ?_
      refine zi_callV K (na := 1) [] [.ref (ad 7 (lx σ (6 + 4 * b) i))] (c_getK (σ := (rnG σ b i)) (6 + 4 * b) i (lx σ (6 + 4 * b) i) 7 (zeK6 hb) (zL_ok (zSx_LW hI.2.1 zQ6 hw.2.2.2.2.2.2.1)) ((zSx_Z hI.2.1 zQ6).symm ▸ hlt202) ((zSx_E hI.2.1 zQ6 i).trans (zL_x hw.2.2.2.2.2.2.1 hlt202))) (dX2_run_p2 5 rfl) w_352 w_310 w_311 w_28 w_312 (by decide +kernel) rfl (fun H h => zrecv_LST K (zL_ok hw.2.2.2.2.2.2.1).1 h) (fun H h => h) ⟨Nat.le_of_ble_eq_true rfl, Nat.le_of_ble_eq_true rfl⟩ ⟨(zr3 (rnG_mono hb hw hi202).1 hm.1), (zr3 (rnG_mono hb hw hi202).2 hm.2)⟩ (Nat.le_of_ble_eq_true rfl) rfl rfl ?_
      refine zi_cast K (fun H h => (zr_COV (σ := (rnG σ b i)) (zSx_V hI.2.1 (zL_lv hw.2.2.2.2.2.2.1 hlt202 (zeK6 hb))) H h).1) rfl w_364 (dX2_run_p2 6 rfl) ?_
      refine zg_COV_treaty K (zSx_V hI.2.1 (zL_lv hw.2.2.2.2.2.2.1 hlt202 (zeK6 hb))) w_1162 (dX2_run_p2 7 rfl) ?_
      refine zg_TR_kind K (zSx_N hI.2.1 (hw.2.2.2.1 _ (zL_lv hw.2.2.2.2.2.2.1 hlt202 (zeK6 hb)))) w_1096 (dX2_run_p2 8 rfl) ?_
      refine zi_bipush K (dX2_run_p2 9 rfl) zk_b97 ?_
      refine zi_icmp_ne K 275 (dX2_run_p2 10 rfl) rfl (fun h232_0 => ?_) (fun h232_0 => ?_)
      · skip
        refine zi_iinc K (v := nI (i + 1)) [(2, .int (nI (i + 1))), (0, .ref (ad 11 b)), (1, .int tr)] (dX2_run_p2 31 rfl) 2 rfl (zk_inc _) (by decide) rfl ?_
        refine zi_goto K 202 (dX2_run_p2 32 rfl) rfl ?_
        refine zV.pick [1, 2, 0] (lo' := [(0, .ref (ad 11 b)), (1, .int tr), (2, .int (nI (i + 1)))]) rfl ?_
        have hSx : rnG σ b (i + 1) = (rnG σ b i) := (by simp only [rnG, if_neg h232_0])
        have ihx := ih202 (i + 1) (by omega) (by omega)
        rw [hSx] at ihx
        exact ihx
      · skip
        refine zi_aload_n K (dX2_run_p2 11 rfl) 0 rfl ?_
        refine zi_aload_n K (dX2_run_p2 12 rfl) 0 rfl ?_
        refine zg_FL_covers K hb w_134 (dX2_run_p2 13 rfl) ?_
        refine zi_iload_n K (dX2_run_p2 14 rfl) 2 rfl ?_
        refine zi_callV K (na := 1) [.ref (ad 11 b)] [.ref (ad 7 (lx σ (6 + 4 * b) i)), .ref (ad 11 b)] (c_getK (σ := (rnG σ b i)) (6 + 4 * b) i (lx σ (6 + 4 * b) i) 7 (zeK6 hb) (zL_ok (zSx_LW hI.2.1 zQ6 hw.2.2.2.2.2.2.1)) ((zSx_Z hI.2.1 zQ6).symm ▸ hlt202) ((zSx_E hI.2.1 zQ6 i).trans (zL_x hw.2.2.2.2.2.2.1 hlt202))) (dX2_run_p2 15 rfl) w_352 w_310 w_311 w_28 w_312 (by decide +kernel) rfl (fun H h => zrecv_LST K (zL_ok hw.2.2.2.2.2.2.1).1 h) (fun H h => h) ⟨Nat.le_of_ble_eq_true rfl, Nat.le_of_ble_eq_true rfl⟩ ⟨(zr3 (rnG_mono hb hw hi202).1 hm.1), (zr3 (rnG_mono hb hw hi202).2 hm.2)⟩ (Nat.le_of_ble_eq_true rfl) rfl rfl ?_
        refine zi_cast K (fun H h => (zr_COV (σ := (rnG σ b i)) (zSx_V hI.2.1 (zL_lv hw.2.2.2.2.2.2.1 hlt202 (zeK6 hb))) H h).1) rfl w_364 (dX2_run_p2 16 rfl) ?_
        have hc := findOpen_ok (j := (lx σ (6 + 4 * b) i)) hb hI.1
        have hd := gather_ok (z := -1) (f := 0) (l := 999) hb hc.1
        have he := group_ok (j := (lx σ (6 + 4 * b) i)) hd.1
        have hE : rnG σ b (i + 1) = (s_serveGroup (s_gather (s_findOpen (rnG σ b i) b (lx σ (6 + 4 * b) i)) b (-1) 0 999) b (lx σ (6 + 4 * b) i)) := by simp only [rnG, if_pos h232_0]
        have hto : sgc (s_serveGroup (s_gather (s_findOpen (rnG σ b i) b (lx σ (6 + 4 * b) i)) b (-1) 0 999) b (lx σ (6 + 4 * b) i)) ≤ sgc (rnG σ b (sZ σ (6 + 4 * b))) ∧ sgs (s_serveGroup (s_gather (s_findOpen (rnG σ b i) b (lx σ (6 + 4 * b) i)) b (-1) 0 999) b (lx σ (6 + 4 * b) i)) ≤ sgs (rnG σ b (sZ σ (6 + 4 * b))) := by rw [← hE]; exact rnG_mono hb hw hlt202
        refine zi_callV K (na := 1) [] [] (c_findOpen (σ := (rnG σ b i)) b (lx σ (6 + 4 * b) i) hb (zSx_V hI.2.1 (zL_lv hw.2.2.2.2.2.2.1 hlt202 (zeK6 hb))) (hI.1.2.2.2.1 _ (zSx_V hI.2.1 (zL_lv hw.2.2.2.2.2.2.1 hlt202 (zeK6 hb)))) hI.1.2.2.2.2.1 hI.1.2.2.2.2.2.1 hI.1.2.2.2.2.2.2.2.2.1 hI.1.1) (dX2_run_p2 17 rfl) w_427 w_429 w_3 w_29 w_430 (by decide +kernel) rfl (fun H h => zi_recv K (zr_FL (σ := (rnG σ b i)) hb H h).1 rfl) (fun H h => h) ⟨Nat.le_of_ble_eq_true rfl, Nat.le_of_ble_eq_true rfl⟩ ⟨(zr1 hI.2.2.1.1 (findOpen_ok (j := (lx σ (6 + 4 * b) i)) hb hI.1).2.2.1.1 (zLeT (he.2.trans hd.2).2.1 hto).1 hm.1), (zr1 hI.2.2.1.2 (findOpen_ok (j := (lx σ (6 + 4 * b) i)) hb hI.1).2.2.1.2 (zLeT (he.2.trans hd.2).2.1 hto).2 hm.2)⟩ (Nat.le_of_ble_eq_true rfl) rfl rfl ?_
        have e1 : zSx (zQb b) (s_findOpen (rnG σ b i) b (lx σ (6 + 4 * b) i)) σ := ((findOpen_ok (j := (lx σ (6 + 4 * b) i)) hb hI.1).2.1).trans hI.2.1
        refine zV.wd (k' := k + (sgc (s_findOpen (rnG σ b i) b (lx σ (6 + 4 * b) i)) - sgc σ)) (n' := n + (sgs (s_findOpen (rnG σ b i) b (lx σ (6 + 4 * b) i)) - sgs σ)) (zr2 hI.2.2.1.1 (findOpen_ok (j := (lx σ (6 + 4 * b) i)) hb hI.1).2.2.1.1) (zr2 hI.2.2.1.2 (findOpen_ok (j := (lx σ (6 + 4 * b) i)) hb hI.1).2.2.1.2) ?_
        refine zi_aload_n K (dX2_run_p2 18 rfl) 0 rfl ?_
        refine zi_iconst K (dX2_run_p2 19 rfl) zk_im1 ?_
        refine zi_iconst K (dX2_run_p2 20 rfl) zk_i0 ?_
        refine zi_sipush K (dX2_run_p2 21 rfl) zk_s999 ?_
        refine zi_callV K (na := 3) [] [] (c_gather (σ := (s_findOpen (rnG σ b i) b (lx σ (6 + 4 * b) i))) b (-1) 0 999 hb hc.1.2.2.2.2.2.2.2.2.1.1 hc.1.2.2.2.2.2.2.2.2.2.2 hc.1.2.2.2.2.2.2.2.2.2.1 hc.1.1) (dX2_run_p2 22 rfl) w_533 w_535 w_11 w_29 w_536 (by decide +kernel) rfl (fun H h => zi_recv K (zr_FL (σ := (s_findOpen (rnG σ b i) b (lx σ (6 + 4 * b) i))) hb H h).1 rfl) (fun H h => h) ⟨Nat.le_of_ble_eq_true rfl, Nat.le_of_ble_eq_true rfl⟩ ⟨(zr1 (hc.2.trans hI.2).2.1.1 (gaI_ok (z := (-1)) (f := 0) (l := 999) hb hc.1.2.2.2.2.2.2.2.2.1.1 hc.1.2.2.2.2.2.2.2.2.2.2 hc.1.2.2.2.2.2.2.2.2.2.1 _ (Nat.le_refl _)).1.2.1.1 (zLeT he.2.2.1 hto).1 hm.1), (zr1 (hc.2.trans hI.2).2.1.2 (gaI_ok (z := (-1)) (f := 0) (l := 999) hb hc.1.2.2.2.2.2.2.2.2.1.1 hc.1.2.2.2.2.2.2.2.2.2.2 hc.1.2.2.2.2.2.2.2.2.2.1 _ (Nat.le_refl _)).1.2.1.2 (zLeT he.2.2.1 hto).2 hm.2)⟩ (Nat.le_of_ble_eq_true rfl) rfl rfl ?_
        have e2 : zSx (zQb b) (s_gather (s_findOpen (rnG σ b i) b (lx σ (6 + 4 * b) i)) b (-1) 0 999) σ := ((gaI_ok (z := (-1)) (f := 0) (l := 999) hb hc.1.2.2.2.2.2.2.2.2.1.1 hc.1.2.2.2.2.2.2.2.2.2.2 hc.1.2.2.2.2.2.2.2.2.2.1 _ (Nat.le_refl _)).1.1).trans e1
        refine zV.wd (k' := k + (sgc (s_gather (s_findOpen (rnG σ b i) b (lx σ (6 + 4 * b) i)) b (-1) 0 999) - sgc σ)) (n' := n + (sgs (s_gather (s_findOpen (rnG σ b i) b (lx σ (6 + 4 * b) i)) b (-1) 0 999) - sgs σ)) (zr2 (hc.2.trans hI.2).2.1.1 (gaI_ok (z := (-1)) (f := 0) (l := 999) hb hc.1.2.2.2.2.2.2.2.2.1.1 hc.1.2.2.2.2.2.2.2.2.2.2 hc.1.2.2.2.2.2.2.2.2.2.1 _ (Nat.le_refl _)).1.2.1.1) (zr2 (hc.2.trans hI.2).2.1.2 (gaI_ok (z := (-1)) (f := 0) (l := 999) hb hc.1.2.2.2.2.2.2.2.2.1.1 hc.1.2.2.2.2.2.2.2.2.2.2 hc.1.2.2.2.2.2.2.2.2.2.1 _ (Nat.le_refl _)).1.2.1.2) ?_
        refine zi_aload_n K (dX2_run_p2 23 rfl) 0 rfl ?_
        refine zi_aload_n K (dX2_run_p2 24 rfl) 0 rfl ?_
        refine zg_FL_covers K hb w_134 (dX2_run_p2 25 rfl) ?_
        refine zi_iload_n K (dX2_run_p2 26 rfl) 2 rfl ?_
        refine zi_callV K (na := 1) [.ref (ad 11 b)] [.ref (ad 7 (lx σ (6 + 4 * b) i)), .ref (ad 11 b)] (c_getK (σ := (s_gather (s_findOpen (rnG σ b i) b (lx σ (6 + 4 * b) i)) b (-1) 0 999)) (6 + 4 * b) i (lx σ (6 + 4 * b) i) 7 (zeK6 hb) (zL_ok (zSx_LW e2 zQ6 hw.2.2.2.2.2.2.1)) ((zSx_Z e2 zQ6).symm ▸ hlt202) ((zSx_E e2 zQ6 i).trans (zL_x hw.2.2.2.2.2.2.1 hlt202))) (dX2_run_p2 27 rfl) w_352 w_310 w_311 w_28 w_312 (by decide +kernel) rfl (fun H h => zrecv_LST K (zL_ok hw.2.2.2.2.2.2.1).1 h) (fun H h => h) ⟨Nat.le_of_ble_eq_true rfl, Nat.le_of_ble_eq_true rfl⟩ ⟨(zr3 (zLeT he.2.2.1 hto).1 hm.1), (zr3 (zLeT he.2.2.1 hto).2 hm.2)⟩ (Nat.le_of_ble_eq_true rfl) rfl rfl ?_
        refine zi_cast K (fun H h => (zr_COV (σ := (s_gather (s_findOpen (rnG σ b i) b (lx σ (6 + 4 * b) i)) b (-1) 0 999)) (zSx_V e2 (zL_lv hw.2.2.2.2.2.2.1 hlt202 (zeK6 hb))) H h).1) rfl w_364 (dX2_run_p2 28 rfl) ?_
        refine zi_callV K (na := 1) [] [.long (v_serveGroup (s_gather (s_findOpen (rnG σ b i) b (lx σ (6 + 4 * b) i)) b (-1) 0 999) b (lx σ (6 + 4 * b) i))] (c_serveGroup (σ := (s_gather (s_findOpen (rnG σ b i) b (lx σ (6 + 4 * b) i)) b (-1) 0 999)) b (lx σ (6 + 4 * b) i) hb (zSx_V e2 (zL_lv hw.2.2.2.2.2.2.1 hlt202 (zeK6 hb))) (zSx_N e2 (hw.2.2.2.1 _ (zL_lv hw.2.2.2.2.2.2.1 hlt202 (zeK6 hb)))) hd.1.2.2.2.2.2.2.2.2.2.1.1) (dX2_run_p2 29 rfl) w_537 w_539 w_12 w_29 w_540 (by decide +kernel) rfl (fun H h => zi_recv K (zr_FL (σ := (s_gather (s_findOpen (rnG σ b i) b (lx σ (6 + 4 * b) i)) b (-1) 0 999)) hb H h).1 rfl) (fun H h => h) ⟨Nat.le_of_ble_eq_true rfl, Nat.le_of_ble_eq_true rfl⟩ ⟨(zr3 (zLeT he.2.2.1 hto).1 hm.1), (zr3 (zLeT he.2.2.1 hto).2 hm.2)⟩ (Nat.le_of_ble_eq_true rfl) rfl rfl ?_
        have e3 : zSx (zQb b) (s_serveGroup (s_gather (s_findOpen (rnG σ b i) b (lx σ (6 + 4 * b) i)) b (-1) 0 999) b (lx σ (6 + 4 * b) i)) σ := (zSx.of (s_serveGroup_22 (s_gather (s_findOpen (rnG σ b i) b (lx σ (6 + 4 * b) i)) b (-1) 0 999) b (lx σ (6 + 4 * b) i))).trans e2
        refine zi_pop2_2 K (dX2_run_p2 30 rfl) rfl ?_
        refine zi_iinc K (v := nI (i + 1)) [(2, .int (nI (i + 1))), (0, .ref (ad 11 b)), (1, .int tr)] (dX2_run_p2 31 rfl) 2 rfl (zk_inc _) (by decide) rfl ?_
        refine zi_goto K 202 (dX2_run_p2 32 rfl) rfl ?_
        refine zV.pick [1, 2, 0] (lo' := [(0, .ref (ad 11 b)), (1, .int tr), (2, .int (nI (i + 1)))]) rfl ?_
        refine zV.wd (k' := k + (sgc (s_serveGroup (s_gather (s_findOpen (rnG σ b i) b (lx σ (6 + 4 * b) i)) b (-1) 0 999) b (lx σ (6 + 4 * b) i)) - sgc σ)) (n' := n + (sgs (s_serveGroup (s_gather (s_findOpen (rnG σ b i) b (lx σ (6 + 4 * b) i)) b (-1) 0 999) b (lx σ (6 + 4 * b) i)) - sgs σ)) (zr4 (zG_22 (σ' := (s_serveGroup (s_gather (s_findOpen (rnG σ b i) b (lx σ (6 + 4 * b) i)) b (-1) 0 999) b (lx σ (6 + 4 * b) i))) (σ := (s_gather (s_findOpen (rnG σ b i) b (lx σ (6 + 4 * b) i)) b (-1) 0 999)) ((s_serveGroup_22 (s_gather (s_findOpen (rnG σ b i) b (lx σ (6 + 4 * b) i)) b (-1) 0 999) b (lx σ (6 + 4 * b) i)).trans rfl)).1) (zr4 (zG_22 (σ' := (s_serveGroup (s_gather (s_findOpen (rnG σ b i) b (lx σ (6 + 4 * b) i)) b (-1) 0 999) b (lx σ (6 + 4 * b) i))) (σ := (s_gather (s_findOpen (rnG σ b i) b (lx σ (6 + 4 * b) i)) b (-1) 0 999)) ((s_serveGroup_22 (s_gather (s_findOpen (rnG σ b i) b (lx σ (6 + 4 * b) i)) b (-1) 0 999) b (lx σ (6 + 4 * b) i)).trans rfl)).2) ?_
        have hSx : rnG σ b (i + 1) = (s_serveGroup (s_gather (s_findOpen (rnG σ b i) b (lx σ (6 + 4 * b) i)) b (-1) 0 999) b (lx σ (6 + 4 * b) i)) := (by simp only [rnG, if_pos h232_0])
        have ihx := ih202 (i + 1) (by omega) (by omega)
        rw [hSx] at ihx
        exact ihx
