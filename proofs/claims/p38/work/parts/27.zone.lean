/-! Flow.serveZone, in stretches -/
theorem zG_22 {σ' σ : zSt} (e : σ'.2.2 = σ.2.2) : sgc σ' = sgc σ ∧ sgs σ' = sgs σ := by
  obtain ⟨a, x, c⟩ := σ
  obtain ⟨a', x', c'⟩ := σ'
  cases e
  exact ⟨rfl, rfl⟩
theorem zr1 {k a A B E m : Nat} (h1 : a ≤ A) (h2 : A ≤ B) (h3 : B ≤ E) (hm : k + (E - a) ≤ m) : k + (A - a) + (B - A) ≤ m := by omega
theorem zr2 {k a A B : Nat} (h1 : a ≤ A) (h2 : A ≤ B) : k + (A - a) + (B - A) ≤ k + (B - a) := by omega
theorem zr3 {k a A E m : Nat} (h3 : A ≤ E) (hm : k + (E - a) ≤ m) : k + (A - a) + 0 ≤ m := by omega
theorem zr4 {k a A B : Nat} (h : B = A) : k + (A - a) ≤ k + (B - a) := by omega
theorem zq1 {a A B E : Nat} (h1 : a ≤ A) (h2 : A ≤ B) (h3 : B ≤ E) : A - a + (B - A) ≤ E - a := by omega
theorem zq2 {a A B : Nat} (h1 : a ≤ A) (h2 : A ≤ B) : A - a + (B - A) ≤ B - a := by omega
theorem zq3 {a A E : Nat} (h3 : A ≤ E) : A - a + 0 ≤ E - a := by omega
theorem zq4 {a A B : Nat} (h : B = A) : A - a ≤ B - a := by omega
theorem zLeR (σ : zSt) : sgc σ ≤ sgc σ ∧ sgs σ ≤ sgs σ := ⟨Nat.le_refl _, Nat.le_refl _⟩
theorem zGle {σ' σ : zSt} (e : sgc σ' = sgc σ ∧ sgs σ' = sgs σ) : sgc σ ≤ sgc σ' ∧ sgs σ ≤ sgs σ' := ⟨e.1.symm ▸ Nat.le_refl _, e.2.symm ▸ Nat.le_refl _⟩
theorem zLeT {a b c : zSt} (h : sgc a ≤ sgc b ∧ sgs a ≤ sgs b) (k : sgc b ≤ sgc c ∧ sgs b ≤ sgs c) : sgc a ≤ sgc c ∧ sgs a ≤ sgs c := ⟨Nat.le_trans h.1 k.1, Nat.le_trans h.2 k.2⟩
/-- what a flow stands on -/
def zWF (b : Nat) (σ : zSt) : Prop := (∀ k, zlC σ k → sP σ k < sN σ 0) ∧ (∀ p, p < sN σ 0 → ¬ (sI σ 0 p 0).toInt64 = 0) ∧ (∀ t, t < sN σ 2 → zTz σ t ∧ ¬ sI σ 14 t 0 ≤ 0) ∧ (∀ j, zlV σ j → j % 8 < sN σ 2) ∧
  zLW σ (5 + 4 * b) ∧ sZ σ (5 + 4 * b) ≤ 30 ∧ zLW σ (6 + 4 * b) ∧ sZ σ (6 + 4 * b) ≤ 8 ∧ zLC σ (7 + 4 * b) ∧ zLC σ (8 + 4 * b) ∧ sZ σ (7 + 4 * b) ≤ 30
theorem zTz_fr {b : Nat} {σ' σ : zSt} {t : Nat} (e : zFr b σ' σ) (h : zTz σ t) : zTz σ' t := by
  unfold zTz at *
  rw [e.2.2.1 13 (by unfold zst; omega), e.2.2.1 11 (by unfold zst; omega), e.2.2.1 10 (by unfold zst; omega)]
  exact h
theorem zWF.fr {b : Nat} {σ' σ : zSt} (e : zFr b σ' σ) (h7 : zLC σ' (7 + 4 * b)) (z7 : sZ σ' (7 + 4 * b) ≤ 30) (h8 : zLC σ' (8 + 4 * b)) (h : zWF b σ) : zWF b σ' := by
  obtain ⟨a1, a2, a3, a4, a5, a6, a7, a8, a9, a10, a11⟩ := h
  have hN := e.1.1
  have hP := e.1.2.1
  refine ⟨fun k hk => ?_, fun p hp => ?_, fun t ht => ⟨zTz_fr e (a3 t (by rw [hN] at ht; exact ht)).1, ?_⟩, fun j hj => ?_, zSx_LW e.1 zQ5 a5, by rw [zSx_Z e.1 zQ5]; exact a6, zSx_LW e.1 zQ6 a7, by rw [zSx_Z e.1 zQ6]; exact a8, h7, h8, z7⟩
  · rw [hN, hP]
    refine a1 k ?_
    unfold zlC at *
    rw [hN] at hk
    exact hk
  · rw [e.2.2.1 0 (by unfold zst; omega)]
    exact a2 p (by rw [hN] at hp; exact hp)
  · rw [e.2.2.1 14 (by unfold zst; omega)]
    exact (a3 t (by rw [hN] at ht; exact ht)).2
  · rw [hN]
    refine a4 j ?_
    unfold zlV at *
    rw [hN] at hj
    exact hj
theorem zWF.mv {b : Nat} {σ' σ : zSt} (e2 : σ'.2.2 = σ.2.2) (e : zFr b σ' σ) (h : zWF b σ) : zWF b σ' := h.fr e (zLC_mv e2 h.2.2.2.2.2.2.2.2.1) (by rw [zZ_mv e2]; exact h.2.2.2.2.2.2.2.2.2.2) (zLC_mv e2 h.2.2.2.2.2.2.2.2.2.1)
/-- ints that a zone's service leaves -/
def zI2 (σ' σ : zSt) : Prop := ∀ t, t ≠ 7 → t ≠ 22 → ∀ o x, sI σ' t o x = sI σ t o x
theorem zI2.trans {x y z : zSt} (h : zI2 x y) (k : zI2 y z) : zI2 x z := fun t h1 h2 o e => (h t h1 h2 o e).trans (k t h1 h2 o e)
theorem zI2.of1 {σ' σ : zSt} (e : σ'.1 = σ.1) : zI2 σ' σ := fun t _ _ o x => by
  show σ'.1 t o x = σ.1 t o x
  rw [e]
theorem serveGroup_1 (σ : zSt) (b j : Nat) : (s_serveGroup σ b j).1 = σ.1 := by
  unfold s_serveGroup
  split
  · exact sgI_1 _ _ _ _ _ _ _
  · rfl
theorem gaI_1 (σ : zSt) (b : Nat) (z f l : Int32) (i : Nat) : (gaI σ b z f l i).1 = σ.1 := by
  induction i with
  | zero => exact (s_clear_I _ _).1
  | succ i ih =>
    simp only [gaI]
    repeat' split
    all_goals first | exact ih | exact (s_add_I _ _ _).1.trans ih
def evI (σ : zSt) (b j z : Nat) : Nat → zSt
  | 0 => σ
  | i + 1 => uI (evI σ b j z i) 7 (lx σ (8 + 4 * b) i) (j % 8) (sI (evI σ b j z i) 22 j z)
theorem evI_22 (σ : zSt) (b j z i : Nat) : (evI σ b j z i).2.2 = σ.2.2 := by
  induction i with
  | zero => rfl
  | succ i ih => exact ih
theorem evI_I (σ : zSt) (b j z i : Nat) {t : Nat} (h : t ≠ 7) (o x : Nat) : sI (evI σ b j z i) t o x = sI σ t o x := by
  induction i with
  | zero => rfl
  | succ i ih => exact (u3_n _ _ (fun q => h q.1)).trans ih
def s_zoneEv (σ : zSt) (b j z : Nat) : zSt := (evI σ b j z (sZ σ (8 + 4 * b)))
theorem s_zoneEv_22 (σ : zSt) (b j z : Nat) : (s_zoneEv σ b j z).2.2 = σ.2.2 := by
  unfold s_zoneEv
  (repeat' split) <;> first | exact ((evI_22 σ b j z (sZ σ (8 + 4 * b))).trans rfl)
set_option maxRecDepth 100000 in
set_option maxHeartbeats 4000000 in
theorem f_zoneEv {G : zG} {X : zX} {ad : Nat → Nat → Nat} {σ : zSt} (b j z : Nat) (en : Int32) (i0 : Nat) (hb : b < 2) (hj : zlV σ j) (ht : j % 8 < sN σ 2) (hz4 : z < 4) (h8 : zLW σ (8 + 4 * b)) {k n mc ms : Nat} (hm : k ≤ mc ∧ n ≤ ms) (K : zK G X cX2_serveZone RX2 7 none { frames := 10, cells := mc, slots := ms, locals := 300 }) (kk : zV G X 7 (zP G ad (s_zoneEv σ b j z)) k n 216 [(0, .ref (ad 11 b)), (1, .ref (ad 7 j)), (2, .int (nI z)), (4, .int en), (5, .int (nI i0))] []) : zV G X 7 (zP G ad σ) k n 166 [(0, .ref (ad 11 b)), (1, .ref (ad 7 j)), (2, .int (nI z)), (4, .int en), (5, .int (nI i0))] [] := by
  refine zi_iconst K (dX2_serveZone_p1 27 rfl) zk_i0 ?_
  refine zi_istore K [(6, .int 0), (0, .ref (ad 11 b)), (1, .ref (ad 7 j)), (2, .int (nI z)), (4, .int en), (5, .int (nI i0))] (dX2_serveZone_p1 28 rfl) (by decide) rfl ?_
  refine zV.pick [1, 2, 3, 4, 5, 0] (lo' := [(0, .ref (ad 11 b)), (1, .ref (ad 7 j)), (2, .int (nI z)), (4, .int en), (5, .int (nI i0)), (6, .int 0)]) rfl ?_
  suffices hloop169 : ∀ (r q : Nat), q ≤ sZ σ (8 + 4 * b) → sZ σ (8 + 4 * b) - q < r → zV G X 7 (zP G ad (evI σ b j z q)) (k) (n) 169 [(0, .ref (ad 11 b)), (1, .ref (ad 7 j)), (2, .int (nI z)), (4, .int en), (5, .int (nI i0)), (6, .int (nI q))] [] from hloop169 (sZ σ (8 + 4 * b) + 1) 0 (Nat.zero_le _) (Nat.lt_succ_of_le (Nat.sub_le _ _))
  intro r
  induction r with
  | zero => intro q _ h; exact absurd h (Nat.not_lt_zero _)
  | succ r ih169 =>
    intro q hi169 hr169
    refine zi_iload K (dX2_serveZone_p1 29 rfl) 5 rfl ?_
    refine zi_aload_n K (dX2_serveZone_p1 30 rfl) 0 rfl ?_
    refine zg_FL_group K hb w_137 (dX2_serveZone_p1 31 rfl) ?_
    refine zi_callV K (na := 0) [.int (nI q)] [.int (nI (sZ σ (8 + 4 * b))), .int (nI q)] (c_sizeN (σ := (evI σ b j z q)) (8 + 4 * b) (sZ σ (8 + 4 * b)) (zL_ok h8).1 (zZ_mv (evI_22 σ b j z q) (8 + 4 * b))) (dX2_serveZone_p1 32 rfl) w_351 w_231 w_232 w_28 w_233 (by decide +kernel) rfl (fun H h => zrecv_LST K (zL_ok h8).1 h) (fun H h => h) ⟨Nat.le_of_ble_eq_true rfl, Nat.le_of_ble_eq_true rfl⟩ ⟨hm.1, hm.2⟩ (Nat.le_of_ble_eq_true rfl) rfl rfl ?_
    refine zi_icmp_ge K 216 (dX2_serveZone_p1 33 rfl) rfl (fun h178_0 => ?_) (fun h178_0 => ?_)
    · skip
      have hN169 := zloop_exit rfl (zL_b h8) hi169 h178_0
      subst hN169
      refine zV.pick [0, 1, 2, 3, 4] (lo' := [(0, .ref (ad 11 b)), (1, .ref (ad 7 j)), (2, .int (nI z)), (4, .int en), (5, .int (nI i0))]) rfl ?_
      have hSe : s_zoneEv σ b j z = (evI σ b j z (sZ σ (8 + 4 * b))) := rfl
      rw [hSe] at kk
      exact kk
    · skip
      have hlt169 := zloop_in rfl (zL_b h8) hi169 h178_0
      refine zi_aload_n K (dX2_serveZone_p1 34 rfl) 0 rfl ?_
      refine zg_FL_group K hb w_137 (dX2_serveZone_p1 35 rfl) ?_
      refine zi_iload K (dX2_serveZone_p1 36 rfl) 5 rfl ?_
      refine zi_callV K (na := 1) [] [.ref (ad 2 (lx σ (8 + 4 * b) q))] (c_getK (σ := (evI σ b j z q)) (8 + 4 * b) q (lx σ (8 + 4 * b) q) 2 (zeK8 hb) (zL_ok (zLW_mv (evI_22 σ b j z q) h8)) ((zZ_mv (evI_22 σ b j z q) (8 + 4 * b)).symm ▸ hlt169) ((zE_mv (evI_22 σ b j z q) (8 + 4 * b) q).trans (zL_x h8 hlt169))) (dX2_serveZone_p1 37 rfl) w_352 w_310 w_311 w_28 w_312 (by decide +kernel) rfl (fun H h => zrecv_LST K (zL_ok h8).1 h) (fun H h => h) ⟨Nat.le_of_ble_eq_true rfl, Nat.le_of_ble_eq_true rfl⟩ ⟨hm.1, hm.2⟩ (Nat.le_of_ble_eq_true rfl) rfl rfl ?_
      refine zi_cast K (fun H h => (zr_CL (σ := (evI σ b j z q)) (zlCV_C (evI_22 σ b j z q) (zL_lv h8 hlt169 (zeK8 hb))) H h).1) rfl w_353 (dX2_serveZone_p1 38 rfl) ?_
      refine zg_CL_events K (zlCV_C (evI_22 σ b j z q) (zL_lv h8 hlt169 (zeK8 hb))) w_745 (dX2_serveZone_p1 39 rfl) ?_
      refine zi_aload_n K (dX2_serveZone_p1 40 rfl) 1 rfl ?_
      refine zg_COV_treaty K (zlCV_V (evI_22 σ b j z q) hj) w_1162 (dX2_serveZone_p1 41 rfl) ?_
      refine zg_TR_number K (zlCV_N (evI_22 σ b j z q) ht) w_1092 (dX2_serveZone_p1 42 rfl) ?_
      refine zi_aload_n K (dX2_serveZone_p1 43 rfl) 1 rfl ?_
      refine zg_COV_events K (zlCV_V (evI_22 σ b j z q) hj) w_1165 (dX2_serveZone_p1 44 rfl) ?_
      refine zi_iload_n K (dX2_serveZone_p1 45 rfl) 2 rfl ?_
      refine zl_CEV K (zlCV_V (evI_22 σ b j z q) hj) z rfl hz4 (dX2_serveZone_p1 46 rfl) ?_
      refine zs_EVS K (zlCV_C (evI_22 σ b j z q) (zL_lv h8 hlt169 (zeK8 hb))) (j % 8) rfl (Nat.mod_lt _ (by decide)) (dX2_serveZone_p1 47 rfl) ?_
      have e1 : (uI (evI σ b j z q) 7 (lx σ (8 + 4 * b) q) (j % 8) (sI (evI σ b j z q) 22 j z)).2.2 = σ.2.2 := (uI_22 (evI σ b j z q) 7 (lx σ (8 + 4 * b) q) (j % 8) (sI (evI σ b j z q) 22 j z)).trans (evI_22 σ b j z q)
      refine zi_iinc K (v := nI (q + 1)) [(6, .int (nI (q + 1))), (0, .ref (ad 11 b)), (1, .ref (ad 7 j)), (2, .int (nI z)), (4, .int en), (5, .int (nI i0))] (dX2_serveZone_p1 48 rfl) 5 rfl (zk_inc _) (by decide) rfl ?_
      refine zi_goto K 169 (dX2_serveZone_p1 49 rfl) rfl ?_
      refine zV.pick [1, 2, 3, 4, 5, 0] (lo' := [(0, .ref (ad 11 b)), (1, .ref (ad 7 j)), (2, .int (nI z)), (4, .int en), (5, .int (nI i0)), (6, .int (nI (q + 1)))]) rfl ?_
      refine zV.st (σ' := evI σ b j z (q + 1)) (by first | rfl | (simp only [evI])) ?_
      exact ih169 (q + 1) (by omega) (by omega)
def s_zoneBody (σ : zSt) (b j z i e : Nat) : zSt := (s_refill (s_serveGroup (uI (s_zoneEv (s_gather σ b (nI z) (sI σ 28 b i) (sI σ 28 b e)) b j z) 22 j z ((sI (s_zoneEv (s_gather σ b (nI z) (sI σ 28 b i) (sI σ 28 b e)) b j z) 22 j z) + 1)) b j) j (v_serveGroup (uI (s_zoneEv (s_gather σ b (nI z) (sI σ 28 b i) (sI σ 28 b e)) b j z) 22 j z ((sI (s_zoneEv (s_gather σ b (nI z) (sI σ 28 b i) (sI σ 28 b e)) b j z) 22 j z) + 1)) b j) (sI (s_serveGroup (uI (s_zoneEv (s_gather σ b (nI z) (sI σ 28 b i) (sI σ 28 b e)) b j z) 22 j z ((sI (s_zoneEv (s_gather σ b (nI z) (sI σ 28 b i) (sI σ 28 b e)) b j z) 22 j z) + 1)) b j) 28 b i))
theorem zoneBody_22 (σ : zSt) (b j z i e : Nat) : (s_zoneBody σ b j z i e).2.2 = (s_gather σ b (nI z) (sI σ 28 b i) (sI σ 28 b e)).2.2 := (s_refill_22 _ _ _ _).trans ((s_serveGroup_22 _ _ _).trans (s_zoneEv_22 (s_gather σ b (nI z) (sI σ 28 b i) (sI σ 28 b e)) b j z))
theorem zoneEv_fr (σ : zSt) (b j z : Nat) : zFr b (s_zoneEv σ b j z) σ := zFr.of (s_zoneEv_22 σ b j z) (fun t h o x => evI_I _ _ _ _ _ h.1 o x)
theorem zoneBody_ok {σ : zSt} {b j z i e : Nat} (hb : b < 2) (hw : zWF b σ) : zWF b (s_zoneBody σ b j z i e) ∧ zFr b (s_zoneBody σ b j z i e) σ ∧ zI2 (s_zoneBody σ b j z i e) σ ∧ (sE (s_zoneBody σ b j z i e) (7 + 4 * b) = sE σ (7 + 4 * b) ∧ sZ (s_zoneBody σ b j z i e) (7 + 4 * b) = sZ σ (7 + 4 * b)) := by
  obtain ⟨g1, g2, g3, g4⟩ := (gaI_ok (z := nI z) (f := sI σ 28 b i) (l := sI σ 28 b e) hb hw.2.2.2.2.2.2.2.2.1.1 hw.2.2.2.2.2.2.2.2.2.2 hw.2.2.2.2.2.2.2.2.2.1 _ (Nat.le_refl _))
  have h22 := zoneBody_22 σ b j z i e
  have f3 : zFr b (uI (s_zoneEv (s_gather σ b (nI z) (sI σ 28 b i) (sI σ 28 b e)) b j z) 22 j z ((sI (s_zoneEv (s_gather σ b (nI z) (sI σ 28 b i) (sI σ 28 b e)) b j z) 22 j z) + 1)) (s_gather σ b (nI z) (sI σ 28 b i) (sI σ 28 b e)) := (zFr.uI (by unfold zst; omega)).trans (zoneEv_fr _ b j z)
  have f5 : zFr b (s_zoneBody σ b j z i e) (s_gather σ b (nI z) (sI σ 28 b i) (sI σ 28 b e)) := (zFr.of1 (s_refill_1 _ _ _ _) (s_refill_22 _ _ _ _)).trans ((zFr.of1 (serveGroup_1 _ _ _) (s_serveGroup_22 _ _ _)).trans f3)
  have hq := g2.2.2 (7 + 4 * b) (by omega)
  have hS1 : zWF b (s_gather σ b (nI z) (sI σ 28 b i) (sI σ 28 b e)) := hw.fr g1 (zSx_LC g2 (by omega) hw.2.2.2.2.2.2.2.2.1) (by show sZ (gaI _ _ _ _ _ _) _ ≤ 30; rw [hq.2.1]; exact hw.2.2.2.2.2.2.2.2.2.2) g3
  refine ⟨hS1.mv h22 f5, f5.trans g1, ?_, ?_, ?_⟩
  · refine zI2.trans (y := (uI (s_zoneEv (s_gather σ b (nI z) (sI σ 28 b i) (sI σ 28 b e)) b j z) 22 j z ((sI (s_zoneEv (s_gather σ b (nI z) (sI σ 28 b i) (sI σ 28 b e)) b j z) 22 j z) + 1))) ?_ (zI2.trans (y := (s_gather σ b (nI z) (sI σ 28 b i) (sI σ 28 b e))) (fun t h1 h2 o x => (u3_n _ _ (fun q => h2 q.1)).trans (evI_I _ _ _ _ _ h1 o x)) (zI2.of1 (gaI_1 _ _ _ _ _ _)))
    exact zI2.of1 ((s_refill_1 _ _ _ _).trans (serveGroup_1 _ _ _))
  · exact (congrArg (fun q => q.1 (7 + 4 * b)) h22).trans hq.1
  · exact (congrArg (fun q => q.2.1 (7 + 4 * b)) h22).trans hq.2.1
set_option maxRecDepth 100000 in
set_option maxHeartbeats 4000000 in
theorem f_zoneBody {G : zG} {X : zX} {ad : Nat → Nat → Nat} {σ : zSt} (b j z i e : Nat) (en : Int32) (hb : b < 2) (hw : zWF b σ) (hj : zlV σ j) (hz4 : z < 4) (hi30 : i < 30) (he : sI σ 29 b i = nI e) (he30 : e < 30) {k n mc ms : Nat} (hm : k + (sgc (s_zoneBody σ b j z i e) - sgc σ) ≤ mc ∧ n + (sgs (s_zoneBody σ b j z i e) - sgs σ) ≤ ms) (K : zK G X cX2_serveZone RX2 7 none { frames := 10, cells := mc, slots := ms, locals := 300 }) (kk : zV G X 7 (zP G ad (s_zoneBody σ b j z i e)) (k + (sgc (s_zoneBody σ b j z i e) - sgc σ)) (n + (sgs (s_zoneBody σ b j z i e) - sgs σ)) 245 [(0, .ref (ad 11 b)), (1, .ref (ad 7 j)), (2, .int (nI z)), (4, .int (sI σ 29 b i)), (5, .int (nI i))] []) : zV G X 7 (zP G ad σ) k n 129 [(0, .ref (ad 11 b)), (1, .ref (ad 7 j)), (2, .int (nI z)), (4, .int en), (5, .int (nI i))] [] := by
  refine zV.wd (k' := k + (sgc σ - sgc σ)) (n' := n + (sgs σ - sgs σ)) (Nat.le_add_right _ _) (Nat.le_add_right _ _) ?_
  refine zi_aload_n K (dX2_serveZone_p1 8 rfl) 0 rfl ?_
  refine zg_FL_laying K hb w_138 (dX2_serveZone_p1 9 rfl) ?_
  refine zg_LAY_ends K hb w_112 (dX2_serveZone_p1 10 rfl) ?_
  refine zi_iload K (dX2_serveZone_p1 11 rfl) 4 rfl ?_
  refine zl_LENDS K hb i rfl hi30 (dX2_serveZone_p1 12 rfl) ?_
  refine zi_istore K [(4, .int (sI σ 29 b i)), (0, .ref (ad 11 b)), (1, .ref (ad 7 j)), (2, .int (nI z)), (5, .int (nI i))] (dX2_serveZone_p1 13 rfl) (by decide) rfl ?_
  refine zi_aload_n K (dX2_serveZone_p1 14 rfl) 1 rfl ?_
  refine zi_iload_n K (dX2_serveZone_p1 15 rfl) 3 rfl ?_
  refine zi_aload_n K (dX2_serveZone_p1 16 rfl) 1 rfl ?_
  refine zg_FL_laying K hb w_138 (dX2_serveZone_p1 17 rfl) ?_
  refine zg_LAY_days K hb w_109 (dX2_serveZone_p1 18 rfl) ?_
  refine zi_iload K (dX2_serveZone_p1 19 rfl) 4 rfl ?_
  refine zl_LDAYS K hb i rfl hi30 (dX2_serveZone_p1 20 rfl) ?_
  refine zi_aload_n K (dX2_serveZone_p1 21 rfl) 1 rfl ?_
  refine zg_FL_laying K hb w_138 (dX2_serveZone_p1 22 rfl) ?_
  refine zg_LAY_days K hb w_109 (dX2_serveZone_p1 23 rfl) ?_
  refine zi_iload K (dX2_serveZone_p1 24 rfl) 0 rfl ?_
  refine zl_LDAYS K hb e he he30 (dX2_serveZone_p1 25 rfl) ?_
  have hgc : sgc (s_zoneBody σ b j z i e) = sgc (s_gather σ b (nI z) (sI σ 28 b i) (sI σ 28 b e)) ∧ sgs (s_zoneBody σ b j z i e) = sgs (s_gather σ b (nI z) (sI σ 28 b i) (sI σ 28 b e)) := zG_22 (zoneBody_22 σ b j z i e)
  refine zi_callV K (na := 3) [] [] (c_gather (σ := σ) b (nI z) (sI σ 28 b i) (sI σ 28 b e) hb hw.2.2.2.2.2.2.2.2.1.1 hw.2.2.2.2.2.2.2.2.2.2 hw.2.2.2.2.2.2.2.2.2.1 hw.1) (dX2_serveZone_p1 26 rfl) w_533 w_535 w_11 w_29 w_536 (by decide +kernel) rfl (fun H h => zi_recv K (zr_FL (σ := σ) hb H h).1 rfl) (fun H h => h) ⟨Nat.le_of_ble_eq_true rfl, Nat.le_of_ble_eq_true rfl⟩ ⟨(zr1 (zLeR σ).1 (gaI_ok (z := (nI z)) (f := (sI σ 28 b i)) (l := (sI σ 28 b e)) hb hw.2.2.2.2.2.2.2.2.1.1 hw.2.2.2.2.2.2.2.2.2.2 hw.2.2.2.2.2.2.2.2.2.1 _ (Nat.le_refl _)).1.2.1.1 (zGle hgc).1 hm.1), (zr1 (zLeR σ).2 (gaI_ok (z := (nI z)) (f := (sI σ 28 b i)) (l := (sI σ 28 b e)) hb hw.2.2.2.2.2.2.2.2.1.1 hw.2.2.2.2.2.2.2.2.2.2 hw.2.2.2.2.2.2.2.2.2.1 _ (Nat.le_refl _)).1.2.1.2 (zGle hgc).2 hm.2)⟩ (Nat.le_of_ble_eq_true rfl) rfl rfl ?_
  have e1 : zSx (zQb b) (s_gather σ b (nI z) (sI σ 28 b i) (sI σ 28 b e)) σ := ((gaI_ok (z := (nI z)) (f := (sI σ 28 b i)) (l := (sI σ 28 b e)) hb hw.2.2.2.2.2.2.2.2.1.1 hw.2.2.2.2.2.2.2.2.2.2 hw.2.2.2.2.2.2.2.2.2.1 _ (Nat.le_refl _)).1.1).trans zSx.rf
  obtain ⟨g1, g2, g3, g4⟩ := (gaI_ok (z := nI z) (f := sI σ 28 b i) (l := sI σ 28 b e) hb hw.2.2.2.2.2.2.2.2.1.1 hw.2.2.2.2.2.2.2.2.2.2 hw.2.2.2.2.2.2.2.2.2.1 _ (Nat.le_refl _))
  have hT1 : j % 8 < sN (s_gather σ b (nI z) (sI σ 28 b i) (sI σ 28 b e)) 2 := zSx_N e1 (hw.2.2.2.1 _ hj)
  refine zV.wd (k' := k + (sgc (s_gather σ b (nI z) (sI σ 28 b i) (sI σ 28 b e)) - sgc σ)) (n' := n + (sgs (s_gather σ b (nI z) (sI σ 28 b i) (sI σ 28 b e)) - sgs σ)) (zr2 (zLeR σ).1 (gaI_ok (z := (nI z)) (f := (sI σ 28 b i)) (l := (sI σ 28 b e)) hb hw.2.2.2.2.2.2.2.2.1.1 hw.2.2.2.2.2.2.2.2.2.2 hw.2.2.2.2.2.2.2.2.2.1 _ (Nat.le_refl _)).1.2.1.1) (zr2 (zLeR σ).2 (gaI_ok (z := (nI z)) (f := (sI σ 28 b i)) (l := (sI σ 28 b e)) hb hw.2.2.2.2.2.2.2.2.1.1 hw.2.2.2.2.2.2.2.2.2.2 hw.2.2.2.2.2.2.2.2.2.1 _ (Nat.le_refl _)).1.2.1.2) ?_
  refine zV.pick [1, 2, 3, 0, 4] (lo' := [(0, .ref (ad 11 b)), (1, .ref (ad 7 j)), (2, .int (nI z)), (4, .int (sI σ 29 b i)), (5, .int (nI i))]) rfl ?_
  refine f_zoneEv (σ := (s_gather σ b (nI z) (sI σ 28 b i) (sI σ 28 b e))) b j z (sI σ 29 b i) i hb (zSx_V e1 hj) hT1 hz4 g3.1 ⟨(zr3 (zGle hgc).1 hm.1), (zr3 (zGle hgc).2 hm.2)⟩ K ?_
  have e2 : zSx (zQb b) (s_zoneEv (s_gather σ b (nI z) (sI σ 28 b i) (sI σ 28 b e)) b j z) σ := (zSx.of (s_zoneEv_22 (s_gather σ b (nI z) (sI σ 28 b i) (sI σ 28 b e)) b j z)).trans e1
  refine zi_aload_n K (dX2_serveZone_p2 0 rfl) 1 rfl ?_
  refine zg_COV_events K (zSx_V e2 hj) w_1165 (dX2_serveZone_p2 1 rfl) ?_
  refine zi_iload_n K (dX2_serveZone_p2 2 rfl) 2 rfl ?_
  refine zi_dup2_11 K (dX2_serveZone_p2 3 rfl) rfl rfl ?_
  refine zl_CEV K (zSx_V e2 hj) z rfl hz4 (dX2_serveZone_p2 4 rfl) ?_
  refine zi_iconst K (dX2_serveZone_p2 5 rfl) zk_i1 ?_
  refine zi_iadd K (dX2_serveZone_p2 6 rfl) ?_
  refine zs_CEV K (zSx_V e2 hj) z rfl hz4 (dX2_serveZone_p2 7 rfl) ?_
  have e3 : zSx (zQb b) (uI (s_zoneEv (s_gather σ b (nI z) (sI σ 28 b i) (sI σ 28 b e)) b j z) 22 j z ((sI (s_zoneEv (s_gather σ b (nI z) (sI σ 28 b i) (sI σ 28 b e)) b j z) 22 j z) + 1)) σ := (zSx.of (uI_22 (s_zoneEv (s_gather σ b (nI z) (sI σ 28 b i) (sI σ 28 b e)) b j z) 22 j z ((sI (s_zoneEv (s_gather σ b (nI z) (sI σ 28 b i) (sI σ 28 b e)) b j z) 22 j z) + 1))).trans e2
  refine zi_aload_n K (dX2_serveZone_p2 8 rfl) 1 rfl ?_
  refine zi_aload_n K (dX2_serveZone_p2 9 rfl) 0 rfl ?_
  refine zi_aload_n K (dX2_serveZone_p2 10 rfl) 1 rfl ?_
  refine zi_callV K (na := 1) [.ref (ad 7 j)] [.long (v_serveGroup (uI (s_zoneEv (s_gather σ b (nI z) (sI σ 28 b i) (sI σ 28 b e)) b j z) 22 j z ((sI (s_zoneEv (s_gather σ b (nI z) (sI σ 28 b i) (sI σ 28 b e)) b j z) 22 j z) + 1)) b j), .ref (ad 7 j)] (c_serveGroup (σ := (uI (s_zoneEv (s_gather σ b (nI z) (sI σ 28 b i) (sI σ 28 b e)) b j z) 22 j z ((sI (s_zoneEv (s_gather σ b (nI z) (sI σ 28 b i) (sI σ 28 b e)) b j z) 22 j z) + 1))) b j hb (zSx_V e3 hj) (zSx_N e3 (hw.2.2.2.1 _ hj)) (zLW_mv (σ := (s_gather σ b (nI z) (sI σ 28 b i) (sI σ 28 b e))) (σ' := (uI (s_zoneEv (s_gather σ b (nI z) (sI σ 28 b i) (sI σ 28 b e)) b j z) 22 j z ((sI (s_zoneEv (s_gather σ b (nI z) (sI σ 28 b i) (sI σ 28 b e)) b j z) 22 j z) + 1))) ((uI_22 (s_zoneEv (s_gather σ b (nI z) (sI σ 28 b i) (sI σ 28 b e)) b j z) 22 j z _).trans (s_zoneEv_22 (s_gather σ b (nI z) (sI σ 28 b i) (sI σ 28 b e)) b j z)) g3.1)) (dX2_serveZone_p2 11 rfl) w_537 w_539 w_12 w_29 w_540 (by decide +kernel) rfl (fun H h => zi_recv K (zr_FL (σ := (uI (s_zoneEv (s_gather σ b (nI z) (sI σ 28 b i) (sI σ 28 b e)) b j z) 22 j z ((sI (s_zoneEv (s_gather σ b (nI z) (sI σ 28 b i) (sI σ 28 b e)) b j z) 22 j z) + 1))) hb H h).1 rfl) (fun H h => h) ⟨Nat.le_of_ble_eq_true rfl, Nat.le_of_ble_eq_true rfl⟩ ⟨(zr3 (zGle hgc).1 hm.1), (zr3 (zGle hgc).2 hm.2)⟩ (Nat.le_of_ble_eq_true rfl) rfl rfl ?_
  have e4 : zSx (zQb b) (s_serveGroup (uI (s_zoneEv (s_gather σ b (nI z) (sI σ 28 b i) (sI σ 28 b e)) b j z) 22 j z ((sI (s_zoneEv (s_gather σ b (nI z) (sI σ 28 b i) (sI σ 28 b e)) b j z) 22 j z) + 1)) b j) σ := (zSx.of (s_serveGroup_22 (uI (s_zoneEv (s_gather σ b (nI z) (sI σ 28 b i) (sI σ 28 b e)) b j z) 22 j z ((sI (s_zoneEv (s_gather σ b (nI z) (sI σ 28 b i) (sI σ 28 b e)) b j z) 22 j z) + 1)) b j)).trans e3
  refine zi_aload_n K (dX2_serveZone_p2 12 rfl) 0 rfl ?_
  refine zg_FL_laying K hb w_138 (dX2_serveZone_p2 13 rfl) ?_
  refine zg_LAY_days K hb w_109 (dX2_serveZone_p2 14 rfl) ?_
  refine zi_iload K (dX2_serveZone_p2 15 rfl) 4 rfl ?_
  refine zl_LDAYS K hb i rfl hi30 (dX2_serveZone_p2 16 rfl) ?_
  have hF4 : zFr b (s_serveGroup (uI (s_zoneEv (s_gather σ b (nI z) (sI σ 28 b i) (sI σ 28 b e)) b j z) 22 j z ((sI (s_zoneEv (s_gather σ b (nI z) (sI σ 28 b i) (sI σ 28 b e)) b j z) 22 j z) + 1)) b j) σ := (zFr.of1 (serveGroup_1 _ _ _) (s_serveGroup_22 _ _ _)).trans (((zFr.uI (by unfold zst; omega)).trans (zoneEv_fr _ b j z)).trans g1)
  refine zi_callV K (na := 2) [] [] (c_refill (σ := (s_serveGroup (uI (s_zoneEv (s_gather σ b (nI z) (sI σ 28 b i) (sI σ 28 b e)) b j z) 22 j z ((sI (s_zoneEv (s_gather σ b (nI z) (sI σ 28 b i) (sI σ 28 b e)) b j z) 22 j z) + 1)) b j)) j (v_serveGroup (uI (s_zoneEv (s_gather σ b (nI z) (sI σ 28 b i) (sI σ 28 b e)) b j z) 22 j z ((sI (s_zoneEv (s_gather σ b (nI z) (sI σ 28 b i) (sI σ 28 b e)) b j z) 22 j z) + 1)) b j) (sI (s_serveGroup (uI (s_zoneEv (s_gather σ b (nI z) (sI σ 28 b i) (sI σ 28 b e)) b j z) 22 j z ((sI (s_zoneEv (s_gather σ b (nI z) (sI σ 28 b i) (sI σ 28 b e)) b j z) 22 j z) + 1)) b j) 28 b i) (zSx_V e4 hj) (zSx_N e4 (hw.2.2.2.1 _ hj)) (zTz_fr hF4 (hw.2.2.1 _ (hw.2.2.2.1 _ hj)).1).1 (zTz_fr hF4 (hw.2.2.1 _ (hw.2.2.2.1 _ hj)).1).2) (dX2_serveZone_p2 17 rfl) w_414 w_415 w_416 w_56 w_417 (by decide +kernel) rfl (fun H h => zi_recv K (zr_COV (σ := (s_serveGroup (uI (s_zoneEv (s_gather σ b (nI z) (sI σ 28 b i) (sI σ 28 b e)) b j z) 22 j z ((sI (s_zoneEv (s_gather σ b (nI z) (sI σ 28 b i) (sI σ 28 b e)) b j z) 22 j z) + 1)) b j)) (zSx_V e4 hj) H h).1 rfl) (fun H h => h) ⟨Nat.le_of_ble_eq_true rfl, Nat.le_of_ble_eq_true rfl⟩ ⟨(zr3 (zGle hgc).1 hm.1), (zr3 (zGle hgc).2 hm.2)⟩ (Nat.le_of_ble_eq_true rfl) rfl rfl ?_
  have e5 : zSx (zQb b) (s_refill (s_serveGroup (uI (s_zoneEv (s_gather σ b (nI z) (sI σ 28 b i) (sI σ 28 b e)) b j z) 22 j z ((sI (s_zoneEv (s_gather σ b (nI z) (sI σ 28 b i) (sI σ 28 b e)) b j z) 22 j z) + 1)) b j) j (v_serveGroup (uI (s_zoneEv (s_gather σ b (nI z) (sI σ 28 b i) (sI σ 28 b e)) b j z) 22 j z ((sI (s_zoneEv (s_gather σ b (nI z) (sI σ 28 b i) (sI σ 28 b e)) b j z) 22 j z) + 1)) b j) (sI (s_serveGroup (uI (s_zoneEv (s_gather σ b (nI z) (sI σ 28 b i) (sI σ 28 b e)) b j z) 22 j z ((sI (s_zoneEv (s_gather σ b (nI z) (sI σ 28 b i) (sI σ 28 b e)) b j z) 22 j z) + 1)) b j) 28 b i)) σ := (zSx.of (s_refill_22 (s_serveGroup (uI (s_zoneEv (s_gather σ b (nI z) (sI σ 28 b i) (sI σ 28 b e)) b j z) 22 j z ((sI (s_zoneEv (s_gather σ b (nI z) (sI σ 28 b i) (sI σ 28 b e)) b j z) 22 j z) + 1)) b j) j (v_serveGroup (uI (s_zoneEv (s_gather σ b (nI z) (sI σ 28 b i) (sI σ 28 b e)) b j z) 22 j z ((sI (s_zoneEv (s_gather σ b (nI z) (sI σ 28 b i) (sI σ 28 b e)) b j z) 22 j z) + 1)) b j) (sI (s_serveGroup (uI (s_zoneEv (s_gather σ b (nI z) (sI σ 28 b i) (sI σ 28 b e)) b j z) 22 j z ((sI (s_zoneEv (s_gather σ b (nI z) (sI σ 28 b i) (sI σ 28 b e)) b j z) 22 j z) + 1)) b j) 28 b i))).trans e4
  refine zV.pick [0, 1, 2, 3, 4] (lo' := [(0, .ref (ad 11 b)), (1, .ref (ad 7 j)), (2, .int (nI z)), (4, .int (sI σ 29 b i)), (5, .int (nI i))]) rfl ?_
  refine zV.wd (k' := k + (sgc (s_refill (s_serveGroup (uI (s_zoneEv (s_gather σ b (nI z) (sI σ 28 b i) (sI σ 28 b e)) b j z) 22 j z ((sI (s_zoneEv (s_gather σ b (nI z) (sI σ 28 b i) (sI σ 28 b e)) b j z) 22 j z) + 1)) b j) j (v_serveGroup (uI (s_zoneEv (s_gather σ b (nI z) (sI σ 28 b i) (sI σ 28 b e)) b j z) 22 j z ((sI (s_zoneEv (s_gather σ b (nI z) (sI σ 28 b i) (sI σ 28 b e)) b j z) 22 j z) + 1)) b j) (sI (s_serveGroup (uI (s_zoneEv (s_gather σ b (nI z) (sI σ 28 b i) (sI σ 28 b e)) b j z) 22 j z ((sI (s_zoneEv (s_gather σ b (nI z) (sI σ 28 b i) (sI σ 28 b e)) b j z) 22 j z) + 1)) b j) 28 b i)) - sgc σ)) (n' := n + (sgs (s_refill (s_serveGroup (uI (s_zoneEv (s_gather σ b (nI z) (sI σ 28 b i) (sI σ 28 b e)) b j z) 22 j z ((sI (s_zoneEv (s_gather σ b (nI z) (sI σ 28 b i) (sI σ 28 b e)) b j z) 22 j z) + 1)) b j) j (v_serveGroup (uI (s_zoneEv (s_gather σ b (nI z) (sI σ 28 b i) (sI σ 28 b e)) b j z) 22 j z ((sI (s_zoneEv (s_gather σ b (nI z) (sI σ 28 b i) (sI σ 28 b e)) b j z) 22 j z) + 1)) b j) (sI (s_serveGroup (uI (s_zoneEv (s_gather σ b (nI z) (sI σ 28 b i) (sI σ 28 b e)) b j z) 22 j z ((sI (s_zoneEv (s_gather σ b (nI z) (sI σ 28 b i) (sI σ 28 b e)) b j z) 22 j z) + 1)) b j) 28 b i)) - sgs σ)) (zr4 (zG_22 (σ' := (s_refill (s_serveGroup (uI (s_zoneEv (s_gather σ b (nI z) (sI σ 28 b i) (sI σ 28 b e)) b j z) 22 j z ((sI (s_zoneEv (s_gather σ b (nI z) (sI σ 28 b i) (sI σ 28 b e)) b j z) 22 j z) + 1)) b j) j (v_serveGroup (uI (s_zoneEv (s_gather σ b (nI z) (sI σ 28 b i) (sI σ 28 b e)) b j z) 22 j z ((sI (s_zoneEv (s_gather σ b (nI z) (sI σ 28 b i) (sI σ 28 b e)) b j z) 22 j z) + 1)) b j) (sI (s_serveGroup (uI (s_zoneEv (s_gather σ b (nI z) (sI σ 28 b i) (sI σ 28 b e)) b j z) 22 j z ((sI (s_zoneEv (s_gather σ b (nI z) (sI σ 28 b i) (sI σ 28 b e)) b j z) 22 j z) + 1)) b j) 28 b i))) (σ := (s_gather σ b (nI z) (sI σ 28 b i) (sI σ 28 b e))) ((s_refill_22 (s_serveGroup (uI (s_zoneEv (s_gather σ b (nI z) (sI σ 28 b i) (sI σ 28 b e)) b j z) 22 j z ((sI (s_zoneEv (s_gather σ b (nI z) (sI σ 28 b i) (sI σ 28 b e)) b j z) 22 j z) + 1)) b j) j (v_serveGroup (uI (s_zoneEv (s_gather σ b (nI z) (sI σ 28 b i) (sI σ 28 b e)) b j z) 22 j z ((sI (s_zoneEv (s_gather σ b (nI z) (sI σ 28 b i) (sI σ 28 b e)) b j z) 22 j z) + 1)) b j) (sI (s_serveGroup (uI (s_zoneEv (s_gather σ b (nI z) (sI σ 28 b i) (sI σ 28 b e)) b j z) 22 j z ((sI (s_zoneEv (s_gather σ b (nI z) (sI σ 28 b i) (sI σ 28 b e)) b j z) 22 j z) + 1)) b j) 28 b i)).trans ((s_serveGroup_22 (uI (s_zoneEv (s_gather σ b (nI z) (sI σ 28 b i) (sI σ 28 b e)) b j z) 22 j z ((sI (s_zoneEv (s_gather σ b (nI z) (sI σ 28 b i) (sI σ 28 b e)) b j z) 22 j z) + 1)) b j).trans ((uI_22 (s_zoneEv (s_gather σ b (nI z) (sI σ 28 b i) (sI σ 28 b e)) b j z) 22 j z ((sI (s_zoneEv (s_gather σ b (nI z) (sI σ 28 b i) (sI σ 28 b e)) b j z) 22 j z) + 1)).trans ((s_zoneEv_22 (s_gather σ b (nI z) (sI σ 28 b i) (sI σ 28 b e)) b j z).trans rfl))))).1) (zr4 (zG_22 (σ' := (s_refill (s_serveGroup (uI (s_zoneEv (s_gather σ b (nI z) (sI σ 28 b i) (sI σ 28 b e)) b j z) 22 j z ((sI (s_zoneEv (s_gather σ b (nI z) (sI σ 28 b i) (sI σ 28 b e)) b j z) 22 j z) + 1)) b j) j (v_serveGroup (uI (s_zoneEv (s_gather σ b (nI z) (sI σ 28 b i) (sI σ 28 b e)) b j z) 22 j z ((sI (s_zoneEv (s_gather σ b (nI z) (sI σ 28 b i) (sI σ 28 b e)) b j z) 22 j z) + 1)) b j) (sI (s_serveGroup (uI (s_zoneEv (s_gather σ b (nI z) (sI σ 28 b i) (sI σ 28 b e)) b j z) 22 j z ((sI (s_zoneEv (s_gather σ b (nI z) (sI σ 28 b i) (sI σ 28 b e)) b j z) 22 j z) + 1)) b j) 28 b i))) (σ := (s_gather σ b (nI z) (sI σ 28 b i) (sI σ 28 b e))) ((s_refill_22 (s_serveGroup (uI (s_zoneEv (s_gather σ b (nI z) (sI σ 28 b i) (sI σ 28 b e)) b j z) 22 j z ((sI (s_zoneEv (s_gather σ b (nI z) (sI σ 28 b i) (sI σ 28 b e)) b j z) 22 j z) + 1)) b j) j (v_serveGroup (uI (s_zoneEv (s_gather σ b (nI z) (sI σ 28 b i) (sI σ 28 b e)) b j z) 22 j z ((sI (s_zoneEv (s_gather σ b (nI z) (sI σ 28 b i) (sI σ 28 b e)) b j z) 22 j z) + 1)) b j) (sI (s_serveGroup (uI (s_zoneEv (s_gather σ b (nI z) (sI σ 28 b i) (sI σ 28 b e)) b j z) 22 j z ((sI (s_zoneEv (s_gather σ b (nI z) (sI σ 28 b i) (sI σ 28 b e)) b j z) 22 j z) + 1)) b j) 28 b i)).trans ((s_serveGroup_22 (uI (s_zoneEv (s_gather σ b (nI z) (sI σ 28 b i) (sI σ 28 b e)) b j z) 22 j z ((sI (s_zoneEv (s_gather σ b (nI z) (sI σ 28 b i) (sI σ 28 b e)) b j z) 22 j z) + 1)) b j).trans ((uI_22 (s_zoneEv (s_gather σ b (nI z) (sI σ 28 b i) (sI σ 28 b e)) b j z) 22 j z ((sI (s_zoneEv (s_gather σ b (nI z) (sI σ 28 b i) (sI σ 28 b e)) b j z) 22 j z) + 1)).trans ((s_zoneEv_22 (s_gather σ b (nI z) (sI σ 28 b i) (sI σ 28 b e)) b j z).trans rfl))))).2) ?_
  have hSe : s_zoneBody σ b j z i e = (s_refill (s_serveGroup (uI (s_zoneEv (s_gather σ b (nI z) (sI σ 28 b i) (sI σ 28 b e)) b j z) 22 j z ((sI (s_zoneEv (s_gather σ b (nI z) (sI σ 28 b i) (sI σ 28 b e)) b j z) 22 j z) + 1)) b j) j (v_serveGroup (uI (s_zoneEv (s_gather σ b (nI z) (sI σ 28 b i) (sI σ 28 b e)) b j z) 22 j z ((sI (s_zoneEv (s_gather σ b (nI z) (sI σ 28 b i) (sI σ 28 b e)) b j z) 22 j z) + 1)) b j) (sI (s_serveGroup (uI (s_zoneEv (s_gather σ b (nI z) (sI σ 28 b i) (sI σ 28 b e)) b j z) 22 j z ((sI (s_zoneEv (s_gather σ b (nI z) (sI σ 28 b i) (sI σ 28 b e)) b j z) 22 j z) + 1)) b j) 28 b i)) := rfl
  rw [hSe] at kk
  exact kk
