/-! what the whole object stands on; what stays of it -/
def zQd (q : Nat) : Prop := q = 7 ∨ q = 8 ∨ q = 9 ∨ q = 11 ∨ q = 12
def zsT (t : Nat) : Prop := t ≠ 4 ∧ t ≠ 5 ∧ t ≠ 6 ∧ t ≠ 7 ∧ t ≠ 22 ∧ t ≠ 26 ∧ t ≠ 27 ∧ t ≠ 28 ∧ t ≠ 29 ∧ t ≠ 30 ∧ t ≠ 35
def zFs (σ' σ : zSt) : Prop := zSx zQd σ' σ ∧ (sgc σ ≤ sgc σ' ∧ sgs σ ≤ sgs σ') ∧ (∀ t, zsT t → ∀ o e, sI σ' t o e = sI σ t o e) ∧ ∀ t, t = 4 ∨ t = 5 ∨ t = 6 → ∀ o, o < 30 → ∀ e, sI σ' t o e = sI σ t o e
theorem zSx.wk {Q R : Nat → Prop} {σ' σ : zSt} (h : ∀ q, Q q → R q) (e : zSx Q σ' σ) : zSx R σ' σ := ⟨e.1, e.2.1, fun q hq => e.2.2 q (fun z => hq (h q z))⟩
theorem zQbd {b : Nat} (hb : b < 2) (q : Nat) (h : zQb b q) : zQd q := by
  unfold zQb at h
  unfold zQd
  omega
theorem zFs.rf {σ : zSt} : zFs σ σ := ⟨zSx.rf, ⟨Nat.le_refl _, Nat.le_refl _⟩, fun _ _ _ _ => rfl, fun _ _ _ _ _ => rfl⟩
theorem zFs.trans {x y z : zSt} (h : zFs x y) (k : zFs y z) : zFs x z := ⟨h.1.trans k.1, zLeT k.2.1 h.2.1, fun t ht o e => (h.2.2.1 t ht o e).trans (k.2.2.1 t ht o e), fun t ht o ho e => (h.2.2.2 t ht o ho e).trans (k.2.2.2 t ht o ho e)⟩
theorem zFr.fs {b : Nat} {σ' σ : zSt} (hb : b < 2) (h : zFr b σ' σ) : zFs σ' σ := ⟨zSx.wk (zQbd hb) h.1, h.2.1, fun t ht o e => h.2.2.1 t (by unfold zsT at ht; unfold zst; omega) o e, fun t ht o _ e => h.2.2.1 t (by unfold zst; omega) o e⟩
theorem zFs.of {σ' σ : zSt} (e : σ'.2.2 = σ.2.2) (h : ∀ t, zsT t ∨ t = 4 ∨ t = 5 ∨ t = 6 → ∀ o e, sI σ' t o e = sI σ t o e) : zFs σ' σ := ⟨zSx.of e, ⟨Nat.le_of_eq (zG_22 e).1.symm, Nat.le_of_eq (zG_22 e).2.symm⟩, fun t ht o e => h t (Or.inl ht) o e, fun t ht o _ e => h t (Or.inr ht) o e⟩
theorem zFs.of1 {σ' σ : zSt} (e1 : σ'.1 = σ.1) (e : σ'.2.2 = σ.2.2) : zFs σ' σ := zFs.of e (fun t _ o x => sI_1 e1 t o x)
theorem zFs.uI {σ : zSt} {t o e : Nat} {v : Int32} (h : ¬ zsT t) (h2 : t ≠ 4 ∧ t ≠ 5 ∧ t ≠ 6 ∨ 30 ≤ o) : zFs (uI σ t o e v) σ := ⟨zSx.of rfl, ⟨Nat.le_refl _, Nat.le_refl _⟩, fun t' ht' o' e' => u3_n _ _ (fun q => h (q.1 ▸ ht')), fun t' ht' o' ho' e' => u3_n _ _ (fun q => by omega)⟩
/-- lists and counts -/
def zSl (σ : zSt) : Prop := (∀ q, q < 7 ∨ q = 10 → zLC σ q) ∧ (sZ σ 0 = sN σ 0 ∧ sN σ 0 ≤ 12) ∧ (sZ σ 1 = sN σ 1 ∧ sN σ 1 ≤ 30) ∧ (sZ σ 2 = sN σ 2 ∧ sN σ 2 ≤ 8) ∧ (sZ σ 3 = sN σ 3 ∧ sN σ 3 ≤ 12) ∧ (sZ σ 4 = sN σ 0 ∧ sN σ 4 = sN σ 0) ∧ sZ σ 5 = sN σ 1 ∧ (sZ σ 6 = sN σ 2 ∧ sN σ 5 = sN σ 2) ∧ (sZ σ 10 = sN σ 2 ∧ sN σ 6 = sN σ 2)
/-- the lists' elements, the losses' policies -/
def zSe (σ : zSt) : Prop := (∀ i, i < sN σ 0 → lx σ 0 i = i) ∧ (∀ i, i < sN σ 1 → lx σ 1 i = i) ∧ (∀ i, i < sN σ 2 → lx σ 2 i = i) ∧ (∀ i, i < sN σ 3 → lx σ 3 i = i) ∧ (∀ i, i < sN σ 0 → lx σ 4 i = 30 + i) ∧ (∀ i, i < sN σ 2 → lx σ 6 i = i) ∧ (∀ i, i < sN σ 2 → lx σ 10 i = 8 + i) ∧ (∀ i, i < sN σ 0 → sP σ (30 + i) = i) ∧ (∀ k, k < sN σ 1 → sP σ k < sN σ 0)
/-- values -/
def zSv (σ : zSt) : Prop := (∀ p, p < sN σ 0 → ¬ (sI σ 0 p 0).toInt64 = 0) ∧ (∀ p, p < sN σ 0 → sI σ 1 p 0 = nI (sI σ 1 p 0).toNatClampNeg ∧ (sI σ 1 p 0).toNatClampNeg < 4) ∧ (∀ t, t < sN σ 2 → zTz σ t ∧ ¬ sI σ 14 t 0 ≤ 0) ∧ zRc σ ∧ (∀ i, i < 5 → zB01 (sI σ 31 0 i))
def zD (σ : zSt) : Prop := (zLC σ 7 ∧ sZ σ 7 ≤ 30) ∧ zLC σ 8 ∧ (zLC σ 9 ∧ sZ σ 9 ≤ 12) ∧ (zLC σ 11 ∧ sZ σ 11 ≤ 30) ∧ zLC σ 12
def zW (σ : zSt) : Prop := zSl σ ∧ zSe σ ∧ zSv σ ∧ zD σ
theorem zSx_lx {Q : Nat → Prop} {σ' σ : zSt} (e : zSx Q σ' σ) {q : Nat} (hq : ¬ Q q) (i : Nat) : lx σ' q i = lx σ q i := by
  unfold lx
  rw [zSx_E e hq]
theorem zSl.fs {σ' σ : zSt} (e : zFs σ' σ) (h : zSl σ) : zSl σ' := by
  have nq : ∀ q, q < 7 ∨ q = 10 → ¬ zQd q := fun q hq => by unfold zQd; omega
  have hZ : ∀ q, q < 7 ∨ q = 10 → sZ σ' q = sZ σ q := fun q hq => zSx_Z e.1 (nq q hq)
  obtain ⟨h1, h2⟩ := h
  refine ⟨fun q hq => zSx_LC e.1 (nq q hq) (h1 q hq), ?_⟩
  rw [e.1.1, hZ 0 (by omega), hZ 1 (by omega), hZ 2 (by omega), hZ 3 (by omega), hZ 4 (by omega), hZ 5 (by omega), hZ 6 (by omega), hZ 10 (by omega)]
  exact h2
theorem zSe.fs {σ' σ : zSt} (e : zFs σ' σ) (h : zSe σ) : zSe σ' := by
  have nq : ∀ q, q < 7 ∨ q = 10 → ¬ zQd q := fun q hq => by unfold zQd; omega
  have hx : ∀ q, q < 7 ∨ q = 10 → ∀ i, lx σ' q i = lx σ q i := fun q hq i => zSx_lx e.1 (nq q hq) i
  unfold zSe
  rw [e.1.1, e.1.2.1]
  refine ⟨fun i hi => ?_, fun i hi => ?_, fun i hi => ?_, fun i hi => ?_, fun i hi => ?_, fun i hi => ?_, fun i hi => ?_, h.2.2.2.2.2.2.2⟩
  · rw [hx 0 (by omega)]; exact h.1 i hi
  · rw [hx 1 (by omega)]; exact h.2.1 i hi
  · rw [hx 2 (by omega)]; exact h.2.2.1 i hi
  · rw [hx 3 (by omega)]; exact h.2.2.2.1 i hi
  · rw [hx 4 (by omega)]; exact h.2.2.2.2.1 i hi
  · rw [hx 6 (by omega)]; exact h.2.2.2.2.2.1 i hi
  · rw [hx 10 (by omega)]; exact h.2.2.2.2.2.2.1 i hi
theorem zSv.fs {σ' σ : zSt} (e : zFs σ' σ) (h : zSv σ) : zSv σ' := by
  have hI : ∀ t, zsT t → ∀ o x, sI σ' t o x = sI σ t o x := e.2.2.1
  unfold zSv zTz zRc at *
  rw [e.1.1]
  refine ⟨fun p hp => ?_, fun p hp => ?_, fun t ht => ?_, fun i hi => ?_, fun i hi => ?_⟩
  · rw [hI 0 (by unfold zsT; omega)]; exact h.1 p hp
  · rw [hI 1 (by unfold zsT; omega)]; exact h.2.1 p hp
  · rw [hI 13 (by unfold zsT; omega), hI 11 (by unfold zsT; omega), hI 10 (by unfold zsT; omega), hI 14 (by unfold zsT; omega)]; exact h.2.2.1 t ht
  · rw [hI 32 (by unfold zsT; omega)]; exact h.2.2.2.1 i hi
  · rw [hI 31 (by unfold zsT; omega)]; exact h.2.2.2.2 i hi
theorem zW.fs {σ' σ : zSt} (e : zFs σ' σ) (hd : zD σ') (h : zW σ) : zW σ' := ⟨h.1.fs e, h.2.1.fs e, h.2.2.1.fs e, hd⟩
theorem zW.mv {σ' σ : zSt} (e2 : σ'.2.2 = σ.2.2) (e : zFs σ' σ) (h : zW σ) : zW σ' := h.fs e (by
  obtain ⟨⟨a1, a2⟩, a3, ⟨a4, a5⟩, ⟨a6, a7⟩, a8⟩ := h.2.2.2
  exact ⟨⟨zLC_mv e2 a1, by rw [zZ_mv e2]; exact a2⟩, zLC_mv e2 a3, ⟨zLC_mv e2 a4, by rw [zZ_mv e2]; exact a5⟩, ⟨zLC_mv e2 a6, by rw [zZ_mv e2]; exact a7⟩, zLC_mv e2 a8⟩)
theorem zW.P {σ : zSt} (h : zW σ) (k : Nat) (hk : zlC σ k) : sP σ k < sN σ 0 := by
  rcases hk with hk | ⟨h1, h2⟩
  · exact h.2.1.2.2.2.2.2.2.2.2 k hk
  · obtain ⟨i, rfl⟩ : ∃ i, k = 30 + i := ⟨k - 30, by omega⟩
    have hi : i < sN σ 0 := by have := h.1.2.2.2.2.2.1.2; omega
    rw [h.2.1.2.2.2.2.2.2.2.1 i hi]
    exact hi
theorem zW.cv {σ : zSt} (h : zW σ) (j : Nat) (hj : zlV σ j) : j % 8 < sN σ 2 := by
  have h5 := h.1.2.2.2.2.2.2.2.1.2
  have h6 := h.1.2.2.2.2.2.2.2.2.2
  have h8 := h.1.2.2.2.1.2
  rcases hj with hj | ⟨h1, h2⟩ <;> omega
theorem zW.wf0 {σ : zSt} (h : zW σ) : zWF 0 σ := ⟨h.P, h.2.2.1.1, h.2.2.1.2.2.1, h.cv, (h.1.1 5 (by omega)).1, by show sZ σ 5 ≤ 30; have := h.1.2.2.2.2.2.2.1; have := h.1.2.2.1.2; omega, (h.1.1 6 (by omega)).1, by show sZ σ 6 ≤ 8; have := h.1.2.2.2.2.2.2.2.1.1; have := h.1.2.2.2.1.2; omega, h.2.2.2.1.1, h.2.2.2.2.1, h.2.2.2.1.2⟩
theorem zW.wf1 {σ : zSt} (h : zW σ) : zWF 1 σ := ⟨h.P, h.2.2.1.1, h.2.2.1.2.2.1, h.cv, h.2.2.2.2.2.1.1.1, by show sZ σ 9 ≤ 30; have := h.2.2.2.2.2.1.2; omega, (h.1.1 10 (by omega)).1, by show sZ σ 10 ≤ 8; have := h.1.2.2.2.2.2.2.2.2.1; have := h.1.2.2.2.1.2; omega, h.2.2.2.2.2.2.1.1, h.2.2.2.2.2.2.2, h.2.2.2.2.2.2.1.2⟩
theorem run0_W {σ : zSt} {tr : Int32} (h : zW σ) : zW (s_run σ 0 tr) ∧ zFr 0 (s_run σ 0 tr) σ := by
  obtain ⟨a1, a2⟩ := (run_ok (tr := tr) (by decide) h.wf0).2.2.2.2.2
  refine ⟨h.fs (a2.fs (by decide)) ⟨⟨a1.2.2.2.2.2.2.2.2.1, a1.2.2.2.2.2.2.2.2.2.2⟩, a1.2.2.2.2.2.2.2.2.2.1, ⟨zSx_LC a2.1 (by unfold zQb; omega) h.2.2.2.2.2.1.1, ?_⟩, ⟨zSx_LC a2.1 (by unfold zQb; omega) h.2.2.2.2.2.2.1.1, ?_⟩, zSx_LC a2.1 (by unfold zQb; omega) h.2.2.2.2.2.2.2⟩, a2⟩
  · rw [zSx_Z a2.1 (by unfold zQb; omega)]; exact h.2.2.2.2.2.1.2
  · rw [zSx_Z a2.1 (by unfold zQb; omega)]; exact h.2.2.2.2.2.2.1.2
theorem run1_W {σ : zSt} {tr : Int32} (h : zW σ) : zW (s_run σ 1 tr) ∧ zFr 1 (s_run σ 1 tr) σ := by
  obtain ⟨a1, a2⟩ := (run_ok (tr := tr) (by decide) h.wf1).2.2.2.2.2
  refine ⟨h.fs (a2.fs (by decide)) ⟨⟨zSx_LC a2.1 (by unfold zQb; omega) h.2.2.2.1.1, ?_⟩, zSx_LC a2.1 (by unfold zQb; omega) h.2.2.2.2.1, ⟨zSx_LC a2.1 (by unfold zQb; omega) h.2.2.2.2.2.1.1, ?_⟩, ⟨a1.2.2.2.2.2.2.2.2.1, a1.2.2.2.2.2.2.2.2.2.2⟩, a1.2.2.2.2.2.2.2.2.2.1⟩, a2⟩
  · rw [zSx_Z a2.1 (by unfold zQb; omega)]; exact h.2.2.2.1.2
  · rw [zSx_Z a2.1 (by unfold zQb; omega)]; exact h.2.2.2.2.2.1.2
theorem settle_W {σ : zSt} (h : zW σ) : zW (s_settle σ) ∧ zFs (s_settle σ) σ := by
  unfold s_settle
  split
  · obtain ⟨a1, a2⟩ := run0_W (tr := -1) h
    have e : zFs (uI (s_run σ 0 (-1)) 35 0 0 1) (s_run σ 0 (-1)) := zFs.uI (by unfold zsT; omega) (by omega)
    exact ⟨a1.mv (uI_22 _ _ _ _ _) e, e.trans (a2.fs (by decide))⟩
  · exact ⟨h, zFs.rf⟩
def spI (σ : zSt) : Nat → zSt
  | 0 => σ
  | i + 1 => if sI (spI σ i) 31 0 i = 0 then uL (spI σ i) 9 0 i (v_allPartsOf (spI σ i) 0 i) else uL (spI σ i) 9 0 i 0
theorem spI_22 (σ : zSt) (i : Nat) : (spI σ i).2.2 = σ.2.2 := by
  induction i with
  | zero => rfl
  | succ i ih =>
    simp only [spI]
    split
    · exact ih
    · exact ih
theorem spI_1 (σ : zSt) (i : Nat) : (spI σ i).1 = σ.1 := by
  induction i with
  | zero => rfl
  | succ i ih =>
    simp only [spI]
    split
    · exact ih
    · exact ih
def s_spLoop (σ : zSt)  : zSt := (spI σ 5)
theorem s_spLoop_22 (σ : zSt)  : (s_spLoop σ ).2.2 = σ.2.2 := by
  unfold s_spLoop
  (repeat' split) <;> first | exact ((spI_22 σ 5).trans rfl)
set_option maxRecDepth 100000 in
set_option maxHeartbeats 4000000 in
theorem f_spLoop {G : zG} {X : zX} {ad : Nat → Nat → Nat} {σ : zSt}  (hw : zW σ) {k n mc ms : Nat} (hm : k ≤ mc ∧ n ≤ ms) (K : zK G X cX8_settlePool RX8 2 none { frames := 16, cells := mc, slots := ms, locals := 460 }) (kk : zV G X 2 (zP G ad (s_spLoop σ )) k n 50 [(0, .ref (ad 0 0))] []) : zV G X 2 (zP G ad σ) k n 4 [(0, .ref (ad 0 0))] [] := by
  refine zi_iconst K (dX8_settlePool 2 rfl) zk_i0 ?_
  refine zi_istore_n K [(1, .int 0), (0, .ref (ad 0 0))] (dX8_settlePool 3 rfl) (by decide) rfl ?_
  refine zV.pick [1, 0] (lo' := [(0, .ref (ad 0 0)), (1, .int 0)]) rfl ?_
  suffices hloop6 : ∀ (r i : Nat), i ≤ 5 → 5 - i < r → zV G X 2 (zP G ad (spI σ i)) (k) (n) 6 [(0, .ref (ad 0 0)), (1, .int (nI i))] [] from hloop6 (5 + 1) 0 (Nat.zero_le _) (Nat.lt_succ_of_le (Nat.sub_le _ _))
  intro r
  induction r with
  | zero => intro i _ h; exact absurd h (Nat.not_lt_zero _)
  | succ r ih6 =>
    intro i hi6 hr6
    have hw2 : zW (spI σ i) := hw.mv (spI_22 _ _) (zFs.of1 (spI_1 _ _) (spI_22 _ _))
    refine zi_iload_n K (dX8_settlePool 4 rfl) 1 rfl ?_
    refine zi_iconst K (dX8_settlePool 5 rfl) zk_i5 ?_
    refine zi_icmp_ge K 50 (dX8_settlePool 6 rfl) rfl (fun h8_0 => ?_) (fun h8_0 => ?_)
    · skip
      have hN6 := zloop_exit (by decide) (Nat.le_of_ble_eq_true rfl) hi6 h8_0
      subst hN6
      refine zV.pick [0] (lo' := [(0, .ref (ad 0 0))]) rfl ?_
      have hSe : s_spLoop σ  = (spI σ 5) := rfl
      rw [hSe] at kk
      exact kk
    · skip
      have hlt6 := zloop_in (by decide) (Nat.le_of_ble_eq_true rfl) hi6 h8_0
      refine zi_aload_n K (dX8_settlePool 7 rfl) 0 rfl ?_
      refine zg_O_pool K rfl w_201 (dX8_settlePool 8 rfl) ?_
      refine zg_POOL_own K rfl w_168 (dX8_settlePool 9 rfl) ?_
      refine zi_iload_n K (dX8_settlePool 10 rfl) 1 rfl ?_
      refine zi_aload_n K (dX8_settlePool 11 rfl) 0 rfl ?_
      refine zg_O_pool K rfl w_201 (dX8_settlePool 12 rfl) ?_
      refine zg_POOL_isFailed K rfl w_160 (dX8_settlePool 13 rfl) ?_
      refine zi_iload_n K (dX8_settlePool 14 rfl) 1 rfl ?_
      refine zl_PFAIL K rfl i rfl hlt6 (dX8_settlePool 15 rfl) ?_
      refine zi_if_eq K 35 (dX8_settlePool 16 rfl) rfl (fun h28_0 => ?_) (fun h28_0 => ?_)
      · skip
        refine zi_aload_n K (dX8_settlePool 19 rfl) 0 rfl ?_
        refine zg_O_real K rfl w_199 (dX8_settlePool 20 rfl) ?_
        refine zi_iload_n K (dX8_settlePool 21 rfl) 1 rfl ?_
        refine zi_callV K (na := 1) [.int (nI i), .ref (ad 23 0)] [.long (v_allPartsOf (spI σ i) 0 i), .int (nI i), .ref (ad 23 0)] (c_allPartsOf (σ := (spI σ i)) 0 i (by decide) hlt6 hw2.wf0.2.2.2.1 hw2.wf0.2.2.2.2.1 hw2.wf0.2.2.2.2.2.2.1) (dX8_settlePool 22 rfl) w_556 w_557 w_558 w_29 w_559 (by decide +kernel) rfl (fun H h => zi_recv K (zr_FL (σ := (spI σ i)) (by decide) H h).1 rfl) (fun H h => h) ⟨Nat.le_of_ble_eq_true rfl, Nat.le_of_ble_eq_true rfl⟩ ⟨hm.1, hm.2⟩ (Nat.le_of_ble_eq_true rfl) rfl rfl ?_
        refine zs_POWN K rfl i rfl hlt6 (dX8_settlePool 23 rfl) ?_
        have e1 : (uL (spI σ i) 9 0 i (v_allPartsOf (spI σ i) 0 i)).2.2 = σ.2.2 := (uL_22 (spI σ i) 9 0 i (v_allPartsOf (spI σ i) 0 i)).trans (spI_22 σ i)
        refine zi_iinc K (v := nI (i + 1)) [(1, .int (nI (i + 1))), (0, .ref (ad 0 0))] (dX8_settlePool 24 rfl) 1 rfl (zk_inc _) (by decide) rfl ?_
        refine zi_goto K 6 (dX8_settlePool 25 rfl) rfl ?_
        refine zV.pick [1, 0] (lo' := [(0, .ref (ad 0 0)), (1, .int (nI (i + 1)))]) rfl ?_
        refine zV.st (σ' := spI σ (i + 1)) (by simp only [spI, if_pos h28_0]) ?_
        exact ih6 (i + 1) (by omega) (by omega)
      · skip
        refine zi_lconst K (dX8_settlePool 17 rfl) zk_l0 ?_
        refine zi_goto K 43 (dX8_settlePool 18 rfl) rfl ?_
        refine zs_POWN K rfl i rfl hlt6 (dX8_settlePool 23 rfl) ?_
        have e2 : (uL (spI σ i) 9 0 i 0).2.2 = σ.2.2 := (uL_22 (spI σ i) 9 0 i 0).trans (spI_22 σ i)
        refine zi_iinc K (v := nI (i + 1)) [(1, .int (nI (i + 1))), (0, .ref (ad 0 0))] (dX8_settlePool 24 rfl) 1 rfl (zk_inc _) (by decide) rfl ?_
        refine zi_goto K 6 (dX8_settlePool 25 rfl) rfl ?_
        refine zV.pick [1, 0] (lo' := [(0, .ref (ad 0 0)), (1, .int (nI (i + 1)))]) rfl ?_
        refine zV.st (σ' := spI σ (i + 1)) (by simp only [spI, if_neg h28_0]) ?_
        exact ih6 (i + 1) (by omega) (by omega)
def s_settlePool (σ : zSt) : zSt := (s_rings (s_spLoop (s_settle σ)))
theorem rings_1 (σ : zSt) : (s_rings σ).1 = σ.1 := by
  unfold s_rings s_goR_PABV s_goR_PCOM s_fill_PABV s_fill_PCOM
  exact (rgL_1 _ _).trans ((gR_1 _ _ _).trans ((zfL_1 _ _ _ _ _).trans ((gR_1 _ _ _).trans ((zcpr_1 _ _ _).trans ((gR_1 _ _ _).trans (zfL_1 _ _ _ _ _))))))
theorem spLoop_22 (σ : zSt) : (s_spLoop σ).2.2 = σ.2.2 := by
  unfold s_spLoop
  exact spI_22 σ 5
theorem spLoop_1 (σ : zSt) : (s_spLoop σ).1 = σ.1 := by
  unfold s_spLoop
  exact spI_1 σ 5
theorem spLoop_W {σ : zSt} (h : zW σ) : zW (s_spLoop σ) ∧ zFs (s_spLoop σ) σ := ⟨h.mv (spLoop_22 σ) (zFs.of1 (spLoop_1 σ) (spLoop_22 σ)), zFs.of1 (spLoop_1 σ) (spLoop_22 σ)⟩
theorem rings_W {σ : zSt} (h : zW σ) : zW (s_rings σ) ∧ zFs (s_rings σ) σ := ⟨h.mv (s_rings_22 σ) (zFs.of1 (rings_1 σ) (s_rings_22 σ)), zFs.of1 (rings_1 σ) (s_rings_22 σ)⟩
theorem settlePool_W {σ : zSt} (h : zW σ) : zW (s_settlePool σ) ∧ zFs (s_settlePool σ) σ := by
  obtain ⟨a1, a2⟩ := settle_W h
  obtain ⟨b1, b2⟩ := spLoop_W a1
  obtain ⟨c1, c2⟩ := rings_W b1
  unfold s_settlePool
  exact ⟨c1, c2.trans (b2.trans a2)⟩
theorem settlePool_gc (σ : zSt) : sgc (s_settlePool σ) = sgc (s_settle σ) ∧ sgs (s_settlePool σ) = sgs (s_settle σ) := by
  unfold s_settlePool
  exact zG_22 ((s_rings_22 (s_spLoop (s_settle σ))).trans (spLoop_22 (s_settle σ)))
set_option maxRecDepth 100000 in
set_option maxHeartbeats 4000000 in
theorem c_settlePool {G : zG} {ad : Nat → Nat → Nat} {σ : zSt}  (hw : zW σ) : zC G yX8_settlePool cX8_settlePool 2 none 16 460 (sgc (s_settlePool σ) - sgc σ) (sgs (s_settlePool σ) - sgs σ) [.ref (ad 0 0)] (zP G ad σ) none (zP G ad (s_settlePool σ )) := by
  refine zC_of (by decide) (Nat.le_of_ble_eq_true rfl) (fun X K E hnm => ?_)
  show zV G X 2 (zP G ad σ) 0 0 0 [(0, .ref (ad 0 0))] []
  have hend := settlePool_gc σ
  refine zV.wd (k' := sgc σ - sgc σ) (n' := sgs σ - sgs σ) (Nat.zero_le _) (Nat.zero_le _) ?_
  refine zi_aload_n K (dX8_settlePool 0 rfl) 0 rfl ?_
  refine zi_callV K (na := 0) [] [] (c_settle (σ := σ) hw.wf0) (dX8_settlePool 1 rfl) w_546 w_548 w_13 w_25 w_549 (by decide +kernel) rfl (fun H h => zi_recv K (zr_O (σ := σ) rfl H h).1 rfl) (fun H h => h) ⟨Nat.le_of_ble_eq_true rfl, Nat.le_of_ble_eq_true rfl⟩ ⟨(zq1 (zLeR σ).1 (settle_W hw).2.2.1.1 (zGle hend).1), (zq1 (zLeR σ).2 (settle_W hw).2.2.1.2 (zGle hend).2)⟩ (Nat.le_of_ble_eq_true rfl) rfl rfl ?_
  have e1 : zSx zQd (s_settle σ) σ := ((settle_W hw).2.1).trans zSx.rf
  refine zV.wd (k' := sgc (s_settle σ) - sgc σ) (n' := sgs (s_settle σ) - sgs σ) (zq2 (zLeR σ).1 (settle_W hw).2.2.1.1) (zq2 (zLeR σ).2 (settle_W hw).2.2.1.2) ?_
  refine zV.pick [0] (lo' := [(0, .ref (ad 0 0))]) rfl ?_
  refine f_spLoop (σ := (s_settle σ))  (settle_W hw).1 ⟨(zq3 (zGle hend).1), (zq3 (zGle hend).2)⟩ K ?_
  have e2 : zSx zQd (s_spLoop (s_settle σ) ) σ := (zSx.of (spLoop_22 (s_settle σ))).trans e1
  refine zi_aload_n K (dX8_settlePool 26 rfl) 0 rfl ?_
  refine zg_O_pool K rfl w_201 (dX8_settlePool 27 rfl) ?_
  refine zi_callV K (na := 0) [] [] (c_rings (σ := (s_spLoop (s_settle σ) )) (spLoop_W (settle_W hw).1).1.2.2.1.2.2.2.1) (dX8_settlePool 28 rfl) w_626 w_627 w_628 w_31 w_629 (by decide +kernel) rfl (fun H h => zi_recv K (zr_POOL (σ := (s_spLoop (s_settle σ) )) rfl H h).1 rfl) (fun H h => h) ⟨Nat.le_of_ble_eq_true rfl, Nat.le_of_ble_eq_true rfl⟩ ⟨(zq3 (zGle hend).1), (zq3 (zGle hend).2)⟩ (Nat.le_of_ble_eq_true rfl) rfl rfl ?_
  have e3 : zSx zQd (s_rings (s_spLoop (s_settle σ) )) σ := (zSx.of (s_rings_22 (s_spLoop (s_settle σ) ))).trans e2
  refine zV.wd (k' := sgc (s_rings (s_spLoop (s_settle σ) )) - sgc σ) (n' := sgs (s_rings (s_spLoop (s_settle σ) )) - sgs σ) (zq4 (zG_22 (σ' := (s_rings (s_spLoop (s_settle σ) ))) (σ := (s_settle σ)) ((s_rings_22 (s_spLoop (s_settle σ) )).trans ((spLoop_22 (s_settle σ)).trans rfl))).1) (zq4 (zG_22 (σ' := (s_rings (s_spLoop (s_settle σ) ))) (σ := (s_settle σ)) ((s_rings_22 (s_spLoop (s_settle σ) )).trans ((spLoop_22 (s_settle σ)).trans rfl))).2) ?_
  exact zi_vret K E (dX8_settlePool 29 rfl) (by first | (unfold s_settlePool; exact Nat.le_refl _) | exact Nat.le_refl _) (by first | (unfold s_settlePool; exact Nat.le_refl _) | exact Nat.le_refl _) rfl (fun H h => by unfold s_settlePool; exact h)
