/-! one scenario played; all -/
theorem happen_fs (σ : zSt) (k : Nat) (a b c : Int32) (hk : 30 ≤ k) : zFs (s_happen σ k a b c) σ := (zFs.uI (by unfold zsT; omega) (Or.inr hk)).trans ((zFs.uI (by unfold zsT; omega) (Or.inr hk)).trans (zFs.uI (by unfold zsT; omega) (Or.inr hk)))
theorem zQn (q : Nat) (h : q < 7 ∨ q = 10) : ¬ zQd q := by unfold zQd; omega
theorem zQd9 : zQd 9 := by unfold zQd; omega
theorem add9_W {σ : zSt} {x : Nat} (h : zW σ) (hz : sZ σ 9 < 12) (hx : zlC σ x) : zW (s_add σ 9 x) ∧ zFs (s_add σ 9 x) σ ∧ sZ (s_add σ 9 x) 9 = sZ σ 9 + 1 := by
  obtain ⟨a1, a2, -⟩ := zLC_add h.2.2.2.2.2.1.1 (by omega) (x := x) hx
  have e : zSx (fun y => y = 9) (s_add σ 9 x) σ := s_add_sx _ _ _ _ rfl
  have hI := (s_add_I σ 9 x).1
  have f : zFs (s_add σ 9 x) σ := ⟨s_add_sx _ _ _ _ zQd9, s_add_mono _ _ _, fun t _ o y => sI_1 hI t o y, fun t _ o _ y => sI_1 hI t o y⟩
  refine ⟨h.fs f ⟨⟨zSx_LC e (by decide) h.2.2.2.1.1, ?_⟩, zSx_LC e (by decide) h.2.2.2.2.1, ⟨a1, by rw [a2]; omega⟩, ⟨zSx_LC e (by decide) h.2.2.2.2.2.2.1.1, ?_⟩, zSx_LC e (by decide) h.2.2.2.2.2.2.2⟩, f, a2⟩
  · rw [zSx_Z e (by decide)]; exact h.2.2.2.1.2
  · rw [zSx_Z e (by decide)]; exact h.2.2.2.2.2.2.1.2
theorem clear9_W {σ : zSt} (h : zW σ) : zW (s_clear σ 9) ∧ zFs (s_clear σ 9) σ ∧ sZ (s_clear σ 9) 9 = 0 := by
  obtain ⟨a1, a2⟩ := zLC_clear h.2.2.2.2.2.1.1
  have e : zSx (fun y => y = 9) (s_clear σ 9) σ := s_clear_sx _ _ _ rfl
  obtain ⟨hI, -, g1, g2⟩ := s_clear_I σ 9
  have f : zFs (s_clear σ 9) σ := ⟨s_clear_sx _ _ _ zQd9, ⟨Nat.le_of_eq g1.symm, Nat.le_of_eq g2.symm⟩, fun t _ o y => sI_1 hI t o y, fun t _ o _ y => sI_1 hI t o y⟩
  refine ⟨h.fs f ⟨⟨zSx_LC e (by decide) h.2.2.2.1.1, ?_⟩, zSx_LC e (by decide) h.2.2.2.2.1, ⟨a1, by rw [a2]; omega⟩, ⟨zSx_LC e (by decide) h.2.2.2.2.2.2.1.1, ?_⟩, zSx_LC e (by decide) h.2.2.2.2.2.2.2⟩, f, a2⟩
  · rw [zSx_Z e (by decide)]; exact h.2.2.2.1.2
  · rw [zSx_Z e (by decide)]; exact h.2.2.2.2.2.2.1.2
def plI (σ : zSt) (c : Nat) : Nat → zSt
  | 0 => σ
  | i + 1 => if (v_damageOf (plI σ c i) c (sP (plI σ c i) (lx σ 4 i))) ≤ 0 then (plI σ c i) else s_add (s_happen (plI σ c i) (lx σ 4 i) (sI (plI σ c i) 23 c 0) (sI (plI σ c i) 23 c 0) (v_damageOf (plI σ c i) c (sP (plI σ c i) (lx σ 4 i)))) 9 (lx σ 4 i)
theorem zW.x4 {σ : zSt} (h : zW σ) {i : Nat} (hi : i < sZ σ 4) : lx σ 4 i = 30 + i ∧ zlC σ (lx σ 4 i) ∧ i < 12 ∧ i < sN σ 0 := by
  have h1 := h.1.2.2.2.2.2.1
  have h2 := h.1.2.1.2
  have h3 := h.2.1.2.2.2.2.1 i (by omega)
  refine ⟨h3, ?_, by omega, by omega⟩
  rw [h3]
  exact Or.inr (by omega)
theorem plI_ok {σ : zSt} {c : Nat} (hw : zW σ) (h0 : sZ σ 9 = 0) (i : Nat) (hi : i ≤ sZ σ 4) : zW (plI σ c i) ∧ zFs (plI σ c i) σ ∧ sZ (plI σ c i) 9 ≤ i := by
  induction i with
  | zero => exact ⟨hw, zFs.rf, Nat.le_of_eq h0⟩
  | succ i ih =>
    obtain ⟨a1, a2, a3⟩ := ih (by omega)
    obtain ⟨x1, x2, x3, x4⟩ := hw.x4 (show i < sZ σ 4 by omega)
    simp only [plI]
    split
    · exact ⟨a1, a2, by omega⟩
    · have f : zFs (s_happen (plI σ c i) (lx σ 4 i) (sI (plI σ c i) 23 c 0) (sI (plI σ c i) 23 c 0) (v_damageOf (plI σ c i) c (sP (plI σ c i) (lx σ 4 i)))) (plI σ c i) := happen_fs _ _ _ _ _ (by omega)
      have b1 : zW (s_happen (plI σ c i) (lx σ 4 i) (sI (plI σ c i) 23 c 0) (sI (plI σ c i) 23 c 0) (v_damageOf (plI σ c i) c (sP (plI σ c i) (lx σ 4 i)))) := a1.mv (s_happen_22 _ _ _ _ _) f
      have bz : sZ (s_happen (plI σ c i) (lx σ 4 i) (sI (plI σ c i) 23 c 0) (sI (plI σ c i) 23 c 0) (v_damageOf (plI σ c i) c (sP (plI σ c i) (lx σ 4 i)))) 9 = sZ (plI σ c i) 9 := zZ_mv (s_happen_22 _ _ _ _ _) 9
      obtain ⟨c1, c2, c3⟩ := add9_W (x := (lx σ 4 i)) b1 (by omega) (zSx_C (f.trans a2).1 x2)
      exact ⟨c1, c2.trans (f.trans a2), by omega⟩
theorem plI_mono {σ : zSt} {c : Nat} {i n : Nat} (h : i ≤ n) : sgc (plI σ c i) ≤ sgc (plI σ c n) ∧ sgs (plI σ c i) ≤ sgs (plI σ c n) := by
  induction n with
  | zero => rw [show i = 0 by omega]; exact ⟨Nat.le_refl _, Nat.le_refl _⟩
  | succ n ih =>
    by_cases e : i = n + 1
    · subst e; exact ⟨Nat.le_refl _, Nat.le_refl _⟩
    · refine zLeT (ih (by omega)) ?_
      simp only [plI]
      split
      · exact ⟨Nat.le_refl _, Nat.le_refl _⟩
      · exact zLeT (zGle (zG_22 (s_happen_22 _ _ _ _ _))) (s_add_mono _ _ _)
def s_playFill (σ : zSt) (c : Nat) : zSt := (plI σ c (sZ σ 4))
set_option maxRecDepth 100000 in
set_option maxHeartbeats 4000000 in
theorem f_playFill {G : zG} {X : zX} {ad : Nat → Nat → Nat} {σ : zSt} (c : Nat) (hw : zW σ) (hc : c < sN σ 3) (h90 : sZ σ 9 = 0) {k n mc ms : Nat} (hm : k + (sgc (s_playFill σ c) - sgc σ) ≤ mc ∧ n + (sgs (s_playFill σ c) - sgs σ) ≤ ms) (K : zK G X cX8_play RX8 5 none { frames := 16, cells := mc, slots := ms, locals := 480 }) (kk : zV G X 5 (zP G ad (s_playFill σ c)) (k + (sgc (s_playFill σ c) - sgc σ)) (n + (sgs (s_playFill σ c) - sgs σ)) 82 [(0, .ref (ad 0 0)), (1, .ref (ad 9 c))] []) : zV G X 5 (zP G ad σ) k n 10 [(0, .ref (ad 0 0)), (1, .ref (ad 9 c))] [] := by
  refine zV.wd (k' := k + (sgc σ - sgc σ)) (n' := n + (sgs σ - sgs σ)) (Nat.le_add_right _ _) (Nat.le_add_right _ _) ?_
  refine zi_iconst K (dX8_play 4 rfl) zk_i0 ?_
  refine zi_istore_n K [(2, .int 0), (0, .ref (ad 0 0)), (1, .ref (ad 9 c))] (dX8_play 5 rfl) (by decide) rfl ?_
  refine zV.pick [1, 2, 0] (lo' := [(0, .ref (ad 0 0)), (1, .ref (ad 9 c)), (2, .int 0)]) rfl ?_
  refine zV.wd (k' := k + (sgc (plI σ c 0) - sgc σ)) (n' := n + (sgs (plI σ c 0) - sgs σ)) (Nat.le_refl _) (Nat.le_refl _) ?_
  suffices hloop12 : ∀ (r i : Nat), i ≤ sZ σ 4 → sZ σ 4 - i < r → zV G X 5 (zP G ad (plI σ c i)) (k + (sgc (plI σ c i) - sgc σ)) (n + (sgs (plI σ c i) - sgs σ)) 12 [(0, .ref (ad 0 0)), (1, .ref (ad 9 c)), (2, .int (nI i))] [] from hloop12 (sZ σ 4 + 1) 0 (Nat.zero_le _) (Nat.lt_succ_of_le (Nat.sub_le _ _))
  intro r
  induction r with
  | zero => intro i _ h; exact absurd h (Nat.not_lt_zero _)
  | succ r ih12 =>
    intro i hi12 hr12
    have hI := plI_ok (c := c) hw h90 i hi12
    have hP := hI.1.P
    refine zi_iload_n K (dX8_play 6 rfl) 2 rfl ?_
    refine zi_aload_n K (dX8_play 7 rfl) 0 rfl ?_
    refine zg_O_damages K rfl w_198 (dX8_play 8 rfl) ?_
    refine zi_callV K (na := 0) [.int (nI i)] [.int (nI (sZ σ 4)), .int (nI i)] (c_sizeN (σ := (plI σ c i)) 4 (sZ σ 4) (zL_ok ((hw).1.1 4 (by omega)).1).1 (zSx_Z hI.2.1.1 (zQn 4 (by decide)))) (dX8_play 9 rfl) w_230 w_231 w_232 w_28 w_233 (by decide +kernel) rfl (fun H h => zrecv_LST K (zL_ok ((hw).1.1 4 (by omega)).1).1 h) (fun H h => h) ⟨Nat.le_of_ble_eq_true rfl, Nat.le_of_ble_eq_true rfl⟩ ⟨(zr3 (plI_mono (c := c) hi12).1 hm.1), (zr3 (plI_mono (c := c) hi12).2 hm.2)⟩ (Nat.le_of_ble_eq_true rfl) rfl rfl ?_
    refine zi_icmp_ge K 82 (dX8_play 10 rfl) rfl (fun h20_0 => ?_) (fun h20_0 => ?_)
    · skip
      have hN12 := zloop_exit rfl (zL_b (hw.1.1 4 (by omega)).1) hi12 h20_0
      subst hN12
      refine zV.pick [0, 1] (lo' := [(0, .ref (ad 0 0)), (1, .ref (ad 9 c))]) rfl ?_
      have hSe : s_playFill σ c = (plI σ c (sZ σ 4)) := rfl
      rw [hSe] at kk
      exact kk
    · skip
      have hlt12 := zloop_in rfl (zL_b (hw.1.1 4 (by omega)).1) hi12 h20_0
      refine zi_aload_n K (dX8_play 11 rfl) 0 rfl ?_
      refine zg_O_damages K rfl w_198 (dX8_play 12 rfl) ?_
      refine zi_iload_n K (dX8_play 13 rfl) 2 rfl ?_
      refine zi_callV K (na := 1) [] [.ref (ad 2 (lx σ 4 i))] (c_getK (σ := (plI σ c i)) 4 i (lx σ 4 i) 2 rfl (zL_ok (zSx_LW hI.2.1.1 (zQn 4 (by decide)) ((hw).1.1 4 (by omega)).1)) ((zSx_Z hI.2.1.1 (zQn 4 (by decide))).symm ▸ hlt12) ((zSx_E hI.2.1.1 (zQn 4 (by decide)) i).trans (zL_x ((hw).1.1 4 (by omega)).1 hlt12))) (dX8_play 14 rfl) w_309 w_310 w_311 w_28 w_312 (by decide +kernel) rfl (fun H h => zrecv_LST K (zL_ok ((hw).1.1 4 (by omega)).1).1 h) (fun H h => h) ⟨Nat.le_of_ble_eq_true rfl, Nat.le_of_ble_eq_true rfl⟩ ⟨(zr3 (plI_mono (c := c) hi12).1 hm.1), (zr3 (plI_mono (c := c) hi12).2 hm.2)⟩ (Nat.le_of_ble_eq_true rfl) rfl rfl ?_
      refine zi_cast K (fun H h => (zr_CL (σ := (plI σ c i)) (zSx_C hI.2.1.1 (zL_lv ((hw).1.1 4 (by omega)).1 hlt12 rfl)) H h).1) rfl w_603 (dX8_play 15 rfl) ?_
      refine zi_astore_n K [(3, .ref (ad 2 (lx σ 4 i))), (0, .ref (ad 0 0)), (1, .ref (ad 9 c)), (2, .int (nI i))] (dX8_play 16 rfl) (by decide) rfl ?_
      refine zi_aload_n K (dX8_play 17 rfl) 2 rfl ?_
      refine zi_aload_n K (dX8_play 18 rfl) 0 rfl ?_
      refine zg_CL_policy K (zSx_C hI.2.1.1 (zL_lv ((hw).1.1 4 (by omega)).1 hlt12 rfl)) w_739 (dX8_play 19 rfl) ?_
      refine zi_callV K (na := 1) [] [.int (v_damageOf (plI σ c i) c (sP (plI σ c i) (lx σ 4 i)))] (c_damageOf (σ := (plI σ c i)) c (sP (plI σ c i) (lx σ 4 i)) (zSx_N hI.2.1.1 hc) (hI.1.P _ (zSx_C hI.2.1.1 (zL_lv ((hw).1.1 4 (by omega)).1 hlt12 rfl))) (hI.1.2.2.1.2.1 _ (hI.1.P _ (zSx_C hI.2.1.1 (zL_lv ((hw).1.1 4 (by omega)).1 hlt12 rfl)))).1 (hI.1.2.2.1.2.1 _ (hI.1.P _ (zSx_C hI.2.1.1 (zL_lv ((hw).1.1 4 (by omega)).1 hlt12 rfl)))).2) (dX8_play 20 rfl) w_604 w_605 w_606 w_57 w_607 (by decide +kernel) rfl (fun H h => zi_recv K (zr_SC (σ := (plI σ c i)) (zSx_N hI.2.1.1 hc) H h).1 rfl) (fun H h => h) ⟨Nat.le_of_ble_eq_true rfl, Nat.le_of_ble_eq_true rfl⟩ ⟨(zr3 (plI_mono (c := c) hi12).1 hm.1), (zr3 (plI_mono (c := c) hi12).2 hm.2)⟩ (Nat.le_of_ble_eq_true rfl) rfl rfl ?_
      refine zi_istore K [(4, .int (v_damageOf (plI σ c i) c (sP (plI σ c i) (lx σ 4 i)))), (3, .ref (ad 2 (lx σ 4 i))), (0, .ref (ad 0 0)), (1, .ref (ad 9 c)), (2, .int (nI i))] (dX8_play 21 rfl) (by decide) rfl ?_
      refine zi_iload K (dX8_play 22 rfl) 0 rfl ?_
      refine zi_if_le K 76 (dX8_play 23 rfl) rfl (fun h47_0 => ?_) (fun h47_0 => ?_)
      · skip
        refine zi_iinc K (v := nI (i + 1)) [(2, .int (nI (i + 1))), (4, .int (v_damageOf (plI σ c i) c (sP (plI σ c i) (lx σ 4 i)))), (3, .ref (ad 2 (lx σ 4 i))), (0, .ref (ad 0 0)), (1, .ref (ad 9 c))] (dX8_play 37 rfl) 4 rfl (zk_inc _) (by decide) rfl ?_
        refine zi_goto K 12 (dX8_play 38 rfl) rfl ?_
        refine zV.pick [3, 4, 0] (lo' := [(0, .ref (ad 0 0)), (1, .ref (ad 9 c)), (2, .int (nI (i + 1)))]) rfl ?_
        have hSx : plI σ c (i + 1) = (plI σ c i) := (by simp only [plI, if_pos h47_0])
        have ihx := ih12 (i + 1) (by omega) (by omega)
        rw [hSx] at ihx
        exact ihx
      · skip
        refine zi_aload_n K (dX8_play 24 rfl) 1 rfl ?_
        refine zi_aload_n K (dX8_play 25 rfl) 3 rfl ?_
        refine zg_SC_day K (zSx_N hI.2.1.1 hc) w_1315 (dX8_play 26 rfl) ?_
        refine zi_aload_n K (dX8_play 27 rfl) 3 rfl ?_
        refine zg_SC_day K (zSx_N hI.2.1.1 hc) w_1315 (dX8_play 28 rfl) ?_
        refine zi_iload K (dX8_play 29 rfl) 0 rfl ?_
        refine zi_callV K (na := 3) [] [] (c_happen (σ := (plI σ c i)) (lx σ 4 i) (sI (plI σ c i) 23 c 0) (sI (plI σ c i) 23 c 0) (v_damageOf (plI σ c i) c (sP (plI σ c i) (lx σ 4 i))) (zSx_C hI.2.1.1 (zL_lv ((hw).1.1 4 (by omega)).1 hlt12 rfl))) (dX8_play 30 rfl) w_613 w_614 w_615 w_42 w_616 (by decide +kernel) rfl (fun H h => zi_recv K (zr_CL (σ := (plI σ c i)) (zSx_C hI.2.1.1 (zL_lv ((hw).1.1 4 (by omega)).1 hlt12 rfl)) H h).1 rfl) (fun H h => h) ⟨Nat.le_of_ble_eq_true rfl, Nat.le_of_ble_eq_true rfl⟩ ⟨(zr3 (plI_mono (c := c) hi12).1 hm.1), (zr3 (plI_mono (c := c) hi12).2 hm.2)⟩ (Nat.le_of_ble_eq_true rfl) rfl rfl ?_
        have e1 : zSx zQd (s_happen (plI σ c i) (lx σ 4 i) (sI (plI σ c i) 23 c 0) (sI (plI σ c i) 23 c 0) (v_damageOf (plI σ c i) c (sP (plI σ c i) (lx σ 4 i)))) σ := (zSx.of (s_happen_22 (plI σ c i) (lx σ 4 i) (sI (plI σ c i) 23 c 0) (sI (plI σ c i) 23 c 0) (v_damageOf (plI σ c i) c (sP (plI σ c i) (lx σ 4 i))))).trans hI.2.1.1
        refine zi_aload_n K (dX8_play 31 rfl) 2 rfl ?_
        refine zg_O_trial K rfl w_200 (dX8_play 32 rfl) ?_
        refine zg_FL_claims K (by decide) w_133 (dX8_play 33 rfl) ?_
        refine zi_aload_n K (dX8_play 34 rfl) 1 rfl ?_
        have h9 : zLC (s_happen (plI σ c i) (lx σ 4 i) (sI (plI σ c i) 23 c 0) (sI (plI σ c i) 23 c 0) (v_damageOf (plI σ c i) c (sP (plI σ c i) (lx σ 4 i)))) 9 := zLC_mv (s_happen_22 (plI σ c i) (lx σ 4 i) (sI (plI σ c i) 23 c 0) (sI (plI σ c i) 23 c 0) (v_damageOf (plI σ c i) c (sP (plI σ c i) (lx σ 4 i)))) hI.1.2.2.2.2.2.1.1
        have hup : sgc (plI σ c i) ≤ sgc (s_happen (plI σ c i) (lx σ 4 i) (sI (plI σ c i) 23 c 0) (sI (plI σ c i) 23 c 0) (v_damageOf (plI σ c i) c (sP (plI σ c i) (lx σ 4 i)))) ∧ sgs (plI σ c i) ≤ sgs (s_happen (plI σ c i) (lx σ 4 i) (sI (plI σ c i) 23 c 0) (sI (plI σ c i) 23 c 0) (v_damageOf (plI σ c i) c (sP (plI σ c i) (lx σ 4 i)))) := zGle (zG_22 (s_happen_22 (plI σ c i) (lx σ 4 i) (sI (plI σ c i) 23 c 0) (sI (plI σ c i) 23 c 0) (v_damageOf (plI σ c i) c (sP (plI σ c i) (lx σ 4 i)))))
        have hE : plI σ c (i + 1) = (s_add (s_happen (plI σ c i) (lx σ 4 i) (sI (plI σ c i) 23 c 0) (sI (plI σ c i) 23 c 0) (v_damageOf (plI σ c i) c (sP (plI σ c i) (lx σ 4 i)))) 9 (lx σ 4 i)) := by simp only [plI, if_neg h47_0]
        have hto : sgc (s_add (s_happen (plI σ c i) (lx σ 4 i) (sI (plI σ c i) 23 c 0) (sI (plI σ c i) 23 c 0) (v_damageOf (plI σ c i) c (sP (plI σ c i) (lx σ 4 i)))) 9 (lx σ 4 i)) ≤ sgc (plI σ c (sZ σ 4)) ∧ sgs (s_add (s_happen (plI σ c i) (lx σ 4 i) (sI (plI σ c i) 23 c 0) (sI (plI σ c i) 23 c 0) (v_damageOf (plI σ c i) c (sP (plI σ c i) (lx σ 4 i)))) 9 (lx σ 4 i)) ≤ sgs (plI σ c (sZ σ 4)) := by rw [← hE]; exact plI_mono hlt12
        refine zV.wd (k' := k + (sgc (s_happen (plI σ c i) (lx σ 4 i) (sI (plI σ c i) 23 c 0) (sI (plI σ c i) 23 c 0) (v_damageOf (plI σ c i) c (sP (plI σ c i) (lx σ 4 i)))) - sgc σ)) (n' := n + (sgs (s_happen (plI σ c i) (lx σ 4 i) (sI (plI σ c i) 23 c 0) (sI (plI σ c i) 23 c 0) (v_damageOf (plI σ c i) c (sP (plI σ c i) (lx σ 4 i)))) - sgs σ)) (zr4 (zG_22 (σ' := (s_happen (plI σ c i) (lx σ 4 i) (sI (plI σ c i) 23 c 0) (sI (plI σ c i) 23 c 0) (v_damageOf (plI σ c i) c (sP (plI σ c i) (lx σ 4 i))))) (σ := (plI σ c i)) ((s_happen_22 (plI σ c i) (lx σ 4 i) (sI (plI σ c i) 23 c 0) (sI (plI σ c i) 23 c 0) (v_damageOf (plI σ c i) c (sP (plI σ c i) (lx σ 4 i)))).trans rfl)).1) (zr4 (zG_22 (σ' := (s_happen (plI σ c i) (lx σ 4 i) (sI (plI σ c i) 23 c 0) (sI (plI σ c i) 23 c 0) (v_damageOf (plI σ c i) c (sP (plI σ c i) (lx σ 4 i))))) (σ := (plI σ c i)) ((s_happen_22 (plI σ c i) (lx σ 4 i) (sI (plI σ c i) 23 c 0) (sI (plI σ c i) 23 c 0) (v_damageOf (plI σ c i) c (sP (plI σ c i) (lx σ 4 i)))).trans rfl)).2) ?_
        refine zi_callV K (na := 1) [] [.int 1] (c_addA (σ := (s_happen (plI σ c i) (lx σ 4 i) (sI (plI σ c i) 23 c 0) (sI (plI σ c i) 23 c 0) (v_damageOf (plI σ c i) c (sP (plI σ c i) (lx σ 4 i))))) 9 (lx σ 4 i) 2 rfl (zL_ok h9.1) (zLC_2 h9) (zSx_C e1 (zL_lv ((hw).1.1 4 (by omega)).1 hlt12 rfl))) (dX8_play 35 rfl) w_617 w_436 w_437 w_28 w_438 (by decide +kernel) rfl (fun H h => zrecv_LST K (zL_ok h9.1).1 h) (fun H h => h) ⟨Nat.le_of_ble_eq_true rfl, Nat.le_of_ble_eq_true rfl⟩ ⟨(zr1 (zLeT hI.2.1.2.1 hup).1 (s_add_mono (s_happen (plI σ c i) (lx σ 4 i) (sI (plI σ c i) 23 c 0) (sI (plI σ c i) 23 c 0) (v_damageOf (plI σ c i) c (sP (plI σ c i) (lx σ 4 i)))) 9 (lx σ 4 i)).1 hto.1 hm.1), (zr1 (zLeT hI.2.1.2.1 hup).2 (s_add_mono (s_happen (plI σ c i) (lx σ 4 i) (sI (plI σ c i) 23 c 0) (sI (plI σ c i) 23 c 0) (v_damageOf (plI σ c i) c (sP (plI σ c i) (lx σ 4 i)))) 9 (lx σ 4 i)).2 hto.2 hm.2)⟩ (Nat.le_of_ble_eq_true rfl) rfl rfl ?_
        have e2 : zSx zQd (s_add (s_happen (plI σ c i) (lx σ 4 i) (sI (plI σ c i) 23 c 0) (sI (plI σ c i) 23 c 0) (v_damageOf (plI σ c i) c (sP (plI σ c i) (lx σ 4 i)))) 9 (lx σ 4 i)) σ := (s_add_sx (s_happen (plI σ c i) (lx σ 4 i) (sI (plI σ c i) 23 c 0) (sI (plI σ c i) 23 c 0) (v_damageOf (plI σ c i) c (sP (plI σ c i) (lx σ 4 i)))) 9 (lx σ 4 i) zQd zQd9).trans e1
        refine zV.wd (k' := k + (sgc (s_add (s_happen (plI σ c i) (lx σ 4 i) (sI (plI σ c i) 23 c 0) (sI (plI σ c i) 23 c 0) (v_damageOf (plI σ c i) c (sP (plI σ c i) (lx σ 4 i)))) 9 (lx σ 4 i)) - sgc σ)) (n' := n + (sgs (s_add (s_happen (plI σ c i) (lx σ 4 i) (sI (plI σ c i) 23 c 0) (sI (plI σ c i) 23 c 0) (v_damageOf (plI σ c i) c (sP (plI σ c i) (lx σ 4 i)))) 9 (lx σ 4 i)) - sgs σ)) (zr2 (zLeT hI.2.1.2.1 hup).1 (s_add_mono (s_happen (plI σ c i) (lx σ 4 i) (sI (plI σ c i) 23 c 0) (sI (plI σ c i) 23 c 0) (v_damageOf (plI σ c i) c (sP (plI σ c i) (lx σ 4 i)))) 9 (lx σ 4 i)).1) (zr2 (zLeT hI.2.1.2.1 hup).2 (s_add_mono (s_happen (plI σ c i) (lx σ 4 i) (sI (plI σ c i) 23 c 0) (sI (plI σ c i) 23 c 0) (v_damageOf (plI σ c i) c (sP (plI σ c i) (lx σ 4 i)))) 9 (lx σ 4 i)).2) ?_
        refine zi_pop K (dX8_play 36 rfl) rfl ?_
        refine zi_iinc K (v := nI (i + 1)) [(2, .int (nI (i + 1))), (4, .int (v_damageOf (plI σ c i) c (sP (plI σ c i) (lx σ 4 i)))), (3, .ref (ad 2 (lx σ 4 i))), (0, .ref (ad 0 0)), (1, .ref (ad 9 c))] (dX8_play 37 rfl) 4 rfl (zk_inc _) (by decide) rfl ?_
        refine zi_goto K 12 (dX8_play 38 rfl) rfl ?_
        refine zV.pick [3, 4, 0] (lo' := [(0, .ref (ad 0 0)), (1, .ref (ad 9 c)), (2, .int (nI (i + 1)))]) rfl ?_
        have hSx : plI σ c (i + 1) = (s_add (s_happen (plI σ c i) (lx σ 4 i) (sI (plI σ c i) 23 c 0) (sI (plI σ c i) 23 c 0) (v_damageOf (plI σ c i) c (sP (plI σ c i) (lx σ 4 i)))) 9 (lx σ 4 i)) := (by simp only [plI, if_neg h47_0])
        have ihx := ih12 (i + 1) (by omega) (by omega)
        rw [hSx] at ihx
        exact ihx
def s_play (σ : zSt) (c : Nat) : zSt := (uL (s_run (s_playFill (s_clear σ 9) c) 1 (-1)) 6 c 0 (v_allLeft (s_run (s_playFill (s_clear σ 9) c) 1 (-1)) 1))
theorem playFill_ok {σ : zSt} {c : Nat} (hw : zW σ) (h0 : sZ σ 9 = 0) : zW (s_playFill σ c) ∧ zFs (s_playFill σ c) σ := by
  obtain ⟨a, b, -⟩ := plI_ok (c := c) hw h0 (sZ σ 4) (Nat.le_refl _)
  unfold s_playFill
  exact ⟨a, b⟩
theorem play_pre {σ : zSt} (c : Nat) (hw : zW σ) : (zW (s_clear σ 9) ∧ zFs (s_clear σ 9) σ ∧ sZ (s_clear σ 9) 9 = 0) ∧ (zW (s_playFill (s_clear σ 9) c) ∧ zFs (s_playFill (s_clear σ 9) c) (s_clear σ 9)) ∧ (zW (s_run (s_playFill (s_clear σ 9) c) 1 (-1)) ∧ zFr 1 (s_run (s_playFill (s_clear σ 9) c) 1 (-1)) (s_playFill (s_clear σ 9) c)) := by
  have a := clear9_W hw
  have b := playFill_ok (c := c) a.1 a.2.2
  exact ⟨a, b, run1_W b.1⟩
theorem play_W {σ : zSt} {c : Nat} (hw : zW σ) : zW (s_play σ c) ∧ zFs (s_play σ c) σ := by
  obtain ⟨a, b, d⟩ := play_pre c hw
  have e : zFs (s_play σ c) (s_run (s_playFill (s_clear σ 9) c) 1 (-1)) := zFs.of (uL_22 _ _ _ _ _) (fun _ _ _ _ => rfl)
  exact ⟨d.1.mv (uL_22 _ _ _ _ _) e, e.trans ((d.2.fs (by decide)).trans (b.2.trans a.2.1))⟩
theorem play_gc (σ : zSt) (c : Nat) : sgc (s_play σ c) = sgc (s_run (s_playFill (s_clear σ 9) c) 1 (-1)) ∧ sgs (s_play σ c) = sgs (s_run (s_playFill (s_clear σ 9) c) 1 (-1)) := by
  unfold s_play
  exact zG_22 (uL_22 _ _ _ _ _)
set_option maxRecDepth 100000 in
set_option maxHeartbeats 4000000 in
theorem c_play {G : zG} {ad : Nat → Nat → Nat} {σ : zSt} (c : Nat) (hw : zW σ) (hc : c < sN σ 3) : zC G yX8_play cX8_play 5 none 16 480 (sgc (s_play σ c) - sgc σ) (sgs (s_play σ c) - sgs σ) [.ref (ad 0 0), .ref (ad 9 c)] (zP G ad σ) none (zP G ad (s_play σ c)) := by
  refine zC_of (by decide) (Nat.le_of_ble_eq_true rfl) (fun X K E hnm => ?_)
  show zV G X 5 (zP G ad σ) 0 0 0 [(0, .ref (ad 0 0)), (1, .ref (ad 9 c))] []
  have hpre := play_pre c hw
  have hend := play_gc σ c
  refine zV.wd (k' := sgc σ - sgc σ) (n' := sgs σ - sgs σ) (Nat.zero_le _) (Nat.zero_le _) ?_
  refine zi_aload_n K (dX8_play 0 rfl) 0 rfl ?_
  refine zg_O_trial K rfl w_200 (dX8_play 1 rfl) ?_
  refine zg_FL_claims K (by decide) w_133 (dX8_play 2 rfl) ?_
  refine zi_callV K (na := 0) [] [] (c_clear (σ := σ) 9 (zL_ok hw.2.2.2.2.2.1.1.1)) (dX8_play 3 rfl) w_602 w_432 w_433 w_28 w_434 (by decide +kernel) rfl (fun H h => zrecv_LST K (zL_ok hw.2.2.2.2.2.1.1.1).1 h) (fun H h => h) ⟨Nat.le_of_ble_eq_true rfl, Nat.le_of_ble_eq_true rfl⟩ ⟨(zq3 (play_W hw).2.2.1.1), (zq3 (play_W hw).2.2.1.2)⟩ (Nat.le_of_ble_eq_true rfl) rfl rfl ?_
  refine zV.wd (k' := sgc (s_clear σ 9) - sgc σ) (n' := sgs (s_clear σ 9) - sgs σ) (zq4 (s_clear_I σ 9).2.2.1) (zq4 (s_clear_I σ 9).2.2.2) ?_
  have e1 : zSx zQd (s_clear σ 9) σ := (s_clear_sx σ 9 zQd zQd9).trans zSx.rf
  refine zV.pick [0, 1] (lo' := [(0, .ref (ad 0 0)), (1, .ref (ad 9 c))]) rfl ?_
  refine f_playFill (σ := (s_clear σ 9)) c hpre.1.1 (zSx_N e1 hc) hpre.1.2.2 ⟨(zq1 hpre.1.2.1.2.1.1 hpre.2.1.2.2.1.1 (zLeT hpre.2.2.2.2.1 (zGle hend)).1), (zq1 hpre.1.2.1.2.1.2 hpre.2.1.2.2.1.2 (zLeT hpre.2.2.2.2.1 (zGle hend)).2)⟩ K ?_
  have e2 : zSx zQd (s_playFill (s_clear σ 9) c) σ := (hpre.2.1.2.1).trans e1
  refine zV.wd (k' := sgc (s_playFill (s_clear σ 9) c) - sgc σ) (n' := sgs (s_playFill (s_clear σ 9) c) - sgs σ) (zq2 hpre.1.2.1.2.1.1 hpre.2.1.2.2.1.1) (zq2 hpre.1.2.1.2.1.2 hpre.2.1.2.2.1.2) ?_
  refine zi_aload_n K (dX8_play 39 rfl) 0 rfl ?_
  refine zg_O_trial K rfl w_200 (dX8_play 40 rfl) ?_
  refine zi_iconst K (dX8_play 41 rfl) zk_im1 ?_
  refine zi_callV K (na := 1) [] [] (c_run (σ := (s_playFill (s_clear σ 9) c)) 1 (-1) (by decide : 1 < 2) hpre.2.1.1.wf1) (dX8_play 42 rfl) w_550 w_348 w_349 w_29 w_350 (by decide +kernel) rfl (fun H h => zi_recv K (zr_FL (σ := (s_playFill (s_clear σ 9) c)) (by decide) H h).1 rfl) (fun H h => h) ⟨Nat.le_of_ble_eq_true rfl, Nat.le_of_ble_eq_true rfl⟩ ⟨(zq1 (hpre.2.1.2.trans hpre.1.2.1).2.1.1 (run_ok (tr := (-1)) (by decide : 1 < 2) hpre.2.1.1.wf1).2.2.2.2.2.2.2.1.1 (zGle hend).1), (zq1 (hpre.2.1.2.trans hpre.1.2.1).2.1.2 (run_ok (tr := (-1)) (by decide : 1 < 2) hpre.2.1.1.wf1).2.2.2.2.2.2.2.1.2 (zGle hend).2)⟩ (Nat.le_of_ble_eq_true rfl) rfl rfl ?_
  have e3 : zSx zQd (s_run (s_playFill (s_clear σ 9) c) 1 (-1)) σ := (zSx.wk (zQbd (by decide)) ((run_ok (tr := (-1)) (by decide : 1 < 2) hpre.2.1.1.wf1).2.2.2.2.2.2.1)).trans e2
  refine zV.wd (k' := sgc (s_run (s_playFill (s_clear σ 9) c) 1 (-1)) - sgc σ) (n' := sgs (s_run (s_playFill (s_clear σ 9) c) 1 (-1)) - sgs σ) (zq2 (hpre.2.1.2.trans hpre.1.2.1).2.1.1 (run_ok (tr := (-1)) (by decide : 1 < 2) hpre.2.1.1.wf1).2.2.2.2.2.2.2.1.1) (zq2 (hpre.2.1.2.trans hpre.1.2.1).2.1.2 (run_ok (tr := (-1)) (by decide : 1 < 2) hpre.2.1.1.wf1).2.2.2.2.2.2.2.1.2) ?_
  refine zi_aload_n K (dX8_play 43 rfl) 1 rfl ?_
  refine zi_aload_n K (dX8_play 44 rfl) 0 rfl ?_
  refine zg_O_trial K rfl w_200 (dX8_play 45 rfl) ?_
  refine zi_callV K (na := 0) [.ref (ad 9 c)] [.long (v_allLeft (s_run (s_playFill (s_clear σ 9) c) 1 (-1)) 1), .ref (ad 9 c)] (c_allLeft (σ := (s_run (s_playFill (s_clear σ 9) c) 1 (-1))) 1 (by decide) hpre.2.2.1.wf1.2.2.2.2.1) (dX8_play 46 rfl) w_551 w_552 w_553 w_29 w_554 (by decide +kernel) rfl (fun H h => zi_recv K (zr_FL (σ := (s_run (s_playFill (s_clear σ 9) c) 1 (-1))) (by decide) H h).1 rfl) (fun H h => h) ⟨Nat.le_of_ble_eq_true rfl, Nat.le_of_ble_eq_true rfl⟩ ⟨(zq3 (zGle hend).1), (zq3 (zGle hend).2)⟩ (Nat.le_of_ble_eq_true rfl) rfl rfl ?_
  refine zp_SC_net K (zSx_N e3 hc) w_1321 (dX8_play 47 rfl) ?_
  have e4 : zSx zQd (uL (s_run (s_playFill (s_clear σ 9) c) 1 (-1)) 6 c 0 (v_allLeft (s_run (s_playFill (s_clear σ 9) c) 1 (-1)) 1)) σ := (zSx.of (uL_22 (s_run (s_playFill (s_clear σ 9) c) 1 (-1)) 6 c 0 (v_allLeft (s_run (s_playFill (s_clear σ 9) c) 1 (-1)) 1))).trans e3
  refine zV.wd (k' := sgc (uL (s_run (s_playFill (s_clear σ 9) c) 1 (-1)) 6 c 0 (v_allLeft (s_run (s_playFill (s_clear σ 9) c) 1 (-1)) 1)) - sgc σ) (n' := sgs (uL (s_run (s_playFill (s_clear σ 9) c) 1 (-1)) 6 c 0 (v_allLeft (s_run (s_playFill (s_clear σ 9) c) 1 (-1)) 1)) - sgs σ) (zq4 (zG_22 (σ' := (uL (s_run (s_playFill (s_clear σ 9) c) 1 (-1)) 6 c 0 (v_allLeft (s_run (s_playFill (s_clear σ 9) c) 1 (-1)) 1))) (σ := (s_run (s_playFill (s_clear σ 9) c) 1 (-1))) ((uL_22 (s_run (s_playFill (s_clear σ 9) c) 1 (-1)) 6 c 0 (v_allLeft (s_run (s_playFill (s_clear σ 9) c) 1 (-1)) 1)).trans rfl)).1) (zq4 (zG_22 (σ' := (uL (s_run (s_playFill (s_clear σ 9) c) 1 (-1)) 6 c 0 (v_allLeft (s_run (s_playFill (s_clear σ 9) c) 1 (-1)) 1))) (σ := (s_run (s_playFill (s_clear σ 9) c) 1 (-1))) ((uL_22 (s_run (s_playFill (s_clear σ 9) c) 1 (-1)) 6 c 0 (v_allLeft (s_run (s_playFill (s_clear σ 9) c) 1 (-1)) 1)).trans rfl)).2) ?_
  exact zi_vret K E (dX8_play 48 rfl) (by first | (unfold s_play; exact Nat.le_refl _) | exact Nat.le_refl _) (by first | (unfold s_play; exact Nat.le_refl _) | exact Nat.le_refl _) rfl (fun H h => by unfold s_play; exact h)
def paI (σ : zSt) : Nat → zSt
  | 0 => σ
  | i + 1 => s_play (paI σ i) (lx σ 3 i)
theorem paI_ok {σ : zSt} (hw : zW σ) (i : Nat) : zW (paI σ i) ∧ zFs (paI σ i) σ := by
  induction i with
  | zero => exact ⟨hw, zFs.rf⟩
  | succ i ih => exact ⟨(play_W ih.1).1, (play_W ih.1).2.trans ih.2⟩
theorem paI_mono {σ : zSt} (hw : zW σ) {i n : Nat} (h : i ≤ n) : sgc (paI σ i) ≤ sgc (paI σ n) ∧ sgs (paI σ i) ≤ sgs (paI σ n) := by
  induction n with
  | zero => rw [show i = 0 by omega]; exact ⟨Nat.le_refl _, Nat.le_refl _⟩
  | succ n ih =>
    by_cases e : i = n + 1
    · subst e; exact ⟨Nat.le_refl _, Nat.le_refl _⟩
    · refine zLeT (ih (by omega)) ?_
      simp only [paI]
      exact (play_W (c := lx σ 3 n) (paI_ok hw n).1).2.2.1
def s_playAll (σ : zSt)  : zSt := (paI σ (sZ σ 3))
set_option maxRecDepth 100000 in
set_option maxHeartbeats 4000000 in
theorem c_playAll {G : zG} {ad : Nat → Nat → Nat} {σ : zSt}  (hw : zW σ) : zC G yX8_playAll cX8_playAll 2 none 17 504 (sgc (s_playAll σ) - sgc σ) (sgs (s_playAll σ) - sgs σ) [.ref (ad 0 0)] (zP G ad σ) none (zP G ad (s_playAll σ )) := by
  refine zC_of (by decide) (Nat.le_of_ble_eq_true rfl) (fun X K E hnm => ?_)
  show zV G X 2 (zP G ad σ) 0 0 0 [(0, .ref (ad 0 0))] []
  have hend : sgc σ ≤ sgc (s_playAll σ) ∧ sgs σ ≤ sgs (s_playAll σ) := by
    unfold s_playAll
    exact (paI_ok hw (sZ σ 3)).2.2.1
  have hQ : sgc (paI σ (sZ σ 3)) ≤ sgc (s_playAll σ) ∧ sgs (paI σ (sZ σ 3)) ≤ sgs (s_playAll σ) := by
    unfold s_playAll
    exact ⟨Nat.le_refl _, Nat.le_refl _⟩
  refine zV.wd (k' := sgc σ - sgc σ) (n' := sgs σ - sgs σ) (Nat.zero_le _) (Nat.zero_le _) ?_
  refine zi_iconst K (dX8_playAll 0 rfl) zk_i0 ?_
  refine zi_istore_n K [(1, .int 0), (0, .ref (ad 0 0))] (dX8_playAll 1 rfl) (by decide) rfl ?_
  refine zV.pick [1, 0] (lo' := [(0, .ref (ad 0 0)), (1, .int 0)]) rfl ?_
  refine zV.wd (k' := sgc (paI σ 0) - sgc σ) (n' := sgs (paI σ 0) - sgs σ) (Nat.le_refl _) (Nat.le_refl _) ?_
  suffices hloop2 : ∀ (r i : Nat), i ≤ sZ σ 3 → sZ σ 3 - i < r → zV G X 2 (zP G ad (paI σ i)) (sgc (paI σ i) - sgc σ) (sgs (paI σ i) - sgs σ) 2 [(0, .ref (ad 0 0)), (1, .int (nI i))] [] from hloop2 (sZ σ 3 + 1) 0 (Nat.zero_le _) (Nat.lt_succ_of_le (Nat.sub_le _ _))
  intro r
  induction r with
  | zero => intro i _ h; exact absurd h (Nat.not_lt_zero _)
  | succ r ih2 =>
    intro i hi2 hr2
    have hI := paI_ok hw i
    refine zi_iload_n K (dX8_playAll 2 rfl) 1 rfl ?_
    refine zi_aload_n K (dX8_playAll 3 rfl) 0 rfl ?_
    refine zg_O_scenarios K rfl w_197 (dX8_playAll 4 rfl) ?_
    refine zi_callV K (na := 0) [.int (nI i)] [.int (nI (sZ σ 3)), .int (nI i)] (c_sizeN (σ := (paI σ i)) 3 (sZ σ 3) (zL_ok ((hw).1.1 3 (by omega)).1).1 (zSx_Z hI.2.1 (zQn 3 (by decide)))) (dX8_playAll 5 rfl) w_230 w_231 w_232 w_28 w_233 (by decide +kernel) rfl (fun H h => zrecv_LST K (zL_ok ((hw).1.1 3 (by omega)).1).1 h) (fun H h => h) ⟨Nat.le_of_ble_eq_true rfl, Nat.le_of_ble_eq_true rfl⟩ ⟨(zq3 (zLeT (paI_mono hw hi2) hQ).1), (zq3 (zLeT (paI_mono hw hi2) hQ).2)⟩ (Nat.le_of_ble_eq_true rfl) rfl rfl ?_
    refine zi_icmp_ge K 34 (dX8_playAll 6 rfl) rfl (fun h10_0 => ?_) (fun h10_0 => ?_)
    · skip
      have hN2 := zloop_exit rfl (zL_b (hw.1.1 3 (by omega)).1) hi2 h10_0
      subst hN2
      exact zi_vret K E (dX8_playAll 16 rfl) (by first | (unfold s_playAll; exact Nat.le_refl _) | exact Nat.le_refl _) (by first | (unfold s_playAll; exact Nat.le_refl _) | exact Nat.le_refl _) rfl (fun H h => by unfold s_playAll; exact h)
    · skip
      have hlt2 := zloop_in rfl (zL_b (hw.1.1 3 (by omega)).1) hi2 h10_0
      refine zi_aload_n K (dX8_playAll 7 rfl) 0 rfl ?_
      refine zi_aload_n K (dX8_playAll 8 rfl) 0 rfl ?_
      refine zg_O_scenarios K rfl w_197 (dX8_playAll 9 rfl) ?_
      refine zi_iload_n K (dX8_playAll 10 rfl) 1 rfl ?_
      refine zi_callV K (na := 1) [.ref (ad 0 0)] [.ref (ad 9 (lx σ 3 i)), .ref (ad 0 0)] (c_getK (σ := (paI σ i)) 3 i (lx σ 3 i) 9 rfl (zL_ok (zSx_LW hI.2.1 (zQn 3 (by decide)) ((hw).1.1 3 (by omega)).1)) ((zSx_Z hI.2.1 (zQn 3 (by decide))).symm ▸ hlt2) ((zSx_E hI.2.1 (zQn 3 (by decide)) i).trans (zL_x ((hw).1.1 3 (by omega)).1 hlt2))) (dX8_playAll 11 rfl) w_309 w_310 w_311 w_28 w_312 (by decide +kernel) rfl (fun H h => zrecv_LST K (zL_ok ((hw).1.1 3 (by omega)).1).1 h) (fun H h => h) ⟨Nat.le_of_ble_eq_true rfl, Nat.le_of_ble_eq_true rfl⟩ ⟨(zq3 (zLeT (paI_mono hw hi2) hQ).1), (zq3 (zLeT (paI_mono hw hi2) hQ).2)⟩ (Nat.le_of_ble_eq_true rfl) rfl rfl ?_
      refine zi_cast K (fun H h => (zr_SC (σ := (paI σ i)) (zSx_N hI.2.1 (zL_lv ((hw).1.1 3 (by omega)).1 hlt2 rfl)) H h).1) rfl w_597 (dX8_playAll 12 rfl) ?_
      have hE : paI σ (i + 1) = s_play (paI σ i) (lx σ 3 i) := by simp only [paI]
      have hto : sgc (s_play (paI σ i) (lx σ 3 i)) ≤ sgc (s_playAll σ) ∧ sgs (s_play (paI σ i) (lx σ 3 i)) ≤ sgs (s_playAll σ) := by rw [← hE]; exact zLeT (paI_mono hw (i := i + 1) hlt2) hQ
      refine zi_callV K (na := 1) [] [] (c_play (σ := (paI σ i)) (lx σ 3 i) hI.1 (zSx_N hI.2.1 (zL_lv ((hw).1.1 3 (by omega)).1 hlt2 rfl))) (dX8_playAll 13 rfl) w_598 w_600 w_15 w_25 w_601 (by decide +kernel) rfl (fun H h => zi_recv K (zr_O (σ := (paI σ i)) rfl H h).1 rfl) (fun H h => h) ⟨Nat.le_of_ble_eq_true rfl, Nat.le_of_ble_eq_true rfl⟩ ⟨(zq1 hI.2.2.1.1 (play_W (c := (lx σ 3 i)) hI.1).2.2.1.1 hto.1), (zq1 hI.2.2.1.2 (play_W (c := (lx σ 3 i)) hI.1).2.2.1.2 hto.2)⟩ (Nat.le_of_ble_eq_true rfl) rfl rfl ?_
      have e1 : zSx zQd (s_play (paI σ i) (lx σ 3 i)) σ := ((play_W (c := (lx σ 3 i)) hI.1).2.1).trans hI.2.1
      refine zV.wd (k' := sgc (s_play (paI σ i) (lx σ 3 i)) - sgc σ) (n' := sgs (s_play (paI σ i) (lx σ 3 i)) - sgs σ) (zq2 hI.2.2.1.1 (play_W (c := (lx σ 3 i)) hI.1).2.2.1.1) (zq2 hI.2.2.1.2 (play_W (c := (lx σ 3 i)) hI.1).2.2.1.2) ?_
      refine zi_iinc K (v := nI (i + 1)) [(1, .int (nI (i + 1))), (0, .ref (ad 0 0))] (dX8_playAll 14 rfl) 1 rfl (zk_inc _) (by decide) rfl ?_
      refine zi_goto K 2 (dX8_playAll 15 rfl) rfl ?_
      refine zV.pick [1, 0] (lo' := [(0, .ref (ad 0 0)), (1, .int (nI (i + 1)))]) rfl ?_
      have hSx : paI σ (i + 1) = (s_play (paI σ i) (lx σ 3 i)) := (by first | rfl | (simp only [paI]))
      have ihx := ih2 (i + 1) (by omega) (by omega)
      rw [hSx] at ihx
      exact ihx
