/-! Flow.serveZone, whole -/
def szN (S : zSt) (b : Nat) : Nat := (sI S 27 b 0).toNatClampNeg
def szA (σ : zSt) (b z : Nat) : Nat → zSt
  | 0 => σ
  | i + 1 => if sI (szA σ b z i) 1 (sP (szA σ b z i) (lx σ (7 + 4 * b) i)) 0 = nI z then s_lyAdd (szA σ b z i) b (lx σ (7 + 4 * b) i) (szN (szA σ b z i) b) else (szA σ b z i)
theorem lyAdd_I (σ : zSt) (b k n : Nat) {t : Nat} (h1 : t ≠ 27) (h2 : t ≠ 28) (o x : Nat) : sI (s_lyAdd σ b k n) t o x = sI σ t o x := by
  unfold s_lyAdd
  repeat' split
  all_goals first | rfl | exact (u3_n _ _ (fun q => h1 q.1)).trans (u3_n _ _ (fun q => h2 q.1))
theorem lyAdd_n (σ : zSt) (b k n : Nat) (hn : sI σ 27 b 0 = nI n) : sI (s_lyAdd σ b k n) 27 b 0 = nI n ∨ sI (s_lyAdd σ b k n) 27 b 0 = nI (n + 1) := by
  unfold s_lyAdd
  repeat' split
  all_goals first | exact Or.inl hn | exact Or.inr ((u3_s _ _ _ _ _).trans (nI_1 _))
theorem szA_22 (σ : zSt) (b z i : Nat) : (szA σ b z i).2.2 = σ.2.2 := by
  induction i with
  | zero => rfl
  | succ i ih =>
    simp only [szA]
    split
    · exact (s_lyAdd_22 _ _ _ _).trans ih
    · exact ih
theorem szA_I (σ : zSt) (b z i : Nat) {t : Nat} (h1 : t ≠ 27) (h2 : t ≠ 28) (o x : Nat) : sI (szA σ b z i) t o x = sI σ t o x := by
  induction i with
  | zero => rfl
  | succ i ih =>
    simp only [szA]
    split
    · exact (lyAdd_I _ _ _ _ h1 h2 _ _).trans ih
    · exact ih
theorem szN_of {S : zSt} {b m n : Nat} (h : sI S 27 b 0 = nI m) (hm : m ≤ n) (hn : n < 1000) : sI S 27 b 0 = nI (szN S b) ∧ szN S b ≤ n := by
  have e : szN S b = m := by unfold szN; rw [h]; exact nI_clamp (by omega)
  rw [e]
  exact ⟨h, hm⟩
theorem szA_n (σ : zSt) (b z : Nat) (h0 : sI σ 27 b 0 = 0) (i : Nat) (hi : i ≤ 30) : sI (szA σ b z i) 27 b 0 = nI (szN (szA σ b z i) b) ∧ szN (szA σ b z i) b ≤ i := by
  induction i with
  | zero => exact szN_of (m := 0) h0 (Nat.le_refl _) (by omega)
  | succ i ih =>
    obtain ⟨g1, g2⟩ := ih (by omega)
    simp only [szA]
    split
    · rcases lyAdd_n (szA σ b z i) b (lx σ (7 + 4 * b) i) (szN (szA σ b z i) b) g1 with h | h
      · exact szN_of h (by omega) (by omega)
      · exact szN_of h (by omega) (by omega)
    · exact szN_of g1 (by omega) (by omega)
def s_zoneFill (σ : zSt) (b z : Nat) : zSt := (szA σ b z (sZ σ (7 + 4 * b)))
theorem s_zoneFill_22 (σ : zSt) (b z : Nat) : (s_zoneFill σ b z).2.2 = σ.2.2 := by
  unfold s_zoneFill
  (repeat' split) <;> first | exact ((szA_22 σ b z (sZ σ (7 + 4 * b))).trans rfl)
set_option maxRecDepth 100000 in
set_option maxHeartbeats 4000000 in
theorem f_zoneFill {G : zG} {X : zX} {ad : Nat → Nat → Nat} {σ : zSt} (b z : Nat) (j : Nat) (c : Int32) (hb : b < 2) (h7 : zLW σ (7 + 4 * b)) (h30 : sZ σ (7 + 4 * b) ≤ 30) (h0 : sI σ 27 b 0 = 0) (hP : ∀ k, zlC σ k → sP σ k < sN σ 0) {k n mc ms : Nat} (hm : k ≤ mc ∧ n ≤ ms) (K : zK G X cX2_serveZone RX2 7 none { frames := 10, cells := mc, slots := ms, locals := 300 }) (kk : zV G X 7 (zP G ad (s_zoneFill σ b z)) k n 70 [(0, .ref (ad 11 b)), (1, .ref (ad 7 j)), (2, .int (nI z)), (3, .int c)] []) : zV G X 7 (zP G ad σ) k n 11 [(0, .ref (ad 11 b)), (1, .ref (ad 7 j)), (2, .int (nI z)), (3, .int c), (4, .int (nI 0))] [] := by
  refine zV.pick [0, 1, 2, 3, 4] (lo' := [(0, .ref (ad 11 b)), (1, .ref (ad 7 j)), (2, .int (nI z)), (3, .int c), (4, .int (nI 0))]) rfl ?_
  suffices hloop11 : ∀ (r i : Nat), i ≤ sZ σ (7 + 4 * b) → sZ σ (7 + 4 * b) - i < r → zV G X 7 (zP G ad (szA σ b z i)) (k) (n) 11 [(0, .ref (ad 11 b)), (1, .ref (ad 7 j)), (2, .int (nI z)), (3, .int c), (4, .int (nI i))] [] from hloop11 (sZ σ (7 + 4 * b) + 1) 0 (Nat.zero_le _) (Nat.lt_succ_of_le (Nat.sub_le _ _))
  intro r
  induction r with
  | zero => intro i _ h; exact absurd h (Nat.not_lt_zero _)
  | succ r ih11 =>
    intro i hi11 hr11
    have hn1 := szA_n σ b z h0 i (by omega)
    refine zi_iload K (dX2_serveZone_p0 6 rfl) 4 rfl ?_
    refine zi_aload_n K (dX2_serveZone_p0 7 rfl) 0 rfl ?_
    refine zg_FL_open K hb w_136 (dX2_serveZone_p0 8 rfl) ?_
    refine zi_callV K (na := 0) [.int (nI i)] [.int (nI (sZ σ (7 + 4 * b))), .int (nI i)] (c_sizeN (σ := (szA σ b z i)) (7 + 4 * b) (sZ σ (7 + 4 * b)) (zL_ok h7).1 (zSx_Z (zSx.of (Q := fun _ => False) (szA_22 σ b z i)) id)) (dX2_serveZone_p0 9 rfl) w_351 w_231 w_232 w_28 w_233 (by decide +kernel) rfl (fun H h => zrecv_LST K (zL_ok h7).1 h) (fun H h => h) ⟨Nat.le_of_ble_eq_true rfl, Nat.le_of_ble_eq_true rfl⟩ ⟨hm.1, hm.2⟩ (Nat.le_of_ble_eq_true rfl) rfl rfl ?_
    refine zi_icmp_ge K 70 (dX2_serveZone_p0 10 rfl) rfl (fun h20_0 => ?_) (fun h20_0 => ?_)
    · skip
      have hN11 := zloop_exit rfl (zL_b h7) hi11 h20_0
      subst hN11
      refine zV.pick [0, 1, 2, 3] (lo' := [(0, .ref (ad 11 b)), (1, .ref (ad 7 j)), (2, .int (nI z)), (3, .int c)]) rfl ?_
      have hSe : s_zoneFill σ b z = (szA σ b z (sZ σ (7 + 4 * b))) := rfl
      rw [hSe] at kk
      exact kk
    · skip
      have hlt11 := zloop_in rfl (zL_b h7) hi11 h20_0
      refine zi_aload_n K (dX2_serveZone_p0 11 rfl) 0 rfl ?_
      refine zg_FL_open K hb w_136 (dX2_serveZone_p0 12 rfl) ?_
      refine zi_iload K (dX2_serveZone_p0 13 rfl) 4 rfl ?_
      refine zi_callV K (na := 1) [] [.ref (ad 2 (lx σ (7 + 4 * b) i))] (c_getK (σ := (szA σ b z i)) (7 + 4 * b) i (lx σ (7 + 4 * b) i) 2 (zeK7 hb) (zL_ok (zSx_LW (zSx.of (Q := fun _ => False) (szA_22 σ b z i)) id h7)) ((zSx_Z (zSx.of (Q := fun _ => False) (szA_22 σ b z i)) id).symm ▸ hlt11) ((zSx_E (zSx.of (Q := fun _ => False) (szA_22 σ b z i)) id i).trans (zL_x h7 hlt11))) (dX2_serveZone_p0 14 rfl) w_352 w_310 w_311 w_28 w_312 (by decide +kernel) rfl (fun H h => zrecv_LST K (zL_ok h7).1 h) (fun H h => h) ⟨Nat.le_of_ble_eq_true rfl, Nat.le_of_ble_eq_true rfl⟩ ⟨hm.1, hm.2⟩ (Nat.le_of_ble_eq_true rfl) rfl rfl ?_
      refine zi_cast K (fun H h => (zr_CL (σ := (szA σ b z i)) (zSx_C (zSx.of (Q := fun _ => False) (szA_22 σ b z i)) (zL_lv h7 hlt11 (zeK7 hb))) H h).1) rfl w_353 (dX2_serveZone_p0 15 rfl) ?_
      refine zg_CL_policy K (zSx_C (zSx.of (Q := fun _ => False) (szA_22 σ b z i)) (zL_lv h7 hlt11 (zeK7 hb))) w_738 (dX2_serveZone_p0 16 rfl) ?_
      refine zg_POL_zone K (zSx_P (zSx.of (Q := fun _ => False) (szA_22 σ b z i)) (hP _ (zL_lv h7 hlt11 (zeK7 hb)))) w_718 (dX2_serveZone_p0 17 rfl) ?_
      refine zi_iload_n K (dX2_serveZone_p0 18 rfl) 2 rfl ?_
      refine zi_icmp_ne K 64 (dX2_serveZone_p0 19 rfl) rfl (fun h42_0 => ?_) (fun h42_0 => ?_)
      · skip
        refine zi_iinc K (v := nI (i + 1)) [(4, .int (nI (i + 1))), (0, .ref (ad 11 b)), (1, .ref (ad 7 j)), (2, .int (nI z)), (3, .int c)] (dX2_serveZone_p0 28 rfl) 4 rfl (zk_inc _) (by decide) rfl ?_
        refine zi_goto K 11 (dX2_serveZone_p0 29 rfl) rfl ?_
        refine zV.pick [1, 2, 3, 4, 0] (lo' := [(0, .ref (ad 11 b)), (1, .ref (ad 7 j)), (2, .int (nI z)), (3, .int c), (4, .int (nI (i + 1)))]) rfl ?_
        refine zV.st (σ' := szA σ b z (i + 1)) (by simp only [szA, if_neg h42_0]) ?_
        exact ih11 (i + 1) (by omega) (by omega)
      · skip
        refine zi_aload_n K (dX2_serveZone_p0 20 rfl) 0 rfl ?_
        refine zg_FL_laying K hb w_138 (dX2_serveZone_p0 21 rfl) ?_
        refine zi_aload_n K (dX2_serveZone_p0 22 rfl) 0 rfl ?_
        refine zg_FL_open K hb w_136 (dX2_serveZone_p0 23 rfl) ?_
        refine zi_iload K (dX2_serveZone_p0 24 rfl) 4 rfl ?_
        refine zi_callV K (na := 1) [.ref (ad 12 b)] [.ref (ad 2 (lx σ (7 + 4 * b) i)), .ref (ad 12 b)] (c_getK (σ := (szA σ b z i)) (7 + 4 * b) i (lx σ (7 + 4 * b) i) 2 (zeK7 hb) (zL_ok (zSx_LW (zSx.of (Q := fun _ => False) (szA_22 σ b z i)) id h7)) ((zSx_Z (zSx.of (Q := fun _ => False) (szA_22 σ b z i)) id).symm ▸ hlt11) ((zSx_E (zSx.of (Q := fun _ => False) (szA_22 σ b z i)) id i).trans (zL_x h7 hlt11))) (dX2_serveZone_p0 25 rfl) w_352 w_310 w_311 w_28 w_312 (by decide +kernel) rfl (fun H h => zrecv_LST K (zL_ok h7).1 h) (fun H h => h) ⟨Nat.le_of_ble_eq_true rfl, Nat.le_of_ble_eq_true rfl⟩ ⟨hm.1, hm.2⟩ (Nat.le_of_ble_eq_true rfl) rfl rfl ?_
        refine zi_cast K (fun H h => (zr_CL (σ := (szA σ b z i)) (zSx_C (zSx.of (Q := fun _ => False) (szA_22 σ b z i)) (zL_lv h7 hlt11 (zeK7 hb))) H h).1) rfl w_353 (dX2_serveZone_p0 26 rfl) ?_
        refine zi_callV K (na := 1) [] [] (c_lyAdd (σ := (szA σ b z i)) b (lx σ (7 + 4 * b) i) (szN (szA σ b z i) b) hb (zSx_C (zSx.of (Q := fun _ => False) (szA_22 σ b z i)) (zL_lv h7 hlt11 (zeK7 hb))) hn1.1 (Nat.le_trans hn1.2 (by omega))) (dX2_serveZone_p0 27 rfl) w_501 w_502 w_503 w_30 w_504 (by decide +kernel) rfl (fun H h => zi_recv K (zr_LAY (σ := (szA σ b z i)) hb H h).1 rfl) (fun H h => h) ⟨Nat.le_of_ble_eq_true rfl, Nat.le_of_ble_eq_true rfl⟩ ⟨hm.1, hm.2⟩ (Nat.le_of_ble_eq_true rfl) rfl rfl ?_
        have e1 : zSx (fun _ => False) (s_lyAdd (szA σ b z i) b (lx σ (7 + 4 * b) i) (szN (szA σ b z i) b)) σ := (zSx.of (s_lyAdd_22 (szA σ b z i) b (lx σ (7 + 4 * b) i) (szN (szA σ b z i) b))).trans (zSx.of (Q := fun _ => False) (szA_22 σ b z i))
        refine zi_iinc K (v := nI (i + 1)) [(4, .int (nI (i + 1))), (0, .ref (ad 11 b)), (1, .ref (ad 7 j)), (2, .int (nI z)), (3, .int c)] (dX2_serveZone_p0 28 rfl) 4 rfl (zk_inc _) (by decide) rfl ?_
        refine zi_goto K 11 (dX2_serveZone_p0 29 rfl) rfl ?_
        refine zV.pick [1, 2, 3, 4, 0] (lo' := [(0, .ref (ad 11 b)), (1, .ref (ad 7 j)), (2, .int (nI z)), (3, .int c), (4, .int (nI (i + 1)))]) rfl ?_
        refine zV.st (σ' := szA σ b z (i + 1)) (by simp only [szA, if_pos h42_0]) ?_
        exact ih11 (i + 1) (by omega) (by omega)
def znI (σ : zSt) (b j z : Nat) : Nat → zSt × Int32
  | 0 => (σ, -1)
  | i + 1 => if nI i ≤ (znI σ b j z i).2 then znI σ b j z i else (s_zoneBody (znI σ b j z i).1 b j z i (sI (znI σ b j z i).1 29 b i).toNatClampNeg, sI (znI σ b j z i).1 29 b i)
theorem znI_ok {σ : zSt} {b j z : Nat} (hb : b < 2) (hw : zWF b σ) (i : Nat) : zWF b (znI σ b j z i).1 ∧ zFr b (znI σ b j z i).1 σ ∧ zI2 (znI σ b j z i).1 σ ∧ (sE (znI σ b j z i).1 (7 + 4 * b) = sE σ (7 + 4 * b) ∧ sZ (znI σ b j z i).1 (7 + 4 * b) = sZ σ (7 + 4 * b)) := by
  induction i with
  | zero => exact ⟨hw, zFr.rf, fun _ _ _ _ _ => rfl, rfl, rfl⟩
  | succ i ih =>
    simp only [znI]
    split
    · exact ih
    · dsimp only
      obtain ⟨a1, a2, a3, a4, a5⟩ := ih
      obtain ⟨c1, c2, c3, c4, c5⟩ := zoneBody_ok (j := j) (z := z) (i := i) (e := (sI (znI σ b j z i).1 29 b i).toNatClampNeg) hb a1
      exact ⟨c1, c2.trans a2, c3.trans a3, c4.trans a4, c5.trans a5⟩
theorem znI_mono {σ : zSt} {b j z : Nat} (hb : b < 2) (hw : zWF b σ) {i n : Nat} (h : i ≤ n) : sgc (znI σ b j z i).1 ≤ sgc (znI σ b j z n).1 ∧ sgs (znI σ b j z i).1 ≤ sgs (znI σ b j z n).1 := by
  induction n with
  | zero => rw [show i = 0 by omega]; exact ⟨Nat.le_refl _, Nat.le_refl _⟩
  | succ n ih =>
    by_cases e : i = n + 1
    · subst e; exact ⟨Nat.le_refl _, Nat.le_refl _⟩
    · refine zLeT (ih (by omega)) ?_
      simp only [znI]
      split
      · exact ⟨Nat.le_refl _, Nat.le_refl _⟩
      · dsimp only
        exact (zoneBody_ok (j := j) (z := z) (i := n) hb (znI_ok hb hw n).1).2.1.2.1
def s_zoneLoop (σ : zSt) (b j z m : Nat) : zSt := ((znI σ b j z m).1)
set_option maxRecDepth 100000 in
set_option maxHeartbeats 4000000 in
theorem f_zoneLoop {G : zG} {X : zX} {ad : Nat → Nat → Nat} {σ : zSt} (b j z m : Nat) (hb : b < 2) (hw : zWF b σ) (hj : zlV σ j) (hz4 : z < 4) (hn : sI σ 27 b 0 = nI m) (hn30 : m ≤ 30) (hends : ∀ i, i < m → sI σ 29 b i = nI (sI σ 29 b i).toNatClampNeg ∧ (sI σ 29 b i).toNatClampNeg < 30) {k n mc ms : Nat} (hm : k + (sgc (s_zoneLoop σ b j z m) - sgc σ) ≤ mc ∧ n + (sgs (s_zoneLoop σ b j z m) - sgs σ) ≤ ms) (K : zK G X cX2_serveZone RX2 7 none { frames := 10, cells := mc, slots := ms, locals := 300 }) (kk : zV G X 7 (zP G ad (s_zoneLoop σ b j z m)) (k + (sgc (s_zoneLoop σ b j z m) - sgc σ)) (n + (sgs (s_zoneLoop σ b j z m) - sgs σ)) 251 [] []) : zV G X 7 (zP G ad σ) k n 104 [(0, .ref (ad 11 b)), (1, .ref (ad 7 j)), (2, .int (nI z))] [] := by
  refine zV.wd (k' := k + (sgc σ - sgc σ)) (n' := n + (sgs σ - sgs σ)) (Nat.le_add_right _ _) (Nat.le_add_right _ _) ?_
  refine zi_iconst K (dX2_serveZone_p0 46 rfl) zk_im1 ?_
  refine zi_istore K [(4, .int (-1)), (0, .ref (ad 11 b)), (1, .ref (ad 7 j)), (2, .int (nI z))] (dX2_serveZone_p0 47 rfl) (by decide) rfl ?_
  refine zi_iconst K (dX2_serveZone_p0 48 rfl) zk_i0 ?_
  refine zi_istore K [(5, .int 0), (4, .int (-1)), (0, .ref (ad 11 b)), (1, .ref (ad 7 j)), (2, .int (nI z))] (dX2_serveZone_p0 49 rfl) (by decide) rfl ?_
  refine zV.pick [2, 3, 4, 1, 0] (lo' := [(0, .ref (ad 11 b)), (1, .ref (ad 7 j)), (2, .int (nI z)), (4, .int (-1)), (5, .int 0)]) rfl ?_
  refine zV.wd (k' := k + (sgc ((znI σ b j z 0).1) - sgc σ)) (n' := n + (sgs ((znI σ b j z 0).1) - sgs σ)) (Nat.le_refl _) (Nat.le_refl _) ?_
  suffices hloop110 : ∀ (r i : Nat), i ≤ m → m - i < r → zV G X 7 (zP G ad ((znI σ b j z i).1)) (k + (sgc ((znI σ b j z i).1) - sgc σ)) (n + (sgs ((znI σ b j z i).1) - sgs σ)) 110 [(0, .ref (ad 11 b)), (1, .ref (ad 7 j)), (2, .int (nI z)), (4, .int ((znI σ b j z i).2)), (5, .int (nI i))] [] from hloop110 (m + 1) 0 (Nat.zero_le _) (Nat.lt_succ_of_le (Nat.sub_le _ _))
  intro r
  induction r with
  | zero => intro i _ h; exact absurd h (Nat.not_lt_zero _)
  | succ r ih110 =>
    intro i hi110 hr110
    have hI := znI_ok (j := j) (z := z) hb hw i
    refine zi_iload K (dX2_serveZone_p1 0 rfl) 4 rfl ?_
    refine zi_aload_n K (dX2_serveZone_p1 1 rfl) 0 rfl ?_
    refine zg_FL_laying K hb w_138 (dX2_serveZone_p1 2 rfl) ?_
    refine zg_LAY_size K hb w_116 (dX2_serveZone_p1 3 rfl) ?_
    rw [show sI ((znI σ b j z i).1) 27 b 0 = nI m from ((hI.2.2.1 27 (by decide) (by decide) b 0).trans hn)]
    refine zi_icmp_ge K 251 (dX2_serveZone_p1 4 rfl) rfl (fun h119_0 => ?_) (fun h119_0 => ?_)
    · skip
      have hN110 := zloop_exit rfl (by omega) hi110 h119_0
      subst i
      refine zV.pick [] (lo' := []) rfl ?_
      have hSe : s_zoneLoop σ b j z m = ((znI σ b j z m).1) := rfl
      rw [hSe] at kk
      exact kk
    · skip
      have hlt110 := zloop_in rfl (by omega) hi110 h119_0
      refine zi_iload K (dX2_serveZone_p1 5 rfl) 4 rfl ?_
      refine zi_iload K (dX2_serveZone_p1 6 rfl) 3 rfl ?_
      refine zi_icmp_le K 245 (dX2_serveZone_p1 7 rfl) rfl (fun h126_0 => ?_) (fun h126_0 => ?_)
      · skip
        refine zi_iinc K (v := nI (i + 1)) [(5, .int (nI (i + 1))), (0, .ref (ad 11 b)), (1, .ref (ad 7 j)), (2, .int (nI z)), (4, .int ((znI σ b j z i).2))] (dX2_serveZone_p2 18 rfl) 4 rfl (zk_inc _) (by decide) rfl ?_
        refine zi_goto K 110 (dX2_serveZone_p2 19 rfl) rfl ?_
        refine zV.pick [1, 2, 3, 4, 0] (lo' := [(0, .ref (ad 11 b)), (1, .ref (ad 7 j)), (2, .int (nI z)), (4, .int ((znI σ b j z i).2)), (5, .int (nI (i + 1)))]) rfl ?_
        refine zV.lov (lo' := [(0, .ref (ad 11 b)), (1, .ref (ad 7 j)), (2, .int (nI z)), (4, .int ((znI σ b j z (i + 1)).2)), (5, .int (nI (i + 1)))]) (by simp only [znI, if_pos h126_0]) ?_
        have hSx : (znI σ b j z (i + 1)).1 = ((znI σ b j z i).1) := (by simp only [znI, if_pos h126_0])
        have ihx := ih110 (i + 1) (by omega) (by omega)
        rw [hSx] at ihx
        exact ihx
      · skip
        have he0 := hends i hlt110
        have heq : sI (znI σ b j z i).1 29 b i = sI σ 29 b i := hI.2.2.1 29 (by decide) (by decide) b i
        rw [← heq] at he0
        have hE : (znI σ b j z (i + 1)).1 = (s_zoneBody (znI σ b j z i).1 b j z i (sI (znI σ b j z i).1 29 b i).toNatClampNeg) := by simp only [znI, if_neg h126_0]
        have hto : sgc (s_zoneBody (znI σ b j z i).1 b j z i (sI (znI σ b j z i).1 29 b i).toNatClampNeg) ≤ sgc (znI σ b j z m).1 ∧ sgs (s_zoneBody (znI σ b j z i).1 b j z i (sI (znI σ b j z i).1 29 b i).toNatClampNeg) ≤ sgs (znI σ b j z m).1 := by rw [← hE]; exact znI_mono (j := j) (z := z) hb hw hlt110
        refine zV.pick [0, 1, 2, 3, 4] (lo' := [(0, .ref (ad 11 b)), (1, .ref (ad 7 j)), (2, .int (nI z)), (4, .int ((znI σ b j z i).2)), (5, .int (nI i))]) rfl ?_
        refine f_zoneBody (σ := ((znI σ b j z i).1)) b j z i (sI (znI σ b j z i).1 29 b i).toNatClampNeg (znI σ b j z i).2 hb hI.1 (zSx_V hI.2.1.1 hj) hz4 (by omega) he0.1 he0.2 ⟨(zr1 hI.2.1.2.1.1 (zoneBody_ok (j := j) (z := z) (i := i) (e := (sI (znI σ b j z i).1 29 b i).toNatClampNeg) hb hI.1).2.1.2.1.1 hto.1 hm.1), (zr1 hI.2.1.2.1.2 (zoneBody_ok (j := j) (z := z) (i := i) (e := (sI (znI σ b j z i).1 29 b i).toNatClampNeg) hb hI.1).2.1.2.1.2 hto.2 hm.2)⟩ K ?_
        have e1 : zSx (zQb b) (s_zoneBody ((znI σ b j z i).1) b j z i (sI (znI σ b j z i).1 29 b i).toNatClampNeg) σ := ((zoneBody_ok (j := j) (z := z) (i := i) (e := (sI (znI σ b j z i).1 29 b i).toNatClampNeg) hb hI.1).2.1.1).trans hI.2.1.1
        refine zV.wd (k' := k + (sgc (s_zoneBody ((znI σ b j z i).1) b j z i (sI (znI σ b j z i).1 29 b i).toNatClampNeg) - sgc σ)) (n' := n + (sgs (s_zoneBody ((znI σ b j z i).1) b j z i (sI (znI σ b j z i).1 29 b i).toNatClampNeg) - sgs σ)) (zr2 hI.2.1.2.1.1 (zoneBody_ok (j := j) (z := z) (i := i) (e := (sI (znI σ b j z i).1 29 b i).toNatClampNeg) hb hI.1).2.1.2.1.1) (zr2 hI.2.1.2.1.2 (zoneBody_ok (j := j) (z := z) (i := i) (e := (sI (znI σ b j z i).1 29 b i).toNatClampNeg) hb hI.1).2.1.2.1.2) ?_
        refine zi_iinc K (v := nI (i + 1)) [(5, .int (nI (i + 1))), (0, .ref (ad 11 b)), (1, .ref (ad 7 j)), (2, .int (nI z)), (4, .int (sI (znI σ b j z i).1 29 b i))] (dX2_serveZone_p2 18 rfl) 4 rfl (zk_inc _) (by decide) rfl ?_
        refine zi_goto K 110 (dX2_serveZone_p2 19 rfl) rfl ?_
        refine zV.pick [1, 2, 3, 4, 0] (lo' := [(0, .ref (ad 11 b)), (1, .ref (ad 7 j)), (2, .int (nI z)), (4, .int (sI (znI σ b j z i).1 29 b i)), (5, .int (nI (i + 1)))]) rfl ?_
        refine zV.lov (lo' := [(0, .ref (ad 11 b)), (1, .ref (ad 7 j)), (2, .int (nI z)), (4, .int ((znI σ b j z (i + 1)).2)), (5, .int (nI (i + 1)))]) (by simp only [znI, if_neg h126_0]) ?_
        have hSx : (znI σ b j z (i + 1)).1 = (s_zoneBody ((znI σ b j z i).1) b j z i (sI (znI σ b j z i).1 29 b i).toNatClampNeg) := (by simp only [znI, if_neg h126_0])
        have ihx := ih110 (i + 1) (by omega) (by omega)
        rw [hSx] at ihx
        exact ihx
