/-! Laying.lay: the best events from each place on, from behind -/
def lyU (S : zSt) (b f e : Nat) (most : Int64) (count : Int32) : zSt := uI (uI (uL S 8 b f most) 30 b f count) 29 b f (nI e)
def lyA (S : zSt) (b t f e : Nat) (w : Int64) : zSt :=
  if nI e = nI f then lyU S b f e (v_layerOf S t w + sL S 8 b (e + 1)) (1 + sI S 30 b (e + 1))
  else if sL S 8 b f < v_layerOf S t w + sL S 8 b (e + 1) then lyU S b f e (v_layerOf S t w + sL S 8 b (e + 1)) (1 + sI S 30 b (e + 1))
  else if v_layerOf S t w + sL S 8 b (e + 1) = sL S 8 b f then (if sI S 30 b f < 1 + sI S 30 b (e + 1) then S else lyU S b f e (v_layerOf S t w + sL S 8 b (e + 1)) (1 + sI S 30 b (e + 1)))
  else S
def lyP (S : zSt) (b t f : Nat) : Nat → zSt × Int64
  | 0 => (S, 0)
  | k + 1 => (lyA (lyP S b t f k).1 b t f (f + k) ((lyP S b t f k).2 + sL (lyP S b t f k).1 7 b (f + k)), (lyP S b t f k).2 + sL (lyP S b t f k).1 7 b (f + k))
def lyK (S : zSt) (b t f n : Nat) : Nat → Nat → Nat
  | 0, k => k
  | r + 1, k => if nI n ≤ nI (f + k) then k else if sI (lyP S b t f k).1 14 t 0 ≤ sI (lyP S b t f k).1 28 b (f + k) - sI (lyP S b t f k).1 28 b f then k else lyK S b t f n r (k + 1)
def lyE (S : zSt) (b t f n : Nat) : zSt := (lyP S b t f (lyK S b t f n (n + 1) 0)).1
def lyO (σ : zSt) (b t n : Nat) : Nat → zSt
  | 0 => uI (uL σ 8 b n 0) 30 b n 0
  | i + 1 => lyE (lyO σ b t n i) b t (n - (i + 1)) n
theorem lyA_22 (S : zSt) (b t f e : Nat) (w : Int64) : (lyA S b t f e w).2.2 = S.2.2 := by
  unfold lyA
  repeat' split
  all_goals rfl
theorem lyU_I (S : zSt) (b f e : Nat) (most : Int64) (count : Int32) {t' : Nat} (h1 : t' ≠ 29) (h2 : t' ≠ 30) (o x : Nat) : sI (lyU S b f e most count) t' o x = sI S t' o x :=
  (u3_n _ _ (fun q => h1 q.1)).trans (u3_n _ _ (fun q => h2 q.1))
theorem lyA_I (S : zSt) (b t f e : Nat) (w : Int64) {t' : Nat} (h1 : t' ≠ 29) (h2 : t' ≠ 30) (o x : Nat) : sI (lyA S b t f e w) t' o x = sI S t' o x := by
  unfold lyA
  repeat' split
  all_goals first | rfl | exact lyU_I _ _ _ _ _ _ h1 h2 _ _
theorem lyA_L (S : zSt) (b t f e : Nat) (w : Int64) {t' : Nat} (h1 : t' ≠ 8) (o x : Nat) : sL (lyA S b t f e w) t' o x = sL S t' o x := by
  unfold lyA
  repeat' split
  all_goals first | rfl | exact u3_n _ _ (fun q => h1 q.1)
theorem lyP_22 (S : zSt) (b t f k : Nat) : (lyP S b t f k).1.2.2 = S.2.2 := by
  induction k with
  | zero => rfl
  | succ k ih => exact (lyA_22 _ _ _ _ _ _).trans ih
theorem lyP_I (S : zSt) (b t f k : Nat) {t' : Nat} (h1 : t' ≠ 29) (h2 : t' ≠ 30) (o x : Nat) : sI (lyP S b t f k).1 t' o x = sI S t' o x := by
  induction k with
  | zero => rfl
  | succ k ih => exact (lyA_I _ _ _ _ _ _ h1 h2 _ _).trans ih
theorem lyP_L (S : zSt) (b t f k : Nat) {t' : Nat} (h1 : t' ≠ 8) (o x : Nat) : sL (lyP S b t f k).1 t' o x = sL S t' o x := by
  induction k with
  | zero => rfl
  | succ k ih => exact (lyA_L _ _ _ _ _ _ h1 _ _).trans ih
theorem lyE_22 (S : zSt) (b t f n : Nat) : (lyE S b t f n).2.2 = S.2.2 := lyP_22 _ _ _ _ _
theorem lyO_22 (σ : zSt) (b t n i : Nat) : (lyO σ b t n i).2.2 = σ.2.2 := by
  induction i with
  | zero => rfl
  | succ i ih => exact (lyE_22 _ _ _ _ _).trans ih
theorem lyO_I (σ : zSt) (b t n i : Nat) {t' : Nat} (h1 : t' ≠ 29) (h2 : t' ≠ 30) (o x : Nat) : sI (lyO σ b t n i) t' o x = sI σ t' o x := by
  induction i with
  | zero => exact u3_n _ _ (fun q => h2 q.1)
  | succ i ih => exact (lyP_I _ _ _ _ _ h1 h2 _ _).trans ih
theorem lyO_L (σ : zSt) (b t n i : Nat) {t' : Nat} (h1 : t' ≠ 8) (o x : Nat) : sL (lyO σ b t n i) t' o x = sL σ t' o x := by
  induction i with
  | zero => exact u3_n _ _ (fun q => h1 q.1)
  | succ i ih => exact (lyP_L _ _ _ _ _ h1 _ _).trans ih
theorem nI_neg {m : Nat} (h : nI m - 1 < 0) (hm : m < 2 ^ 31) : m = 0 := by
  cases m with
  | zero => rfl
  | succ m => rw [nI_pred] at h; exact absurd h (nI_pos (by omega))
theorem nI_dn {n i : Nat} (h : i < n) : nI (n - i) - 1 = nI (n - (i + 1)) := by
  rw [show n - i = (n - (i + 1)) + 1 by omega]
  exact nI_pred _
def s_lay (σ : zSt) (b t n : Nat) : zSt := (lyO σ b t n n)
theorem s_lay_22 (σ : zSt) (b t n : Nat) : (s_lay σ b t n).2.2 = σ.2.2 := by
  unfold s_lay
  (repeat' split) <;> first | exact ((lyO_22 σ b t n n).trans rfl)
set_option maxRecDepth 100000 in
set_option maxHeartbeats 4000000 in
theorem c_lay {G : zG} {ad : Nat → Nat → Nat} {σ : zSt} (b t n : Nat) (hb : b < 2) (ht : t < sN σ 2) (hn : sI σ 27 b 0 = nI n) (hn30 : n ≤ 30) : zC G yX3_lay cX3_lay 9 none 2 39 0 0 [.ref (ad 12 b), .ref (ad 5 t)] (zP G ad σ) none (zP G ad (s_lay σ b t n)) := by
  refine zC_of (by decide) (Nat.le_of_ble_eq_true rfl) (fun X K E hnm => ?_)
  show zV G X 9 (zP G ad σ) 0 0 0 [(0, .ref (ad 12 b)), (1, .ref (ad 5 t))] []
  refine zi_aload_n K (dX3_lay_p0 0 rfl) 0 rfl ?_
  refine zg_LAY_brings K hb w_113 (dX3_lay_p0 1 rfl) ?_
  refine zi_aload_n K (dX3_lay_p0 2 rfl) 0 rfl ?_
  refine zg_LAY_size K hb w_115 (dX3_lay_p0 3 rfl) ?_
  rw [show sI σ 27 b 0 = nI n from hn]
  refine zi_lconst K (dX3_lay_p0 4 rfl) zk_l0 ?_
  refine zs_LBR K hb n rfl (by omega) (dX3_lay_p0 5 rfl) ?_
  refine zi_aload_n K (dX3_lay_p0 6 rfl) 0 rfl ?_
  refine zg_LAY_counts K hb w_114 (dX3_lay_p0 7 rfl) ?_
  refine zi_aload_n K (dX3_lay_p0 8 rfl) 0 rfl ?_
  refine zg_LAY_size K hb w_115 (dX3_lay_p0 9 rfl) ?_
  rw [show sI (uL σ 8 b n 0) 27 b 0 = nI n from hn]
  refine zi_iconst K (dX3_lay_p0 10 rfl) zk_i0 ?_
  refine zs_LCN K hb n rfl (by omega) (dX3_lay_p0 11 rfl) ?_
  refine zi_aload_n K (dX3_lay_p0 12 rfl) 0 rfl ?_
  refine zg_LAY_size K hb w_115 (dX3_lay_p0 13 rfl) ?_
  rw [show sI (uI (uL σ 8 b n 0) 30 b n 0) 27 b 0 = nI n from hn]
  refine zi_iconst K (dX3_lay_p0 14 rfl) zk_i1 ?_
  refine zi_isub K (dX3_lay_p0 15 rfl) ?_
  refine zi_istore_n K [(2, .int ((nI n) - 1)), (0, .ref (ad 12 b)), (1, .ref (ad 5 t))] (dX3_lay_p0 16 rfl) (by decide) rfl ?_
  refine zV.pick [1, 2, 0] (lo' := [(0, .ref (ad 12 b)), (1, .ref (ad 5 t)), (2, .int ((nI n) - 1))]) rfl ?_
  refine zV.lov (lo' := [(0, .ref (ad 12 b)), (1, .ref (ad 5 t)), (2, .int (nI (n - 0) - 1))]) (rfl) ?_
  refine zV.st (σ' := lyO σ b t n 0) (rfl) ?_
  suffices hloop27 : ∀ (r : Nat) (i : Nat), n - i < r → i ≤ n → zV G X 9 (zP G ad (lyO σ b t n i)) (0) (0) 27 [(0, .ref (ad 12 b)), (1, .ref (ad 5 t)), (2, .int (nI (n - i) - 1))] [] from hloop27 (n - 0 + 1) 0 (Nat.lt_succ_self _) (Nat.zero_le _)
  intro r
  induction r with
  | zero => intro i h; exact absurd h (Nat.not_lt_zero _)
  | succ r ih27 =>
    intro i hr27 hv27
    refine zi_iload_n K (dX3_lay_p0 17 rfl) 2 rfl ?_
    refine zi_if_lt K 183 (dX3_lay_p0 18 rfl) rfl (fun h28_0 => ?_) (fun h28_0 => ?_)
    · skip
      have hiN : n = i := by have q := nI_neg h28_0 (by omega); omega
      subst hiN
      exact zi_vret K E (dX3_lay_p2 8 rfl) (Nat.le_refl _) (Nat.le_refl _) rfl (fun H h => by exact h)
    · skip
      have hin : i < n := Nat.lt_of_not_le (fun q => h28_0 (by rw [show n - i = 0 by omega]; decide))
      refine zV.lov (lo' := [(0, .ref (ad 12 b)), (1, .ref (ad 5 t)), (2, .int (nI (n - (i + 1))))]) (by rw [nI_dn hin]) ?_
      refine zi_lconst K (dX3_lay_p0 19 rfl) zk_l0 ?_
      refine zi_lstore_n K [(3, .long 0), (0, .ref (ad 12 b)), (1, .ref (ad 5 t)), (2, .int (nI (n - (i + 1))))] (dX3_lay_p0 20 rfl) (by decide) rfl ?_
      refine zi_iload_n K (dX3_lay_p0 21 rfl) 3 rfl ?_
      refine zi_istore K [(5, .int (nI (n - (i + 1)))), (3, .long 0), (0, .ref (ad 12 b)), (1, .ref (ad 5 t)), (2, .int (nI (n - (i + 1))))] (dX3_lay_p0 22 rfl) (by decide) rfl ?_
      refine zV.pick [2, 3, 4, 1, 0] (lo' := [(0, .ref (ad 12 b)), (1, .ref (ad 5 t)), (2, .int (nI (n - (i + 1)))), (3, .long 0), (5, .int (nI (n - (i + 1))))]) rfl ?_
      refine zV.lov (lo' := [(0, .ref (ad 12 b)), (1, .ref (ad 5 t)), (2, .int (nI (n - (i + 1)))), (3, .long ((lyP (lyO σ b t n i) b t (n - (i + 1)) 0).2)), (5, .int (nI ((n - (i + 1)) + 0)))]) (rfl) ?_
      refine zV.st (σ' := (lyP (lyO σ b t n i) b t (n - (i + 1)) 0).1) (rfl) ?_
      suffices hloop36 : ∀ (r : Nat) (k : Nat), n - k < r → ((n - (i + 1)) + k ≤ n ∧ lyK (lyO σ b t n i) b t (n - (i + 1)) n (n + 1) 0 = lyK (lyO σ b t n i) b t (n - (i + 1)) n (n + 1 - k) k) → zV G X 9 (zP G ad ((lyP (lyO σ b t n i) b t (n - (i + 1)) k).1)) (0) (0) 36 [(0, .ref (ad 12 b)), (1, .ref (ad 5 t)), (2, .int (nI (n - (i + 1)))), (3, .long ((lyP (lyO σ b t n i) b t (n - (i + 1)) k).2)), (5, .int (nI ((n - (i + 1)) + k)))] [] from hloop36 (n - 0 + 1) 0 (Nat.lt_succ_self _) ⟨by omega, rfl⟩
      intro r
      induction r with
      | zero => intro k h; exact absurd h (Nat.not_lt_zero _)
      | succ r ih36 =>
        intro k hr36 hv36
        refine zi_iload K (dX3_lay_p0 23 rfl) 4 rfl ?_
        refine zi_aload_n K (dX3_lay_p0 24 rfl) 0 rfl ?_
        refine zg_LAY_size K hb w_115 (dX3_lay_p0 25 rfl) ?_
        rw [show sI ((lyP (lyO σ b t n i) b t (n - (i + 1)) k).1) 27 b 0 = nI n from ((lyP_I _ b t _ _ (by decide) (by decide) _ _).trans ((lyO_I σ b t n i (by decide) (by decide) b 0).trans hn))]
        refine zi_icmp_ge K 177 (dX3_lay_p0 26 rfl) rfl (fun h42_1 => ?_) (fun h42_1 => ?_)
        · skip
          refine zi_iinc K (v := (nI (n - (i + 1))) + (-1)) [(2, .int ((nI (n - (i + 1))) + (-1))), (0, .ref (ad 12 b)), (1, .ref (ad 5 t)), (3, .long ((lyP (lyO σ b t n i) b t (n - (i + 1)) k).2)), (5, .int (nI ((n - (i + 1)) + k)))] (dX3_lay_p2 6 rfl) 2 rfl (zk_a _ zk_im1) (by decide) rfl ?_
          refine zi_goto K 27 (dX3_lay_p2 7 rfl) rfl ?_
          refine zV.pick [1, 2, 0] (lo' := [(0, .ref (ad 12 b)), (1, .ref (ad 5 t)), (2, .int ((nI (n - (i + 1))) + (-1)))]) rfl ?_
          refine zV.lov (lo' := [(0, .ref (ad 12 b)), (1, .ref (ad 5 t)), (2, .int (nI (n - (i + 1)) - 1))]) (by rw [Int32.sub_eq_add_neg]) ?_
          have hSx : lyO σ b t n (i + 1) = ((lyP (lyO σ b t n i) b t (n - (i + 1)) k).1) := (by show lyE (lyO σ b t n i) b t (n - (i + 1)) n = _; unfold lyE; rw [hv36.2, show n + 1 - k = (n - k) + 1 by omega]; simp only [lyK, if_neg h28_0, if_pos h42_1])
          have ihx := ih27 (i + 1) (by omega) hin
          rw [hSx] at ihx
          exact ihx
        · skip
          have hkb : n - (i + 1) + k < 30 := by have q := zloop_in (i := n - (i + 1) + k) (N := n) rfl (by omega) hv36.1 h42_1; omega
          refine zi_aload_n K (dX3_lay_p0 27 rfl) 0 rfl ?_
          refine zg_LAY_days K hb w_108 (dX3_lay_p0 28 rfl) ?_
          refine zi_iload K (dX3_lay_p0 29 rfl) 4 rfl ?_
          refine zl_LDAYS K hb ((n - (i + 1)) + k) rfl (by omega) (dX3_lay_p0 30 rfl) ?_
          refine zi_aload_n K (dX3_lay_p0 31 rfl) 0 rfl ?_
          refine zg_LAY_days K hb w_108 (dX3_lay_p0 32 rfl) ?_
          refine zi_iload_n K (dX3_lay_p0 33 rfl) 2 rfl ?_
          refine zl_LDAYS K hb (n - (i + 1)) rfl (by omega) (dX3_lay_p0 34 rfl) ?_
          refine zi_isub K (dX3_lay_p0 35 rfl) ?_
          refine zi_aload_n K (dX3_lay_p0 36 rfl) 1 rfl ?_
          refine zg_TR_days K (zlCV_N ((lyP_22 (lyO σ b t n i) b t (n - (i + 1)) k).trans (lyO_22 σ b t n i)) ht) w_1108 (dX3_lay_p0 37 rfl) ?_
          refine zi_icmp_ge K 177 (dX3_lay_p0 38 rfl) rfl (fun h63_2 => ?_) (fun h63_2 => ?_)
          · skip
            refine zi_iinc K (v := (nI (n - (i + 1))) + (-1)) [(2, .int ((nI (n - (i + 1))) + (-1))), (0, .ref (ad 12 b)), (1, .ref (ad 5 t)), (3, .long ((lyP (lyO σ b t n i) b t (n - (i + 1)) k).2)), (5, .int (nI ((n - (i + 1)) + k)))] (dX3_lay_p2 6 rfl) 2 rfl (zk_a _ zk_im1) (by decide) rfl ?_
            refine zi_goto K 27 (dX3_lay_p2 7 rfl) rfl ?_
            refine zV.pick [1, 2, 0] (lo' := [(0, .ref (ad 12 b)), (1, .ref (ad 5 t)), (2, .int ((nI (n - (i + 1))) + (-1)))]) rfl ?_
            refine zV.lov (lo' := [(0, .ref (ad 12 b)), (1, .ref (ad 5 t)), (2, .int (nI (n - (i + 1)) - 1))]) (by rw [Int32.sub_eq_add_neg]) ?_
            have hSx : lyO σ b t n (i + 1) = ((lyP (lyO σ b t n i) b t (n - (i + 1)) k).1) := (by show lyE (lyO σ b t n i) b t (n - (i + 1)) n = _; unfold lyE; rw [hv36.2, show n + 1 - k = (n - k) + 1 by omega]; simp only [lyK, if_neg h28_0, if_neg h42_1, if_pos h63_2])
            have ihx := ih27 (i + 1) (by omega) hin
            rw [hSx] at ihx
            exact ihx
          · skip
            have hA := h42_1
            have hB := h63_2
            have hkb : n - (i + 1) + k < 30 := by have q := zloop_in (i := n - (i + 1) + k) (N := n) rfl (by omega) hv36.1 hA; omega
            have hkn : n - (i + 1) + k < n := zloop_in (i := n - (i + 1) + k) (N := n) rfl (by omega) hv36.1 hA
            refine zi_lload_n K (dX3_lay_p0 39 rfl) 3 rfl ?_
            refine zi_aload_n K (dX3_lay_p0 40 rfl) 0 rfl ?_
            refine zg_LAY_sums K hb w_110 (dX3_lay_p0 41 rfl) ?_
            refine zi_iload K (dX3_lay_p0 42 rfl) 4 rfl ?_
            refine zl_LSUMS K hb ((n - (i + 1)) + k) rfl (by omega) (dX3_lay_p0 43 rfl) ?_
            refine zi_ladd K (dX3_lay_p0 44 rfl) ?_
            refine zi_lstore_n K [(3, .long (((lyP (lyO σ b t n i) b t (n - (i + 1)) k).2) + (sL ((lyP (lyO σ b t n i) b t (n - (i + 1)) k).1) 7 b ((n - (i + 1)) + k)))), (0, .ref (ad 12 b)), (1, .ref (ad 5 t)), (2, .int (nI (n - (i + 1)))), (5, .int (nI ((n - (i + 1)) + k)))] (dX3_lay_p0 45 rfl) (by decide) rfl ?_
            refine zi_aload_n K (dX3_lay_p0 46 rfl) 2 rfl ?_
            refine zi_lload_n K (dX3_lay_p0 47 rfl) 0 rfl ?_
            refine zi_callV K (na := 1) [] [.long (v_layerOf ((lyP (lyO σ b t n i) b t (n - (i + 1)) k).1) t (((lyP (lyO σ b t n i) b t (n - (i + 1)) k).2) + (sL ((lyP (lyO σ b t n i) b t (n - (i + 1)) k).1) 7 b ((n - (i + 1)) + k))))] (c_layerOf (σ := ((lyP (lyO σ b t n i) b t (n - (i + 1)) k).1)) t (((lyP (lyO σ b t n i) b t (n - (i + 1)) k).2) + (sL ((lyP (lyO σ b t n i) b t (n - (i + 1)) k).1) 7 b ((n - (i + 1)) + k))) (zlCV_N ((lyP_22 (lyO σ b t n i) b t (n - (i + 1)) k).trans (lyO_22 σ b t n i)) ht)) (dX3_lay_p0 48 rfl) w_509 w_400 w_401 w_55 w_402 (by decide +kernel) rfl (fun H h => zi_recv K (zr_TR (σ := ((lyP (lyO σ b t n i) b t (n - (i + 1)) k).1)) (zlCV_N ((lyP_22 (lyO σ b t n i) b t (n - (i + 1)) k).trans (lyO_22 σ b t n i)) ht) H h).1 rfl) (fun H h => h) ⟨Nat.le_of_ble_eq_true rfl, Nat.le_of_ble_eq_true rfl⟩ ⟨Nat.le_refl _, Nat.le_refl _⟩ (Nat.le_of_ble_eq_true rfl) rfl rfl ?_
            refine zi_aload_n K (dX3_lay_p0 49 rfl) 1 rfl ?_
            refine zg_LAY_brings K hb w_113 (dX3_lay_p1 0 rfl) ?_
            refine zi_iload K (dX3_lay_p1 1 rfl) 4 rfl ?_
            refine zi_iconst K (dX3_lay_p1 2 rfl) zk_i1 ?_
            refine zi_iadd K (dX3_lay_p1 3 rfl) ?_
            refine zl_LBR K hb (n - (i + 1) + k + 1) (nI_1 _) (by omega) (dX3_lay_p1 4 rfl) ?_
            refine zi_ladd K (dX3_lay_p1 5 rfl) ?_
            refine zi_lstore K [(6, .long ((v_layerOf ((lyP (lyO σ b t n i) b t (n - (i + 1)) k).1) t (((lyP (lyO σ b t n i) b t (n - (i + 1)) k).2) + (sL ((lyP (lyO σ b t n i) b t (n - (i + 1)) k).1) 7 b ((n - (i + 1)) + k)))) + (sL ((lyP (lyO σ b t n i) b t (n - (i + 1)) k).1) 8 b (n - (i + 1) + k + 1)))), (3, .long (((lyP (lyO σ b t n i) b t (n - (i + 1)) k).2) + (sL ((lyP (lyO σ b t n i) b t (n - (i + 1)) k).1) 7 b ((n - (i + 1)) + k)))), (0, .ref (ad 12 b)), (1, .ref (ad 5 t)), (2, .int (nI (n - (i + 1)))), (5, .int (nI ((n - (i + 1)) + k)))] (dX3_lay_p1 6 rfl) (by decide) rfl ?_
            refine zi_iconst K (dX3_lay_p1 7 rfl) zk_i1 ?_
            refine zi_aload_n K (dX3_lay_p1 8 rfl) 2 rfl ?_
            refine zg_LAY_counts K hb w_114 (dX3_lay_p1 9 rfl) ?_
            refine zi_iload K (dX3_lay_p1 10 rfl) 5 rfl ?_
            refine zi_iconst K (dX3_lay_p1 11 rfl) zk_i1 ?_
            refine zi_iadd K (dX3_lay_p1 12 rfl) ?_
            refine zl_LCN K hb (n - (i + 1) + k + 1) (nI_1 _) (by omega) (dX3_lay_p1 13 rfl) ?_
            refine zi_iadd K (dX3_lay_p1 14 rfl) ?_
            refine zi_istore K [(8, .int (1 + (sI ((lyP (lyO σ b t n i) b t (n - (i + 1)) k).1) 30 b (n - (i + 1) + k + 1)))), (6, .long ((v_layerOf ((lyP (lyO σ b t n i) b t (n - (i + 1)) k).1) t (((lyP (lyO σ b t n i) b t (n - (i + 1)) k).2) + (sL ((lyP (lyO σ b t n i) b t (n - (i + 1)) k).1) 7 b ((n - (i + 1)) + k)))) + (sL ((lyP (lyO σ b t n i) b t (n - (i + 1)) k).1) 8 b (n - (i + 1) + k + 1)))), (3, .long (((lyP (lyO σ b t n i) b t (n - (i + 1)) k).2) + (sL ((lyP (lyO σ b t n i) b t (n - (i + 1)) k).1) 7 b ((n - (i + 1)) + k)))), (0, .ref (ad 12 b)), (1, .ref (ad 5 t)), (2, .int (nI (n - (i + 1)))), (5, .int (nI ((n - (i + 1)) + k)))] (dX3_lay_p1 15 rfl) (by decide) rfl ?_
            refine zi_iload K (dX3_lay_p1 16 rfl) 6 rfl ?_
            refine zi_iload_n K (dX3_lay_p1 17 rfl) 5 rfl ?_
            refine zi_icmp_eq K 147 (dX3_lay_p1 18 rfl) rfl (fun h109_3 => ?_) (fun h109_3 => ?_)
            · skip
              refine zi_aload_n K (dX3_lay_p1 39 rfl) 3 rfl ?_
              refine zg_LAY_brings K hb w_113 (dX3_lay_p1 40 rfl) ?_
              refine zi_iload_n K (dX3_lay_p1 41 rfl) 5 rfl ?_
              refine zi_lload K (dX3_lay_p1 42 rfl) 1 rfl ?_
              refine zs_LBR K hb (n - (i + 1)) rfl (by omega) (dX3_lay_p1 43 rfl) ?_
              have e1 : (uL ((lyP (lyO σ b t n i) b t (n - (i + 1)) k).1) 8 b (n - (i + 1)) ((v_layerOf ((lyP (lyO σ b t n i) b t (n - (i + 1)) k).1) t (((lyP (lyO σ b t n i) b t (n - (i + 1)) k).2) + (sL ((lyP (lyO σ b t n i) b t (n - (i + 1)) k).1) 7 b ((n - (i + 1)) + k)))) + (sL ((lyP (lyO σ b t n i) b t (n - (i + 1)) k).1) 8 b (n - (i + 1) + k + 1)))).2.2 = σ.2.2 := (uL_22 ((lyP (lyO σ b t n i) b t (n - (i + 1)) k).1) 8 b (n - (i + 1)) ((v_layerOf ((lyP (lyO σ b t n i) b t (n - (i + 1)) k).1) t (((lyP (lyO σ b t n i) b t (n - (i + 1)) k).2) + (sL ((lyP (lyO σ b t n i) b t (n - (i + 1)) k).1) 7 b ((n - (i + 1)) + k)))) + (sL ((lyP (lyO σ b t n i) b t (n - (i + 1)) k).1) 8 b (n - (i + 1) + k + 1)))).trans ((lyP_22 (lyO σ b t n i) b t (n - (i + 1)) k).trans (lyO_22 σ b t n i))
              refine zi_aload_n K (dX3_lay_p1 44 rfl) 3 rfl ?_
              refine zg_LAY_counts K hb w_114 (dX3_lay_p1 45 rfl) ?_
              refine zi_iload_n K (dX3_lay_p1 46 rfl) 5 rfl ?_
              refine zi_iload K (dX3_lay_p1 47 rfl) 0 rfl ?_
              refine zs_LCN K hb (n - (i + 1)) rfl (by omega) (dX3_lay_p1 48 rfl) ?_
              have e2 : (uI (uL ((lyP (lyO σ b t n i) b t (n - (i + 1)) k).1) 8 b (n - (i + 1)) ((v_layerOf ((lyP (lyO σ b t n i) b t (n - (i + 1)) k).1) t (((lyP (lyO σ b t n i) b t (n - (i + 1)) k).2) + (sL ((lyP (lyO σ b t n i) b t (n - (i + 1)) k).1) 7 b ((n - (i + 1)) + k)))) + (sL ((lyP (lyO σ b t n i) b t (n - (i + 1)) k).1) 8 b (n - (i + 1) + k + 1)))) 30 b (n - (i + 1)) (1 + (sI ((lyP (lyO σ b t n i) b t (n - (i + 1)) k).1) 30 b (n - (i + 1) + k + 1)))).2.2 = σ.2.2 := (uI_22 (uL ((lyP (lyO σ b t n i) b t (n - (i + 1)) k).1) 8 b (n - (i + 1)) ((v_layerOf ((lyP (lyO σ b t n i) b t (n - (i + 1)) k).1) t (((lyP (lyO σ b t n i) b t (n - (i + 1)) k).2) + (sL ((lyP (lyO σ b t n i) b t (n - (i + 1)) k).1) 7 b ((n - (i + 1)) + k)))) + (sL ((lyP (lyO σ b t n i) b t (n - (i + 1)) k).1) 8 b (n - (i + 1) + k + 1)))) 30 b (n - (i + 1)) (1 + (sI ((lyP (lyO σ b t n i) b t (n - (i + 1)) k).1) 30 b (n - (i + 1) + k + 1)))).trans e1
              refine zi_aload_n K (dX3_lay_p1 49 rfl) 3 rfl ?_
              refine zg_LAY_ends K hb w_111 (dX3_lay_p2 0 rfl) ?_
              refine zi_iload_n K (dX3_lay_p2 1 rfl) 5 rfl ?_
              refine zi_iload K (dX3_lay_p2 2 rfl) 6 rfl ?_
              refine zs_LENDS K hb (n - (i + 1)) rfl (by omega) (dX3_lay_p2 3 rfl) ?_
              have e3 : (uI (uI (uL ((lyP (lyO σ b t n i) b t (n - (i + 1)) k).1) 8 b (n - (i + 1)) ((v_layerOf ((lyP (lyO σ b t n i) b t (n - (i + 1)) k).1) t (((lyP (lyO σ b t n i) b t (n - (i + 1)) k).2) + (sL ((lyP (lyO σ b t n i) b t (n - (i + 1)) k).1) 7 b ((n - (i + 1)) + k)))) + (sL ((lyP (lyO σ b t n i) b t (n - (i + 1)) k).1) 8 b (n - (i + 1) + k + 1)))) 30 b (n - (i + 1)) (1 + (sI ((lyP (lyO σ b t n i) b t (n - (i + 1)) k).1) 30 b (n - (i + 1) + k + 1)))) 29 b (n - (i + 1)) (nI ((n - (i + 1)) + k))).2.2 = σ.2.2 := (uI_22 (uI (uL ((lyP (lyO σ b t n i) b t (n - (i + 1)) k).1) 8 b (n - (i + 1)) ((v_layerOf ((lyP (lyO σ b t n i) b t (n - (i + 1)) k).1) t (((lyP (lyO σ b t n i) b t (n - (i + 1)) k).2) + (sL ((lyP (lyO σ b t n i) b t (n - (i + 1)) k).1) 7 b ((n - (i + 1)) + k)))) + (sL ((lyP (lyO σ b t n i) b t (n - (i + 1)) k).1) 8 b (n - (i + 1) + k + 1)))) 30 b (n - (i + 1)) (1 + (sI ((lyP (lyO σ b t n i) b t (n - (i + 1)) k).1) 30 b (n - (i + 1) + k + 1)))) 29 b (n - (i + 1)) (nI ((n - (i + 1)) + k))).trans e2
              refine zi_iinc K (v := nI ((n - (i + 1)) + k + 1)) [(5, .int (nI ((n - (i + 1)) + k + 1))), (8, .int (1 + (sI ((lyP (lyO σ b t n i) b t (n - (i + 1)) k).1) 30 b (n - (i + 1) + k + 1)))), (6, .long ((v_layerOf ((lyP (lyO σ b t n i) b t (n - (i + 1)) k).1) t (((lyP (lyO σ b t n i) b t (n - (i + 1)) k).2) + (sL ((lyP (lyO σ b t n i) b t (n - (i + 1)) k).1) 7 b ((n - (i + 1)) + k)))) + (sL ((lyP (lyO σ b t n i) b t (n - (i + 1)) k).1) 8 b (n - (i + 1) + k + 1)))), (3, .long (((lyP (lyO σ b t n i) b t (n - (i + 1)) k).2) + (sL ((lyP (lyO σ b t n i) b t (n - (i + 1)) k).1) 7 b ((n - (i + 1)) + k)))), (0, .ref (ad 12 b)), (1, .ref (ad 5 t)), (2, .int (nI (n - (i + 1))))] (dX3_lay_p2 4 rfl) 6 rfl (zk_inc _) (by decide) rfl ?_
              refine zi_goto K 36 (dX3_lay_p2 5 rfl) rfl ?_
              refine zV.pick [4, 5, 6, 3, 0] (lo' := [(0, .ref (ad 12 b)), (1, .ref (ad 5 t)), (2, .int (nI (n - (i + 1)))), (3, .long (((lyP (lyO σ b t n i) b t (n - (i + 1)) k).2) + (sL ((lyP (lyO σ b t n i) b t (n - (i + 1)) k).1) 7 b ((n - (i + 1)) + k)))), (5, .int (nI ((n - (i + 1)) + k + 1)))]) rfl ?_
              refine zV.lov (lo' := [(0, .ref (ad 12 b)), (1, .ref (ad 5 t)), (2, .int (nI (n - (i + 1)))), (3, .long ((lyP (lyO σ b t n i) b t (n - (i + 1)) (k + 1)).2)), (5, .int (nI ((n - (i + 1)) + (k + 1))))]) (rfl) ?_
              have hSx : (lyP (lyO σ b t n i) b t (n - (i + 1)) (k + 1)).1 = (uI (uI (uL ((lyP (lyO σ b t n i) b t (n - (i + 1)) k).1) 8 b (n - (i + 1)) ((v_layerOf ((lyP (lyO σ b t n i) b t (n - (i + 1)) k).1) t (((lyP (lyO σ b t n i) b t (n - (i + 1)) k).2) + (sL ((lyP (lyO σ b t n i) b t (n - (i + 1)) k).1) 7 b ((n - (i + 1)) + k)))) + (sL ((lyP (lyO σ b t n i) b t (n - (i + 1)) k).1) 8 b (n - (i + 1) + k + 1)))) 30 b (n - (i + 1)) (1 + (sI ((lyP (lyO σ b t n i) b t (n - (i + 1)) k).1) 30 b (n - (i + 1) + k + 1)))) 29 b (n - (i + 1)) (nI ((n - (i + 1)) + k))) := (by simp only [lyP, lyA, lyU, if_neg h42_1, if_neg h63_2, if_pos h109_3])
              have ihx := ih36 (k + 1) (by omega) ⟨by omega, by rw [hv36.2, show n + 1 - k = (n - k) + 1 by omega, show n + 1 - (k + 1) = n - k by omega]; simp only [lyK, if_neg hA, if_neg hB]⟩
              rw [hSx] at ihx
              exact ihx
            · skip
              refine zi_lload K (dX3_lay_p1 19 rfl) 1 rfl ?_
              refine zi_aload_n K (dX3_lay_p1 20 rfl) 3 rfl ?_
              refine zg_LAY_brings K hb w_113 (dX3_lay_p1 21 rfl) ?_
              refine zi_iload_n K (dX3_lay_p1 22 rfl) 5 rfl ?_
              refine zl_LBR K hb (n - (i + 1)) rfl (by omega) (dX3_lay_p1 23 rfl) ?_
              refine zi_lif_gt K 147 (dX3_lay_p1 24 rfl) (dX3_lay_p1 25 rfl) rfl (fun h120_4 => ?_) (fun h120_4 => ?_)
              · skip
                refine zi_aload_n K (dX3_lay_p1 39 rfl) 3 rfl ?_
                refine zg_LAY_brings K hb w_113 (dX3_lay_p1 40 rfl) ?_
                refine zi_iload_n K (dX3_lay_p1 41 rfl) 5 rfl ?_
                refine zi_lload K (dX3_lay_p1 42 rfl) 1 rfl ?_
                refine zs_LBR K hb (n - (i + 1)) rfl (by omega) (dX3_lay_p1 43 rfl) ?_
                have e4 : (uL ((lyP (lyO σ b t n i) b t (n - (i + 1)) k).1) 8 b (n - (i + 1)) ((v_layerOf ((lyP (lyO σ b t n i) b t (n - (i + 1)) k).1) t (((lyP (lyO σ b t n i) b t (n - (i + 1)) k).2) + (sL ((lyP (lyO σ b t n i) b t (n - (i + 1)) k).1) 7 b ((n - (i + 1)) + k)))) + (sL ((lyP (lyO σ b t n i) b t (n - (i + 1)) k).1) 8 b (n - (i + 1) + k + 1)))).2.2 = σ.2.2 := (uL_22 ((lyP (lyO σ b t n i) b t (n - (i + 1)) k).1) 8 b (n - (i + 1)) ((v_layerOf ((lyP (lyO σ b t n i) b t (n - (i + 1)) k).1) t (((lyP (lyO σ b t n i) b t (n - (i + 1)) k).2) + (sL ((lyP (lyO σ b t n i) b t (n - (i + 1)) k).1) 7 b ((n - (i + 1)) + k)))) + (sL ((lyP (lyO σ b t n i) b t (n - (i + 1)) k).1) 8 b (n - (i + 1) + k + 1)))).trans ((lyP_22 (lyO σ b t n i) b t (n - (i + 1)) k).trans (lyO_22 σ b t n i))
                refine zi_aload_n K (dX3_lay_p1 44 rfl) 3 rfl ?_
                refine zg_LAY_counts K hb w_114 (dX3_lay_p1 45 rfl) ?_
                refine zi_iload_n K (dX3_lay_p1 46 rfl) 5 rfl ?_
                refine zi_iload K (dX3_lay_p1 47 rfl) 0 rfl ?_
                refine zs_LCN K hb (n - (i + 1)) rfl (by omega) (dX3_lay_p1 48 rfl) ?_
                have e5 : (uI (uL ((lyP (lyO σ b t n i) b t (n - (i + 1)) k).1) 8 b (n - (i + 1)) ((v_layerOf ((lyP (lyO σ b t n i) b t (n - (i + 1)) k).1) t (((lyP (lyO σ b t n i) b t (n - (i + 1)) k).2) + (sL ((lyP (lyO σ b t n i) b t (n - (i + 1)) k).1) 7 b ((n - (i + 1)) + k)))) + (sL ((lyP (lyO σ b t n i) b t (n - (i + 1)) k).1) 8 b (n - (i + 1) + k + 1)))) 30 b (n - (i + 1)) (1 + (sI ((lyP (lyO σ b t n i) b t (n - (i + 1)) k).1) 30 b (n - (i + 1) + k + 1)))).2.2 = σ.2.2 := (uI_22 (uL ((lyP (lyO σ b t n i) b t (n - (i + 1)) k).1) 8 b (n - (i + 1)) ((v_layerOf ((lyP (lyO σ b t n i) b t (n - (i + 1)) k).1) t (((lyP (lyO σ b t n i) b t (n - (i + 1)) k).2) + (sL ((lyP (lyO σ b t n i) b t (n - (i + 1)) k).1) 7 b ((n - (i + 1)) + k)))) + (sL ((lyP (lyO σ b t n i) b t (n - (i + 1)) k).1) 8 b (n - (i + 1) + k + 1)))) 30 b (n - (i + 1)) (1 + (sI ((lyP (lyO σ b t n i) b t (n - (i + 1)) k).1) 30 b (n - (i + 1) + k + 1)))).trans e4
                refine zi_aload_n K (dX3_lay_p1 49 rfl) 3 rfl ?_
                refine zg_LAY_ends K hb w_111 (dX3_lay_p2 0 rfl) ?_
                refine zi_iload_n K (dX3_lay_p2 1 rfl) 5 rfl ?_
                refine zi_iload K (dX3_lay_p2 2 rfl) 6 rfl ?_
                refine zs_LENDS K hb (n - (i + 1)) rfl (by omega) (dX3_lay_p2 3 rfl) ?_
                have e6 : (uI (uI (uL ((lyP (lyO σ b t n i) b t (n - (i + 1)) k).1) 8 b (n - (i + 1)) ((v_layerOf ((lyP (lyO σ b t n i) b t (n - (i + 1)) k).1) t (((lyP (lyO σ b t n i) b t (n - (i + 1)) k).2) + (sL ((lyP (lyO σ b t n i) b t (n - (i + 1)) k).1) 7 b ((n - (i + 1)) + k)))) + (sL ((lyP (lyO σ b t n i) b t (n - (i + 1)) k).1) 8 b (n - (i + 1) + k + 1)))) 30 b (n - (i + 1)) (1 + (sI ((lyP (lyO σ b t n i) b t (n - (i + 1)) k).1) 30 b (n - (i + 1) + k + 1)))) 29 b (n - (i + 1)) (nI ((n - (i + 1)) + k))).2.2 = σ.2.2 := (uI_22 (uI (uL ((lyP (lyO σ b t n i) b t (n - (i + 1)) k).1) 8 b (n - (i + 1)) ((v_layerOf ((lyP (lyO σ b t n i) b t (n - (i + 1)) k).1) t (((lyP (lyO σ b t n i) b t (n - (i + 1)) k).2) + (sL ((lyP (lyO σ b t n i) b t (n - (i + 1)) k).1) 7 b ((n - (i + 1)) + k)))) + (sL ((lyP (lyO σ b t n i) b t (n - (i + 1)) k).1) 8 b (n - (i + 1) + k + 1)))) 30 b (n - (i + 1)) (1 + (sI ((lyP (lyO σ b t n i) b t (n - (i + 1)) k).1) 30 b (n - (i + 1) + k + 1)))) 29 b (n - (i + 1)) (nI ((n - (i + 1)) + k))).trans e5
                refine zi_iinc K (v := nI ((n - (i + 1)) + k + 1)) [(5, .int (nI ((n - (i + 1)) + k + 1))), (8, .int (1 + (sI ((lyP (lyO σ b t n i) b t (n - (i + 1)) k).1) 30 b (n - (i + 1) + k + 1)))), (6, .long ((v_layerOf ((lyP (lyO σ b t n i) b t (n - (i + 1)) k).1) t (((lyP (lyO σ b t n i) b t (n - (i + 1)) k).2) + (sL ((lyP (lyO σ b t n i) b t (n - (i + 1)) k).1) 7 b ((n - (i + 1)) + k)))) + (sL ((lyP (lyO σ b t n i) b t (n - (i + 1)) k).1) 8 b (n - (i + 1) + k + 1)))), (3, .long (((lyP (lyO σ b t n i) b t (n - (i + 1)) k).2) + (sL ((lyP (lyO σ b t n i) b t (n - (i + 1)) k).1) 7 b ((n - (i + 1)) + k)))), (0, .ref (ad 12 b)), (1, .ref (ad 5 t)), (2, .int (nI (n - (i + 1))))] (dX3_lay_p2 4 rfl) 6 rfl (zk_inc _) (by decide) rfl ?_
                refine zi_goto K 36 (dX3_lay_p2 5 rfl) rfl ?_
                refine zV.pick [4, 5, 6, 3, 0] (lo' := [(0, .ref (ad 12 b)), (1, .ref (ad 5 t)), (2, .int (nI (n - (i + 1)))), (3, .long (((lyP (lyO σ b t n i) b t (n - (i + 1)) k).2) + (sL ((lyP (lyO σ b t n i) b t (n - (i + 1)) k).1) 7 b ((n - (i + 1)) + k)))), (5, .int (nI ((n - (i + 1)) + k + 1)))]) rfl ?_
                refine zV.lov (lo' := [(0, .ref (ad 12 b)), (1, .ref (ad 5 t)), (2, .int (nI (n - (i + 1)))), (3, .long ((lyP (lyO σ b t n i) b t (n - (i + 1)) (k + 1)).2)), (5, .int (nI ((n - (i + 1)) + (k + 1))))]) (rfl) ?_
                have hSx : (lyP (lyO σ b t n i) b t (n - (i + 1)) (k + 1)).1 = (uI (uI (uL ((lyP (lyO σ b t n i) b t (n - (i + 1)) k).1) 8 b (n - (i + 1)) ((v_layerOf ((lyP (lyO σ b t n i) b t (n - (i + 1)) k).1) t (((lyP (lyO σ b t n i) b t (n - (i + 1)) k).2) + (sL ((lyP (lyO σ b t n i) b t (n - (i + 1)) k).1) 7 b ((n - (i + 1)) + k)))) + (sL ((lyP (lyO σ b t n i) b t (n - (i + 1)) k).1) 8 b (n - (i + 1) + k + 1)))) 30 b (n - (i + 1)) (1 + (sI ((lyP (lyO σ b t n i) b t (n - (i + 1)) k).1) 30 b (n - (i + 1) + k + 1)))) 29 b (n - (i + 1)) (nI ((n - (i + 1)) + k))) := (by simp only [lyP, lyA, lyU, if_neg h42_1, if_neg h63_2, if_neg h109_3, if_pos h120_4])
                have ihx := ih36 (k + 1) (by omega) ⟨by omega, by rw [hv36.2, show n + 1 - k = (n - k) + 1 by omega, show n + 1 - (k + 1) = n - k by omega]; simp only [lyK, if_neg hA, if_neg hB]⟩
                rw [hSx] at ihx
                exact ihx
              · skip
                refine zi_lload K (dX3_lay_p1 26 rfl) 1 rfl ?_
                refine zi_aload_n K (dX3_lay_p1 27 rfl) 3 rfl ?_
                refine zg_LAY_brings K hb w_113 (dX3_lay_p1 28 rfl) ?_
                refine zi_iload_n K (dX3_lay_p1 29 rfl) 5 rfl ?_
                refine zl_LBR K hb (n - (i + 1)) rfl (by omega) (dX3_lay_p1 30 rfl) ?_
                refine zi_lif_ne K 171 (dX3_lay_p1 31 rfl) (dX3_lay_p1 32 rfl) rfl (fun h132_5 => ?_) (fun h132_5 => ?_)
                · skip
                  refine zi_iinc K (v := nI ((n - (i + 1)) + k + 1)) [(5, .int (nI ((n - (i + 1)) + k + 1))), (8, .int (1 + (sI ((lyP (lyO σ b t n i) b t (n - (i + 1)) k).1) 30 b (n - (i + 1) + k + 1)))), (6, .long ((v_layerOf ((lyP (lyO σ b t n i) b t (n - (i + 1)) k).1) t (((lyP (lyO σ b t n i) b t (n - (i + 1)) k).2) + (sL ((lyP (lyO σ b t n i) b t (n - (i + 1)) k).1) 7 b ((n - (i + 1)) + k)))) + (sL ((lyP (lyO σ b t n i) b t (n - (i + 1)) k).1) 8 b (n - (i + 1) + k + 1)))), (3, .long (((lyP (lyO σ b t n i) b t (n - (i + 1)) k).2) + (sL ((lyP (lyO σ b t n i) b t (n - (i + 1)) k).1) 7 b ((n - (i + 1)) + k)))), (0, .ref (ad 12 b)), (1, .ref (ad 5 t)), (2, .int (nI (n - (i + 1))))] (dX3_lay_p2 4 rfl) 6 rfl (zk_inc _) (by decide) rfl ?_
                  refine zi_goto K 36 (dX3_lay_p2 5 rfl) rfl ?_
                  refine zV.pick [4, 5, 6, 3, 0] (lo' := [(0, .ref (ad 12 b)), (1, .ref (ad 5 t)), (2, .int (nI (n - (i + 1)))), (3, .long (((lyP (lyO σ b t n i) b t (n - (i + 1)) k).2) + (sL ((lyP (lyO σ b t n i) b t (n - (i + 1)) k).1) 7 b ((n - (i + 1)) + k)))), (5, .int (nI ((n - (i + 1)) + k + 1)))]) rfl ?_
                  refine zV.lov (lo' := [(0, .ref (ad 12 b)), (1, .ref (ad 5 t)), (2, .int (nI (n - (i + 1)))), (3, .long ((lyP (lyO σ b t n i) b t (n - (i + 1)) (k + 1)).2)), (5, .int (nI ((n - (i + 1)) + (k + 1))))]) (rfl) ?_
                  have hSx : (lyP (lyO σ b t n i) b t (n - (i + 1)) (k + 1)).1 = ((lyP (lyO σ b t n i) b t (n - (i + 1)) k).1) := (by simp only [lyP, lyA, lyU, if_neg h42_1, if_neg h63_2, if_neg h109_3, if_neg h120_4, if_neg h132_5])
                  have ihx := ih36 (k + 1) (by omega) ⟨by omega, by rw [hv36.2, show n + 1 - k = (n - k) + 1 by omega, show n + 1 - (k + 1) = n - k by omega]; simp only [lyK, if_neg hA, if_neg hB]⟩
                  rw [hSx] at ihx
                  exact ihx
                · skip
                  refine zi_iload K (dX3_lay_p1 33 rfl) 0 rfl ?_
                  refine zi_aload_n K (dX3_lay_p1 34 rfl) 3 rfl ?_
                  refine zg_LAY_counts K hb w_114 (dX3_lay_p1 35 rfl) ?_
                  refine zi_iload_n K (dX3_lay_p1 36 rfl) 5 rfl ?_
                  refine zl_LCN K hb (n - (i + 1)) rfl (by omega) (dX3_lay_p1 37 rfl) ?_
                  refine zi_icmp_gt K 171 (dX3_lay_p1 38 rfl) rfl (fun h144_6 => ?_) (fun h144_6 => ?_)
                  · skip
                    refine zi_iinc K (v := nI ((n - (i + 1)) + k + 1)) [(5, .int (nI ((n - (i + 1)) + k + 1))), (8, .int (1 + (sI ((lyP (lyO σ b t n i) b t (n - (i + 1)) k).1) 30 b (n - (i + 1) + k + 1)))), (6, .long ((v_layerOf ((lyP (lyO σ b t n i) b t (n - (i + 1)) k).1) t (((lyP (lyO σ b t n i) b t (n - (i + 1)) k).2) + (sL ((lyP (lyO σ b t n i) b t (n - (i + 1)) k).1) 7 b ((n - (i + 1)) + k)))) + (sL ((lyP (lyO σ b t n i) b t (n - (i + 1)) k).1) 8 b (n - (i + 1) + k + 1)))), (3, .long (((lyP (lyO σ b t n i) b t (n - (i + 1)) k).2) + (sL ((lyP (lyO σ b t n i) b t (n - (i + 1)) k).1) 7 b ((n - (i + 1)) + k)))), (0, .ref (ad 12 b)), (1, .ref (ad 5 t)), (2, .int (nI (n - (i + 1))))] (dX3_lay_p2 4 rfl) 6 rfl (zk_inc _) (by decide) rfl ?_
                    refine zi_goto K 36 (dX3_lay_p2 5 rfl) rfl ?_
                    refine zV.pick [4, 5, 6, 3, 0] (lo' := [(0, .ref (ad 12 b)), (1, .ref (ad 5 t)), (2, .int (nI (n - (i + 1)))), (3, .long (((lyP (lyO σ b t n i) b t (n - (i + 1)) k).2) + (sL ((lyP (lyO σ b t n i) b t (n - (i + 1)) k).1) 7 b ((n - (i + 1)) + k)))), (5, .int (nI ((n - (i + 1)) + k + 1)))]) rfl ?_
                    refine zV.lov (lo' := [(0, .ref (ad 12 b)), (1, .ref (ad 5 t)), (2, .int (nI (n - (i + 1)))), (3, .long ((lyP (lyO σ b t n i) b t (n - (i + 1)) (k + 1)).2)), (5, .int (nI ((n - (i + 1)) + (k + 1))))]) (rfl) ?_
                    have hSx : (lyP (lyO σ b t n i) b t (n - (i + 1)) (k + 1)).1 = ((lyP (lyO σ b t n i) b t (n - (i + 1)) k).1) := (by simp only [lyP, lyA, lyU, if_neg h42_1, if_neg h63_2, if_neg h109_3, if_neg h120_4, if_pos h132_5, if_pos h144_6])
                    have ihx := ih36 (k + 1) (by omega) ⟨by omega, by rw [hv36.2, show n + 1 - k = (n - k) + 1 by omega, show n + 1 - (k + 1) = n - k by omega]; simp only [lyK, if_neg hA, if_neg hB]⟩
                    rw [hSx] at ihx
                    exact ihx
                  · skip
                    refine zi_aload_n K (dX3_lay_p1 39 rfl) 3 rfl ?_
                    refine zg_LAY_brings K hb w_113 (dX3_lay_p1 40 rfl) ?_
                    refine zi_iload_n K (dX3_lay_p1 41 rfl) 5 rfl ?_
                    refine zi_lload K (dX3_lay_p1 42 rfl) 1 rfl ?_
                    refine zs_LBR K hb (n - (i + 1)) rfl (by omega) (dX3_lay_p1 43 rfl) ?_
                    have e7 : (uL ((lyP (lyO σ b t n i) b t (n - (i + 1)) k).1) 8 b (n - (i + 1)) ((v_layerOf ((lyP (lyO σ b t n i) b t (n - (i + 1)) k).1) t (((lyP (lyO σ b t n i) b t (n - (i + 1)) k).2) + (sL ((lyP (lyO σ b t n i) b t (n - (i + 1)) k).1) 7 b ((n - (i + 1)) + k)))) + (sL ((lyP (lyO σ b t n i) b t (n - (i + 1)) k).1) 8 b (n - (i + 1) + k + 1)))).2.2 = σ.2.2 := (uL_22 ((lyP (lyO σ b t n i) b t (n - (i + 1)) k).1) 8 b (n - (i + 1)) ((v_layerOf ((lyP (lyO σ b t n i) b t (n - (i + 1)) k).1) t (((lyP (lyO σ b t n i) b t (n - (i + 1)) k).2) + (sL ((lyP (lyO σ b t n i) b t (n - (i + 1)) k).1) 7 b ((n - (i + 1)) + k)))) + (sL ((lyP (lyO σ b t n i) b t (n - (i + 1)) k).1) 8 b (n - (i + 1) + k + 1)))).trans ((lyP_22 (lyO σ b t n i) b t (n - (i + 1)) k).trans (lyO_22 σ b t n i))
                    refine zi_aload_n K (dX3_lay_p1 44 rfl) 3 rfl ?_
                    refine zg_LAY_counts K hb w_114 (dX3_lay_p1 45 rfl) ?_
                    refine zi_iload_n K (dX3_lay_p1 46 rfl) 5 rfl ?_
                    refine zi_iload K (dX3_lay_p1 47 rfl) 0 rfl ?_
                    refine zs_LCN K hb (n - (i + 1)) rfl (by omega) (dX3_lay_p1 48 rfl) ?_
                    have e8 : (uI (uL ((lyP (lyO σ b t n i) b t (n - (i + 1)) k).1) 8 b (n - (i + 1)) ((v_layerOf ((lyP (lyO σ b t n i) b t (n - (i + 1)) k).1) t (((lyP (lyO σ b t n i) b t (n - (i + 1)) k).2) + (sL ((lyP (lyO σ b t n i) b t (n - (i + 1)) k).1) 7 b ((n - (i + 1)) + k)))) + (sL ((lyP (lyO σ b t n i) b t (n - (i + 1)) k).1) 8 b (n - (i + 1) + k + 1)))) 30 b (n - (i + 1)) (1 + (sI ((lyP (lyO σ b t n i) b t (n - (i + 1)) k).1) 30 b (n - (i + 1) + k + 1)))).2.2 = σ.2.2 := (uI_22 (uL ((lyP (lyO σ b t n i) b t (n - (i + 1)) k).1) 8 b (n - (i + 1)) ((v_layerOf ((lyP (lyO σ b t n i) b t (n - (i + 1)) k).1) t (((lyP (lyO σ b t n i) b t (n - (i + 1)) k).2) + (sL ((lyP (lyO σ b t n i) b t (n - (i + 1)) k).1) 7 b ((n - (i + 1)) + k)))) + (sL ((lyP (lyO σ b t n i) b t (n - (i + 1)) k).1) 8 b (n - (i + 1) + k + 1)))) 30 b (n - (i + 1)) (1 + (sI ((lyP (lyO σ b t n i) b t (n - (i + 1)) k).1) 30 b (n - (i + 1) + k + 1)))).trans e7
                    refine zi_aload_n K (dX3_lay_p1 49 rfl) 3 rfl ?_
                    refine zg_LAY_ends K hb w_111 (dX3_lay_p2 0 rfl) ?_
                    refine zi_iload_n K (dX3_lay_p2 1 rfl) 5 rfl ?_
                    refine zi_iload K (dX3_lay_p2 2 rfl) 6 rfl ?_
                    refine zs_LENDS K hb (n - (i + 1)) rfl (by omega) (dX3_lay_p2 3 rfl) ?_
                    have e9 : (uI (uI (uL ((lyP (lyO σ b t n i) b t (n - (i + 1)) k).1) 8 b (n - (i + 1)) ((v_layerOf ((lyP (lyO σ b t n i) b t (n - (i + 1)) k).1) t (((lyP (lyO σ b t n i) b t (n - (i + 1)) k).2) + (sL ((lyP (lyO σ b t n i) b t (n - (i + 1)) k).1) 7 b ((n - (i + 1)) + k)))) + (sL ((lyP (lyO σ b t n i) b t (n - (i + 1)) k).1) 8 b (n - (i + 1) + k + 1)))) 30 b (n - (i + 1)) (1 + (sI ((lyP (lyO σ b t n i) b t (n - (i + 1)) k).1) 30 b (n - (i + 1) + k + 1)))) 29 b (n - (i + 1)) (nI ((n - (i + 1)) + k))).2.2 = σ.2.2 := (uI_22 (uI (uL ((lyP (lyO σ b t n i) b t (n - (i + 1)) k).1) 8 b (n - (i + 1)) ((v_layerOf ((lyP (lyO σ b t n i) b t (n - (i + 1)) k).1) t (((lyP (lyO σ b t n i) b t (n - (i + 1)) k).2) + (sL ((lyP (lyO σ b t n i) b t (n - (i + 1)) k).1) 7 b ((n - (i + 1)) + k)))) + (sL ((lyP (lyO σ b t n i) b t (n - (i + 1)) k).1) 8 b (n - (i + 1) + k + 1)))) 30 b (n - (i + 1)) (1 + (sI ((lyP (lyO σ b t n i) b t (n - (i + 1)) k).1) 30 b (n - (i + 1) + k + 1)))) 29 b (n - (i + 1)) (nI ((n - (i + 1)) + k))).trans e8
                    refine zi_iinc K (v := nI ((n - (i + 1)) + k + 1)) [(5, .int (nI ((n - (i + 1)) + k + 1))), (8, .int (1 + (sI ((lyP (lyO σ b t n i) b t (n - (i + 1)) k).1) 30 b (n - (i + 1) + k + 1)))), (6, .long ((v_layerOf ((lyP (lyO σ b t n i) b t (n - (i + 1)) k).1) t (((lyP (lyO σ b t n i) b t (n - (i + 1)) k).2) + (sL ((lyP (lyO σ b t n i) b t (n - (i + 1)) k).1) 7 b ((n - (i + 1)) + k)))) + (sL ((lyP (lyO σ b t n i) b t (n - (i + 1)) k).1) 8 b (n - (i + 1) + k + 1)))), (3, .long (((lyP (lyO σ b t n i) b t (n - (i + 1)) k).2) + (sL ((lyP (lyO σ b t n i) b t (n - (i + 1)) k).1) 7 b ((n - (i + 1)) + k)))), (0, .ref (ad 12 b)), (1, .ref (ad 5 t)), (2, .int (nI (n - (i + 1))))] (dX3_lay_p2 4 rfl) 6 rfl (zk_inc _) (by decide) rfl ?_
                    refine zi_goto K 36 (dX3_lay_p2 5 rfl) rfl ?_
                    refine zV.pick [4, 5, 6, 3, 0] (lo' := [(0, .ref (ad 12 b)), (1, .ref (ad 5 t)), (2, .int (nI (n - (i + 1)))), (3, .long (((lyP (lyO σ b t n i) b t (n - (i + 1)) k).2) + (sL ((lyP (lyO σ b t n i) b t (n - (i + 1)) k).1) 7 b ((n - (i + 1)) + k)))), (5, .int (nI ((n - (i + 1)) + k + 1)))]) rfl ?_
                    refine zV.lov (lo' := [(0, .ref (ad 12 b)), (1, .ref (ad 5 t)), (2, .int (nI (n - (i + 1)))), (3, .long ((lyP (lyO σ b t n i) b t (n - (i + 1)) (k + 1)).2)), (5, .int (nI ((n - (i + 1)) + (k + 1))))]) (rfl) ?_
                    have hSx : (lyP (lyO σ b t n i) b t (n - (i + 1)) (k + 1)).1 = (uI (uI (uL ((lyP (lyO σ b t n i) b t (n - (i + 1)) k).1) 8 b (n - (i + 1)) ((v_layerOf ((lyP (lyO σ b t n i) b t (n - (i + 1)) k).1) t (((lyP (lyO σ b t n i) b t (n - (i + 1)) k).2) + (sL ((lyP (lyO σ b t n i) b t (n - (i + 1)) k).1) 7 b ((n - (i + 1)) + k)))) + (sL ((lyP (lyO σ b t n i) b t (n - (i + 1)) k).1) 8 b (n - (i + 1) + k + 1)))) 30 b (n - (i + 1)) (1 + (sI ((lyP (lyO σ b t n i) b t (n - (i + 1)) k).1) 30 b (n - (i + 1) + k + 1)))) 29 b (n - (i + 1)) (nI ((n - (i + 1)) + k))) := (by simp only [lyP, lyA, lyU, if_neg h42_1, if_neg h63_2, if_neg h109_3, if_neg h120_4, if_pos h132_5, if_neg h144_6])
                    have ihx := ih36 (k + 1) (by omega) ⟨by omega, by rw [hv36.2, show n + 1 - k = (n - k) + 1 by omega, show n + 1 - (k + 1) = n - k by omega]; simp only [lyK, if_neg hA, if_neg hB]⟩
                    rw [hSx] at ihx
                    exact ihx
