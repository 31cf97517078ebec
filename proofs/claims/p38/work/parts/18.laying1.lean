/-! Laying: adding a day, cuts, worth of a laying -/
theorem zk_pr {n : Nat} (h : ¬ nI n ≤ 0) : nI n - 1 = nI (n - 1) := by
  cases n with
  | zero => exact absurd (by decide) h
  | succ m => exact nI_pred m
def s_lyAdd (σ : zSt) (b k n : Nat) : zSt := if nI n ≤ 0 then (if 30 ≤ nI n then σ else (uI (uL (uI σ 28 b n (sI σ 4 k 0)) 7 b n (sL (uI σ 28 b n (sI σ 4 k 0)) 0 k 0)) 27 b 0 ((nI n) + 1))) else if sI σ 28 b (n - 1) = sI σ 4 k 0 then (uL σ 7 b (n - 1) ((sL σ 7 b (n - 1)) + (sL σ 0 k 0))) else if 30 ≤ nI n then σ else (uI (uL (uI σ 28 b n (sI σ 4 k 0)) 7 b n (sL (uI σ 28 b n (sI σ 4 k 0)) 0 k 0)) 27 b 0 ((nI n) + 1))
theorem s_lyAdd_22 (σ : zSt) (b k n : Nat) : (s_lyAdd σ b k n).2.2 = σ.2.2 := by
  unfold s_lyAdd
  (repeat' split) <;> first | exact ((uI_22 (uL (uI σ 28 b n (sI σ 4 k 0)) 7 b n (sL (uI σ 28 b n (sI σ 4 k 0)) 0 k 0)) 27 b 0 ((nI n) + 1)).trans ((uL_22 (uI σ 28 b n (sI σ 4 k 0)) 7 b n (sL (uI σ 28 b n (sI σ 4 k 0)) 0 k 0)).trans ((uI_22 σ 28 b n (sI σ 4 k 0)).trans rfl))) | exact ((uL_22 σ 7 b (n - 1) ((sL σ 7 b (n - 1)) + (sL σ 0 k 0))).trans rfl) | exact rfl
set_option maxRecDepth 100000 in
set_option maxHeartbeats 4000000 in
theorem c_lyAdd {G : zG} {ad : Nat → Nat → Nat} {σ : zSt} (b k n : Nat) (hb : b < 2) (hk : zlC σ k) (hn : sI σ 27 b 0 = nI n) (hn30 : n ≤ 30) : zC G yX3_add cX3_add 2 none 0 0 0 0 [.ref (ad 12 b), .ref (ad 2 k)] (zP G ad σ) none (zP G ad (s_lyAdd σ b k n)) := by
  refine zC_of (by decide) (Nat.le_of_ble_eq_true rfl) (fun X K E hnm => ?_)
  show zV G X 2 (zP G ad σ) 0 0 0 [(0, .ref (ad 12 b)), (1, .ref (ad 2 k))] []
  refine zi_aload_n K (dX3_add 0 rfl) 0 rfl ?_
  refine zg_LAY_size K hb w_115 (dX3_add 1 rfl) ?_
  rw [show sI σ 27 b 0 = nI n from hn]
  refine zi_if_le K 46 (dX3_add 2 rfl) rfl (fun h4_0 => ?_) (fun h4_0 => ?_)
  · skip
    refine zi_aload_n K (dX3_add 26 rfl) 0 rfl ?_
    refine zg_LAY_size K hb w_115 (dX3_add 27 rfl) ?_
    rw [show sI σ 27 b 0 = nI n from hn]
    refine zi_aload_n K (dX3_add 28 rfl) 0 rfl ?_
    refine zg_LAY_days K hb w_108 (dX3_add 29 rfl) ?_
    refine zn_LDAYS K hb (dX3_add 30 rfl) ?_
    refine zi_icmp_ge K 94 (dX3_add 31 rfl) rfl (fun h55_1 => ?_) (fun h55_1 => ?_)
    · skip
      exact zi_vret K E (dX3_add 52 rfl) (Nat.le_refl _) (Nat.le_refl _) rfl (fun H h => by unfold s_lyAdd; rw [if_pos h4_0, if_pos h55_1]; exact h)
    · skip
      refine zi_aload_n K (dX3_add 32 rfl) 0 rfl ?_
      refine zg_LAY_days K hb w_108 (dX3_add 33 rfl) ?_
      refine zi_aload_n K (dX3_add 34 rfl) 0 rfl ?_
      refine zg_LAY_size K hb w_115 (dX3_add 35 rfl) ?_
      rw [show sI σ 27 b 0 = nI n from hn]
      refine zi_aload_n K (dX3_add 36 rfl) 1 rfl ?_
      refine zg_CL_day K hk w_747 (dX3_add 37 rfl) ?_
      refine zs_LDAYS K hb n rfl (by first | omega | (have q := zloop_in (i := n) (N := 30) (by decide) (by decide) hn30 h55_1; omega) | (have q := zloop_in (i := n) (N := 30) (by decide) (by decide) hn30 h55_2; omega)) (dX3_add 38 rfl) ?_
      refine zi_aload_n K (dX3_add 39 rfl) 0 rfl ?_
      refine zg_LAY_sums K hb w_110 (dX3_add 40 rfl) ?_
      refine zi_aload_n K (dX3_add 41 rfl) 0 rfl ?_
      refine zg_LAY_size K hb w_115 (dX3_add 42 rfl) ?_
      rw [show sI (uI σ 28 b n (sI σ 4 k 0)) 27 b 0 = nI n from hn]
      refine zi_aload_n K (dX3_add 43 rfl) 1 rfl ?_
      refine zg_CL_left K hk w_756 (dX3_add 44 rfl) ?_
      refine zs_LSUMS K hb n rfl (by first | omega | (have q := zloop_in (i := n) (N := 30) (by decide) (by decide) hn30 h55_1; omega) | (have q := zloop_in (i := n) (N := 30) (by decide) (by decide) hn30 h55_2; omega)) (dX3_add 45 rfl) ?_
      refine zi_aload_n K (dX3_add 46 rfl) 0 rfl ?_
      refine zi_dup K (dX3_add 47 rfl) rfl ?_
      refine zg_LAY_size K hb w_115 (dX3_add 48 rfl) ?_
      rw [show sI (uL (uI σ 28 b n (sI σ 4 k 0)) 7 b n (sL (uI σ 28 b n (sI σ 4 k 0)) 0 k 0)) 27 b 0 = nI n from hn]
      refine zi_iconst K (dX3_add 49 rfl) zk_i1 ?_
      refine zi_iadd K (dX3_add 50 rfl) ?_
      refine zp_LAY_size K hb w_115 (dX3_add 51 rfl) ?_
      exact zi_vret K E (dX3_add 52 rfl) (Nat.le_refl _) (Nat.le_refl _) rfl (fun H h => by unfold s_lyAdd; rw [if_pos h4_0, if_neg h55_1]; exact h)
  · skip
    refine zi_aload_n K (dX3_add 3 rfl) 0 rfl ?_
    refine zg_LAY_days K hb w_108 (dX3_add 4 rfl) ?_
    refine zi_aload_n K (dX3_add 5 rfl) 0 rfl ?_
    refine zg_LAY_size K hb w_115 (dX3_add 6 rfl) ?_
    rw [show sI σ 27 b 0 = nI n from hn]
    refine zi_iconst K (dX3_add 7 rfl) zk_i1 ?_
    refine zi_isub K (dX3_add 8 rfl) ?_
    refine zl_LDAYS K hb (n - 1) (zk_pr h4_0) (by omega) (dX3_add 9 rfl) ?_
    refine zi_aload_n K (dX3_add 10 rfl) 1 rfl ?_
    refine zg_CL_day K hk w_747 (dX3_add 11 rfl) ?_
    refine zi_icmp_ne K 46 (dX3_add 12 rfl) rfl (fun h22_1 => ?_) (fun h22_1 => ?_)
    · skip
      refine zi_aload_n K (dX3_add 26 rfl) 0 rfl ?_
      refine zg_LAY_size K hb w_115 (dX3_add 27 rfl) ?_
      rw [show sI σ 27 b 0 = nI n from hn]
      refine zi_aload_n K (dX3_add 28 rfl) 0 rfl ?_
      refine zg_LAY_days K hb w_108 (dX3_add 29 rfl) ?_
      refine zn_LDAYS K hb (dX3_add 30 rfl) ?_
      refine zi_icmp_ge K 94 (dX3_add 31 rfl) rfl (fun h55_2 => ?_) (fun h55_2 => ?_)
      · skip
        exact zi_vret K E (dX3_add 52 rfl) (Nat.le_refl _) (Nat.le_refl _) rfl (fun H h => by unfold s_lyAdd; rw [if_neg h4_0, if_neg h22_1, if_pos h55_2]; exact h)
      · skip
        refine zi_aload_n K (dX3_add 32 rfl) 0 rfl ?_
        refine zg_LAY_days K hb w_108 (dX3_add 33 rfl) ?_
        refine zi_aload_n K (dX3_add 34 rfl) 0 rfl ?_
        refine zg_LAY_size K hb w_115 (dX3_add 35 rfl) ?_
        rw [show sI σ 27 b 0 = nI n from hn]
        refine zi_aload_n K (dX3_add 36 rfl) 1 rfl ?_
        refine zg_CL_day K hk w_747 (dX3_add 37 rfl) ?_
        refine zs_LDAYS K hb n rfl (by first | omega | (have q := zloop_in (i := n) (N := 30) (by decide) (by decide) hn30 h55_1; omega) | (have q := zloop_in (i := n) (N := 30) (by decide) (by decide) hn30 h55_2; omega)) (dX3_add 38 rfl) ?_
        refine zi_aload_n K (dX3_add 39 rfl) 0 rfl ?_
        refine zg_LAY_sums K hb w_110 (dX3_add 40 rfl) ?_
        refine zi_aload_n K (dX3_add 41 rfl) 0 rfl ?_
        refine zg_LAY_size K hb w_115 (dX3_add 42 rfl) ?_
        rw [show sI (uI σ 28 b n (sI σ 4 k 0)) 27 b 0 = nI n from hn]
        refine zi_aload_n K (dX3_add 43 rfl) 1 rfl ?_
        refine zg_CL_left K hk w_756 (dX3_add 44 rfl) ?_
        refine zs_LSUMS K hb n rfl (by first | omega | (have q := zloop_in (i := n) (N := 30) (by decide) (by decide) hn30 h55_1; omega) | (have q := zloop_in (i := n) (N := 30) (by decide) (by decide) hn30 h55_2; omega)) (dX3_add 45 rfl) ?_
        refine zi_aload_n K (dX3_add 46 rfl) 0 rfl ?_
        refine zi_dup K (dX3_add 47 rfl) rfl ?_
        refine zg_LAY_size K hb w_115 (dX3_add 48 rfl) ?_
        rw [show sI (uL (uI σ 28 b n (sI σ 4 k 0)) 7 b n (sL (uI σ 28 b n (sI σ 4 k 0)) 0 k 0)) 27 b 0 = nI n from hn]
        refine zi_iconst K (dX3_add 49 rfl) zk_i1 ?_
        refine zi_iadd K (dX3_add 50 rfl) ?_
        refine zp_LAY_size K hb w_115 (dX3_add 51 rfl) ?_
        exact zi_vret K E (dX3_add 52 rfl) (Nat.le_refl _) (Nat.le_refl _) rfl (fun H h => by unfold s_lyAdd; rw [if_neg h4_0, if_neg h22_1, if_neg h55_2]; exact h)
    · skip
      refine zi_aload_n K (dX3_add 13 rfl) 0 rfl ?_
      refine zg_LAY_sums K hb w_110 (dX3_add 14 rfl) ?_
      refine zi_aload_n K (dX3_add 15 rfl) 0 rfl ?_
      refine zg_LAY_size K hb w_115 (dX3_add 16 rfl) ?_
      rw [show sI σ 27 b 0 = nI n from hn]
      refine zi_iconst K (dX3_add 17 rfl) zk_i1 ?_
      refine zi_isub K (dX3_add 18 rfl) ?_
      refine zi_dup2_11 K (dX3_add 19 rfl) rfl rfl ?_
      refine zl_LSUMS K hb (n - 1) (zk_pr h4_0) (by omega) (dX3_add 20 rfl) ?_
      refine zi_aload_n K (dX3_add 21 rfl) 1 rfl ?_
      refine zg_CL_left K hk w_756 (dX3_add 22 rfl) ?_
      refine zi_ladd K (dX3_add 23 rfl) ?_
      refine zs_LSUMS K hb (n - 1) (zk_pr h4_0) (by omega) (dX3_add 24 rfl) ?_
      refine zi_goto K 94 (dX3_add 25 rfl) rfl ?_
      exact zi_vret K E (dX3_add 52 rfl) (Nat.le_refl _) (Nat.le_refl _) rfl (fun H h => by unfold s_lyAdd; rw [if_neg h4_0, if_pos h22_1]; exact h)
def v_isCut (σ : zSt) (b n : Nat) (c p : Int32) : Int32 := if p = (nI n) - 1 then 1 else if (c >>> ((((nI n) - 2) - p) &&& 31)) &&& 1 = 1 then 1 else 0
set_option maxRecDepth 100000 in
set_option maxHeartbeats 4000000 in
theorem c_isCut {G : zG} {ad : Nat → Nat → Nat} {σ : zSt} (b n : Nat) (c p : Int32) (hb : b < 2) (hn : sI σ 27 b 0 = nI n) : zC G yX3_isCut cX3_isCut 3 (some FieldType.boolean) 0 0 0 0 [.ref (ad 12 b), .int c, .int p] (zP G ad σ) (some (.int (v_isCut σ b n c p))) (zP G ad σ) := by
  refine zC_of (by decide) (Nat.le_of_ble_eq_true rfl) (fun X K E hnm => ?_)
  show zV G X 3 (zP G ad σ) 0 0 0 [(0, .ref (ad 12 b)), (1, .int c), (2, .int p)] []
  refine zi_iload_n K (dX3_isCut 0 rfl) 2 rfl ?_
  refine zi_aload_n K (dX3_isCut 1 rfl) 0 rfl ?_
  refine zg_LAY_size K hb w_115 (dX3_isCut 2 rfl) ?_
  rw [show sI σ 27 b 0 = nI n from hn]
  refine zi_iconst K (dX3_isCut 3 rfl) zk_i1 ?_
  refine zi_isub K (dX3_isCut 4 rfl) ?_
  refine zi_icmp_eq K 26 (dX3_isCut 5 rfl) rfl (fun h7_0 => ?_) (fun h7_0 => ?_)
  · skip
    refine zi_iconst K (dX3_isCut 18 rfl) zk_i1 ?_
    refine zi_goto K 31 (dX3_isCut 19 rfl) rfl ?_
    exact zi_zret K E (dX3_isCut 21 rfl) (Nat.le_refl _) (Nat.le_refl _) (by unfold v_isCut; rw [if_pos h7_0]) rfl (fun _ h => h)
  · skip
    refine zi_iload_n K (dX3_isCut 6 rfl) 1 rfl ?_
    refine zi_aload_n K (dX3_isCut 7 rfl) 0 rfl ?_
    refine zg_LAY_size K hb w_115 (dX3_isCut 8 rfl) ?_
    rw [show sI σ 27 b 0 = nI n from hn]
    refine zi_iconst K (dX3_isCut 9 rfl) zk_i2 ?_
    refine zi_isub K (dX3_isCut 10 rfl) ?_
    refine zi_iload_n K (dX3_isCut 11 rfl) 2 rfl ?_
    refine zi_isub K (dX3_isCut 12 rfl) ?_
    refine zi_ishr K (dX3_isCut 13 rfl) ?_
    refine zi_iconst K (dX3_isCut 14 rfl) zk_i1 ?_
    refine zi_iand K (dX3_isCut 15 rfl) ?_
    refine zi_iconst K (dX3_isCut 16 rfl) zk_i1 ?_
    refine zi_icmp_ne K 30 (dX3_isCut 17 rfl) rfl (fun h23_1 => ?_) (fun h23_1 => ?_)
    · skip
      refine zi_iconst K (dX3_isCut 20 rfl) zk_i0 ?_
      exact zi_zret K E (dX3_isCut 21 rfl) (Nat.le_refl _) (Nat.le_refl _) (by unfold v_isCut; rw [if_neg h7_0, if_neg h23_1]) rfl (fun _ h => h)
    · skip
      refine zi_iconst K (dX3_isCut 18 rfl) zk_i1 ?_
      refine zi_goto K 31 (dX3_isCut 19 rfl) rfl ?_
      exact zi_zret K E (dX3_isCut 21 rfl) (Nat.le_refl _) (Nat.le_refl _) (by unfold v_isCut; rw [if_neg h7_0, if_pos h23_1]) rfl (fun _ h => h)
def lv_worthOf (σ : zSt) (b n : Nat) (c : Int32) (t : Nat) : Nat → Nat → Int64 → Int64 → Int32 → Int64
  | 0, _, _, _, _ => 0
  | r + 1, p, worth, sum, fd => if nI n ≤ nI p then worth else if sum = 0 then (if (sI σ 28 b p) - (sI σ 28 b p) < sI σ 14 t 0 then (if v_isCut σ b n c (nI p) = 0 then lv_worthOf σ b n c t r (p + 1) worth (sum + (sL σ 7 b p)) (sI σ 28 b p) else lv_worthOf σ b n c t r (p + 1) (worth + (v_layerOf σ t (sum + (sL σ 7 b p)))) 0 (sI σ 28 b p)) else (-1)) else if (sI σ 28 b p) - fd < sI σ 14 t 0 then (if v_isCut σ b n c (nI p) = 0 then lv_worthOf σ b n c t r (p + 1) worth (sum + (sL σ 7 b p)) fd else lv_worthOf σ b n c t r (p + 1) (worth + (v_layerOf σ t (sum + (sL σ 7 b p)))) 0 fd) else (-1)
def v_worthOf (σ : zSt) (b n : Nat) (c : Int32) (t : Nat) : Int64 := lv_worthOf σ b n c t (n + 1) 0 0 0 (sI σ 28 b 0)
set_option maxRecDepth 100000 in
set_option maxHeartbeats 4000000 in
theorem c_worthOf {G : zG} {ad : Nat → Nat → Nat} {σ : zSt} (b n : Nat) (c : Int32) (t : Nat) (hb : b < 2) (ht : t < sN σ 2) (hn : sI σ 27 b 0 = nI n) (hn30 : n ≤ 30) : zC G yX3_worthOf cX3_worthOf 9 (some FieldType.long) 2 39 0 0 [.ref (ad 12 b), .int c, .ref (ad 5 t)] (zP G ad σ) (some (.long (v_worthOf σ b n c t))) (zP G ad σ) := by
  refine zC_of (by decide) (Nat.le_of_ble_eq_true rfl) (fun X K E hnm => ?_)
  show zV G X 9 (zP G ad σ) 0 0 0 [(0, .ref (ad 12 b)), (1, .int c), (2, .ref (ad 5 t))] []
  refine zi_lconst K (dX3_worthOf 0 rfl) zk_l0 ?_
  refine zi_lstore_n K [(3, .long 0), (0, .ref (ad 12 b)), (1, .int c), (2, .ref (ad 5 t))] (dX3_worthOf 1 rfl) (by decide) rfl ?_
  refine zi_lconst K (dX3_worthOf 2 rfl) zk_l0 ?_
  refine zi_lstore K [(5, .long 0), (3, .long 0), (0, .ref (ad 12 b)), (1, .int c), (2, .ref (ad 5 t))] (dX3_worthOf 3 rfl) (by decide) rfl ?_
  refine zi_aload_n K (dX3_worthOf 4 rfl) 2 rfl ?_
  refine zg_LAY_days K hb w_108 (dX3_worthOf 5 rfl) ?_
  refine zi_iconst K (dX3_worthOf 6 rfl) zk_i0 ?_
  refine zl_LDAYS K hb 0 (by decide) (by decide) (dX3_worthOf 7 rfl) ?_
  refine zi_istore K [(7, .int (sI σ 28 b 0)), (5, .long 0), (3, .long 0), (0, .ref (ad 12 b)), (1, .int c), (2, .ref (ad 5 t))] (dX3_worthOf 8 rfl) (by decide) rfl ?_
  refine zi_iconst K (dX3_worthOf 9 rfl) zk_i0 ?_
  refine zi_istore K [(8, .int 0), (7, .int (sI σ 28 b 0)), (5, .long 0), (3, .long 0), (0, .ref (ad 12 b)), (1, .int c), (2, .ref (ad 5 t))] (dX3_worthOf 10 rfl) (by decide) rfl ?_
  refine zV.pick [0, 3, 2, 1, 4, 5, 6] (lo' := [(8, .int 0), (3, .long 0), (5, .long 0), (7, .int (sI σ 28 b 0)), (0, .ref (ad 12 b)), (1, .int c), (2, .ref (ad 5 t))]) rfl ?_
  suffices hlR : ∀ (r : Nat) (p : Nat) (worth : Int64) (sum : Int64) (fd : Int32), p ≤ n → n - p < r → v_worthOf σ b n c t = lv_worthOf σ b n c t r p worth sum fd → zV G X 9 (zP G ad σ) (0) (0) 16 [(8, .int (nI p)), (3, .long worth), (5, .long sum), (7, .int fd), (0, .ref (ad 12 b)), (1, .int c), (2, .ref (ad 5 t))] [] from hlR (n + 1) 0 0 0 (sI σ 28 b 0) (Nat.zero_le _) (by omega) rfl
  intro r
  induction r with
  | zero => intro p worth sum fd _ h; exact absurd h (Nat.not_lt_zero _)
  | succ r ihR =>
    intro p worth sum fd hfR hmR hV
    refine zi_iload K (dX3_worthOf 11 rfl) 0 rfl ?_
    refine zi_aload_n K (dX3_worthOf 12 rfl) 4 rfl ?_
    refine zg_LAY_size K hb w_115 (dX3_worthOf 13 rfl) ?_
    rw [show sI σ 27 b 0 = nI n from hn]
    refine zi_icmp_ge K 102 (dX3_worthOf 14 rfl) rfl (fun h22_0 => ?_) (fun h22_0 => ?_)
    · skip
      refine zi_lload_n K (dX3_worthOf 57 rfl) 1 rfl ?_
      exact zi_lret K E (dX3_worthOf 58 rfl) (Nat.le_refl _) (Nat.le_refl _) (by rw [hV]; simp only [lv_worthOf, if_pos h22_0]) (fun _ h => h)
    · skip
      refine zi_lload K (dX3_worthOf 15 rfl) 2 rfl ?_
      refine zi_lconst K (dX3_worthOf 16 rfl) zk_l0 ?_
      refine zi_lif_ne K 41 (dX3_worthOf 17 rfl) (dX3_worthOf 18 rfl) rfl (fun h28_1 => ?_) (fun h28_1 => ?_)
      · skip
        refine zi_aload_n K (dX3_worthOf 24 rfl) 4 rfl ?_
        refine zg_LAY_days K hb w_108 (dX3_worthOf 25 rfl) ?_
        refine zi_iload K (dX3_worthOf 26 rfl) 0 rfl ?_
        refine zl_LDAYS K hb p rfl (by have q := zloop_in (i := p) (N := n) rfl (by omega) hfR h22_0; omega) (dX3_worthOf 27 rfl) ?_
        refine zi_iload K (dX3_worthOf 28 rfl) 3 rfl ?_
        refine zi_isub K (dX3_worthOf 29 rfl) ?_
        refine zi_aload_n K (dX3_worthOf 30 rfl) 6 rfl ?_
        refine zg_TR_days K ht w_1108 (dX3_worthOf 31 rfl) ?_
        refine zi_icmp_lt K 62 (dX3_worthOf 32 rfl) rfl (fun h55_2 => ?_) (fun h55_2 => ?_)
        · skip
          refine zi_lload K (dX3_worthOf 35 rfl) 2 rfl ?_
          refine zi_aload_n K (dX3_worthOf 36 rfl) 4 rfl ?_
          refine zg_LAY_sums K hb w_110 (dX3_worthOf 37 rfl) ?_
          refine zi_iload K (dX3_worthOf 38 rfl) 0 rfl ?_
          refine zl_LSUMS K hb p rfl (by have q := zloop_in (i := p) (N := n) rfl (by omega) hfR h22_0; omega) (dX3_worthOf 39 rfl) ?_
          refine zi_ladd K (dX3_worthOf 40 rfl) ?_
          refine zi_lstore K [(5, .long (sum + (sL σ 7 b p))), (8, .int (nI p)), (3, .long worth), (7, .int fd), (0, .ref (ad 12 b)), (1, .int c), (2, .ref (ad 5 t))] (dX3_worthOf 41 rfl) (by decide) rfl ?_
          refine zi_aload_n K (dX3_worthOf 42 rfl) 4 rfl ?_
          refine zi_iload_n K (dX3_worthOf 43 rfl) 5 rfl ?_
          refine zi_iload K (dX3_worthOf 44 rfl) 1 rfl ?_
          refine zi_callV K (na := 2) [] [.int (v_isCut σ b n c (nI p))] (c_isCut (σ := σ) b n c (nI p) hb hn) (dX3_worthOf 45 rfl) w_525 w_527 w_9 w_30 w_528 (by decide +kernel) rfl (fun H h => zi_recv K (zr_LAY (σ := σ) hb H h).1 rfl) (fun H h => h) ⟨Nat.le_of_ble_eq_true rfl, Nat.le_of_ble_eq_true rfl⟩ ⟨Nat.le_refl _, Nat.le_refl _⟩ (Nat.le_of_ble_eq_true rfl) rfl rfl ?_
          refine zi_if_eq K 96 (dX3_worthOf 46 rfl) rfl (fun h81_3 => ?_) (fun h81_3 => ?_)
          · skip
            refine zi_iinc K (v := nI (p + 1)) [(8, .int (nI (p + 1))), (5, .long (sum + (sL σ 7 b p))), (3, .long worth), (7, .int fd), (0, .ref (ad 12 b)), (1, .int c), (2, .ref (ad 5 t))] (dX3_worthOf 55 rfl) 1 rfl (zk_inc _) (by decide) rfl ?_
            refine zi_goto K 16 (dX3_worthOf 56 rfl) rfl ?_
            refine zV.pick [0, 2, 1, 3, 4, 5, 6] (lo' := [(8, .int (nI (p + 1))), (3, .long worth), (5, .long (sum + (sL σ 7 b p))), (7, .int fd), (0, .ref (ad 12 b)), (1, .int c), (2, .ref (ad 5 t))]) rfl ?_
            exact ihR (p + 1) worth (sum + (sL σ 7 b p)) fd (by have q := zloop_in (i := p) (N := n) rfl (by omega) hfR h22_0; omega) (by have q := zloop_in (i := p) (N := n) rfl (by omega) hfR h22_0; omega) (by rw [hV]; simp only [lv_worthOf, if_neg h22_0, if_neg h28_1, if_pos h55_2, if_pos h81_3])
          · skip
            refine zi_lload_n K (dX3_worthOf 47 rfl) 2 rfl ?_
            refine zi_aload_n K (dX3_worthOf 48 rfl) 6 rfl ?_
            refine zi_lload K (dX3_worthOf 49 rfl) 0 rfl ?_
            refine zi_callV K (na := 1) [.long worth] [.long (v_layerOf σ t (sum + (sL σ 7 b p))), .long worth] (c_layerOf  t (sum + (sL σ 7 b p)) ht) (dX3_worthOf 50 rfl) w_509 w_400 w_401 w_55 w_402 (by decide +kernel) rfl (fun H h => zi_recv K (zr_TR (σ := σ) ht H h).1 rfl) (fun H h => h) ⟨Nat.le_of_ble_eq_true rfl, Nat.le_of_ble_eq_true rfl⟩ ⟨Nat.le_refl _, Nat.le_refl _⟩ (Nat.le_of_ble_eq_true rfl) rfl rfl ?_
            refine zi_ladd K (dX3_worthOf 51 rfl) ?_
            refine zi_lstore_n K [(3, .long (worth + (v_layerOf σ t (sum + (sL σ 7 b p))))), (5, .long (sum + (sL σ 7 b p))), (8, .int (nI p)), (7, .int fd), (0, .ref (ad 12 b)), (1, .int c), (2, .ref (ad 5 t))] (dX3_worthOf 52 rfl) (by decide) rfl ?_
            refine zi_lconst K (dX3_worthOf 53 rfl) zk_l0 ?_
            refine zi_lstore K [(5, .long 0), (3, .long (worth + (v_layerOf σ t (sum + (sL σ 7 b p))))), (8, .int (nI p)), (7, .int fd), (0, .ref (ad 12 b)), (1, .int c), (2, .ref (ad 5 t))] (dX3_worthOf 54 rfl) (by decide) rfl ?_
            refine zi_iinc K (v := nI (p + 1)) [(8, .int (nI (p + 1))), (5, .long 0), (3, .long (worth + (v_layerOf σ t (sum + (sL σ 7 b p))))), (7, .int fd), (0, .ref (ad 12 b)), (1, .int c), (2, .ref (ad 5 t))] (dX3_worthOf 55 rfl) 2 rfl (zk_inc _) (by decide) rfl ?_
            refine zi_goto K 16 (dX3_worthOf 56 rfl) rfl ?_
            refine zV.pick [0, 2, 1, 3, 4, 5, 6] (lo' := [(8, .int (nI (p + 1))), (3, .long (worth + (v_layerOf σ t (sum + (sL σ 7 b p))))), (5, .long 0), (7, .int fd), (0, .ref (ad 12 b)), (1, .int c), (2, .ref (ad 5 t))]) rfl ?_
            exact ihR (p + 1) (worth + (v_layerOf σ t (sum + (sL σ 7 b p)))) 0 fd (by have q := zloop_in (i := p) (N := n) rfl (by omega) hfR h22_0; omega) (by have q := zloop_in (i := p) (N := n) rfl (by omega) hfR h22_0; omega) (by rw [hV]; simp only [lv_worthOf, if_neg h22_0, if_neg h28_1, if_pos h55_2, if_neg h81_3])
        · skip
          refine zi_ldc2 K (dX3_worthOf 33 rfl) w_514 ?_
          exact zi_lret K E (dX3_worthOf 34 rfl) (Nat.le_refl _) (Nat.le_refl _) (by rw [hV]; simp only [lv_worthOf, if_neg h22_0, if_neg h28_1, if_neg h55_2]) (fun _ h => h)
      · skip
        refine zi_aload_n K (dX3_worthOf 19 rfl) 4 rfl ?_
        refine zg_LAY_days K hb w_108 (dX3_worthOf 20 rfl) ?_
        refine zi_iload K (dX3_worthOf 21 rfl) 0 rfl ?_
        refine zl_LDAYS K hb p rfl (by have q := zloop_in (i := p) (N := n) rfl (by omega) hfR h22_0; omega) (dX3_worthOf 22 rfl) ?_
        refine zi_istore K [(7, .int (sI σ 28 b p)), (8, .int (nI p)), (3, .long worth), (5, .long sum), (0, .ref (ad 12 b)), (1, .int c), (2, .ref (ad 5 t))] (dX3_worthOf 23 rfl) (by decide) rfl ?_
        refine zi_aload_n K (dX3_worthOf 24 rfl) 4 rfl ?_
        refine zg_LAY_days K hb w_108 (dX3_worthOf 25 rfl) ?_
        refine zi_iload K (dX3_worthOf 26 rfl) 1 rfl ?_
        refine zl_LDAYS K hb p rfl (by have q := zloop_in (i := p) (N := n) rfl (by omega) hfR h22_0; omega) (dX3_worthOf 27 rfl) ?_
        refine zi_iload K (dX3_worthOf 28 rfl) 0 rfl ?_
        refine zi_isub K (dX3_worthOf 29 rfl) ?_
        refine zi_aload_n K (dX3_worthOf 30 rfl) 6 rfl ?_
        refine zg_TR_days K ht w_1108 (dX3_worthOf 31 rfl) ?_
        refine zi_icmp_lt K 62 (dX3_worthOf 32 rfl) rfl (fun h55_2 => ?_) (fun h55_2 => ?_)
        · skip
          refine zi_lload K (dX3_worthOf 35 rfl) 3 rfl ?_
          refine zi_aload_n K (dX3_worthOf 36 rfl) 4 rfl ?_
          refine zg_LAY_sums K hb w_110 (dX3_worthOf 37 rfl) ?_
          refine zi_iload K (dX3_worthOf 38 rfl) 1 rfl ?_
          refine zl_LSUMS K hb p rfl (by have q := zloop_in (i := p) (N := n) rfl (by omega) hfR h22_0; omega) (dX3_worthOf 39 rfl) ?_
          refine zi_ladd K (dX3_worthOf 40 rfl) ?_
          refine zi_lstore K [(5, .long (sum + (sL σ 7 b p))), (7, .int (sI σ 28 b p)), (8, .int (nI p)), (3, .long worth), (0, .ref (ad 12 b)), (1, .int c), (2, .ref (ad 5 t))] (dX3_worthOf 41 rfl) (by decide) rfl ?_
          refine zi_aload_n K (dX3_worthOf 42 rfl) 4 rfl ?_
          refine zi_iload_n K (dX3_worthOf 43 rfl) 5 rfl ?_
          refine zi_iload K (dX3_worthOf 44 rfl) 2 rfl ?_
          refine zi_callV K (na := 2) [] [.int (v_isCut σ b n c (nI p))] (c_isCut (σ := σ) b n c (nI p) hb hn) (dX3_worthOf 45 rfl) w_525 w_527 w_9 w_30 w_528 (by decide +kernel) rfl (fun H h => zi_recv K (zr_LAY (σ := σ) hb H h).1 rfl) (fun H h => h) ⟨Nat.le_of_ble_eq_true rfl, Nat.le_of_ble_eq_true rfl⟩ ⟨Nat.le_refl _, Nat.le_refl _⟩ (Nat.le_of_ble_eq_true rfl) rfl rfl ?_
          refine zi_if_eq K 96 (dX3_worthOf 46 rfl) rfl (fun h81_3 => ?_) (fun h81_3 => ?_)
          · skip
            refine zi_iinc K (v := nI (p + 1)) [(8, .int (nI (p + 1))), (5, .long (sum + (sL σ 7 b p))), (7, .int (sI σ 28 b p)), (3, .long worth), (0, .ref (ad 12 b)), (1, .int c), (2, .ref (ad 5 t))] (dX3_worthOf 55 rfl) 2 rfl (zk_inc _) (by decide) rfl ?_
            refine zi_goto K 16 (dX3_worthOf 56 rfl) rfl ?_
            refine zV.pick [0, 3, 1, 2, 4, 5, 6] (lo' := [(8, .int (nI (p + 1))), (3, .long worth), (5, .long (sum + (sL σ 7 b p))), (7, .int (sI σ 28 b p)), (0, .ref (ad 12 b)), (1, .int c), (2, .ref (ad 5 t))]) rfl ?_
            exact ihR (p + 1) worth (sum + (sL σ 7 b p)) (sI σ 28 b p) (by have q := zloop_in (i := p) (N := n) rfl (by omega) hfR h22_0; omega) (by have q := zloop_in (i := p) (N := n) rfl (by omega) hfR h22_0; omega) (by rw [hV]; simp only [lv_worthOf, if_neg h22_0, if_pos h28_1, if_pos h55_2, if_pos h81_3])
          · skip
            refine zi_lload_n K (dX3_worthOf 47 rfl) 3 rfl ?_
            refine zi_aload_n K (dX3_worthOf 48 rfl) 6 rfl ?_
            refine zi_lload K (dX3_worthOf 49 rfl) 0 rfl ?_
            refine zi_callV K (na := 1) [.long worth] [.long (v_layerOf σ t (sum + (sL σ 7 b p))), .long worth] (c_layerOf  t (sum + (sL σ 7 b p)) ht) (dX3_worthOf 50 rfl) w_509 w_400 w_401 w_55 w_402 (by decide +kernel) rfl (fun H h => zi_recv K (zr_TR (σ := σ) ht H h).1 rfl) (fun H h => h) ⟨Nat.le_of_ble_eq_true rfl, Nat.le_of_ble_eq_true rfl⟩ ⟨Nat.le_refl _, Nat.le_refl _⟩ (Nat.le_of_ble_eq_true rfl) rfl rfl ?_
            refine zi_ladd K (dX3_worthOf 51 rfl) ?_
            refine zi_lstore_n K [(3, .long (worth + (v_layerOf σ t (sum + (sL σ 7 b p))))), (5, .long (sum + (sL σ 7 b p))), (7, .int (sI σ 28 b p)), (8, .int (nI p)), (0, .ref (ad 12 b)), (1, .int c), (2, .ref (ad 5 t))] (dX3_worthOf 52 rfl) (by decide) rfl ?_
            refine zi_lconst K (dX3_worthOf 53 rfl) zk_l0 ?_
            refine zi_lstore K [(5, .long 0), (3, .long (worth + (v_layerOf σ t (sum + (sL σ 7 b p))))), (7, .int (sI σ 28 b p)), (8, .int (nI p)), (0, .ref (ad 12 b)), (1, .int c), (2, .ref (ad 5 t))] (dX3_worthOf 54 rfl) (by decide) rfl ?_
            refine zi_iinc K (v := nI (p + 1)) [(8, .int (nI (p + 1))), (5, .long 0), (3, .long (worth + (v_layerOf σ t (sum + (sL σ 7 b p))))), (7, .int (sI σ 28 b p)), (0, .ref (ad 12 b)), (1, .int c), (2, .ref (ad 5 t))] (dX3_worthOf 55 rfl) 3 rfl (zk_inc _) (by decide) rfl ?_
            refine zi_goto K 16 (dX3_worthOf 56 rfl) rfl ?_
            refine zV.pick [0, 2, 1, 3, 4, 5, 6] (lo' := [(8, .int (nI (p + 1))), (3, .long (worth + (v_layerOf σ t (sum + (sL σ 7 b p))))), (5, .long 0), (7, .int (sI σ 28 b p)), (0, .ref (ad 12 b)), (1, .int c), (2, .ref (ad 5 t))]) rfl ?_
            exact ihR (p + 1) (worth + (v_layerOf σ t (sum + (sL σ 7 b p)))) 0 (sI σ 28 b p) (by have q := zloop_in (i := p) (N := n) rfl (by omega) hfR h22_0; omega) (by have q := zloop_in (i := p) (N := n) rfl (by omega) hfR h22_0; omega) (by rw [hV]; simp only [lv_worthOf, if_neg h22_0, if_pos h28_1, if_pos h55_2, if_neg h81_3])
        · skip
          refine zi_ldc2 K (dX3_worthOf 33 rfl) w_514 ?_
          exact zi_lret K E (dX3_worthOf 34 rfl) (Nat.le_refl _) (Nat.le_refl _) (by rw [hV]; simp only [lv_worthOf, if_neg h22_0, if_pos h28_1, if_neg h55_2]) (fun _ h => h)
