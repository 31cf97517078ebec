/-! what the law always finds kept -/
def kT (τ : zSt) (k : Nat) (x : Int64) : Nat → Int64
  | 0 => x
  | t + 1 => kT τ k x t + sL τ 1 k t
def kL (τ : zSt) : Nat → Int64
  | 0 => 0
  | k + 1 => kL τ k + sL τ 0 k 0
def kA (τ : zSt) (T : Nat) : Nat → Int64
  | 0 => 0
  | k + 1 => kT τ k (kA τ T k + sL τ 0 k 0) T
def kU (τ : zSt) (t : Nat) : Nat → Int64
  | 0 => 0
  | k + 1 => kU τ t k + sL τ 1 k t
def kPr (τ : zSt) (t : Nat) (x : Int64) : Nat → Int64
  | 0 => x
  | r + 1 => kPr τ t x r + zpd τ t r
def kP (τ : zSt) : Nat → Int64
  | 0 => 0
  | t + 1 => kPr τ t (kP τ t) 5
def kO (τ : zSt) : Nat → Int64
  | 0 => 0
  | t + 1 => kO τ t + sL τ 5 t 0
def kS (τ : zSt) (L : Nat) : Nat → Int64
  | 0 => 0
  | t + 1 => kS τ L t + kU τ t L
def kC (τ : zSt) : Nat → Int64
  | 0 => 0
  | r + 1 => kC τ r + zcm τ r
def kY (τ : zSt) : Nat → Int64
  | 0 => 0
  | r + 1 => kY τ r + zsy τ r
def kZ (τ : zSt) : Nat → Int64
  | 0 => 0
  | r + 1 => kZ τ r + zls τ r
/-- what kept asks of a settled state, its losses L, its treaties T, what was commuted -/
def zKM (τ : zSt) (L T : Nat) (cmt : Int64) : Prop := (L = sN τ 1 ∧ L ≤ 30 ∧ T = sN τ 2 ∧ T ≤ 8) ∧
  (∀ k, k < L → ¬ sL τ 0 k 0 < 0) ∧ (∀ k t, k < L → t < T → ¬ sL τ 1 k t < 0) ∧
  (∀ t, t < T → zlm τ t = -1500000 ∨ zlm τ t = -1000000 ∨ (¬ zlm τ t < 0 ∧ ¬ sL τ 3 t 0 < sL τ 4 t 0)) ∧
  (∀ t, t < T → ¬ sL τ 3 t 0 < kU τ t L ∧ ¬ sL τ 5 t 0 < 0) ∧
  (∀ r, r < 5 → ¬ zsy τ r < 0 ∧ ¬ zcm τ r < zsy τ r) ∧
  (∀ r, r < 5 → 0 < zls τ r → ¬ sI τ 31 0 r = 0) ∧
  kA τ T L = v_allLosses τ ∧ kY τ 5 = kP τ T ∧ ¬ kS τ L T < kZ τ 5 ∧ znet τ = kL τ L + kS τ L T - kP τ T + kO τ T - cmt
set_option maxRecDepth 100000 in
set_option maxHeartbeats 8000000 in
theorem c_kept {G : zG} {a : Nat} {σ τ : zSt} (L T : Nat) (cmt : Int64) (hw : zW σ) (hτ : s_settle σ = τ) (hm : zKM τ L T cmt) {B0 C0 : Nat} (hB : sgc τ - sgc σ = B0) (hC : sgs τ - sgs σ = C0) : zC G yL_kept cL_kept 28 (some FieldType.boolean) 19 524 (B0 + 24) (C0 + 6 * 24) [.ref a, .int (nI L), .int (nI T), .long cmt] (fun H => ∃ ad : Nat → Nat → Nat, ad 0 0 = a ∧ zP G ad σ H) (some (.int 1)) (zTe G a τ) := by
  refine zC_of (by decide) (Nat.le_of_ble_eq_true rfl) (fun X K E hnm => ?_)
  have hL := hm.1
  refine zV.imp (P' := zT G a τ 0 (B0 + 0) (C0 + 6 * 0) 0 0) (fun H h => ?_) ((?_ : zVf G X 28 (zT G a τ 0 (B0 + 0) (C0 + 6 * 0)) 0 [(0, .ref a), (1, .int (nI L)), (2, .int (nI T)), (3, .long cmt)] []) 0 0)
  · obtain ⟨ad, ha, hz⟩ := h
    exact ⟨ad, σ, ha, hw, by rw [hτ]; exact zPr.rf, fun q => absurd q (Nat.lt_irrefl 0), ⟨by omega, by omega⟩, hz⟩
  clear hnm hB hC hw hτ
  intro k n
  refine zi_lconst K (dL_kept_p0 0 rfl) zk_l0 ?_
  refine zi_lstore K [(5, .long 0), (0, .ref a), (1, .int (nI L)), (2, .int (nI T)), (3, .long cmt)] (dL_kept_p0 1 rfl) (by decide) rfl ?_
  refine zi_lconst K (dL_kept_p0 2 rfl) zk_l0 ?_
  refine zi_lstore K [(7, .long 0), (5, .long 0), (0, .ref a), (1, .int (nI L)), (2, .int (nI T)), (3, .long cmt)] (dL_kept_p0 3 rfl) (by decide) rfl ?_
  refine zi_lconst K (dL_kept_p0 4 rfl) zk_l0 ?_
  refine zi_lstore K [(9, .long 0), (7, .long 0), (5, .long 0), (0, .ref a), (1, .int (nI L)), (2, .int (nI T)), (3, .long cmt)] (dL_kept_p0 5 rfl) (by decide) rfl ?_
  refine zi_lconst K (dL_kept_p0 6 rfl) zk_l0 ?_
  refine zi_lstore K [(11, .long 0), (9, .long 0), (7, .long 0), (5, .long 0), (0, .ref a), (1, .int (nI L)), (2, .int (nI T)), (3, .long cmt)] (dL_kept_p0 7 rfl) (by decide) rfl ?_
  refine zi_lconst K (dL_kept_p0 8 rfl) zk_l0 ?_
  refine zi_lstore K [(13, .long 0), (11, .long 0), (9, .long 0), (7, .long 0), (5, .long 0), (0, .ref a), (1, .int (nI L)), (2, .int (nI T)), (3, .long cmt)] (dL_kept_p0 9 rfl) (by decide) rfl ?_
  refine zi_lconst K (dL_kept_p0 10 rfl) zk_l0 ?_
  refine zi_lstore K [(15, .long 0), (13, .long 0), (11, .long 0), (9, .long 0), (7, .long 0), (5, .long 0), (0, .ref a), (1, .int (nI L)), (2, .int (nI T)), (3, .long cmt)] (dL_kept_p0 11 rfl) (by decide) rfl ?_
  refine zi_lconst K (dL_kept_p0 12 rfl) zk_l0 ?_
  refine zi_lstore K [(17, .long 0), (15, .long 0), (13, .long 0), (11, .long 0), (9, .long 0), (7, .long 0), (5, .long 0), (0, .ref a), (1, .int (nI L)), (2, .int (nI T)), (3, .long cmt)] (dL_kept_p0 13 rfl) (by decide) rfl ?_
  refine zi_iconst K (dL_kept_p0 14 rfl) zk_i0 ?_
  refine zi_istore K [(19, .int 0), (17, .long 0), (15, .long 0), (13, .long 0), (11, .long 0), (9, .long 0), (7, .long 0), (5, .long 0), (0, .ref a), (1, .int (nI L)), (2, .int (nI T)), (3, .long cmt)] (dL_kept_p0 15 rfl) (by decide) rfl ?_
  refine zV.pick [8, 9, 10, 11, 7, 6, 5, 4, 3, 2, 1, 0] (lo' := [(0, .ref a), (1, .int (nI L)), (2, .int (nI T)), (3, .long cmt), (5, .long 0), (7, .long 0), (9, .long 0), (11, .long 0), (13, .long 0), (15, .long 0), (17, .long 0), (19, .int 0)]) rfl ?_
  suffices hloop24 : ∀ (r9 i : Nat), i ≤ L → L - i < r9 → zVf G X 28 (zT G a τ 0 (B0 + 0) (C0 + 6 * 0)) 24 [(0, .ref a), (1, .int (nI L)), (2, .int (nI T)), (3, .long cmt), (5, .long (kL τ i)), (7, .long (kA τ T i)), (9, .long 0), (11, .long 0), (13, .long 0), (15, .long 0), (17, .long 0), (19, .int (nI i))] [] from zVf.wk (G := G) (a := a) (τ := τ) (s := 0) (s' := 0) (fun _ => by omega) ⟨by omega, by omega⟩ (hloop24 (L + 1) 0 (Nat.zero_le _) (Nat.lt_succ_of_le (Nat.sub_le _ _))) k n
  intro r9
  induction r9 with
  | zero => intro i _ h; exact absurd h (Nat.not_lt_zero _)
  | succ r9 ih24 =>
    intro i hi24 hr24 k n
    refine zi_iload K (dL_kept_p0 16 rfl) 11 rfl ?_
    refine zi_iload_n K (dL_kept_p0 17 rfl) 1 rfl ?_
    refine zi_icmp_ge K 110 (dL_kept_p0 18 rfl) rfl (fun h27_0 => ?_) (fun h27_0 => ?_)
    · skip
      have hN24 := zloop_exit rfl (by omega) hi24 h27_0
      subst i
      refine zi_lconst K (dL_kept_p1 12 rfl) zk_l0 ?_
      refine zi_lstore K [(19, .long 0), (0, .ref a), (1, .int (nI L)), (2, .int (nI T)), (3, .long cmt), (5, .long (kL τ L)), (7, .long (kA τ T L)), (9, .long 0), (11, .long 0), (13, .long 0), (15, .long 0), (17, .long 0)] (dL_kept_p1 13 rfl) (by decide) rfl ?_
      refine zi_lconst K (dL_kept_p1 14 rfl) zk_l0 ?_
      refine zi_lstore K [(21, .long 0), (19, .long 0), (0, .ref a), (1, .int (nI L)), (2, .int (nI T)), (3, .long cmt), (5, .long (kL τ L)), (7, .long (kA τ T L)), (9, .long 0), (11, .long 0), (13, .long 0), (15, .long 0), (17, .long 0)] (dL_kept_p1 15 rfl) (by decide) rfl ?_
      refine zi_iconst K (dL_kept_p1 16 rfl) zk_i0 ?_
      refine zi_istore K [(23, .int 0), (21, .long 0), (19, .long 0), (0, .ref a), (1, .int (nI L)), (2, .int (nI T)), (3, .long cmt), (5, .long (kL τ L)), (7, .long (kA τ T L)), (9, .long 0), (11, .long 0), (13, .long 0), (15, .long 0), (17, .long 0)] (dL_kept_p1 17 rfl) (by decide) rfl ?_
      refine zV.pick [3, 4, 5, 6, 7, 8, 9, 10, 11, 12, 13, 2, 1, 0] (lo' := [(0, .ref a), (1, .int (nI L)), (2, .int (nI T)), (3, .long cmt), (5, .long (kL τ L)), (7, .long (kA τ T L)), (9, .long 0), (11, .long 0), (13, .long 0), (15, .long 0), (17, .long 0), (19, .long 0), (21, .long 0), (23, .int 0)]) rfl ?_
      suffices hloop119 : ∀ (r9 t : Nat), t ≤ T → T - t < r9 → zVf G X 28 (zT G a τ 0 (B0 + (3 * t)) (C0 + 6 * (3 * t))) 119 [(0, .ref a), (1, .int (nI L)), (2, .int (nI T)), (3, .long cmt), (5, .long (kL τ L)), (7, .long (kA τ T L)), (9, .long 0), (11, .long (kP τ t)), (13, .long 0), (15, .long 0), (17, .long 0), (19, .long (kO τ t)), (21, .long (kS τ L t)), (23, .int (nI t))] [] from zVf.wk (G := G) (a := a) (τ := τ) (s := 0) (s' := 0) (fun _ => by omega) ⟨by omega, by omega⟩ (hloop119 (T + 1) 0 (Nat.zero_le _) (Nat.lt_succ_of_le (Nat.sub_le _ _))) k n
      intro r9
      induction r9 with
      | zero => intro t _ h; exact absurd h (Nat.not_lt_zero _)
      | succ r9 ih119 =>
        intro t hi119 hr119 k n
        refine zi_iload K (dL_kept_p1 18 rfl) 13 rfl ?_
        refine zi_iload_n K (dL_kept_p1 19 rfl) 2 rfl ?_
        refine zi_icmp_ge K 298 (dL_kept_p1 20 rfl) rfl (fun h122_0 => ?_) (fun h122_0 => ?_)
        · skip
          have hN119 := zloop_exit rfl (by omega) hi119 h122_0
          subst t
          refine zi_iconst K (dL_kept_p3 9 rfl) zk_i0 ?_
          refine zi_istore K [(23, .int 0), (0, .ref a), (1, .int (nI L)), (2, .int (nI T)), (3, .long cmt), (5, .long (kL τ L)), (7, .long (kA τ T L)), (9, .long 0), (11, .long (kP τ T)), (13, .long 0), (15, .long 0), (17, .long 0), (19, .long (kO τ T)), (21, .long (kS τ L T))] (dL_kept_p3 10 rfl) (by decide) rfl ?_
          refine zV.pick [1, 2, 3, 4, 5, 6, 7, 8, 9, 10, 11, 12, 13, 0] (lo' := [(0, .ref a), (1, .int (nI L)), (2, .int (nI T)), (3, .long cmt), (5, .long (kL τ L)), (7, .long (kA τ T L)), (9, .long 0), (11, .long (kP τ T)), (13, .long 0), (15, .long 0), (17, .long 0), (19, .long (kO τ T)), (21, .long (kS τ L T)), (23, .int 0)]) rfl ?_
          suffices hloop301 : ∀ (r9 j : Nat), j ≤ 5 → 5 - j < r9 → zVf G X 28 (zT G a τ j (B0 + 24) (C0 + 6 * 24)) 301 [(0, .ref a), (1, .int (nI L)), (2, .int (nI T)), (3, .long cmt), (5, .long (kL τ L)), (7, .long (kA τ T L)), (9, .long 0), (11, .long (kP τ T)), (13, .long (kC τ j)), (15, .long (kY τ j)), (17, .long (kZ τ j)), (19, .long (kO τ T)), (21, .long (kS τ L T)), (23, .int (nI j))] [] from zVf.wk (G := G) (a := a) (τ := τ) (s := 0) (s' := 0) (fun _ => by omega) ⟨by omega, by omega⟩ (hloop301 (5 + 1) 0 (Nat.zero_le _) (Nat.lt_succ_of_le (Nat.sub_le _ _))) k n
          intro r9
          induction r9 with
          | zero => intro j _ h; exact absurd h (Nat.not_lt_zero _)
          | succ r9 ih301 =>
            intro j hi301 hr301 k n
            refine zi_iload K (dL_kept_p3 11 rfl) 13 rfl ?_
            refine zi_iconst K (dL_kept_p3 12 rfl) zk_i5 ?_
            refine zi_icmp_ge K 397 (dL_kept_p3 13 rfl) rfl (fun h304_0 => ?_) (fun h304_0 => ?_)
            · skip
              have hN301 := zloop_exit (by decide) (Nat.le_of_ble_eq_true rfl) hi301 h304_0
              subst hN301
              refine zi_lload K (dL_kept_p4 12 rfl) 5 rfl ?_
              refine zi_aload_n K (dL_kept_p4 13 rfl) 0 rfl ?_
              refine zk_callV K (τ := τ) (s := 5) (s' := 5) (B := B0 + 24) (C := C0 + 6 * 24) (As := []) (na := 0) [.long (kA τ T L)] [.long (v_allLosses τ), .long (kA τ T L)] (k_allLosses) (dL_kept_p4 14 rfl) w_1432 w_1433 w_1434 w_25 w_1435 (by decide +kernel) rfl rfl ⟨Nat.le_of_ble_eq_true rfl, Nat.le_of_ble_eq_true rfl⟩ ⟨show B0 + 24 + 0 ≤ B0 + 24 from by omega, show C0 + 6 * 24 + 6 * 0 ≤ C0 + 6 * 24 from by omega⟩ (Nat.le_of_ble_eq_true rfl) rfl rfl ?_ k n
              show zVf G X 28 (zT G a τ 5 (B0 + 24) (C0 + 6 * 24)) 403 [(0, .ref a), (1, .int (nI L)), (2, .int (nI T)), (3, .long cmt), (5, .long (kL τ L)), (7, .long (kA τ T L)), (9, .long 0), (11, .long (kP τ T)), (13, .long (kC τ 5)), (15, .long (kY τ 5)), (17, .long (kZ τ 5)), (19, .long (kO τ T)), (21, .long (kS τ L T)), (23, .int (nI 5))] [.long (v_allLosses τ), .long (kA τ T L)]
              intro k n
              refine zi_lif_ne K 448 (dL_kept_p4 15 rfl) (dL_kept_p4 16 rfl) rfl (fun h403_0 => ?_) (fun h403_0 => ?_)
              · exact absurd hm.2.2.2.2.2.2.2.1 h403_0
              refine zi_lload K (dL_kept_p4 17 rfl) 9 rfl ?_
              refine zi_lload K (dL_kept_p4 18 rfl) 7 rfl ?_
              refine zi_lif_ne K 448 (dL_kept_p4 19 rfl) (dL_kept_p4 20 rfl) rfl (fun h411_0 => ?_) (fun h411_0 => ?_)
              · exact absurd hm.2.2.2.2.2.2.2.2.1 h411_0
              refine zi_lload K (dL_kept_p4 21 rfl) 10 rfl ?_
              refine zi_lload K (dL_kept_p4 22 rfl) 12 rfl ?_
              refine zi_lif_gt K 448 (dL_kept_p4 23 rfl) (dL_kept_p4 24 rfl) rfl (fun h419_0 => ?_) (fun h419_0 => ?_)
              · exact absurd h419_0 hm.2.2.2.2.2.2.2.2.2.1
              refine zi_aload_n K (dL_kept_p4 25 rfl) 0 rfl ?_
              refine zk_callV K (τ := τ) (s := 5) (s' := 1) (B := B0 + 24) (C := C0 + 6 * 24) (As := []) (na := 0) [] [.long (znet τ)] (k_net) (dL_kept_p4 26 rfl) w_542 w_543 w_544 w_25 w_545 (by decide +kernel) rfl rfl ⟨Nat.le_of_ble_eq_true rfl, Nat.le_of_ble_eq_true rfl⟩ ⟨show B0 + 24 + 0 ≤ B0 + 24 from by omega, show C0 + 6 * 24 + 6 * 0 ≤ C0 + 6 * 24 from by omega⟩ (Nat.le_of_ble_eq_true rfl) rfl rfl ?_ k n
              show zVf G X 28 (zT G a τ 1 (B0 + 24) (C0 + 6 * 24)) 427 [(0, .ref a), (1, .int (nI L)), (2, .int (nI T)), (3, .long cmt), (5, .long (kL τ L)), (7, .long (kA τ T L)), (9, .long 0), (11, .long (kP τ T)), (13, .long (kC τ 5)), (15, .long (kY τ 5)), (17, .long (kZ τ 5)), (19, .long (kO τ T)), (21, .long (kS τ L T)), (23, .int (nI 5))] [.long (znet τ)]
              intro k n
              refine zi_lload K (dL_kept_p4 27 rfl) 4 rfl ?_
              refine zi_lload K (dL_kept_p4 28 rfl) 12 rfl ?_
              refine zi_ladd K (dL_kept_p4 29 rfl) ?_
              refine zi_lload K (dL_kept_p4 30 rfl) 7 rfl ?_
              refine zi_lsub K (dL_kept_p4 31 rfl) ?_
              refine zi_lload K (dL_kept_p4 32 rfl) 11 rfl ?_
              refine zi_ladd K (dL_kept_p4 33 rfl) ?_
              refine zi_lload_n K (dL_kept_p4 34 rfl) 3 rfl ?_
              refine zi_lsub K (dL_kept_p4 35 rfl) ?_
              refine zi_lif_ne K 448 (dL_kept_p4 36 rfl) (dL_kept_p4 37 rfl) rfl (fun h440_0 => ?_) (fun h440_0 => ?_)
              · exact absurd hm.2.2.2.2.2.2.2.2.2.2 h440_0
              refine zi_iconst K (dL_kept_p4 38 rfl) zk_i1 ?_
              refine zi_goto K 449 (dL_kept_p4 39 rfl) rfl ?_
              exact zk_zret K (s := 1) (B := B0 + 24) (C := C0 + 6 * 24) E (dL_kept_p4 41 rfl) ⟨by omega, by omega⟩ (by omega) rfl k n
            · skip
              have hlt301 := zloop_in (by decide) (Nat.le_of_ble_eq_true rfl) hi301 h304_0
              refine zi_lload K (dL_kept_p3 14 rfl) 8 rfl ?_
              refine zi_aload_n K (dL_kept_p3 15 rfl) 0 rfl ?_
              refine zi_iload K (dL_kept_p3 16 rfl) 13 rfl ?_
              refine zk_callSW K (τ := τ) (s := j) (s' := 1) (B := B0 + 24) (C := C0 + 6 * 24) (As := [.ref a, .int (nI j)]) (na := 2) [.long (kC τ j)] [.long (zcm τ j), .long (kC τ j)] (k_comes j (by omega)) (dL_kept_p3 17 rfl) w_1285 w_1286 w_24 w_1287 (by decide +kernel) rfl ⟨Nat.le_of_ble_eq_true rfl, Nat.le_of_ble_eq_true rfl⟩ ⟨show B0 + 24 + 0 ≤ B0 + 24 from by omega, show C0 + 6 * 24 + 6 * 0 ≤ C0 + 6 * 24 from by omega⟩ (Nat.le_of_ble_eq_true rfl) rfl rfl ?_ k n
              show zVf G X 28 (zT G a τ 1 (B0 + 24) (C0 + 6 * 24)) 315 [(0, .ref a), (1, .int (nI L)), (2, .int (nI T)), (3, .long cmt), (5, .long (kL τ L)), (7, .long (kA τ T L)), (9, .long 0), (11, .long (kP τ T)), (13, .long (kC τ j)), (15, .long (kY τ j)), (17, .long (kZ τ j)), (19, .long (kO τ T)), (21, .long (kS τ L T)), (23, .int (nI j))] [.long (zcm τ j), .long (kC τ j)]
              intro k n
              refine zi_ladd K (dL_kept_p3 18 rfl) ?_
              refine zi_lstore K [(13, .long ((kC τ j) + (zcm τ j))), (0, .ref a), (1, .int (nI L)), (2, .int (nI T)), (3, .long cmt), (5, .long (kL τ L)), (7, .long (kA τ T L)), (9, .long 0), (11, .long (kP τ T)), (15, .long (kY τ j)), (17, .long (kZ τ j)), (19, .long (kO τ T)), (21, .long (kS τ L T)), (23, .int (nI j))] (dL_kept_p3 19 rfl) (by decide) rfl ?_
              refine zi_lload K (dL_kept_p3 20 rfl) 9 rfl ?_
              refine zi_aload_n K (dL_kept_p3 21 rfl) 1 rfl ?_
              refine zi_iload K (dL_kept_p3 22 rfl) 13 rfl ?_
              refine zk_callSW K (τ := τ) (s := 1) (s' := 1) (B := B0 + 24) (C := C0 + 6 * 24) (As := [.ref a, .int (nI j)]) (na := 2) [.long (kY τ j)] [.long (zsy τ j), .long (kY τ j)] (k_stays j (by omega)) (dL_kept_p3 23 rfl) w_1292 w_1293 w_24 w_1294 (by decide +kernel) rfl ⟨Nat.le_of_ble_eq_true rfl, Nat.le_of_ble_eq_true rfl⟩ ⟨show B0 + 24 + 0 ≤ B0 + 24 from by omega, show C0 + 6 * 24 + 6 * 0 ≤ C0 + 6 * 24 from by omega⟩ (Nat.le_of_ble_eq_true rfl) rfl rfl ?_ k n
              show zVf G X 28 (zT G a τ 1 (B0 + 24) (C0 + 6 * 24)) 326 [(13, .long ((kC τ j) + (zcm τ j))), (0, .ref a), (1, .int (nI L)), (2, .int (nI T)), (3, .long cmt), (5, .long (kL τ L)), (7, .long (kA τ T L)), (9, .long 0), (11, .long (kP τ T)), (15, .long (kY τ j)), (17, .long (kZ τ j)), (19, .long (kO τ T)), (21, .long (kS τ L T)), (23, .int (nI j))] [.long (zsy τ j), .long (kY τ j)]
              intro k n
              refine zi_ladd K (dL_kept_p3 24 rfl) ?_
              refine zi_lstore K [(15, .long ((kY τ j) + (zsy τ j))), (13, .long ((kC τ j) + (zcm τ j))), (0, .ref a), (1, .int (nI L)), (2, .int (nI T)), (3, .long cmt), (5, .long (kL τ L)), (7, .long (kA τ T L)), (9, .long 0), (11, .long (kP τ T)), (17, .long (kZ τ j)), (19, .long (kO τ T)), (21, .long (kS τ L T)), (23, .int (nI j))] (dL_kept_p3 25 rfl) (by decide) rfl ?_
              refine zi_lload K (dL_kept_p3 26 rfl) 10 rfl ?_
              refine zi_aload_n K (dL_kept_p3 27 rfl) 2 rfl ?_
              refine zi_iload K (dL_kept_p3 28 rfl) 13 rfl ?_
              refine zk_callSW K (τ := τ) (s := 1) (s' := 1) (B := B0 + 24) (C := C0 + 6 * 24) (As := [.ref a, .int (nI j)]) (na := 2) [.long (kZ τ j)] [.long (zls τ j), .long (kZ τ j)] (k_lost j (by omega)) (dL_kept_p3 29 rfl) w_1278 w_1279 w_24 w_1280 (by decide +kernel) rfl ⟨Nat.le_of_ble_eq_true rfl, Nat.le_of_ble_eq_true rfl⟩ ⟨show B0 + 24 + 0 ≤ B0 + 24 from by omega, show C0 + 6 * 24 + 6 * 0 ≤ C0 + 6 * 24 from by omega⟩ (Nat.le_of_ble_eq_true rfl) rfl rfl ?_ k n
              show zVf G X 28 (zT G a τ 1 (B0 + 24) (C0 + 6 * 24)) 337 [(15, .long ((kY τ j) + (zsy τ j))), (13, .long ((kC τ j) + (zcm τ j))), (0, .ref a), (1, .int (nI L)), (2, .int (nI T)), (3, .long cmt), (5, .long (kL τ L)), (7, .long (kA τ T L)), (9, .long 0), (11, .long (kP τ T)), (17, .long (kZ τ j)), (19, .long (kO τ T)), (21, .long (kS τ L T)), (23, .int (nI j))] [.long (zls τ j), .long (kZ τ j)]
              intro k n
              refine zi_ladd K (dL_kept_p3 30 rfl) ?_
              refine zi_lstore K [(17, .long ((kZ τ j) + (zls τ j))), (15, .long ((kY τ j) + (zsy τ j))), (13, .long ((kC τ j) + (zcm τ j))), (0, .ref a), (1, .int (nI L)), (2, .int (nI T)), (3, .long cmt), (5, .long (kL τ L)), (7, .long (kA τ T L)), (9, .long 0), (11, .long (kP τ T)), (19, .long (kO τ T)), (21, .long (kS τ L T)), (23, .int (nI j))] (dL_kept_p3 31 rfl) (by decide) rfl ?_
              refine zi_aload_n K (dL_kept_p3 32 rfl) 3 rfl ?_
              refine zi_iload K (dL_kept_p3 33 rfl) 13 rfl ?_
              refine zk_callSW K (τ := τ) (s := 1) (s' := 1) (B := B0 + 24) (C := C0 + 6 * 24) (As := [.ref a, .int (nI j)]) (na := 2) [] [.long (zsy τ j)] (k_stays j (by omega)) (dL_kept_p3 34 rfl) w_1292 w_1293 w_24 w_1294 (by decide +kernel) rfl ⟨Nat.le_of_ble_eq_true rfl, Nat.le_of_ble_eq_true rfl⟩ ⟨show B0 + 24 + 0 ≤ B0 + 24 from by omega, show C0 + 6 * 24 + 6 * 0 ≤ C0 + 6 * 24 from by omega⟩ (Nat.le_of_ble_eq_true rfl) rfl rfl ?_ k n
              show zVf G X 28 (zT G a τ 1 (B0 + 24) (C0 + 6 * 24)) 346 [(17, .long ((kZ τ j) + (zls τ j))), (15, .long ((kY τ j) + (zsy τ j))), (13, .long ((kC τ j) + (zcm τ j))), (0, .ref a), (1, .int (nI L)), (2, .int (nI T)), (3, .long cmt), (5, .long (kL τ L)), (7, .long (kA τ T L)), (9, .long 0), (11, .long (kP τ T)), (19, .long (kO τ T)), (21, .long (kS τ L T)), (23, .int (nI j))] [.long (zsy τ j)]
              intro k n
              refine zi_lconst K (dL_kept_p3 35 rfl) zk_l0 ?_
              refine zi_lif_lt K 389 (dL_kept_p3 36 rfl) (dL_kept_p3 37 rfl) rfl (fun h347_0 => ?_) (fun h347_0 => ?_)
              · exact absurd h347_0 (hm.2.2.2.2.2.1 j (by omega)).1
              refine zi_aload_n K (dL_kept_p3 38 rfl) 3 rfl ?_
              refine zi_iload K (dL_kept_p3 39 rfl) 13 rfl ?_
              refine zk_callSW K (τ := τ) (s := 1) (s' := 1) (B := B0 + 24) (C := C0 + 6 * 24) (As := [.ref a, .int (nI j)]) (na := 2) [] [.long (zsy τ j)] (k_stays j (by omega)) (dL_kept_p3 40 rfl) w_1292 w_1293 w_24 w_1294 (by decide +kernel) rfl ⟨Nat.le_of_ble_eq_true rfl, Nat.le_of_ble_eq_true rfl⟩ ⟨show B0 + 24 + 0 ≤ B0 + 24 from by omega, show C0 + 6 * 24 + 6 * 0 ≤ C0 + 6 * 24 from by omega⟩ (Nat.le_of_ble_eq_true rfl) rfl rfl ?_ k n
              show zVf G X 28 (zT G a τ 1 (B0 + 24) (C0 + 6 * 24)) 357 [(17, .long ((kZ τ j) + (zls τ j))), (15, .long ((kY τ j) + (zsy τ j))), (13, .long ((kC τ j) + (zcm τ j))), (0, .ref a), (1, .int (nI L)), (2, .int (nI T)), (3, .long cmt), (5, .long (kL τ L)), (7, .long (kA τ T L)), (9, .long 0), (11, .long (kP τ T)), (19, .long (kO τ T)), (21, .long (kS τ L T)), (23, .int (nI j))] [.long (zsy τ j)]
              intro k n
              refine zi_aload_n K (dL_kept_p3 41 rfl) 3 rfl ?_
              refine zi_iload K (dL_kept_p3 42 rfl) 13 rfl ?_
              refine zk_callSW K (τ := τ) (s := 1) (s' := 1) (B := B0 + 24) (C := C0 + 6 * 24) (As := [.ref a, .int (nI j)]) (na := 2) [.long (zsy τ j)] [.long (zcm τ j), .long (zsy τ j)] (k_comes j (by omega)) (dL_kept_p3 43 rfl) w_1285 w_1286 w_24 w_1287 (by decide +kernel) rfl ⟨Nat.le_of_ble_eq_true rfl, Nat.le_of_ble_eq_true rfl⟩ ⟨show B0 + 24 + 0 ≤ B0 + 24 from by omega, show C0 + 6 * 24 + 6 * 0 ≤ C0 + 6 * 24 from by omega⟩ (Nat.le_of_ble_eq_true rfl) rfl rfl ?_ k n
              show zVf G X 28 (zT G a τ 1 (B0 + 24) (C0 + 6 * 24)) 363 [(17, .long ((kZ τ j) + (zls τ j))), (15, .long ((kY τ j) + (zsy τ j))), (13, .long ((kC τ j) + (zcm τ j))), (0, .ref a), (1, .int (nI L)), (2, .int (nI T)), (3, .long cmt), (5, .long (kL τ L)), (7, .long (kA τ T L)), (9, .long 0), (11, .long (kP τ T)), (19, .long (kO τ T)), (21, .long (kS τ L T)), (23, .int (nI j))] [.long (zcm τ j), .long (zsy τ j)]
              intro k n
              refine zi_lif_gt K 389 (dL_kept_p3 44 rfl) (dL_kept_p3 45 rfl) rfl (fun h363_0 => ?_) (fun h363_0 => ?_)
              · exact absurd h363_0 (hm.2.2.2.2.2.1 j (by omega)).2
              refine zi_aload_n K (dL_kept_p3 46 rfl) 3 rfl ?_
              refine zi_iload K (dL_kept_p3 47 rfl) 13 rfl ?_
              refine zk_callSW K (τ := τ) (s := 1) (s' := 1) (B := B0 + 24) (C := C0 + 6 * 24) (As := [.ref a, .int (nI j)]) (na := 2) [] [.long (zls τ j)] (k_lost j (by omega)) (dL_kept_p3 48 rfl) w_1278 w_1279 w_24 w_1280 (by decide +kernel) rfl ⟨Nat.le_of_ble_eq_true rfl, Nat.le_of_ble_eq_true rfl⟩ ⟨show B0 + 24 + 0 ≤ B0 + 24 from by omega, show C0 + 6 * 24 + 6 * 0 ≤ C0 + 6 * 24 from by omega⟩ (Nat.le_of_ble_eq_true rfl) rfl rfl ?_ k n
              show zVf G X 28 (zT G a τ 1 (B0 + 24) (C0 + 6 * 24)) 373 [(17, .long ((kZ τ j) + (zls τ j))), (15, .long ((kY τ j) + (zsy τ j))), (13, .long ((kC τ j) + (zcm τ j))), (0, .ref a), (1, .int (nI L)), (2, .int (nI T)), (3, .long cmt), (5, .long (kL τ L)), (7, .long (kA τ T L)), (9, .long 0), (11, .long (kP τ T)), (19, .long (kO τ T)), (21, .long (kS τ L T)), (23, .int (nI j))] [.long (zls τ j)]
              intro k n
              refine zi_lconst K (dL_kept_p3 49 rfl) zk_l0 ?_
              refine zi_lif_le K 391 (dL_kept_p4 0 rfl) (dL_kept_p4 1 rfl) rfl (fun h374_0 => ?_) (fun h374_0 => ?_)
              · skip
                refine zi_iinc K (v := nI (j + 1)) [(23, .int (nI (j + 1))), (17, .long ((kZ τ j) + (zls τ j))), (15, .long ((kY τ j) + (zsy τ j))), (13, .long ((kC τ j) + (zcm τ j))), (0, .ref a), (1, .int (nI L)), (2, .int (nI T)), (3, .long cmt), (5, .long (kL τ L)), (7, .long (kA τ T L)), (9, .long 0), (11, .long (kP τ T)), (19, .long (kO τ T)), (21, .long (kS τ L T))] (dL_kept_p4 10 rfl) 13 rfl (zk_inc _) (by decide) rfl ?_
                refine zi_goto K 301 (dL_kept_p4 11 rfl) rfl ?_
                refine zV.pick [4, 5, 6, 7, 8, 9, 10, 11, 3, 2, 1, 12, 13, 0] (lo' := [(0, .ref a), (1, .int (nI L)), (2, .int (nI T)), (3, .long cmt), (5, .long (kL τ L)), (7, .long (kA τ T L)), (9, .long 0), (11, .long (kP τ T)), (13, .long ((kC τ j) + (zcm τ j))), (15, .long ((kY τ j) + (zsy τ j))), (17, .long ((kZ τ j) + (zls τ j))), (19, .long (kO τ T)), (21, .long (kS τ L T)), (23, .int (nI (j + 1)))]) rfl ?_
                exact zVf.wk (G := G) (a := a) (τ := τ) (s := (j + 1)) (s' := 1) (fun _ => by omega) ⟨by omega, by omega⟩ (ih301 (j + 1) (by omega) (by omega)) k n
              · skip
                refine zi_aload_n K (dL_kept_p4 2 rfl) 3 rfl ?_
                refine zi_iload K (dL_kept_p4 3 rfl) 13 rfl ?_
                refine zi_iconst K (dL_kept_p4 4 rfl) zk_i1 ?_
                refine zk_callSW K (τ := τ) (s := 1) (s' := 1) (B := B0 + 24) (C := C0 + 6 * 24) (As := [.ref a, .int (nI j), .int 1]) (na := 3) [] [.int 1] (k_fail1 j (by omega) (hm.2.2.2.2.2.2.1 j (by omega) (by assumption))) (dL_kept_p4 5 rfl) w_1390 w_1391 w_24 w_1392 (by decide +kernel) rfl ⟨Nat.le_of_ble_eq_true rfl, Nat.le_of_ble_eq_true rfl⟩ ⟨show B0 + 24 + 0 ≤ B0 + 24 from by omega, show C0 + 6 * 24 + 6 * 0 ≤ C0 + 6 * 24 from by omega⟩ (Nat.le_of_ble_eq_true rfl) rfl rfl ?_ k n
                show zVf G X 28 (zT G a τ 1 (B0 + 24) (C0 + 6 * 24)) 385 [(17, .long ((kZ τ j) + (zls τ j))), (15, .long ((kY τ j) + (zsy τ j))), (13, .long ((kC τ j) + (zcm τ j))), (0, .ref a), (1, .int (nI L)), (2, .int (nI T)), (3, .long cmt), (5, .long (kL τ L)), (7, .long (kA τ T L)), (9, .long 0), (11, .long (kP τ T)), (19, .long (kO τ T)), (21, .long (kS τ L T)), (23, .int (nI j))] [.int 1]
                intro k n
                refine zi_iconst K (dL_kept_p4 6 rfl) zk_i1 ?_
                refine zi_icmp_eq K 391 (dL_kept_p4 7 rfl) rfl (fun h386_1 => ?_) (fun h386_1 => ?_)
                rotate_left
                · exact absurd rfl h386_1
                refine zi_iinc K (v := nI (j + 1)) [(23, .int (nI (j + 1))), (17, .long ((kZ τ j) + (zls τ j))), (15, .long ((kY τ j) + (zsy τ j))), (13, .long ((kC τ j) + (zcm τ j))), (0, .ref a), (1, .int (nI L)), (2, .int (nI T)), (3, .long cmt), (5, .long (kL τ L)), (7, .long (kA τ T L)), (9, .long 0), (11, .long (kP τ T)), (19, .long (kO τ T)), (21, .long (kS τ L T))] (dL_kept_p4 10 rfl) 13 rfl (zk_inc _) (by decide) rfl ?_
                refine zi_goto K 301 (dL_kept_p4 11 rfl) rfl ?_
                refine zV.pick [4, 5, 6, 7, 8, 9, 10, 11, 3, 2, 1, 12, 13, 0] (lo' := [(0, .ref a), (1, .int (nI L)), (2, .int (nI T)), (3, .long cmt), (5, .long (kL τ L)), (7, .long (kA τ T L)), (9, .long 0), (11, .long (kP τ T)), (13, .long ((kC τ j) + (zcm τ j))), (15, .long ((kY τ j) + (zsy τ j))), (17, .long ((kZ τ j) + (zls τ j))), (19, .long (kO τ T)), (21, .long (kS τ L T)), (23, .int (nI (j + 1)))]) rfl ?_
                exact zVf.wk (G := G) (a := a) (τ := τ) (s := (j + 1)) (s' := 1) (fun _ => by omega) ⟨by omega, by omega⟩ (ih301 (j + 1) (by omega) (by omega)) k n
        · skip
          have hlt119 := zloop_in rfl (by omega) hi119 h122_0
          refine zi_lconst K (dL_kept_p1 21 rfl) zk_l0 ?_
          refine zi_lstore K [(24, .long 0), (0, .ref a), (1, .int (nI L)), (2, .int (nI T)), (3, .long cmt), (5, .long (kL τ L)), (7, .long (kA τ T L)), (9, .long 0), (11, .long (kP τ t)), (13, .long 0), (15, .long 0), (17, .long 0), (19, .long (kO τ t)), (21, .long (kS τ L t)), (23, .int (nI t))] (dL_kept_p1 22 rfl) (by decide) rfl ?_
          refine zi_iconst K (dL_kept_p1 23 rfl) zk_i0 ?_
          refine zi_istore K [(26, .int 0), (24, .long 0), (0, .ref a), (1, .int (nI L)), (2, .int (nI T)), (3, .long cmt), (5, .long (kL τ L)), (7, .long (kA τ T L)), (9, .long 0), (11, .long (kP τ t)), (13, .long 0), (15, .long 0), (17, .long 0), (19, .long (kO τ t)), (21, .long (kS τ L t)), (23, .int (nI t))] (dL_kept_p1 24 rfl) (by decide) rfl ?_
          refine zV.pick [2, 3, 4, 5, 6, 7, 8, 9, 10, 11, 12, 13, 14, 15, 1, 0] (lo' := [(0, .ref a), (1, .int (nI L)), (2, .int (nI T)), (3, .long cmt), (5, .long (kL τ L)), (7, .long (kA τ T L)), (9, .long 0), (11, .long (kP τ t)), (13, .long 0), (15, .long 0), (17, .long 0), (19, .long (kO τ t)), (21, .long (kS τ L t)), (23, .int (nI t)), (24, .long 0), (26, .int 0)]) rfl ?_
          suffices hloop131 : ∀ (r9 j : Nat), j ≤ L → L - j < r9 → zVf G X 28 (zT G a τ 0 (B0 + (3 * t)) (C0 + 6 * (3 * t))) 131 [(0, .ref a), (1, .int (nI L)), (2, .int (nI T)), (3, .long cmt), (5, .long (kL τ L)), (7, .long (kA τ T L)), (9, .long 0), (11, .long (kP τ t)), (13, .long 0), (15, .long 0), (17, .long 0), (19, .long (kO τ t)), (21, .long (kS τ L t)), (23, .int (nI t)), (24, .long (kU τ t j)), (26, .int (nI j))] [] from zVf.wk (G := G) (a := a) (τ := τ) (s := 0) (s' := 0) (fun _ => by omega) ⟨by omega, by omega⟩ (hloop131 (L + 1) 0 (Nat.zero_le _) (Nat.lt_succ_of_le (Nat.sub_le _ _))) k n
          intro r9
          induction r9 with
          | zero => intro j _ h; exact absurd h (Nat.not_lt_zero _)
          | succ r9 ih131 =>
            intro j hi131 hr131 k n
            refine zi_iload K (dL_kept_p1 25 rfl) 15 rfl ?_
            refine zi_iload_n K (dL_kept_p1 26 rfl) 1 rfl ?_
            refine zi_icmp_ge K 156 (dL_kept_p1 27 rfl) rfl (fun h134_0 => ?_) (fun h134_0 => ?_)
            · skip
              have hN131 := zloop_exit rfl (by omega) hi131 h134_0
              subst j
              refine zi_aload_n K (dL_kept_p1 37 rfl) 0 rfl ?_
              refine zi_iload K (dL_kept_p1 38 rfl) 13 rfl ?_
              refine zk_callSW K (τ := τ) (s := 0) (s' := 0) (B := B0 + (3 * t)) (C := C0 + 6 * (3 * t)) (As := [.ref a, .int (nI t)]) (na := 2) [] [.long (zlm τ t)] (k_limit t (by show _ < sN τ 2; omega)) (dL_kept_p1 39 rfl) w_1407 w_1408 w_24 w_1409 (by decide +kernel) rfl ⟨Nat.le_of_ble_eq_true rfl, Nat.le_of_ble_eq_true rfl⟩ ⟨show B0 + (3 * t) + 1 ≤ B0 + 24 from by omega, show C0 + 6 * (3 * t) + 6 * 1 ≤ C0 + 6 * 24 from by omega⟩ (Nat.le_of_ble_eq_true rfl) rfl rfl ?_ k n
              refine zVf.wk (G := G) (a := a) (τ := τ) (s := 0) (s' := 0) (B := B0 + (3 * t + 1)) (C := C0 + 6 * (3 * t + 1)) (fun h => h) ⟨by omega, by omega⟩ ?_
              intro k n
              refine zi_ldc2 K (dL_kept_p1 40 rfl) w_1416 ?_
              refine zi_lif_ne K 173 (dL_kept_p1 41 rfl) (dL_kept_p1 42 rfl) rfl (fun h165_0 => ?_) (fun h165_0 => ?_)
              · skip
                refine zi_iconst K (dL_kept_p1 45 rfl) zk_i0 ?_
                refine zi_istore K [(26, .int 0), (0, .ref a), (1, .int (nI L)), (2, .int (nI T)), (3, .long cmt), (5, .long (kL τ L)), (7, .long (kA τ T L)), (9, .long 0), (11, .long (kP τ t)), (13, .long 0), (15, .long 0), (17, .long 0), (19, .long (kO τ t)), (21, .long (kS τ L t)), (23, .int (nI t)), (24, .long (kU τ t L))] (dL_kept_p1 46 rfl) (by decide) rfl ?_
                refine zi_aload_n K (dL_kept_p1 47 rfl) 1 rfl ?_
                refine zi_iload K (dL_kept_p1 48 rfl) 14 rfl ?_
                refine zk_callSW K (τ := τ) (s := 0) (s' := 0) (B := B0 + (3 * t + 1)) (C := C0 + 6 * (3 * t + 1)) (As := [.ref a, .int (nI t)]) (na := 2) [] [.long (zlm τ t)] (k_limit t (by show _ < sN τ 2; omega)) (dL_kept_p1 49 rfl) w_1407 w_1408 w_24 w_1409 (by decide +kernel) rfl ⟨Nat.le_of_ble_eq_true rfl, Nat.le_of_ble_eq_true rfl⟩ ⟨show B0 + (3 * t + 1) + 1 ≤ B0 + 24 from by omega, show C0 + 6 * (3 * t + 1) + 6 * 1 ≤ C0 + 6 * 24 from by omega⟩ (Nat.le_of_ble_eq_true rfl) rfl rfl ?_ k n
                refine zVf.wk (G := G) (a := a) (τ := τ) (s := 0) (s' := 0) (B := B0 + (3 * t + 1 + 1)) (C := C0 + 6 * (3 * t + 1 + 1)) (fun h => h) ⟨by omega, by omega⟩ ?_
                intro k n
                refine zi_ldc2 K (dL_kept_p2 0 rfl) w_1248 ?_
                refine zi_lif_eq K 221 (dL_kept_p2 1 rfl) (dL_kept_p2 2 rfl) rfl (fun h185_1 => ?_) (fun h185_1 => ?_)
                · skip
                  refine zi_aload_n K (dL_kept_p2 19 rfl) 1 rfl ?_
                  refine zi_iload K (dL_kept_p2 20 rfl) 14 rfl ?_
                  refine zk_callSW K (τ := τ) (s := 0) (s' := 1) (B := B0 + (3 * t + 1 + 1)) (C := C0 + 6 * (3 * t + 1 + 1)) (As := [.ref a, .int (nI t)]) (na := 2) [] [.long (sL τ 3 t 0)] (k_taken t (by show _ < sN τ 2; omega)) (dL_kept_p2 21 rfl) w_1256 w_1257 w_24 w_1258 (by decide +kernel) rfl ⟨Nat.le_of_ble_eq_true rfl, Nat.le_of_ble_eq_true rfl⟩ ⟨show B0 + (3 * t + 1 + 1) + 0 ≤ B0 + 24 from by omega, show C0 + 6 * (3 * t + 1 + 1) + 6 * 0 ≤ C0 + 6 * 24 from by omega⟩ (Nat.le_of_ble_eq_true rfl) rfl rfl ?_ k n
                  show zVf G X 28 (zT G a τ 1 (B0 + (3 * t + 1 + 1)) (C0 + 6 * (3 * t + 1 + 1))) 227 [(26, .int 0), (0, .ref a), (1, .int (nI L)), (2, .int (nI T)), (3, .long cmt), (5, .long (kL τ L)), (7, .long (kA τ T L)), (9, .long 0), (11, .long (kP τ t)), (13, .long 0), (15, .long 0), (17, .long 0), (19, .long (kO τ t)), (21, .long (kS τ L t)), (23, .int (nI t)), (24, .long (kU τ t L))] [.long (sL τ 3 t 0)]
                  intro k n
                  refine zi_lload K (dL_kept_p2 22 rfl) 15 rfl ?_
                  refine zi_lif_lt K 244 (dL_kept_p2 23 rfl) (dL_kept_p2 24 rfl) rfl (fun h229_2 => ?_) (fun h229_2 => ?_)
                  · exact absurd h229_2 (hm.2.2.2.2.1 t (by omega)).1
                  refine zi_aload_n K (dL_kept_p2 25 rfl) 1 rfl ?_
                  refine zi_iload K (dL_kept_p2 26 rfl) 14 rfl ?_
                  refine zk_callSW K (τ := τ) (s := 1) (s' := 1) (B := B0 + (3 * t + 1 + 1)) (C := C0 + 6 * (3 * t + 1 + 1)) (As := [.ref a, .int (nI t)]) (na := 2) [] [.long (sL τ 5 t 0)] (k_owed t (by show _ < sN τ 2; omega)) (dL_kept_p2 27 rfl) w_1263 w_1264 w_24 w_1265 (by decide +kernel) rfl ⟨Nat.le_of_ble_eq_true rfl, Nat.le_of_ble_eq_true rfl⟩ ⟨show B0 + (3 * t + 1 + 1) + 0 ≤ B0 + 24 from by omega, show C0 + 6 * (3 * t + 1 + 1) + 6 * 0 ≤ C0 + 6 * 24 from by omega⟩ (Nat.le_of_ble_eq_true rfl) rfl rfl ?_ k n
                  show zVf G X 28 (zT G a τ 1 (B0 + (3 * t + 1 + 1)) (C0 + 6 * (3 * t + 1 + 1))) 239 [(26, .int 0), (0, .ref a), (1, .int (nI L)), (2, .int (nI T)), (3, .long cmt), (5, .long (kL τ L)), (7, .long (kA τ T L)), (9, .long 0), (11, .long (kP τ t)), (13, .long 0), (15, .long 0), (17, .long 0), (19, .long (kO τ t)), (21, .long (kS τ L t)), (23, .int (nI t)), (24, .long (kU τ t L))] [.long (sL τ 5 t 0)]
                  intro k n
                  refine zi_lconst K (dL_kept_p2 28 rfl) zk_l0 ?_
                  refine zi_lif_ge K 246 (dL_kept_p2 29 rfl) (dL_kept_p2 30 rfl) rfl (fun h240_2 => ?_) (fun h240_2 => ?_)
                  rotate_left
                  · exact absurd h240_2 (hm.2.2.2.2.1 t (by omega)).2
                  refine zi_lload K (dL_kept_p2 33 rfl) 12 rfl ?_
                  refine zi_aload_n K (dL_kept_p2 34 rfl) 1 rfl ?_
                  refine zi_iload K (dL_kept_p2 35 rfl) 14 rfl ?_
                  refine zk_callSW K (τ := τ) (s := 1) (s' := 1) (B := B0 + (3 * t + 1 + 1)) (C := C0 + 6 * (3 * t + 1 + 1)) (As := [.ref a, .int (nI t)]) (na := 2) [.long (kO τ t)] [.long (sL τ 5 t 0), .long (kO τ t)] (k_owed t (by show _ < sN τ 2; omega)) (dL_kept_p2 36 rfl) w_1263 w_1264 w_24 w_1265 (by decide +kernel) rfl ⟨Nat.le_of_ble_eq_true rfl, Nat.le_of_ble_eq_true rfl⟩ ⟨show B0 + (3 * t + 1 + 1) + 0 ≤ B0 + 24 from by omega, show C0 + 6 * (3 * t + 1 + 1) + 6 * 0 ≤ C0 + 6 * 24 from by omega⟩ (Nat.le_of_ble_eq_true rfl) rfl rfl ?_ k n
                  show zVf G X 28 (zT G a τ 1 (B0 + (3 * t + 1 + 1)) (C0 + 6 * (3 * t + 1 + 1))) 254 [(26, .int 0), (0, .ref a), (1, .int (nI L)), (2, .int (nI T)), (3, .long cmt), (5, .long (kL τ L)), (7, .long (kA τ T L)), (9, .long 0), (11, .long (kP τ t)), (13, .long 0), (15, .long 0), (17, .long 0), (19, .long (kO τ t)), (21, .long (kS τ L t)), (23, .int (nI t)), (24, .long (kU τ t L))] [.long (sL τ 5 t 0), .long (kO τ t)]
                  intro k n
                  refine zi_ladd K (dL_kept_p2 37 rfl) ?_
                  refine zi_lstore K [(19, .long ((kO τ t) + (sL τ 5 t 0))), (26, .int 0), (0, .ref a), (1, .int (nI L)), (2, .int (nI T)), (3, .long cmt), (5, .long (kL τ L)), (7, .long (kA τ T L)), (9, .long 0), (11, .long (kP τ t)), (13, .long 0), (15, .long 0), (17, .long 0), (21, .long (kS τ L t)), (23, .int (nI t)), (24, .long (kU τ t L))] (dL_kept_p2 38 rfl) (by decide) rfl ?_
                  refine zi_lload K (dL_kept_p2 39 rfl) 13 rfl ?_
                  refine zi_lload K (dL_kept_p2 40 rfl) 15 rfl ?_
                  refine zi_ladd K (dL_kept_p2 41 rfl) ?_
                  refine zi_lstore K [(21, .long ((kS τ L t) + (kU τ t L))), (19, .long ((kO τ t) + (sL τ 5 t 0))), (26, .int 0), (0, .ref a), (1, .int (nI L)), (2, .int (nI T)), (3, .long cmt), (5, .long (kL τ L)), (7, .long (kA τ T L)), (9, .long 0), (11, .long (kP τ t)), (13, .long 0), (15, .long 0), (17, .long 0), (23, .int (nI t)), (24, .long (kU τ t L))] (dL_kept_p2 42 rfl) (by decide) rfl ?_
                  refine zi_iconst K (dL_kept_p2 43 rfl) zk_i0 ?_
                  refine zi_istore K [(27, .int 0), (21, .long ((kS τ L t) + (kU τ t L))), (19, .long ((kO τ t) + (sL τ 5 t 0))), (26, .int 0), (0, .ref a), (1, .int (nI L)), (2, .int (nI T)), (3, .long cmt), (5, .long (kL τ L)), (7, .long (kA τ T L)), (9, .long 0), (11, .long (kP τ t)), (13, .long 0), (15, .long 0), (17, .long 0), (23, .int (nI t)), (24, .long (kU τ t L))] (dL_kept_p2 44 rfl) (by decide) rfl ?_
                  refine zV.pick [4, 5, 6, 7, 8, 9, 10, 11, 12, 13, 14, 2, 1, 15, 0] (lo' := [(0, .ref a), (1, .int (nI L)), (2, .int (nI T)), (3, .long cmt), (5, .long (kL τ L)), (7, .long (kA τ T L)), (9, .long 0), (11, .long (kP τ t)), (13, .long 0), (15, .long 0), (17, .long 0), (19, .long ((kO τ t) + (sL τ 5 t 0))), (21, .long ((kS τ L t) + (kU τ t L))), (23, .int (nI t)), (27, .int 0)]) rfl ?_
                  suffices hloop267 : ∀ (r9 j : Nat), j ≤ 5 → 5 - j < r9 → zVf G X 28 (zT G a τ 0 (B0 + (3 * t + 3)) (C0 + 6 * (3 * t + 3))) 267 [(0, .ref a), (1, .int (nI L)), (2, .int (nI T)), (3, .long cmt), (5, .long (kL τ L)), (7, .long (kA τ T L)), (9, .long 0), (11, .long (kPr τ t (kP τ t) j)), (13, .long 0), (15, .long 0), (17, .long 0), (19, .long (kO τ t + sL τ 5 t 0)), (21, .long (kS τ L t + kU τ t L)), (23, .int (nI t)), (27, .int (nI j))] [] from zVf.wk (G := G) (a := a) (τ := τ) (s := 0) (s' := 1) (fun _ => by omega) ⟨by omega, by omega⟩ (hloop267 (5 + 1) 0 (Nat.zero_le _) (Nat.lt_succ_of_le (Nat.sub_le _ _))) k n
                  intro r9
                  induction r9 with
                  | zero => intro j _ h; exact absurd h (Nat.not_lt_zero _)
                  | succ r9 ih267 =>
                    intro j hi267 hr267 k n
                    refine zi_iload K (dL_kept_p2 45 rfl) 14 rfl ?_
                    refine zi_iconst K (dL_kept_p2 46 rfl) zk_i5 ?_
                    refine zi_icmp_ge K 292 (dL_kept_p2 47 rfl) rfl (fun h270_2 => ?_) (fun h270_2 => ?_)
                    · skip
                      have hN267 := zloop_exit (by decide) (Nat.le_of_ble_eq_true rfl) hi267 h270_2
                      subst hN267
                      refine zi_iinc K (v := nI (t + 1)) [(23, .int (nI (t + 1))), (0, .ref a), (1, .int (nI L)), (2, .int (nI T)), (3, .long cmt), (5, .long (kL τ L)), (7, .long (kA τ T L)), (9, .long 0), (11, .long (kPr τ t (kP τ t) 5)), (13, .long 0), (15, .long 0), (17, .long 0), (19, .long (kO τ t + sL τ 5 t 0)), (21, .long (kS τ L t + kU τ t L)), (27, .int (nI 5))] (dL_kept_p3 7 rfl) 13 rfl (zk_inc _) (by decide) rfl ?_
                      refine zi_goto K 119 (dL_kept_p3 8 rfl) rfl ?_
                      refine zV.pick [1, 2, 3, 4, 5, 6, 7, 8, 9, 10, 11, 12, 13, 0] (lo' := [(0, .ref a), (1, .int (nI L)), (2, .int (nI T)), (3, .long cmt), (5, .long (kL τ L)), (7, .long (kA τ T L)), (9, .long 0), (11, .long (kPr τ t (kP τ t) 5)), (13, .long 0), (15, .long 0), (17, .long 0), (19, .long (kO τ t + sL τ 5 t 0)), (21, .long (kS τ L t + kU τ t L)), (23, .int (nI (t + 1)))]) rfl ?_
                      exact zVf.wk (G := G) (a := a) (τ := τ) (s := 0) (s' := 0) (fun _ => by omega) ⟨by omega, by omega⟩ (ih119 (t + 1) (by omega) (by omega)) k n
                    · skip
                      have hlt267 := zloop_in (by decide) (Nat.le_of_ble_eq_true rfl) hi267 h270_2
                      refine zi_lload K (dL_kept_p2 48 rfl) 7 rfl ?_
                      refine zi_aload_n K (dL_kept_p2 49 rfl) 0 rfl ?_
                      refine zi_iload K (dL_kept_p3 0 rfl) 13 rfl ?_
                      refine zi_iload K (dL_kept_p3 1 rfl) 14 rfl ?_
                      refine zk_callSW K (τ := τ) (s := 0) (s' := 1) (B := B0 + (3 * t + 3)) (C := C0 + 6 * (3 * t + 3)) (As := [.ref a, .int (nI t), .int (nI j)]) (na := 3) [.long (kPr τ t (kP τ t) j)] [.long (zpd τ t j), .long (kPr τ t (kP τ t) j)] (k_paid t j (by show _ < sN τ 2; omega) (by omega)) (dL_kept_p3 2 rfl) w_1424 w_1425 w_24 w_1426 (by decide +kernel) rfl ⟨Nat.le_of_ble_eq_true rfl, Nat.le_of_ble_eq_true rfl⟩ ⟨show B0 + (3 * t + 3) + 0 ≤ B0 + 24 from by omega, show C0 + 6 * (3 * t + 3) + 6 * 0 ≤ C0 + 6 * 24 from by omega⟩ (Nat.le_of_ble_eq_true rfl) rfl rfl ?_ k n
                      show zVf G X 28 (zT G a τ 1 (B0 + (3 * t + 3)) (C0 + 6 * (3 * t + 3))) 283 [(0, .ref a), (1, .int (nI L)), (2, .int (nI T)), (3, .long cmt), (5, .long (kL τ L)), (7, .long (kA τ T L)), (9, .long 0), (11, .long (kPr τ t (kP τ t) j)), (13, .long 0), (15, .long 0), (17, .long 0), (19, .long (kO τ t + sL τ 5 t 0)), (21, .long (kS τ L t + kU τ t L)), (23, .int (nI t)), (27, .int (nI j))] [.long (zpd τ t j), .long (kPr τ t (kP τ t) j)]
                      intro k n
                      refine zi_ladd K (dL_kept_p3 3 rfl) ?_
                      refine zi_lstore K [(11, .long ((kPr τ t (kP τ t) j) + (zpd τ t j))), (0, .ref a), (1, .int (nI L)), (2, .int (nI T)), (3, .long cmt), (5, .long (kL τ L)), (7, .long (kA τ T L)), (9, .long 0), (13, .long 0), (15, .long 0), (17, .long 0), (19, .long (kO τ t + sL τ 5 t 0)), (21, .long (kS τ L t + kU τ t L)), (23, .int (nI t)), (27, .int (nI j))] (dL_kept_p3 4 rfl) (by decide) rfl ?_
                      refine zi_iinc K (v := nI (j + 1)) [(27, .int (nI (j + 1))), (11, .long ((kPr τ t (kP τ t) j) + (zpd τ t j))), (0, .ref a), (1, .int (nI L)), (2, .int (nI T)), (3, .long cmt), (5, .long (kL τ L)), (7, .long (kA τ T L)), (9, .long 0), (13, .long 0), (15, .long 0), (17, .long 0), (19, .long (kO τ t + sL τ 5 t 0)), (21, .long (kS τ L t + kU τ t L)), (23, .int (nI t))] (dL_kept_p3 5 rfl) 14 rfl (zk_inc _) (by decide) rfl ?_
                      refine zi_goto K 267 (dL_kept_p3 6 rfl) rfl ?_
                      refine zV.pick [2, 3, 4, 5, 6, 7, 8, 1, 9, 10, 11, 12, 13, 14, 0] (lo' := [(0, .ref a), (1, .int (nI L)), (2, .int (nI T)), (3, .long cmt), (5, .long (kL τ L)), (7, .long (kA τ T L)), (9, .long 0), (11, .long ((kPr τ t (kP τ t) j) + (zpd τ t j))), (13, .long 0), (15, .long 0), (17, .long 0), (19, .long (kO τ t + sL τ 5 t 0)), (21, .long (kS τ L t + kU τ t L)), (23, .int (nI t)), (27, .int (nI (j + 1)))]) rfl ?_
                      exact zVf.wk (G := G) (a := a) (τ := τ) (s := 0) (s' := 1) (fun _ => by omega) ⟨by omega, by omega⟩ (ih267 (j + 1) (by omega) (by omega)) k n
                · skip
                  refine zi_iload K (dL_kept_p2 3 rfl) 0 rfl ?_
                  refine zi_if_ne K 221 (dL_kept_p2 4 rfl) rfl (fun h191_2 => ?_) (fun h191_2 => ?_)
                  · exact absurd h191_2 (by decide)
                  refine zi_aload_n K (dL_kept_p2 5 rfl) 1 rfl ?_
                  refine zi_iload K (dL_kept_p2 6 rfl) 14 rfl ?_
                  refine zk_callSW K (τ := τ) (s := 0) (s' := 0) (B := B0 + (3 * t + 1 + 1)) (C := C0 + 6 * (3 * t + 1 + 1)) (As := [.ref a, .int (nI t)]) (na := 2) [] [.long (zlm τ t)] (k_limit t (by show _ < sN τ 2; omega)) (dL_kept_p2 7 rfl) w_1407 w_1408 w_24 w_1409 (by decide +kernel) rfl ⟨Nat.le_of_ble_eq_true rfl, Nat.le_of_ble_eq_true rfl⟩ ⟨show B0 + (3 * t + 1 + 1) + 1 ≤ B0 + 24 from by omega, show C0 + 6 * (3 * t + 1 + 1) + 6 * 1 ≤ C0 + 6 * 24 from by omega⟩ (Nat.le_of_ble_eq_true rfl) rfl rfl ?_ k n
                  refine zVf.wk (G := G) (a := a) (τ := τ) (s := 0) (s' := 0) (B := B0 + (3 * t + 1 + 1 + 1)) (C := C0 + 6 * (3 * t + 1 + 1 + 1)) (fun h => h) ⟨by omega, by omega⟩ ?_
                  intro k n
                  refine zi_lconst K (dL_kept_p2 8 rfl) zk_l0 ?_
                  refine zi_lif_lt K 244 (dL_kept_p2 9 rfl) (dL_kept_p2 10 rfl) rfl (fun h201_2 => ?_) (fun h201_2 => ?_)
                  · exact absurd h201_2 (by rcases hm.2.2.2.1 t (by omega) with q | q | q <;> first | exact q.1 | (exfalso; contradiction))
                  refine zi_aload_n K (dL_kept_p2 11 rfl) 1 rfl ?_
                  refine zi_iload K (dL_kept_p2 12 rfl) 14 rfl ?_
                  refine zk_callSW K (τ := τ) (s := 0) (s' := 1) (B := B0 + (3 * t + 1 + 1 + 1)) (C := C0 + 6 * (3 * t + 1 + 1 + 1)) (As := [.ref a, .int (nI t)]) (na := 2) [] [.long (sL τ 4 t 0)] (k_reinstated t (by show _ < sN τ 2; omega)) (dL_kept_p2 13 rfl) w_1417 w_1418 w_24 w_1419 (by decide +kernel) rfl ⟨Nat.le_of_ble_eq_true rfl, Nat.le_of_ble_eq_true rfl⟩ ⟨show B0 + (3 * t + 1 + 1 + 1) + 0 ≤ B0 + 24 from by omega, show C0 + 6 * (3 * t + 1 + 1 + 1) + 6 * 0 ≤ C0 + 6 * 24 from by omega⟩ (Nat.le_of_ble_eq_true rfl) rfl rfl ?_ k n
                  show zVf G X 28 (zT G a τ 1 (B0 + (3 * t + 1 + 1 + 1)) (C0 + 6 * (3 * t + 1 + 1 + 1))) 211 [(26, .int 0), (0, .ref a), (1, .int (nI L)), (2, .int (nI T)), (3, .long cmt), (5, .long (kL τ L)), (7, .long (kA τ T L)), (9, .long 0), (11, .long (kP τ t)), (13, .long 0), (15, .long 0), (17, .long 0), (19, .long (kO τ t)), (21, .long (kS τ L t)), (23, .int (nI t)), (24, .long (kU τ t L))] [.long (sL τ 4 t 0)]
                  intro k n
                  refine zi_aload_n K (dL_kept_p2 14 rfl) 1 rfl ?_
                  refine zi_iload K (dL_kept_p2 15 rfl) 14 rfl ?_
                  refine zk_callSW K (τ := τ) (s := 1) (s' := 1) (B := B0 + (3 * t + 1 + 1 + 1)) (C := C0 + 6 * (3 * t + 1 + 1 + 1)) (As := [.ref a, .int (nI t)]) (na := 2) [.long (sL τ 4 t 0)] [.long (sL τ 3 t 0), .long (sL τ 4 t 0)] (k_taken t (by show _ < sN τ 2; omega)) (dL_kept_p2 16 rfl) w_1256 w_1257 w_24 w_1258 (by decide +kernel) rfl ⟨Nat.le_of_ble_eq_true rfl, Nat.le_of_ble_eq_true rfl⟩ ⟨show B0 + (3 * t + 1 + 1 + 1) + 0 ≤ B0 + 24 from by omega, show C0 + 6 * (3 * t + 1 + 1 + 1) + 6 * 0 ≤ C0 + 6 * 24 from by omega⟩ (Nat.le_of_ble_eq_true rfl) rfl rfl ?_ k n
                  show zVf G X 28 (zT G a τ 1 (B0 + (3 * t + 1 + 1 + 1)) (C0 + 6 * (3 * t + 1 + 1 + 1))) 217 [(26, .int 0), (0, .ref a), (1, .int (nI L)), (2, .int (nI T)), (3, .long cmt), (5, .long (kL τ L)), (7, .long (kA τ T L)), (9, .long 0), (11, .long (kP τ t)), (13, .long 0), (15, .long 0), (17, .long 0), (19, .long (kO τ t)), (21, .long (kS τ L t)), (23, .int (nI t)), (24, .long (kU τ t L))] [.long (sL τ 3 t 0), .long (sL τ 4 t 0)]
                  intro k n
                  refine zi_lif_gt K 244 (dL_kept_p2 17 rfl) (dL_kept_p2 18 rfl) rfl (fun h217_2 => ?_) (fun h217_2 => ?_)
                  · exact absurd h217_2 (by rcases hm.2.2.2.1 t (by omega) with q | q | q <;> first | exact q.2 | (exfalso; contradiction))
                  refine zi_aload_n K (dL_kept_p2 19 rfl) 1 rfl ?_
                  refine zi_iload K (dL_kept_p2 20 rfl) 14 rfl ?_
                  refine zk_callSW K (τ := τ) (s := 1) (s' := 1) (B := B0 + (3 * t + 1 + 1 + 1)) (C := C0 + 6 * (3 * t + 1 + 1 + 1)) (As := [.ref a, .int (nI t)]) (na := 2) [] [.long (sL τ 3 t 0)] (k_taken t (by show _ < sN τ 2; omega)) (dL_kept_p2 21 rfl) w_1256 w_1257 w_24 w_1258 (by decide +kernel) rfl ⟨Nat.le_of_ble_eq_true rfl, Nat.le_of_ble_eq_true rfl⟩ ⟨show B0 + (3 * t + 1 + 1 + 1) + 0 ≤ B0 + 24 from by omega, show C0 + 6 * (3 * t + 1 + 1 + 1) + 6 * 0 ≤ C0 + 6 * 24 from by omega⟩ (Nat.le_of_ble_eq_true rfl) rfl rfl ?_ k n
                  show zVf G X 28 (zT G a τ 1 (B0 + (3 * t + 1 + 1 + 1)) (C0 + 6 * (3 * t + 1 + 1 + 1))) 227 [(26, .int 0), (0, .ref a), (1, .int (nI L)), (2, .int (nI T)), (3, .long cmt), (5, .long (kL τ L)), (7, .long (kA τ T L)), (9, .long 0), (11, .long (kP τ t)), (13, .long 0), (15, .long 0), (17, .long 0), (19, .long (kO τ t)), (21, .long (kS τ L t)), (23, .int (nI t)), (24, .long (kU τ t L))] [.long (sL τ 3 t 0)]
                  intro k n
                  refine zi_lload K (dL_kept_p2 22 rfl) 15 rfl ?_
                  refine zi_lif_lt K 244 (dL_kept_p2 23 rfl) (dL_kept_p2 24 rfl) rfl (fun h229_2 => ?_) (fun h229_2 => ?_)
                  · exact absurd h229_2 (hm.2.2.2.2.1 t (by omega)).1
                  refine zi_aload_n K (dL_kept_p2 25 rfl) 1 rfl ?_
                  refine zi_iload K (dL_kept_p2 26 rfl) 14 rfl ?_
                  refine zk_callSW K (τ := τ) (s := 1) (s' := 1) (B := B0 + (3 * t + 1 + 1 + 1)) (C := C0 + 6 * (3 * t + 1 + 1 + 1)) (As := [.ref a, .int (nI t)]) (na := 2) [] [.long (sL τ 5 t 0)] (k_owed t (by show _ < sN τ 2; omega)) (dL_kept_p2 27 rfl) w_1263 w_1264 w_24 w_1265 (by decide +kernel) rfl ⟨Nat.le_of_ble_eq_true rfl, Nat.le_of_ble_eq_true rfl⟩ ⟨show B0 + (3 * t + 1 + 1 + 1) + 0 ≤ B0 + 24 from by omega, show C0 + 6 * (3 * t + 1 + 1 + 1) + 6 * 0 ≤ C0 + 6 * 24 from by omega⟩ (Nat.le_of_ble_eq_true rfl) rfl rfl ?_ k n
                  show zVf G X 28 (zT G a τ 1 (B0 + (3 * t + 1 + 1 + 1)) (C0 + 6 * (3 * t + 1 + 1 + 1))) 239 [(26, .int 0), (0, .ref a), (1, .int (nI L)), (2, .int (nI T)), (3, .long cmt), (5, .long (kL τ L)), (7, .long (kA τ T L)), (9, .long 0), (11, .long (kP τ t)), (13, .long 0), (15, .long 0), (17, .long 0), (19, .long (kO τ t)), (21, .long (kS τ L t)), (23, .int (nI t)), (24, .long (kU τ t L))] [.long (sL τ 5 t 0)]
                  intro k n
                  refine zi_lconst K (dL_kept_p2 28 rfl) zk_l0 ?_
                  refine zi_lif_ge K 246 (dL_kept_p2 29 rfl) (dL_kept_p2 30 rfl) rfl (fun h240_2 => ?_) (fun h240_2 => ?_)
                  rotate_left
                  · exact absurd h240_2 (hm.2.2.2.2.1 t (by omega)).2
                  refine zi_lload K (dL_kept_p2 33 rfl) 12 rfl ?_
                  refine zi_aload_n K (dL_kept_p2 34 rfl) 1 rfl ?_
                  refine zi_iload K (dL_kept_p2 35 rfl) 14 rfl ?_
                  refine zk_callSW K (τ := τ) (s := 1) (s' := 1) (B := B0 + (3 * t + 1 + 1 + 1)) (C := C0 + 6 * (3 * t + 1 + 1 + 1)) (As := [.ref a, .int (nI t)]) (na := 2) [.long (kO τ t)] [.long (sL τ 5 t 0), .long (kO τ t)] (k_owed t (by show _ < sN τ 2; omega)) (dL_kept_p2 36 rfl) w_1263 w_1264 w_24 w_1265 (by decide +kernel) rfl ⟨Nat.le_of_ble_eq_true rfl, Nat.le_of_ble_eq_true rfl⟩ ⟨show B0 + (3 * t + 1 + 1 + 1) + 0 ≤ B0 + 24 from by omega, show C0 + 6 * (3 * t + 1 + 1 + 1) + 6 * 0 ≤ C0 + 6 * 24 from by omega⟩ (Nat.le_of_ble_eq_true rfl) rfl rfl ?_ k n
                  show zVf G X 28 (zT G a τ 1 (B0 + (3 * t + 1 + 1 + 1)) (C0 + 6 * (3 * t + 1 + 1 + 1))) 254 [(26, .int 0), (0, .ref a), (1, .int (nI L)), (2, .int (nI T)), (3, .long cmt), (5, .long (kL τ L)), (7, .long (kA τ T L)), (9, .long 0), (11, .long (kP τ t)), (13, .long 0), (15, .long 0), (17, .long 0), (19, .long (kO τ t)), (21, .long (kS τ L t)), (23, .int (nI t)), (24, .long (kU τ t L))] [.long (sL τ 5 t 0), .long (kO τ t)]
                  intro k n
                  refine zi_ladd K (dL_kept_p2 37 rfl) ?_
                  refine zi_lstore K [(19, .long ((kO τ t) + (sL τ 5 t 0))), (26, .int 0), (0, .ref a), (1, .int (nI L)), (2, .int (nI T)), (3, .long cmt), (5, .long (kL τ L)), (7, .long (kA τ T L)), (9, .long 0), (11, .long (kP τ t)), (13, .long 0), (15, .long 0), (17, .long 0), (21, .long (kS τ L t)), (23, .int (nI t)), (24, .long (kU τ t L))] (dL_kept_p2 38 rfl) (by decide) rfl ?_
                  refine zi_lload K (dL_kept_p2 39 rfl) 13 rfl ?_
                  refine zi_lload K (dL_kept_p2 40 rfl) 15 rfl ?_
                  refine zi_ladd K (dL_kept_p2 41 rfl) ?_
                  refine zi_lstore K [(21, .long ((kS τ L t) + (kU τ t L))), (19, .long ((kO τ t) + (sL τ 5 t 0))), (26, .int 0), (0, .ref a), (1, .int (nI L)), (2, .int (nI T)), (3, .long cmt), (5, .long (kL τ L)), (7, .long (kA τ T L)), (9, .long 0), (11, .long (kP τ t)), (13, .long 0), (15, .long 0), (17, .long 0), (23, .int (nI t)), (24, .long (kU τ t L))] (dL_kept_p2 42 rfl) (by decide) rfl ?_
                  refine zi_iconst K (dL_kept_p2 43 rfl) zk_i0 ?_
                  refine zi_istore K [(27, .int 0), (21, .long ((kS τ L t) + (kU τ t L))), (19, .long ((kO τ t) + (sL τ 5 t 0))), (26, .int 0), (0, .ref a), (1, .int (nI L)), (2, .int (nI T)), (3, .long cmt), (5, .long (kL τ L)), (7, .long (kA τ T L)), (9, .long 0), (11, .long (kP τ t)), (13, .long 0), (15, .long 0), (17, .long 0), (23, .int (nI t)), (24, .long (kU τ t L))] (dL_kept_p2 44 rfl) (by decide) rfl ?_
                  refine zV.pick [4, 5, 6, 7, 8, 9, 10, 11, 12, 13, 14, 2, 1, 15, 0] (lo' := [(0, .ref a), (1, .int (nI L)), (2, .int (nI T)), (3, .long cmt), (5, .long (kL τ L)), (7, .long (kA τ T L)), (9, .long 0), (11, .long (kP τ t)), (13, .long 0), (15, .long 0), (17, .long 0), (19, .long ((kO τ t) + (sL τ 5 t 0))), (21, .long ((kS τ L t) + (kU τ t L))), (23, .int (nI t)), (27, .int 0)]) rfl ?_
                  suffices hloop267 : ∀ (r9 j : Nat), j ≤ 5 → 5 - j < r9 → zVf G X 28 (zT G a τ 0 (B0 + (3 * t + 3)) (C0 + 6 * (3 * t + 3))) 267 [(0, .ref a), (1, .int (nI L)), (2, .int (nI T)), (3, .long cmt), (5, .long (kL τ L)), (7, .long (kA τ T L)), (9, .long 0), (11, .long (kPr τ t (kP τ t) j)), (13, .long 0), (15, .long 0), (17, .long 0), (19, .long (kO τ t + sL τ 5 t 0)), (21, .long (kS τ L t + kU τ t L)), (23, .int (nI t)), (27, .int (nI j))] [] from zVf.wk (G := G) (a := a) (τ := τ) (s := 0) (s' := 1) (fun _ => by omega) ⟨by omega, by omega⟩ (hloop267 (5 + 1) 0 (Nat.zero_le _) (Nat.lt_succ_of_le (Nat.sub_le _ _))) k n
                  intro r9
                  induction r9 with
                  | zero => intro j _ h; exact absurd h (Nat.not_lt_zero _)
                  | succ r9 ih267 =>
                    intro j hi267 hr267 k n
                    refine zi_iload K (dL_kept_p2 45 rfl) 14 rfl ?_
                    refine zi_iconst K (dL_kept_p2 46 rfl) zk_i5 ?_
                    refine zi_icmp_ge K 292 (dL_kept_p2 47 rfl) rfl (fun h270_2 => ?_) (fun h270_2 => ?_)
                    · skip
                      have hN267 := zloop_exit (by decide) (Nat.le_of_ble_eq_true rfl) hi267 h270_2
                      subst hN267
                      refine zi_iinc K (v := nI (t + 1)) [(23, .int (nI (t + 1))), (0, .ref a), (1, .int (nI L)), (2, .int (nI T)), (3, .long cmt), (5, .long (kL τ L)), (7, .long (kA τ T L)), (9, .long 0), (11, .long (kPr τ t (kP τ t) 5)), (13, .long 0), (15, .long 0), (17, .long 0), (19, .long (kO τ t + sL τ 5 t 0)), (21, .long (kS τ L t + kU τ t L)), (27, .int (nI 5))] (dL_kept_p3 7 rfl) 13 rfl (zk_inc _) (by decide) rfl ?_
                      refine zi_goto K 119 (dL_kept_p3 8 rfl) rfl ?_
                      refine zV.pick [1, 2, 3, 4, 5, 6, 7, 8, 9, 10, 11, 12, 13, 0] (lo' := [(0, .ref a), (1, .int (nI L)), (2, .int (nI T)), (3, .long cmt), (5, .long (kL τ L)), (7, .long (kA τ T L)), (9, .long 0), (11, .long (kPr τ t (kP τ t) 5)), (13, .long 0), (15, .long 0), (17, .long 0), (19, .long (kO τ t + sL τ 5 t 0)), (21, .long (kS τ L t + kU τ t L)), (23, .int (nI (t + 1)))]) rfl ?_
                      exact zVf.wk (G := G) (a := a) (τ := τ) (s := 0) (s' := 0) (fun _ => by omega) ⟨by omega, by omega⟩ (ih119 (t + 1) (by omega) (by omega)) k n
                    · skip
                      have hlt267 := zloop_in (by decide) (Nat.le_of_ble_eq_true rfl) hi267 h270_2
                      refine zi_lload K (dL_kept_p2 48 rfl) 7 rfl ?_
                      refine zi_aload_n K (dL_kept_p2 49 rfl) 0 rfl ?_
                      refine zi_iload K (dL_kept_p3 0 rfl) 13 rfl ?_
                      refine zi_iload K (dL_kept_p3 1 rfl) 14 rfl ?_
                      refine zk_callSW K (τ := τ) (s := 0) (s' := 1) (B := B0 + (3 * t + 3)) (C := C0 + 6 * (3 * t + 3)) (As := [.ref a, .int (nI t), .int (nI j)]) (na := 3) [.long (kPr τ t (kP τ t) j)] [.long (zpd τ t j), .long (kPr τ t (kP τ t) j)] (k_paid t j (by show _ < sN τ 2; omega) (by omega)) (dL_kept_p3 2 rfl) w_1424 w_1425 w_24 w_1426 (by decide +kernel) rfl ⟨Nat.le_of_ble_eq_true rfl, Nat.le_of_ble_eq_true rfl⟩ ⟨show B0 + (3 * t + 3) + 0 ≤ B0 + 24 from by omega, show C0 + 6 * (3 * t + 3) + 6 * 0 ≤ C0 + 6 * 24 from by omega⟩ (Nat.le_of_ble_eq_true rfl) rfl rfl ?_ k n
                      show zVf G X 28 (zT G a τ 1 (B0 + (3 * t + 3)) (C0 + 6 * (3 * t + 3))) 283 [(0, .ref a), (1, .int (nI L)), (2, .int (nI T)), (3, .long cmt), (5, .long (kL τ L)), (7, .long (kA τ T L)), (9, .long 0), (11, .long (kPr τ t (kP τ t) j)), (13, .long 0), (15, .long 0), (17, .long 0), (19, .long (kO τ t + sL τ 5 t 0)), (21, .long (kS τ L t + kU τ t L)), (23, .int (nI t)), (27, .int (nI j))] [.long (zpd τ t j), .long (kPr τ t (kP τ t) j)]
                      intro k n
                      refine zi_ladd K (dL_kept_p3 3 rfl) ?_
                      refine zi_lstore K [(11, .long ((kPr τ t (kP τ t) j) + (zpd τ t j))), (0, .ref a), (1, .int (nI L)), (2, .int (nI T)), (3, .long cmt), (5, .long (kL τ L)), (7, .long (kA τ T L)), (9, .long 0), (13, .long 0), (15, .long 0), (17, .long 0), (19, .long (kO τ t + sL τ 5 t 0)), (21, .long (kS τ L t + kU τ t L)), (23, .int (nI t)), (27, .int (nI j))] (dL_kept_p3 4 rfl) (by decide) rfl ?_
                      refine zi_iinc K (v := nI (j + 1)) [(27, .int (nI (j + 1))), (11, .long ((kPr τ t (kP τ t) j) + (zpd τ t j))), (0, .ref a), (1, .int (nI L)), (2, .int (nI T)), (3, .long cmt), (5, .long (kL τ L)), (7, .long (kA τ T L)), (9, .long 0), (13, .long 0), (15, .long 0), (17, .long 0), (19, .long (kO τ t + sL τ 5 t 0)), (21, .long (kS τ L t + kU τ t L)), (23, .int (nI t))] (dL_kept_p3 5 rfl) 14 rfl (zk_inc _) (by decide) rfl ?_
                      refine zi_goto K 267 (dL_kept_p3 6 rfl) rfl ?_
                      refine zV.pick [2, 3, 4, 5, 6, 7, 8, 1, 9, 10, 11, 12, 13, 14, 0] (lo' := [(0, .ref a), (1, .int (nI L)), (2, .int (nI T)), (3, .long cmt), (5, .long (kL τ L)), (7, .long (kA τ T L)), (9, .long 0), (11, .long ((kPr τ t (kP τ t) j) + (zpd τ t j))), (13, .long 0), (15, .long 0), (17, .long 0), (19, .long (kO τ t + sL τ 5 t 0)), (21, .long (kS τ L t + kU τ t L)), (23, .int (nI t)), (27, .int (nI (j + 1)))]) rfl ?_
                      exact zVf.wk (G := G) (a := a) (τ := τ) (s := 0) (s' := 1) (fun _ => by omega) ⟨by omega, by omega⟩ (ih267 (j + 1) (by omega) (by omega)) k n
              · skip
                refine zi_iconst K (dL_kept_p1 43 rfl) zk_i1 ?_
                refine zi_goto K 174 (dL_kept_p1 44 rfl) rfl ?_
                refine zi_istore K [(26, .int 1), (0, .ref a), (1, .int (nI L)), (2, .int (nI T)), (3, .long cmt), (5, .long (kL τ L)), (7, .long (kA τ T L)), (9, .long 0), (11, .long (kP τ t)), (13, .long 0), (15, .long 0), (17, .long 0), (19, .long (kO τ t)), (21, .long (kS τ L t)), (23, .int (nI t)), (24, .long (kU τ t L))] (dL_kept_p1 46 rfl) (by decide) rfl ?_
                refine zi_aload_n K (dL_kept_p1 47 rfl) 1 rfl ?_
                refine zi_iload K (dL_kept_p1 48 rfl) 14 rfl ?_
                refine zk_callSW K (τ := τ) (s := 0) (s' := 0) (B := B0 + (3 * t + 1)) (C := C0 + 6 * (3 * t + 1)) (As := [.ref a, .int (nI t)]) (na := 2) [] [.long (zlm τ t)] (k_limit t (by show _ < sN τ 2; omega)) (dL_kept_p1 49 rfl) w_1407 w_1408 w_24 w_1409 (by decide +kernel) rfl ⟨Nat.le_of_ble_eq_true rfl, Nat.le_of_ble_eq_true rfl⟩ ⟨show B0 + (3 * t + 1) + 1 ≤ B0 + 24 from by omega, show C0 + 6 * (3 * t + 1) + 6 * 1 ≤ C0 + 6 * 24 from by omega⟩ (Nat.le_of_ble_eq_true rfl) rfl rfl ?_ k n
                refine zVf.wk (G := G) (a := a) (τ := τ) (s := 0) (s' := 0) (B := B0 + (3 * t + 1 + 1)) (C := C0 + 6 * (3 * t + 1 + 1)) (fun h => h) ⟨by omega, by omega⟩ ?_
                intro k n
                refine zi_ldc2 K (dL_kept_p2 0 rfl) w_1248 ?_
                refine zi_lif_eq K 221 (dL_kept_p2 1 rfl) (dL_kept_p2 2 rfl) rfl (fun h185_1 => ?_) (fun h185_1 => ?_)
                · skip
                  refine zi_aload_n K (dL_kept_p2 19 rfl) 1 rfl ?_
                  refine zi_iload K (dL_kept_p2 20 rfl) 14 rfl ?_
                  refine zk_callSW K (τ := τ) (s := 0) (s' := 1) (B := B0 + (3 * t + 1 + 1)) (C := C0 + 6 * (3 * t + 1 + 1)) (As := [.ref a, .int (nI t)]) (na := 2) [] [.long (sL τ 3 t 0)] (k_taken t (by show _ < sN τ 2; omega)) (dL_kept_p2 21 rfl) w_1256 w_1257 w_24 w_1258 (by decide +kernel) rfl ⟨Nat.le_of_ble_eq_true rfl, Nat.le_of_ble_eq_true rfl⟩ ⟨show B0 + (3 * t + 1 + 1) + 0 ≤ B0 + 24 from by omega, show C0 + 6 * (3 * t + 1 + 1) + 6 * 0 ≤ C0 + 6 * 24 from by omega⟩ (Nat.le_of_ble_eq_true rfl) rfl rfl ?_ k n
                  show zVf G X 28 (zT G a τ 1 (B0 + (3 * t + 1 + 1)) (C0 + 6 * (3 * t + 1 + 1))) 227 [(26, .int 1), (0, .ref a), (1, .int (nI L)), (2, .int (nI T)), (3, .long cmt), (5, .long (kL τ L)), (7, .long (kA τ T L)), (9, .long 0), (11, .long (kP τ t)), (13, .long 0), (15, .long 0), (17, .long 0), (19, .long (kO τ t)), (21, .long (kS τ L t)), (23, .int (nI t)), (24, .long (kU τ t L))] [.long (sL τ 3 t 0)]
                  intro k n
                  refine zi_lload K (dL_kept_p2 22 rfl) 15 rfl ?_
                  refine zi_lif_lt K 244 (dL_kept_p2 23 rfl) (dL_kept_p2 24 rfl) rfl (fun h229_2 => ?_) (fun h229_2 => ?_)
                  · exact absurd h229_2 (hm.2.2.2.2.1 t (by omega)).1
                  refine zi_aload_n K (dL_kept_p2 25 rfl) 1 rfl ?_
                  refine zi_iload K (dL_kept_p2 26 rfl) 14 rfl ?_
                  refine zk_callSW K (τ := τ) (s := 1) (s' := 1) (B := B0 + (3 * t + 1 + 1)) (C := C0 + 6 * (3 * t + 1 + 1)) (As := [.ref a, .int (nI t)]) (na := 2) [] [.long (sL τ 5 t 0)] (k_owed t (by show _ < sN τ 2; omega)) (dL_kept_p2 27 rfl) w_1263 w_1264 w_24 w_1265 (by decide +kernel) rfl ⟨Nat.le_of_ble_eq_true rfl, Nat.le_of_ble_eq_true rfl⟩ ⟨show B0 + (3 * t + 1 + 1) + 0 ≤ B0 + 24 from by omega, show C0 + 6 * (3 * t + 1 + 1) + 6 * 0 ≤ C0 + 6 * 24 from by omega⟩ (Nat.le_of_ble_eq_true rfl) rfl rfl ?_ k n
                  show zVf G X 28 (zT G a τ 1 (B0 + (3 * t + 1 + 1)) (C0 + 6 * (3 * t + 1 + 1))) 239 [(26, .int 1), (0, .ref a), (1, .int (nI L)), (2, .int (nI T)), (3, .long cmt), (5, .long (kL τ L)), (7, .long (kA τ T L)), (9, .long 0), (11, .long (kP τ t)), (13, .long 0), (15, .long 0), (17, .long 0), (19, .long (kO τ t)), (21, .long (kS τ L t)), (23, .int (nI t)), (24, .long (kU τ t L))] [.long (sL τ 5 t 0)]
                  intro k n
                  refine zi_lconst K (dL_kept_p2 28 rfl) zk_l0 ?_
                  refine zi_lif_ge K 246 (dL_kept_p2 29 rfl) (dL_kept_p2 30 rfl) rfl (fun h240_2 => ?_) (fun h240_2 => ?_)
                  rotate_left
                  · exact absurd h240_2 (hm.2.2.2.2.1 t (by omega)).2
                  refine zi_lload K (dL_kept_p2 33 rfl) 12 rfl ?_
                  refine zi_aload_n K (dL_kept_p2 34 rfl) 1 rfl ?_
                  refine zi_iload K (dL_kept_p2 35 rfl) 14 rfl ?_
                  refine zk_callSW K (τ := τ) (s := 1) (s' := 1) (B := B0 + (3 * t + 1 + 1)) (C := C0 + 6 * (3 * t + 1 + 1)) (As := [.ref a, .int (nI t)]) (na := 2) [.long (kO τ t)] [.long (sL τ 5 t 0), .long (kO τ t)] (k_owed t (by show _ < sN τ 2; omega)) (dL_kept_p2 36 rfl) w_1263 w_1264 w_24 w_1265 (by decide +kernel) rfl ⟨Nat.le_of_ble_eq_true rfl, Nat.le_of_ble_eq_true rfl⟩ ⟨show B0 + (3 * t + 1 + 1) + 0 ≤ B0 + 24 from by omega, show C0 + 6 * (3 * t + 1 + 1) + 6 * 0 ≤ C0 + 6 * 24 from by omega⟩ (Nat.le_of_ble_eq_true rfl) rfl rfl ?_ k n
                  show zVf G X 28 (zT G a τ 1 (B0 + (3 * t + 1 + 1)) (C0 + 6 * (3 * t + 1 + 1))) 254 [(26, .int 1), (0, .ref a), (1, .int (nI L)), (2, .int (nI T)), (3, .long cmt), (5, .long (kL τ L)), (7, .long (kA τ T L)), (9, .long 0), (11, .long (kP τ t)), (13, .long 0), (15, .long 0), (17, .long 0), (19, .long (kO τ t)), (21, .long (kS τ L t)), (23, .int (nI t)), (24, .long (kU τ t L))] [.long (sL τ 5 t 0), .long (kO τ t)]
                  intro k n
                  refine zi_ladd K (dL_kept_p2 37 rfl) ?_
                  refine zi_lstore K [(19, .long ((kO τ t) + (sL τ 5 t 0))), (26, .int 1), (0, .ref a), (1, .int (nI L)), (2, .int (nI T)), (3, .long cmt), (5, .long (kL τ L)), (7, .long (kA τ T L)), (9, .long 0), (11, .long (kP τ t)), (13, .long 0), (15, .long 0), (17, .long 0), (21, .long (kS τ L t)), (23, .int (nI t)), (24, .long (kU τ t L))] (dL_kept_p2 38 rfl) (by decide) rfl ?_
                  refine zi_lload K (dL_kept_p2 39 rfl) 13 rfl ?_
                  refine zi_lload K (dL_kept_p2 40 rfl) 15 rfl ?_
                  refine zi_ladd K (dL_kept_p2 41 rfl) ?_
                  refine zi_lstore K [(21, .long ((kS τ L t) + (kU τ t L))), (19, .long ((kO τ t) + (sL τ 5 t 0))), (26, .int 1), (0, .ref a), (1, .int (nI L)), (2, .int (nI T)), (3, .long cmt), (5, .long (kL τ L)), (7, .long (kA τ T L)), (9, .long 0), (11, .long (kP τ t)), (13, .long 0), (15, .long 0), (17, .long 0), (23, .int (nI t)), (24, .long (kU τ t L))] (dL_kept_p2 42 rfl) (by decide) rfl ?_
                  refine zi_iconst K (dL_kept_p2 43 rfl) zk_i0 ?_
                  refine zi_istore K [(27, .int 0), (21, .long ((kS τ L t) + (kU τ t L))), (19, .long ((kO τ t) + (sL τ 5 t 0))), (26, .int 1), (0, .ref a), (1, .int (nI L)), (2, .int (nI T)), (3, .long cmt), (5, .long (kL τ L)), (7, .long (kA τ T L)), (9, .long 0), (11, .long (kP τ t)), (13, .long 0), (15, .long 0), (17, .long 0), (23, .int (nI t)), (24, .long (kU τ t L))] (dL_kept_p2 44 rfl) (by decide) rfl ?_
                  refine zV.pick [4, 5, 6, 7, 8, 9, 10, 11, 12, 13, 14, 2, 1, 15, 0] (lo' := [(0, .ref a), (1, .int (nI L)), (2, .int (nI T)), (3, .long cmt), (5, .long (kL τ L)), (7, .long (kA τ T L)), (9, .long 0), (11, .long (kP τ t)), (13, .long 0), (15, .long 0), (17, .long 0), (19, .long ((kO τ t) + (sL τ 5 t 0))), (21, .long ((kS τ L t) + (kU τ t L))), (23, .int (nI t)), (27, .int 0)]) rfl ?_
                  suffices hloop267 : ∀ (r9 j : Nat), j ≤ 5 → 5 - j < r9 → zVf G X 28 (zT G a τ 0 (B0 + (3 * t + 3)) (C0 + 6 * (3 * t + 3))) 267 [(0, .ref a), (1, .int (nI L)), (2, .int (nI T)), (3, .long cmt), (5, .long (kL τ L)), (7, .long (kA τ T L)), (9, .long 0), (11, .long (kPr τ t (kP τ t) j)), (13, .long 0), (15, .long 0), (17, .long 0), (19, .long (kO τ t + sL τ 5 t 0)), (21, .long (kS τ L t + kU τ t L)), (23, .int (nI t)), (27, .int (nI j))] [] from zVf.wk (G := G) (a := a) (τ := τ) (s := 0) (s' := 1) (fun _ => by omega) ⟨by omega, by omega⟩ (hloop267 (5 + 1) 0 (Nat.zero_le _) (Nat.lt_succ_of_le (Nat.sub_le _ _))) k n
                  intro r9
                  induction r9 with
                  | zero => intro j _ h; exact absurd h (Nat.not_lt_zero _)
                  | succ r9 ih267 =>
                    intro j hi267 hr267 k n
                    refine zi_iload K (dL_kept_p2 45 rfl) 14 rfl ?_
                    refine zi_iconst K (dL_kept_p2 46 rfl) zk_i5 ?_
                    refine zi_icmp_ge K 292 (dL_kept_p2 47 rfl) rfl (fun h270_2 => ?_) (fun h270_2 => ?_)
                    · skip
                      have hN267 := zloop_exit (by decide) (Nat.le_of_ble_eq_true rfl) hi267 h270_2
                      subst hN267
                      refine zi_iinc K (v := nI (t + 1)) [(23, .int (nI (t + 1))), (0, .ref a), (1, .int (nI L)), (2, .int (nI T)), (3, .long cmt), (5, .long (kL τ L)), (7, .long (kA τ T L)), (9, .long 0), (11, .long (kPr τ t (kP τ t) 5)), (13, .long 0), (15, .long 0), (17, .long 0), (19, .long (kO τ t + sL τ 5 t 0)), (21, .long (kS τ L t + kU τ t L)), (27, .int (nI 5))] (dL_kept_p3 7 rfl) 13 rfl (zk_inc _) (by decide) rfl ?_
                      refine zi_goto K 119 (dL_kept_p3 8 rfl) rfl ?_
                      refine zV.pick [1, 2, 3, 4, 5, 6, 7, 8, 9, 10, 11, 12, 13, 0] (lo' := [(0, .ref a), (1, .int (nI L)), (2, .int (nI T)), (3, .long cmt), (5, .long (kL τ L)), (7, .long (kA τ T L)), (9, .long 0), (11, .long (kPr τ t (kP τ t) 5)), (13, .long 0), (15, .long 0), (17, .long 0), (19, .long (kO τ t + sL τ 5 t 0)), (21, .long (kS τ L t + kU τ t L)), (23, .int (nI (t + 1)))]) rfl ?_
                      exact zVf.wk (G := G) (a := a) (τ := τ) (s := 0) (s' := 0) (fun _ => by omega) ⟨by omega, by omega⟩ (ih119 (t + 1) (by omega) (by omega)) k n
                    · skip
                      have hlt267 := zloop_in (by decide) (Nat.le_of_ble_eq_true rfl) hi267 h270_2
                      refine zi_lload K (dL_kept_p2 48 rfl) 7 rfl ?_
                      refine zi_aload_n K (dL_kept_p2 49 rfl) 0 rfl ?_
                      refine zi_iload K (dL_kept_p3 0 rfl) 13 rfl ?_
                      refine zi_iload K (dL_kept_p3 1 rfl) 14 rfl ?_
                      refine zk_callSW K (τ := τ) (s := 0) (s' := 1) (B := B0 + (3 * t + 3)) (C := C0 + 6 * (3 * t + 3)) (As := [.ref a, .int (nI t), .int (nI j)]) (na := 3) [.long (kPr τ t (kP τ t) j)] [.long (zpd τ t j), .long (kPr τ t (kP τ t) j)] (k_paid t j (by show _ < sN τ 2; omega) (by omega)) (dL_kept_p3 2 rfl) w_1424 w_1425 w_24 w_1426 (by decide +kernel) rfl ⟨Nat.le_of_ble_eq_true rfl, Nat.le_of_ble_eq_true rfl⟩ ⟨show B0 + (3 * t + 3) + 0 ≤ B0 + 24 from by omega, show C0 + 6 * (3 * t + 3) + 6 * 0 ≤ C0 + 6 * 24 from by omega⟩ (Nat.le_of_ble_eq_true rfl) rfl rfl ?_ k n
                      show zVf G X 28 (zT G a τ 1 (B0 + (3 * t + 3)) (C0 + 6 * (3 * t + 3))) 283 [(0, .ref a), (1, .int (nI L)), (2, .int (nI T)), (3, .long cmt), (5, .long (kL τ L)), (7, .long (kA τ T L)), (9, .long 0), (11, .long (kPr τ t (kP τ t) j)), (13, .long 0), (15, .long 0), (17, .long 0), (19, .long (kO τ t + sL τ 5 t 0)), (21, .long (kS τ L t + kU τ t L)), (23, .int (nI t)), (27, .int (nI j))] [.long (zpd τ t j), .long (kPr τ t (kP τ t) j)]
                      intro k n
                      refine zi_ladd K (dL_kept_p3 3 rfl) ?_
                      refine zi_lstore K [(11, .long ((kPr τ t (kP τ t) j) + (zpd τ t j))), (0, .ref a), (1, .int (nI L)), (2, .int (nI T)), (3, .long cmt), (5, .long (kL τ L)), (7, .long (kA τ T L)), (9, .long 0), (13, .long 0), (15, .long 0), (17, .long 0), (19, .long (kO τ t + sL τ 5 t 0)), (21, .long (kS τ L t + kU τ t L)), (23, .int (nI t)), (27, .int (nI j))] (dL_kept_p3 4 rfl) (by decide) rfl ?_
                      refine zi_iinc K (v := nI (j + 1)) [(27, .int (nI (j + 1))), (11, .long ((kPr τ t (kP τ t) j) + (zpd τ t j))), (0, .ref a), (1, .int (nI L)), (2, .int (nI T)), (3, .long cmt), (5, .long (kL τ L)), (7, .long (kA τ T L)), (9, .long 0), (13, .long 0), (15, .long 0), (17, .long 0), (19, .long (kO τ t + sL τ 5 t 0)), (21, .long (kS τ L t + kU τ t L)), (23, .int (nI t))] (dL_kept_p3 5 rfl) 14 rfl (zk_inc _) (by decide) rfl ?_
                      refine zi_goto K 267 (dL_kept_p3 6 rfl) rfl ?_
                      refine zV.pick [2, 3, 4, 5, 6, 7, 8, 1, 9, 10, 11, 12, 13, 14, 0] (lo' := [(0, .ref a), (1, .int (nI L)), (2, .int (nI T)), (3, .long cmt), (5, .long (kL τ L)), (7, .long (kA τ T L)), (9, .long 0), (11, .long ((kPr τ t (kP τ t) j) + (zpd τ t j))), (13, .long 0), (15, .long 0), (17, .long 0), (19, .long (kO τ t + sL τ 5 t 0)), (21, .long (kS τ L t + kU τ t L)), (23, .int (nI t)), (27, .int (nI (j + 1)))]) rfl ?_
                      exact zVf.wk (G := G) (a := a) (τ := τ) (s := 0) (s' := 1) (fun _ => by omega) ⟨by omega, by omega⟩ (ih267 (j + 1) (by omega) (by omega)) k n
                · skip
                  refine zi_iload K (dL_kept_p2 3 rfl) 0 rfl ?_
                  refine zi_if_ne K 221 (dL_kept_p2 4 rfl) rfl (fun h191_2 => ?_) (fun h191_2 => ?_)
                  rotate_left
                  · exact absurd h191_2 (by decide)
                  refine zi_aload_n K (dL_kept_p2 19 rfl) 1 rfl ?_
                  refine zi_iload K (dL_kept_p2 20 rfl) 14 rfl ?_
                  refine zk_callSW K (τ := τ) (s := 0) (s' := 1) (B := B0 + (3 * t + 1 + 1)) (C := C0 + 6 * (3 * t + 1 + 1)) (As := [.ref a, .int (nI t)]) (na := 2) [] [.long (sL τ 3 t 0)] (k_taken t (by show _ < sN τ 2; omega)) (dL_kept_p2 21 rfl) w_1256 w_1257 w_24 w_1258 (by decide +kernel) rfl ⟨Nat.le_of_ble_eq_true rfl, Nat.le_of_ble_eq_true rfl⟩ ⟨show B0 + (3 * t + 1 + 1) + 0 ≤ B0 + 24 from by omega, show C0 + 6 * (3 * t + 1 + 1) + 6 * 0 ≤ C0 + 6 * 24 from by omega⟩ (Nat.le_of_ble_eq_true rfl) rfl rfl ?_ k n
                  show zVf G X 28 (zT G a τ 1 (B0 + (3 * t + 1 + 1)) (C0 + 6 * (3 * t + 1 + 1))) 227 [(26, .int 1), (0, .ref a), (1, .int (nI L)), (2, .int (nI T)), (3, .long cmt), (5, .long (kL τ L)), (7, .long (kA τ T L)), (9, .long 0), (11, .long (kP τ t)), (13, .long 0), (15, .long 0), (17, .long 0), (19, .long (kO τ t)), (21, .long (kS τ L t)), (23, .int (nI t)), (24, .long (kU τ t L))] [.long (sL τ 3 t 0)]
                  intro k n
                  refine zi_lload K (dL_kept_p2 22 rfl) 15 rfl ?_
                  refine zi_lif_lt K 244 (dL_kept_p2 23 rfl) (dL_kept_p2 24 rfl) rfl (fun h229_2 => ?_) (fun h229_2 => ?_)
                  · exact absurd h229_2 (hm.2.2.2.2.1 t (by omega)).1
                  refine zi_aload_n K (dL_kept_p2 25 rfl) 1 rfl ?_
                  refine zi_iload K (dL_kept_p2 26 rfl) 14 rfl ?_
                  refine zk_callSW K (τ := τ) (s := 1) (s' := 1) (B := B0 + (3 * t + 1 + 1)) (C := C0 + 6 * (3 * t + 1 + 1)) (As := [.ref a, .int (nI t)]) (na := 2) [] [.long (sL τ 5 t 0)] (k_owed t (by show _ < sN τ 2; omega)) (dL_kept_p2 27 rfl) w_1263 w_1264 w_24 w_1265 (by decide +kernel) rfl ⟨Nat.le_of_ble_eq_true rfl, Nat.le_of_ble_eq_true rfl⟩ ⟨show B0 + (3 * t + 1 + 1) + 0 ≤ B0 + 24 from by omega, show C0 + 6 * (3 * t + 1 + 1) + 6 * 0 ≤ C0 + 6 * 24 from by omega⟩ (Nat.le_of_ble_eq_true rfl) rfl rfl ?_ k n
                  show zVf G X 28 (zT G a τ 1 (B0 + (3 * t + 1 + 1)) (C0 + 6 * (3 * t + 1 + 1))) 239 [(26, .int 1), (0, .ref a), (1, .int (nI L)), (2, .int (nI T)), (3, .long cmt), (5, .long (kL τ L)), (7, .long (kA τ T L)), (9, .long 0), (11, .long (kP τ t)), (13, .long 0), (15, .long 0), (17, .long 0), (19, .long (kO τ t)), (21, .long (kS τ L t)), (23, .int (nI t)), (24, .long (kU τ t L))] [.long (sL τ 5 t 0)]
                  intro k n
                  refine zi_lconst K (dL_kept_p2 28 rfl) zk_l0 ?_
                  refine zi_lif_ge K 246 (dL_kept_p2 29 rfl) (dL_kept_p2 30 rfl) rfl (fun h240_2 => ?_) (fun h240_2 => ?_)
                  rotate_left
                  · exact absurd h240_2 (hm.2.2.2.2.1 t (by omega)).2
                  refine zi_lload K (dL_kept_p2 33 rfl) 12 rfl ?_
                  refine zi_aload_n K (dL_kept_p2 34 rfl) 1 rfl ?_
                  refine zi_iload K (dL_kept_p2 35 rfl) 14 rfl ?_
                  refine zk_callSW K (τ := τ) (s := 1) (s' := 1) (B := B0 + (3 * t + 1 + 1)) (C := C0 + 6 * (3 * t + 1 + 1)) (As := [.ref a, .int (nI t)]) (na := 2) [.long (kO τ t)] [.long (sL τ 5 t 0), .long (kO τ t)] (k_owed t (by show _ < sN τ 2; omega)) (dL_kept_p2 36 rfl) w_1263 w_1264 w_24 w_1265 (by decide +kernel) rfl ⟨Nat.le_of_ble_eq_true rfl, Nat.le_of_ble_eq_true rfl⟩ ⟨show B0 + (3 * t + 1 + 1) + 0 ≤ B0 + 24 from by omega, show C0 + 6 * (3 * t + 1 + 1) + 6 * 0 ≤ C0 + 6 * 24 from by omega⟩ (Nat.le_of_ble_eq_true rfl) rfl rfl ?_ k n
                  show zVf G X 28 (zT G a τ 1 (B0 + (3 * t + 1 + 1)) (C0 + 6 * (3 * t + 1 + 1))) 254 [(26, .int 1), (0, .ref a), (1, .int (nI L)), (2, .int (nI T)), (3, .long cmt), (5, .long (kL τ L)), (7, .long (kA τ T L)), (9, .long 0), (11, .long (kP τ t)), (13, .long 0), (15, .long 0), (17, .long 0), (19, .long (kO τ t)), (21, .long (kS τ L t)), (23, .int (nI t)), (24, .long (kU τ t L))] [.long (sL τ 5 t 0), .long (kO τ t)]
                  intro k n
                  refine zi_ladd K (dL_kept_p2 37 rfl) ?_
                  refine zi_lstore K [(19, .long ((kO τ t) + (sL τ 5 t 0))), (26, .int 1), (0, .ref a), (1, .int (nI L)), (2, .int (nI T)), (3, .long cmt), (5, .long (kL τ L)), (7, .long (kA τ T L)), (9, .long 0), (11, .long (kP τ t)), (13, .long 0), (15, .long 0), (17, .long 0), (21, .long (kS τ L t)), (23, .int (nI t)), (24, .long (kU τ t L))] (dL_kept_p2 38 rfl) (by decide) rfl ?_
                  refine zi_lload K (dL_kept_p2 39 rfl) 13 rfl ?_
                  refine zi_lload K (dL_kept_p2 40 rfl) 15 rfl ?_
                  refine zi_ladd K (dL_kept_p2 41 rfl) ?_
                  refine zi_lstore K [(21, .long ((kS τ L t) + (kU τ t L))), (19, .long ((kO τ t) + (sL τ 5 t 0))), (26, .int 1), (0, .ref a), (1, .int (nI L)), (2, .int (nI T)), (3, .long cmt), (5, .long (kL τ L)), (7, .long (kA τ T L)), (9, .long 0), (11, .long (kP τ t)), (13, .long 0), (15, .long 0), (17, .long 0), (23, .int (nI t)), (24, .long (kU τ t L))] (dL_kept_p2 42 rfl) (by decide) rfl ?_
                  refine zi_iconst K (dL_kept_p2 43 rfl) zk_i0 ?_
                  refine zi_istore K [(27, .int 0), (21, .long ((kS τ L t) + (kU τ t L))), (19, .long ((kO τ t) + (sL τ 5 t 0))), (26, .int 1), (0, .ref a), (1, .int (nI L)), (2, .int (nI T)), (3, .long cmt), (5, .long (kL τ L)), (7, .long (kA τ T L)), (9, .long 0), (11, .long (kP τ t)), (13, .long 0), (15, .long 0), (17, .long 0), (23, .int (nI t)), (24, .long (kU τ t L))] (dL_kept_p2 44 rfl) (by decide) rfl ?_
                  refine zV.pick [4, 5, 6, 7, 8, 9, 10, 11, 12, 13, 14, 2, 1, 15, 0] (lo' := [(0, .ref a), (1, .int (nI L)), (2, .int (nI T)), (3, .long cmt), (5, .long (kL τ L)), (7, .long (kA τ T L)), (9, .long 0), (11, .long (kP τ t)), (13, .long 0), (15, .long 0), (17, .long 0), (19, .long ((kO τ t) + (sL τ 5 t 0))), (21, .long ((kS τ L t) + (kU τ t L))), (23, .int (nI t)), (27, .int 0)]) rfl ?_
                  suffices hloop267 : ∀ (r9 j : Nat), j ≤ 5 → 5 - j < r9 → zVf G X 28 (zT G a τ 0 (B0 + (3 * t + 3)) (C0 + 6 * (3 * t + 3))) 267 [(0, .ref a), (1, .int (nI L)), (2, .int (nI T)), (3, .long cmt), (5, .long (kL τ L)), (7, .long (kA τ T L)), (9, .long 0), (11, .long (kPr τ t (kP τ t) j)), (13, .long 0), (15, .long 0), (17, .long 0), (19, .long (kO τ t + sL τ 5 t 0)), (21, .long (kS τ L t + kU τ t L)), (23, .int (nI t)), (27, .int (nI j))] [] from zVf.wk (G := G) (a := a) (τ := τ) (s := 0) (s' := 1) (fun _ => by omega) ⟨by omega, by omega⟩ (hloop267 (5 + 1) 0 (Nat.zero_le _) (Nat.lt_succ_of_le (Nat.sub_le _ _))) k n
                  intro r9
                  induction r9 with
                  | zero => intro j _ h; exact absurd h (Nat.not_lt_zero _)
                  | succ r9 ih267 =>
                    intro j hi267 hr267 k n
                    refine zi_iload K (dL_kept_p2 45 rfl) 14 rfl ?_
                    refine zi_iconst K (dL_kept_p2 46 rfl) zk_i5 ?_
                    refine zi_icmp_ge K 292 (dL_kept_p2 47 rfl) rfl (fun h270_2 => ?_) (fun h270_2 => ?_)
                    · skip
                      have hN267 := zloop_exit (by decide) (Nat.le_of_ble_eq_true rfl) hi267 h270_2
                      subst hN267
                      refine zi_iinc K (v := nI (t + 1)) [(23, .int (nI (t + 1))), (0, .ref a), (1, .int (nI L)), (2, .int (nI T)), (3, .long cmt), (5, .long (kL τ L)), (7, .long (kA τ T L)), (9, .long 0), (11, .long (kPr τ t (kP τ t) 5)), (13, .long 0), (15, .long 0), (17, .long 0), (19, .long (kO τ t + sL τ 5 t 0)), (21, .long (kS τ L t + kU τ t L)), (27, .int (nI 5))] (dL_kept_p3 7 rfl) 13 rfl (zk_inc _) (by decide) rfl ?_
                      refine zi_goto K 119 (dL_kept_p3 8 rfl) rfl ?_
                      refine zV.pick [1, 2, 3, 4, 5, 6, 7, 8, 9, 10, 11, 12, 13, 0] (lo' := [(0, .ref a), (1, .int (nI L)), (2, .int (nI T)), (3, .long cmt), (5, .long (kL τ L)), (7, .long (kA τ T L)), (9, .long 0), (11, .long (kPr τ t (kP τ t) 5)), (13, .long 0), (15, .long 0), (17, .long 0), (19, .long (kO τ t + sL τ 5 t 0)), (21, .long (kS τ L t + kU τ t L)), (23, .int (nI (t + 1)))]) rfl ?_
                      exact zVf.wk (G := G) (a := a) (τ := τ) (s := 0) (s' := 0) (fun _ => by omega) ⟨by omega, by omega⟩ (ih119 (t + 1) (by omega) (by omega)) k n
                    · skip
                      have hlt267 := zloop_in (by decide) (Nat.le_of_ble_eq_true rfl) hi267 h270_2
                      refine zi_lload K (dL_kept_p2 48 rfl) 7 rfl ?_
                      refine zi_aload_n K (dL_kept_p2 49 rfl) 0 rfl ?_
                      refine zi_iload K (dL_kept_p3 0 rfl) 13 rfl ?_
                      refine zi_iload K (dL_kept_p3 1 rfl) 14 rfl ?_
                      refine zk_callSW K (τ := τ) (s := 0) (s' := 1) (B := B0 + (3 * t + 3)) (C := C0 + 6 * (3 * t + 3)) (As := [.ref a, .int (nI t), .int (nI j)]) (na := 3) [.long (kPr τ t (kP τ t) j)] [.long (zpd τ t j), .long (kPr τ t (kP τ t) j)] (k_paid t j (by show _ < sN τ 2; omega) (by omega)) (dL_kept_p3 2 rfl) w_1424 w_1425 w_24 w_1426 (by decide +kernel) rfl ⟨Nat.le_of_ble_eq_true rfl, Nat.le_of_ble_eq_true rfl⟩ ⟨show B0 + (3 * t + 3) + 0 ≤ B0 + 24 from by omega, show C0 + 6 * (3 * t + 3) + 6 * 0 ≤ C0 + 6 * 24 from by omega⟩ (Nat.le_of_ble_eq_true rfl) rfl rfl ?_ k n
                      show zVf G X 28 (zT G a τ 1 (B0 + (3 * t + 3)) (C0 + 6 * (3 * t + 3))) 283 [(0, .ref a), (1, .int (nI L)), (2, .int (nI T)), (3, .long cmt), (5, .long (kL τ L)), (7, .long (kA τ T L)), (9, .long 0), (11, .long (kPr τ t (kP τ t) j)), (13, .long 0), (15, .long 0), (17, .long 0), (19, .long (kO τ t + sL τ 5 t 0)), (21, .long (kS τ L t + kU τ t L)), (23, .int (nI t)), (27, .int (nI j))] [.long (zpd τ t j), .long (kPr τ t (kP τ t) j)]
                      intro k n
                      refine zi_ladd K (dL_kept_p3 3 rfl) ?_
                      refine zi_lstore K [(11, .long ((kPr τ t (kP τ t) j) + (zpd τ t j))), (0, .ref a), (1, .int (nI L)), (2, .int (nI T)), (3, .long cmt), (5, .long (kL τ L)), (7, .long (kA τ T L)), (9, .long 0), (13, .long 0), (15, .long 0), (17, .long 0), (19, .long (kO τ t + sL τ 5 t 0)), (21, .long (kS τ L t + kU τ t L)), (23, .int (nI t)), (27, .int (nI j))] (dL_kept_p3 4 rfl) (by decide) rfl ?_
                      refine zi_iinc K (v := nI (j + 1)) [(27, .int (nI (j + 1))), (11, .long ((kPr τ t (kP τ t) j) + (zpd τ t j))), (0, .ref a), (1, .int (nI L)), (2, .int (nI T)), (3, .long cmt), (5, .long (kL τ L)), (7, .long (kA τ T L)), (9, .long 0), (13, .long 0), (15, .long 0), (17, .long 0), (19, .long (kO τ t + sL τ 5 t 0)), (21, .long (kS τ L t + kU τ t L)), (23, .int (nI t))] (dL_kept_p3 5 rfl) 14 rfl (zk_inc _) (by decide) rfl ?_
                      refine zi_goto K 267 (dL_kept_p3 6 rfl) rfl ?_
                      refine zV.pick [2, 3, 4, 5, 6, 7, 8, 1, 9, 10, 11, 12, 13, 14, 0] (lo' := [(0, .ref a), (1, .int (nI L)), (2, .int (nI T)), (3, .long cmt), (5, .long (kL τ L)), (7, .long (kA τ T L)), (9, .long 0), (11, .long ((kPr τ t (kP τ t) j) + (zpd τ t j))), (13, .long 0), (15, .long 0), (17, .long 0), (19, .long (kO τ t + sL τ 5 t 0)), (21, .long (kS τ L t + kU τ t L)), (23, .int (nI t)), (27, .int (nI (j + 1)))]) rfl ?_
                      exact zVf.wk (G := G) (a := a) (τ := τ) (s := 0) (s' := 1) (fun _ => by omega) ⟨by omega, by omega⟩ (ih267 (j + 1) (by omega) (by omega)) k n
            · skip
              have hlt131 := zloop_in rfl (by omega) hi131 h134_0
              refine zi_lload K (dL_kept_p1 28 rfl) 14 rfl ?_
              refine zi_aload_n K (dL_kept_p1 29 rfl) 0 rfl ?_
              refine zi_iload K (dL_kept_p1 30 rfl) 13 rfl ?_
              refine zi_iload K (dL_kept_p1 31 rfl) 15 rfl ?_
              refine zk_callSW K (τ := τ) (s := 0) (s' := 1) (B := B0 + (3 * t)) (C := C0 + 6 * (3 * t)) (As := [.ref a, .int (nI t), .int (nI j)]) (na := 3) [.long (kU τ t j)] [.long (sL τ 1 j t), .long (kU τ t j)] (k_takenFrom t j (by show _ < sN τ 2; omega) (by show _ < sN τ 1; omega)) (dL_kept_p1 32 rfl) w_1400 w_1401 w_24 w_1402 (by decide +kernel) rfl ⟨Nat.le_of_ble_eq_true rfl, Nat.le_of_ble_eq_true rfl⟩ ⟨show B0 + (3 * t) + 0 ≤ B0 + 24 from by omega, show C0 + 6 * (3 * t) + 6 * 0 ≤ C0 + 6 * 24 from by omega⟩ (Nat.le_of_ble_eq_true rfl) rfl rfl ?_ k n
              show zVf G X 28 (zT G a τ 1 (B0 + (3 * t)) (C0 + 6 * (3 * t))) 147 [(0, .ref a), (1, .int (nI L)), (2, .int (nI T)), (3, .long cmt), (5, .long (kL τ L)), (7, .long (kA τ T L)), (9, .long 0), (11, .long (kP τ t)), (13, .long 0), (15, .long 0), (17, .long 0), (19, .long (kO τ t)), (21, .long (kS τ L t)), (23, .int (nI t)), (24, .long (kU τ t j)), (26, .int (nI j))] [.long (sL τ 1 j t), .long (kU τ t j)]
              intro k n
              refine zi_ladd K (dL_kept_p1 33 rfl) ?_
              refine zi_lstore K [(24, .long ((kU τ t j) + (sL τ 1 j t))), (0, .ref a), (1, .int (nI L)), (2, .int (nI T)), (3, .long cmt), (5, .long (kL τ L)), (7, .long (kA τ T L)), (9, .long 0), (11, .long (kP τ t)), (13, .long 0), (15, .long 0), (17, .long 0), (19, .long (kO τ t)), (21, .long (kS τ L t)), (23, .int (nI t)), (26, .int (nI j))] (dL_kept_p1 34 rfl) (by decide) rfl ?_
              refine zi_iinc K (v := nI (j + 1)) [(26, .int (nI (j + 1))), (24, .long ((kU τ t j) + (sL τ 1 j t))), (0, .ref a), (1, .int (nI L)), (2, .int (nI T)), (3, .long cmt), (5, .long (kL τ L)), (7, .long (kA τ T L)), (9, .long 0), (11, .long (kP τ t)), (13, .long 0), (15, .long 0), (17, .long 0), (19, .long (kO τ t)), (21, .long (kS τ L t)), (23, .int (nI t))] (dL_kept_p1 35 rfl) 15 rfl (zk_inc _) (by decide) rfl ?_
              refine zi_goto K 131 (dL_kept_p1 36 rfl) rfl ?_
              refine zV.pick [2, 3, 4, 5, 6, 7, 8, 9, 10, 11, 12, 13, 14, 15, 1, 0] (lo' := [(0, .ref a), (1, .int (nI L)), (2, .int (nI T)), (3, .long cmt), (5, .long (kL τ L)), (7, .long (kA τ T L)), (9, .long 0), (11, .long (kP τ t)), (13, .long 0), (15, .long 0), (17, .long 0), (19, .long (kO τ t)), (21, .long (kS τ L t)), (23, .int (nI t)), (24, .long ((kU τ t j) + (sL τ 1 j t))), (26, .int (nI (j + 1)))]) rfl ?_
              exact zVf.wk (G := G) (a := a) (τ := τ) (s := 0) (s' := 1) (fun _ => by omega) ⟨by omega, by omega⟩ (ih131 (j + 1) (by omega) (by omega)) k n
    · skip
      have hlt24 := zloop_in rfl (by omega) hi24 h27_0
      refine zi_aload_n K (dL_kept_p0 19 rfl) 0 rfl ?_
      refine zi_iload K (dL_kept_p0 20 rfl) 11 rfl ?_
      refine zk_callSW K (τ := τ) (s := 0) (s' := 1) (B := B0 + 0) (C := C0 + 6 * 0) (As := [.ref a, .int (nI i)]) (na := 2) [] [.long (sL τ 0 i 0)] (k_left i (by show _ < sN τ 1; omega)) (dL_kept_p0 21 rfl) w_1249 w_1250 w_24 w_1251 (by decide +kernel) rfl ⟨Nat.le_of_ble_eq_true rfl, Nat.le_of_ble_eq_true rfl⟩ ⟨show B0 + 0 + 0 ≤ B0 + 24 from by omega, show C0 + 6 * 0 + 6 * 0 ≤ C0 + 6 * 24 from by omega⟩ (Nat.le_of_ble_eq_true rfl) rfl rfl ?_ k n
      show zVf G X 28 (zT G a τ 1 (B0 + 0) (C0 + 6 * 0)) 36 [(0, .ref a), (1, .int (nI L)), (2, .int (nI T)), (3, .long cmt), (5, .long (kL τ i)), (7, .long (kA τ T i)), (9, .long 0), (11, .long 0), (13, .long 0), (15, .long 0), (17, .long 0), (19, .int (nI i))] [.long (sL τ 0 i 0)]
      intro k n
      refine zi_lstore K [(20, .long (sL τ 0 i 0)), (0, .ref a), (1, .int (nI L)), (2, .int (nI T)), (3, .long cmt), (5, .long (kL τ i)), (7, .long (kA τ T i)), (9, .long 0), (11, .long 0), (13, .long 0), (15, .long 0), (17, .long 0), (19, .int (nI i))] (dL_kept_p0 22 rfl) (by decide) rfl ?_
      refine zi_lload K (dL_kept_p0 23 rfl) 5 rfl ?_
      refine zi_lload K (dL_kept_p0 24 rfl) 0 rfl ?_
      refine zi_ladd K (dL_kept_p0 25 rfl) ?_
      refine zi_lstore K [(5, .long ((kL τ i) + (sL τ 0 i 0))), (20, .long (sL τ 0 i 0)), (0, .ref a), (1, .int (nI L)), (2, .int (nI T)), (3, .long cmt), (7, .long (kA τ T i)), (9, .long 0), (11, .long 0), (13, .long 0), (15, .long 0), (17, .long 0), (19, .int (nI i))] (dL_kept_p0 26 rfl) (by decide) rfl ?_
      refine zi_lload K (dL_kept_p0 27 rfl) 6 rfl ?_
      refine zi_lload K (dL_kept_p0 28 rfl) 1 rfl ?_
      refine zi_ladd K (dL_kept_p0 29 rfl) ?_
      refine zi_lstore K [(7, .long ((kA τ T i) + (sL τ 0 i 0))), (5, .long ((kL τ i) + (sL τ 0 i 0))), (20, .long (sL τ 0 i 0)), (0, .ref a), (1, .int (nI L)), (2, .int (nI T)), (3, .long cmt), (9, .long 0), (11, .long 0), (13, .long 0), (15, .long 0), (17, .long 0), (19, .int (nI i))] (dL_kept_p0 30 rfl) (by decide) rfl ?_
      refine zi_iconst K (dL_kept_p0 31 rfl) zk_i0 ?_
      refine zi_istore K [(22, .int 0), (7, .long ((kA τ T i) + (sL τ 0 i 0))), (5, .long ((kL τ i) + (sL τ 0 i 0))), (20, .long (sL τ 0 i 0)), (0, .ref a), (1, .int (nI L)), (2, .int (nI T)), (3, .long cmt), (9, .long 0), (11, .long 0), (13, .long 0), (15, .long 0), (17, .long 0), (19, .int (nI i))] (dL_kept_p0 32 rfl) (by decide) rfl ?_
      refine zV.pick [4, 5, 6, 7, 2, 1, 8, 9, 10, 11, 12, 13, 3, 0] (lo' := [(0, .ref a), (1, .int (nI L)), (2, .int (nI T)), (3, .long cmt), (5, .long ((kL τ i) + (sL τ 0 i 0))), (7, .long ((kA τ T i) + (sL τ 0 i 0))), (9, .long 0), (11, .long 0), (13, .long 0), (15, .long 0), (17, .long 0), (19, .int (nI i)), (20, .long (sL τ 0 i 0)), (22, .int 0)]) rfl ?_
      suffices hloop55 : ∀ (r9 j : Nat), j ≤ T → T - j < r9 → zVf G X 28 (zT G a τ 0 (B0 + 0) (C0 + 6 * 0)) 55 [(0, .ref a), (1, .int (nI L)), (2, .int (nI T)), (3, .long cmt), (5, .long (kL τ i + sL τ 0 i 0)), (7, .long (kT τ i (kA τ T i + sL τ 0 i 0) j)), (9, .long 0), (11, .long 0), (13, .long 0), (15, .long 0), (17, .long 0), (19, .int (nI i)), (20, .long (sL τ 0 i 0)), (22, .int (nI j))] [] from zVf.wk (G := G) (a := a) (τ := τ) (s := 0) (s' := 1) (fun _ => by omega) ⟨by omega, by omega⟩ (hloop55 (T + 1) 0 (Nat.zero_le _) (Nat.lt_succ_of_le (Nat.sub_le _ _))) k n
      intro r9
      induction r9 with
      | zero => intro j _ h; exact absurd h (Nat.not_lt_zero _)
      | succ r9 ih55 =>
        intro j hi55 hr55 k n
        refine zi_iload K (dL_kept_p0 33 rfl) 13 rfl ?_
        refine zi_iload_n K (dL_kept_p0 34 rfl) 2 rfl ?_
        refine zi_icmp_ge K 95 (dL_kept_p0 35 rfl) rfl (fun h58_0 => ?_) (fun h58_0 => ?_)
        · skip
          have hN55 := zloop_exit rfl (by omega) hi55 h58_0
          subst j
          refine zi_lload K (dL_kept_p1 4 rfl) 12 rfl ?_
          refine zi_lconst K (dL_kept_p1 5 rfl) zk_l0 ?_
          refine zi_lif_ge K 104 (dL_kept_p1 6 rfl) (dL_kept_p1 7 rfl) rfl (fun h98_0 => ?_) (fun h98_0 => ?_)
          rotate_left
          · exact absurd h98_0 (hm.2.1 i (by omega))
          refine zi_iinc K (v := nI (i + 1)) [(19, .int (nI (i + 1))), (0, .ref a), (1, .int (nI L)), (2, .int (nI T)), (3, .long cmt), (5, .long (kL τ i + sL τ 0 i 0)), (7, .long (kT τ i (kA τ T i + sL τ 0 i 0) T)), (9, .long 0), (11, .long 0), (13, .long 0), (15, .long 0), (17, .long 0), (20, .long (sL τ 0 i 0)), (22, .int (nI T))] (dL_kept_p1 10 rfl) 11 rfl (zk_inc _) (by decide) rfl ?_
          refine zi_goto K 24 (dL_kept_p1 11 rfl) rfl ?_
          refine zV.pick [1, 2, 3, 4, 5, 6, 7, 8, 9, 10, 11, 0] (lo' := [(0, .ref a), (1, .int (nI L)), (2, .int (nI T)), (3, .long cmt), (5, .long (kL τ i + sL τ 0 i 0)), (7, .long (kT τ i (kA τ T i + sL τ 0 i 0) T)), (9, .long 0), (11, .long 0), (13, .long 0), (15, .long 0), (17, .long 0), (19, .int (nI (i + 1)))]) rfl ?_
          exact zVf.wk (G := G) (a := a) (τ := τ) (s := 0) (s' := 0) (fun _ => by omega) ⟨by omega, by omega⟩ (ih24 (i + 1) (by omega) (by omega)) k n
        · skip
          have hlt55 := zloop_in rfl (by omega) hi55 h58_0
          refine zi_aload_n K (dL_kept_p0 36 rfl) 0 rfl ?_
          refine zi_iload K (dL_kept_p0 37 rfl) 13 rfl ?_
          refine zi_iload K (dL_kept_p0 38 rfl) 11 rfl ?_
          refine zk_callSW K (τ := τ) (s := 0) (s' := 1) (B := B0 + 0) (C := C0 + 6 * 0) (As := [.ref a, .int (nI j), .int (nI i)]) (na := 3) [] [.long (sL τ 1 i j)] (k_takenFrom j i (by show _ < sN τ 2; omega) (by show _ < sN τ 1; omega)) (dL_kept_p0 39 rfl) w_1400 w_1401 w_24 w_1402 (by decide +kernel) rfl ⟨Nat.le_of_ble_eq_true rfl, Nat.le_of_ble_eq_true rfl⟩ ⟨show B0 + 0 + 0 ≤ B0 + 24 from by omega, show C0 + 6 * 0 + 6 * 0 ≤ C0 + 6 * 24 from by omega⟩ (Nat.le_of_ble_eq_true rfl) rfl rfl ?_ k n
          show zVf G X 28 (zT G a τ 1 (B0 + 0) (C0 + 6 * 0)) 69 [(0, .ref a), (1, .int (nI L)), (2, .int (nI T)), (3, .long cmt), (5, .long (kL τ i + sL τ 0 i 0)), (7, .long (kT τ i (kA τ T i + sL τ 0 i 0) j)), (9, .long 0), (11, .long 0), (13, .long 0), (15, .long 0), (17, .long 0), (19, .int (nI i)), (20, .long (sL τ 0 i 0)), (22, .int (nI j))] [.long (sL τ 1 i j)]
          intro k n
          refine zi_lconst K (dL_kept_p0 40 rfl) zk_l0 ?_
          refine zi_lif_ge K 76 (dL_kept_p0 41 rfl) (dL_kept_p0 42 rfl) rfl (fun h70_0 => ?_) (fun h70_0 => ?_)
          rotate_left
          · exact absurd h70_0 (hm.2.2.1 i j (by omega) (by omega))
          refine zi_lload K (dL_kept_p0 45 rfl) 5 rfl ?_
          refine zi_aload_n K (dL_kept_p0 46 rfl) 0 rfl ?_
          refine zi_iload K (dL_kept_p0 47 rfl) 13 rfl ?_
          refine zi_iload K (dL_kept_p0 48 rfl) 11 rfl ?_
          refine zk_callSW K (τ := τ) (s := 1) (s' := 1) (B := B0 + 0) (C := C0 + 6 * 0) (As := [.ref a, .int (nI j), .int (nI i)]) (na := 3) [.long (kT τ i (kA τ T i + sL τ 0 i 0) j)] [.long (sL τ 1 i j), .long (kT τ i (kA τ T i + sL τ 0 i 0) j)] (k_takenFrom j i (by show _ < sN τ 2; omega) (by show _ < sN τ 1; omega)) (dL_kept_p0 49 rfl) w_1400 w_1401 w_24 w_1402 (by decide +kernel) rfl ⟨Nat.le_of_ble_eq_true rfl, Nat.le_of_ble_eq_true rfl⟩ ⟨show B0 + 0 + 0 ≤ B0 + 24 from by omega, show C0 + 6 * 0 + 6 * 0 ≤ C0 + 6 * 24 from by omega⟩ (Nat.le_of_ble_eq_true rfl) rfl rfl ?_ k n
          show zVf G X 28 (zT G a τ 1 (B0 + 0) (C0 + 6 * 0)) 86 [(0, .ref a), (1, .int (nI L)), (2, .int (nI T)), (3, .long cmt), (5, .long (kL τ i + sL τ 0 i 0)), (7, .long (kT τ i (kA τ T i + sL τ 0 i 0) j)), (9, .long 0), (11, .long 0), (13, .long 0), (15, .long 0), (17, .long 0), (19, .int (nI i)), (20, .long (sL τ 0 i 0)), (22, .int (nI j))] [.long (sL τ 1 i j), .long (kT τ i (kA τ T i + sL τ 0 i 0) j)]
          intro k n
          refine zi_ladd K (dL_kept_p1 0 rfl) ?_
          refine zi_lstore K [(7, .long ((kT τ i (kA τ T i + sL τ 0 i 0) j) + (sL τ 1 i j))), (0, .ref a), (1, .int (nI L)), (2, .int (nI T)), (3, .long cmt), (5, .long (kL τ i + sL τ 0 i 0)), (9, .long 0), (11, .long 0), (13, .long 0), (15, .long 0), (17, .long 0), (19, .int (nI i)), (20, .long (sL τ 0 i 0)), (22, .int (nI j))] (dL_kept_p1 1 rfl) (by decide) rfl ?_
          refine zi_iinc K (v := nI (j + 1)) [(22, .int (nI (j + 1))), (7, .long ((kT τ i (kA τ T i + sL τ 0 i 0) j) + (sL τ 1 i j))), (0, .ref a), (1, .int (nI L)), (2, .int (nI T)), (3, .long cmt), (5, .long (kL τ i + sL τ 0 i 0)), (9, .long 0), (11, .long 0), (13, .long 0), (15, .long 0), (17, .long 0), (19, .int (nI i)), (20, .long (sL τ 0 i 0))] (dL_kept_p1 2 rfl) 13 rfl (zk_inc _) (by decide) rfl ?_
          refine zi_goto K 55 (dL_kept_p1 3 rfl) rfl ?_
          refine zV.pick [2, 3, 4, 5, 6, 1, 7, 8, 9, 10, 11, 12, 13, 0] (lo' := [(0, .ref a), (1, .int (nI L)), (2, .int (nI T)), (3, .long cmt), (5, .long (kL τ i + sL τ 0 i 0)), (7, .long ((kT τ i (kA τ T i + sL τ 0 i 0) j) + (sL τ 1 i j))), (9, .long 0), (11, .long 0), (13, .long 0), (15, .long 0), (17, .long 0), (19, .int (nI i)), (20, .long (sL τ 0 i 0)), (22, .int (nI (j + 1)))]) rfl ?_
          exact zVf.wk (G := G) (a := a) (τ := τ) (s := 0) (s' := 1) (fun _ => by omega) ⟨by omega, by omega⟩ (ih55 (j + 1) (by omega) (by omega)) k n
