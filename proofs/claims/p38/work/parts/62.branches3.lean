/-! the law's branches: links, terms -/
theorem nI_ne {a b : Nat} (h : a ≠ b) (ha : a < 2 ^ 31) (hb : b < 2 ^ 31) : ¬ nI a = nI b := fun e => h (by
  have h2 := congrArg Int32.toInt e
  rw [nI_toInt ha, nI_toInt hb] at h2
  omega)
theorem nI_mod {w m : Nat} (hw : w < 2 ^ 31) (hm : 0 < m) (h31 : m < 2 ^ 31) : nI w - nI w / nI m * nI m = nI (w % m) := by
  have hwI : (nI w).toInt = w := nI_toInt hw
  have hmI : (nI m).toInt = m := nI_toInt h31
  have hdm := Nat.div_add_mod w m
  have hq : (nI w / nI m) = nI (w / m) := by
    apply Int32.toInt_inj.mp
    rw [Int32.toInt_div, hwI, hmI, nI_toInt (Nat.lt_of_le_of_lt (Nat.div_le_self _ _) hw)]
    have : ((w : Int).tdiv (m : Int)) = ((w / m : Nat) : Int) := rfl
    rw [this]
    have h1 := Nat.div_le_self w m
    generalize w / m = z9 at h1 ⊢
    exact Int.bmod_eq_of_le (by omega) (by omega)
  rw [hq]
  have hmul : nI (w / m) * nI m = nI (w / m * m) := (Int32.ofNat_mul _ _).symm
  rw [hmul]
  have hsub : nI w = nI (w % m) + nI (w / m * m) := by
    have : nI (w % m) + nI (w / m * m) = nI (w % m + w / m * m) := (Int32.ofNat_add _ _).symm
    rw [this]
    congr 1
    rw [Nat.mul_comm]
    omega
  rw [hsub, Int32.add_sub_cancel]
set_option maxRecDepth 100000 in
set_option maxHeartbeats 8000000 in
theorem b_handOn {G : zG} {X : zX} {bs Ls o a : Nat} {ys : Nat → Int32} {σ : zSt} {f : Nat → Int32} {B i : Nat} {cmt : Int64} {rm : Room} (K : zK G X cL_law "LayertreatyLaw" 21 (some .boolean) rm) (Y : zY G bs Ls ys (xs X)) (hL9 : Ls ≤ 260) (hi9 : i < 50) (hR9 : 60 ≤ rm.frames ∧ 2000 ≤ rm.locals) (hw : zW σ) {r : Nat} (hr : r < 5) (hB0 : sgc σ + B ≤ rm.cells ∧ sgs σ + 6 * B ≤ rm.slots) (hB : sgc (s_handOn σ r (((r + 1) + (zsm Ls ys ((8 * i) + 3) 4)) % 5) (nI (zsm Ls ys (8 * i + 4) 500)) (nI (zsm Ls ys (8 * i + 5) 900))) + (B + 0) ≤ rm.cells ∧ sgs (s_handOn σ r (((r + 1) + (zsm Ls ys ((8 * i) + 3) 4)) % 5) (nI (zsm Ls ys (8 * i + 4) 500)) (nI (zsm Ls ys (8 * i + 5) 900))) + 6 * (B + 0) ≤ rm.slots)
    (kk : zVf G X 21 (zLw G o a (s_handOn σ r (((r + 1) + (zsm Ls ys ((8 * i) + 3) 4)) % 5) (nI (zsm Ls ys (8 * i + 4) 500)) (nI (zsm Ls ys (8 * i + 5) 900))) f B) 1296 [(0, .ref bs), (1, .ref a), (2, .int (nI (sN σ 0))), (3, .int (nI (sN σ 1))), (4, .int (nI (sN σ 2))), (5, .int (nI (sN σ 3))), (6, .long cmt), (8, .ref o), (9, .int (nI i))] []) : zVf G X 21 (zLw G o a σ f B) 536 [(0, .ref bs), (1, .ref a), (2, .int (nI (sN σ 0))), (3, .int (nI (sN σ 1))), (4, .int (nI (sN σ 2))), (5, .int (nI (sN σ 3))), (6, .long cmt), (8, .ref o), (9, .int (nI i)), (10, .int (nI (8 * i))), (13, .int (nI r))] [] := by
  intro k n
  refine zi_aload_n K (dL_law_p5 42 rfl) 1 rfl ?_
  refine zi_iload K (dL_law_p5 43 rfl) 10 rfl ?_
  refine zi_iload K (dL_law_p5 44 rfl) 10 rfl ?_
  refine zi_iconst K (dL_law_p5 45 rfl) zk_i1 ?_
  refine zi_iadd K (dL_law_p5 46 rfl) ?_
  refine zi_eqi (v := nI (r + 1)) (nI_add r 1) ?_
  refine zi_aload_n K (dL_law_p5 47 rfl) 0 rfl ?_
  refine zi_iload K (dL_law_p5 48 rfl) 9 rfl ?_
  refine zi_iconst K (dL_law_p5 49 rfl) zk_i3 ?_
  refine zi_iadd K (dL_law_p6 0 rfl) ?_
  refine zi_eqi (v := nI ((8 * i) + 3)) (nI_add (8 * i) 3) ?_
  refine zi_iconst K (dL_law_p6 1 rfl) zk_i4 ?_
  refine zV.rmk (fun H h => h.1) (fun hk9 => ?_)
  refine zl_some K Y hL9 ((8 * i) + 3) 4 (by omega) (by omega) (by omega) (dL_law_p6 2 rfl) ⟨by omega, by omega, by omega, by omega⟩ (Nat.le_of_ble_eq_true rfl) ?_
  refine zi_iadd K (dL_law_p6 3 rfl) ?_
  refine zi_eqi (v := nI ((r + 1) + (zsm Ls ys ((8 * i) + 3) 4))) (nI_add (r + 1) (zsm Ls ys ((8 * i) + 3) 4)) ?_
  refine zi_iconst K (dL_law_p6 4 rfl) zk_i5 ?_
  have q3 := zsm_lt (Ls := Ls) (ys := ys) (i := 8 * i + 3) (m := 4) (by omega)
  refine zi_irem K (dL_law_p6 5 rfl) (by decide) ?_
  refine zi_eqi (v := nI (((r + 1) + (zsm Ls ys ((8 * i) + 3) 4)) % 5)) (nI_mod (w := (r + 1) + (zsm Ls ys ((8 * i) + 3) 4)) (m := 5) (by omega) (by omega) (by omega)) ?_
  refine zi_aload_n K (dL_law_p6 6 rfl) 0 rfl ?_
  refine zi_iload K (dL_law_p6 7 rfl) 9 rfl ?_
  refine zi_iconst K (dL_law_p6 8 rfl) zk_i4 ?_
  refine zi_iadd K (dL_law_p6 9 rfl) ?_
  refine zi_eqi (v := nI ((8 * i) + 4)) (nI_add (8 * i) 4) ?_
  refine zi_sipush K (dL_law_p6 10 rfl) zk_s500 ?_
  refine zV.rmk (fun H h => h.1) (fun hk9 => ?_)
  refine zl_some K Y hL9 ((8 * i) + 4) 500 (by omega) (by omega) (by omega) (dL_law_p6 11 rfl) ⟨by omega, by omega, by omega, by omega⟩ (Nat.le_of_ble_eq_true rfl) ?_
  refine zi_aload_n K (dL_law_p6 12 rfl) 0 rfl ?_
  refine zi_iload K (dL_law_p6 13 rfl) 9 rfl ?_
  refine zi_iconst K (dL_law_p6 14 rfl) zk_i5 ?_
  refine zi_iadd K (dL_law_p6 15 rfl) ?_
  refine zi_eqi (v := nI ((8 * i) + 5)) (nI_add (8 * i) 5) ?_
  refine zi_sipush K (dL_law_p6 16 rfl) zk_s900 ?_
  refine zV.rmk (fun H h => h.1) (fun hk9 => ?_)
  refine zl_some K Y hL9 ((8 * i) + 5) 900 (by omega) (by omega) (by omega) (dL_law_p6 17 rfl) ⟨by omega, by omega, by omega, by omega⟩ (Nat.le_of_ble_eq_true rfl) ?_
  have q4 := zsm_lt (Ls := Ls) (ys := ys) (i := 8 * i + 4) (m := 500) (by omega)
  have q5 := zsm_lt (Ls := Ls) (ys := ys) (i := 8 * i + 5) (m := 900) (by omega)
  refine zw_callSW K (f := f) (B := B) (σ := σ) (σ' := s_handOn σ r (((r + 1) + (zsm Ls ys ((8 * i) + 3) 4)) % 5) (nI (zsm Ls ys (8 * i + 4) 500)) (nI (zsm Ls ys (8 * i + 5) 900))) (As := [.ref a, .int (nI r), .int (nI (((r + 1) + (zsm Ls ys ((8 * i) + 3) 4)) % 5)), .int (nI (zsm Ls ys ((8 * i) + 4) 500)), .int (nI (zsm Ls ys ((8 * i) + 5) 900))]) (na := 5) [] [.int (if v_handOn σ r (((r + 1) + (zsm Ls ys ((8 * i) + 3) 4)) % 5) (nI (zsm Ls ys (8 * i + 4) 500)) (nI (zsm Ls ys (8 * i + 5) 900)) = 0 then 0 else 1)] (e_handOn r (((r + 1) + (zsm Ls ys ((8 * i) + 3) 4)) % 5) (nI (zsm Ls ys (8 * i + 4) 500)) (nI (zsm Ls ys (8 * i + 5) 900)) hr (by omega) (nI_ne (by omega) (by omega) (by omega)) (isOut_nI (lo := 0) (hi := 1000000) (by omega) (by omega) (by omega)) (isOut_nI (lo := 0) (hi := 1000000) (by omega) (by omega) (by omega))) (dL_law_p6 18 rfl) w_1382 w_1383 w_24 w_1384 (by decide +kernel) rfl ⟨by omega, by omega⟩ hB (Nat.le_of_ble_eq_true rfl) rfl rfl ?_ k n
  show zVf G X 21 (zLw G o a (s_handOn σ r (((r + 1) + (zsm Ls ys ((8 * i) + 3) 4)) % 5) (nI (zsm Ls ys (8 * i + 4) 500)) (nI (zsm Ls ys (8 * i + 5) 900))) f B) 580 [(0, .ref bs), (1, .ref a), (2, .int (nI (sN σ 0))), (3, .int (nI (sN σ 1))), (4, .int (nI (sN σ 2))), (5, .int (nI (sN σ 3))), (6, .long cmt), (8, .ref o), (9, .int (nI i)), (10, .int (nI (8 * i))), (13, .int (nI r))] [.int (if v_handOn σ r (((r + 1) + (zsm Ls ys ((8 * i) + 3) 4)) % 5) (nI (zsm Ls ys (8 * i + 4) 500)) (nI (zsm Ls ys (8 * i + 5) 900)) = 0 then 0 else 1)]
  intro k n
  refine zi_if_ge K 1296 (dL_law_p6 19 rfl) rfl (fun h580_0 => ?_) (fun h580_0 => ?_)
  rotate_left
  · exact absurd (by split <;> decide) h580_0
  refine zV.pick [0, 1, 2, 3, 4, 5, 6, 7, 8] (lo' := [(0, .ref bs), (1, .ref a), (2, .int (nI (sN σ 0))), (3, .int (nI (sN σ 1))), (4, .int (nI (sN σ 2))), (5, .int (nI (sN σ 3))), (6, .long cmt), (8, .ref o), (9, .int (nI i))]) rfl ?_
  exact kk k n
set_option maxRecDepth 100000 in
set_option maxHeartbeats 8000000 in
theorem b_setPD {G : zG} {X : zX} {bs Ls o a : Nat} {ys : Nat → Int32} {σ : zSt} {f : Nat → Int32} {B i : Nat} {cmt : Int64} {rm : Room} (K : zK G X cL_law "LayertreatyLaw" 21 (some .boolean) rm) (Y : zY G bs Ls ys (xs X)) (hL9 : Ls ≤ 260) (hi9 : i < 50) (hR9 : 60 ≤ rm.frames ∧ 2000 ≤ rm.locals) (hw : zW σ) {t : Nat} (ht : t < sN σ 2) (hw1 : zW (s_setPremium σ t (nI (zsm Ls ys (8 * i + 6) 5000)))) (ht1 : t < sN (s_setPremium σ t (nI (zsm Ls ys (8 * i + 6) 5000))) 2) (hp0 : ¬ v_setPremium σ t (nI (zsm Ls ys (8 * i + 6) 5000)) < 0) (hd1 : 1 ≤ v_setDays (s_setPremium σ t (nI (zsm Ls ys (8 * i + 6) 5000))) t (nI (1 + zsm Ls ys (8 * i + 7) 9))) (hB0 : sgc σ + B ≤ rm.cells ∧ sgs σ + 6 * B ≤ rm.slots) (hB1 : sgc (s_setPremium σ t (nI (zsm Ls ys (8 * i + 6) 5000))) + (B + 0) ≤ rm.cells ∧ sgs (s_setPremium σ t (nI (zsm Ls ys (8 * i + 6) 5000))) + 6 * (B + 0) ≤ rm.slots) (hB2 : sgc (s_setDays (s_setPremium σ t (nI (zsm Ls ys (8 * i + 6) 5000))) t (nI (1 + zsm Ls ys (8 * i + 7) 9))) + (B + 0) ≤ rm.cells ∧ sgs (s_setDays (s_setPremium σ t (nI (zsm Ls ys (8 * i + 6) 5000))) t (nI (1 + zsm Ls ys (8 * i + 7) 9))) + 6 * (B + 0) ≤ rm.slots)
    (kk : zVf G X 21 (zLw G o a (s_setDays (s_setPremium σ t (nI (zsm Ls ys (8 * i + 6) 5000))) t (nI (1 + zsm Ls ys (8 * i + 7) 9))) f B) 1296 [(0, .ref bs), (1, .ref a), (2, .int (nI (sN σ 0))), (3, .int (nI (sN σ 1))), (4, .int (nI (sN σ 2))), (5, .int (nI (sN σ 3))), (6, .long cmt), (8, .ref o), (9, .int (nI i))] []) : zVf G X 21 (zLw G o a σ f B) 986 [(0, .ref bs), (1, .ref a), (2, .int (nI (sN σ 0))), (3, .int (nI (sN σ 1))), (4, .int (nI (sN σ 2))), (5, .int (nI (sN σ 3))), (6, .long cmt), (8, .ref o), (9, .int (nI i)), (10, .int (nI (8 * i))), (12, .int (nI t))] [] := by
  intro k n
  refine zi_aload_n K (dL_law_p10 30 rfl) 1 rfl ?_
  refine zi_iload K (dL_law_p10 31 rfl) 10 rfl ?_
  refine zi_aload_n K (dL_law_p10 32 rfl) 0 rfl ?_
  refine zi_iload K (dL_law_p10 33 rfl) 9 rfl ?_
  refine zi_bipush K (dL_law_p10 34 rfl) zk_b6 ?_
  refine zi_iadd K (dL_law_p10 35 rfl) ?_
  refine zi_eqi (v := nI ((8 * i) + 6)) (nI_add (8 * i) 6) ?_
  refine zi_sipush K (dL_law_p10 36 rfl) zk_s5000 ?_
  refine zV.rmk (fun H h => h.1) (fun hk9 => ?_)
  refine zl_some K Y hL9 ((8 * i) + 6) 5000 (by omega) (by omega) (by omega) (dL_law_p10 37 rfl) ⟨by omega, by omega, by omega, by omega⟩ (Nat.le_of_ble_eq_true rfl) ?_
  have q6 := zsm_lt (Ls := Ls) (ys := ys) (i := 8 * i + 6) (m := 5000) (by omega)
  refine zw_callSW K (f := f) (B := B) (σ := σ) (σ' := s_setPremium σ t (nI (zsm Ls ys (8 * i + 6) 5000))) (As := [.ref a, .int (nI t), .int (nI (zsm Ls ys ((8 * i) + 6) 5000))]) (na := 3) [] [.int (v_setPremium σ t (nI (zsm Ls ys (8 * i + 6) 5000)))] (e_setPremium t (nI (zsm Ls ys (8 * i + 6) 5000)) hw ht (isOut_nI (lo := 0) (hi := 1000000) (by omega) (by omega) (by omega))) (dL_law_p10 38 rfl) w_1208 w_1209 w_24 w_1210 (by decide +kernel) rfl ⟨by omega, by omega⟩ hB1 (Nat.le_of_ble_eq_true rfl) rfl rfl ?_ k n
  show zVf G X 21 (zLw G o a (s_setPremium σ t (nI (zsm Ls ys (8 * i + 6) 5000))) f B) 1004 [(0, .ref bs), (1, .ref a), (2, .int (nI (sN σ 0))), (3, .int (nI (sN σ 1))), (4, .int (nI (sN σ 2))), (5, .int (nI (sN σ 3))), (6, .long cmt), (8, .ref o), (9, .int (nI i)), (10, .int (nI (8 * i))), (12, .int (nI t))] [.int (v_setPremium σ t (nI (zsm Ls ys (8 * i + 6) 5000)))]
  intro k n
  refine zi_if_lt K 1030 (dL_law_p10 39 rfl) rfl (fun h1004_0 => ?_) (fun h1004_0 => ?_)
  · exact absurd h1004_0 hp0
  refine zi_aload_n K (dL_law_p10 40 rfl) 1 rfl ?_
  refine zi_iload K (dL_law_p10 41 rfl) 10 rfl ?_
  refine zi_iconst K (dL_law_p10 42 rfl) zk_i1 ?_
  refine zi_aload_n K (dL_law_p10 43 rfl) 0 rfl ?_
  refine zi_iload K (dL_law_p10 44 rfl) 9 rfl ?_
  refine zi_bipush K (dL_law_p10 45 rfl) zk_b7 ?_
  refine zi_iadd K (dL_law_p10 46 rfl) ?_
  refine zi_eqi (v := nI ((8 * i) + 7)) (nI_add (8 * i) 7) ?_
  refine zi_bipush K (dL_law_p10 47 rfl) zk_b9 ?_
  refine zV.rmk (fun H h => h.1) (fun hk9 => ?_)
  refine zl_some K Y hL9 ((8 * i) + 7) 9 (by omega) (by omega) (by omega) (dL_law_p10 48 rfl) ⟨by omega, by omega, by omega, by omega⟩ (Nat.le_of_ble_eq_true rfl) ?_
  refine zi_iadd K (dL_law_p10 49 rfl) ?_
  refine zi_eqi (v := nI (1 + (zsm Ls ys ((8 * i) + 7) 9))) (nI_add 1 (zsm Ls ys ((8 * i) + 7) 9)) ?_
  have q7 := zsm_lt (Ls := Ls) (ys := ys) (i := 8 * i + 7) (m := 9) (by omega)
  refine zw_callSW K (f := f) (B := B) (σ := s_setPremium σ t (nI (zsm Ls ys (8 * i + 6) 5000))) (σ' := s_setDays (s_setPremium σ t (nI (zsm Ls ys (8 * i + 6) 5000))) t (nI (1 + zsm Ls ys (8 * i + 7) 9))) (As := [.ref a, .int (nI t), .int (nI (1 + (zsm Ls ys ((8 * i) + 7) 9)))]) (na := 3) [] [.int (v_setDays (s_setPremium σ t (nI (zsm Ls ys (8 * i + 6) 5000))) t (nI (1 + zsm Ls ys (8 * i + 7) 9)))] (e_setDays t (nI (1 + zsm Ls ys (8 * i + 7) 9)) hw1 ht1 (isOut_nI (lo := 1) (hi := 9) (by omega) (by omega) (by omega))) (dL_law_p11 0 rfl) w_1190 w_1191 w_24 w_1192 (by decide +kernel) rfl ⟨by omega, by omega⟩ hB2 (Nat.le_of_ble_eq_true rfl) rfl rfl ?_ k n
  show zVf G X 21 (zLw G o a (s_setDays (s_setPremium σ t (nI (zsm Ls ys (8 * i + 6) 5000))) t (nI (1 + zsm Ls ys (8 * i + 7) 9))) f B) 1026 [(0, .ref bs), (1, .ref a), (2, .int (nI (sN σ 0))), (3, .int (nI (sN σ 1))), (4, .int (nI (sN σ 2))), (5, .int (nI (sN σ 3))), (6, .long cmt), (8, .ref o), (9, .int (nI i)), (10, .int (nI (8 * i))), (12, .int (nI t))] [.int (v_setDays (s_setPremium σ t (nI (zsm Ls ys (8 * i + 6) 5000))) t (nI (1 + zsm Ls ys (8 * i + 7) 9)))]
  intro k n
  refine zi_iconst K (dL_law_p11 1 rfl) zk_i1 ?_
  refine zi_icmp_ge K 1032 (dL_law_p11 2 rfl) rfl (fun h1027_0 => ?_) (fun h1027_0 => ?_)
  rotate_left
  · exact absurd hd1 h1027_0
  refine zi_goto K 1296 (dL_law_p11 5 rfl) rfl ?_
  refine zV.pick [0, 1, 2, 3, 4, 5, 6, 7, 8] (lo' := [(0, .ref bs), (1, .ref a), (2, .int (nI (sN σ 0))), (3, .int (nI (sN σ 1))), (4, .int (nI (sN σ 2))), (5, .int (nI (sN σ 3))), (6, .long cmt), (8, .ref o), (9, .int (nI i))]) rfl ?_
  exact kk k n
set_option maxRecDepth 100000 in
set_option maxHeartbeats 8000000 in
theorem b_reinstate {G : zG} {X : zX} {bs Ls o a : Nat} {ys : Nat → Int32} {σ : zSt} {f : Nat → Int32} {B i : Nat} {cmt : Int64} {rm : Room} (K : zK G X cL_law "LayertreatyLaw" 21 (some .boolean) rm) (Y : zY G bs Ls ys (xs X)) (hL9 : Ls ≤ 260) (hi9 : i < 50) (hR9 : 60 ≤ rm.frames ∧ 2000 ≤ rm.locals) (hw : zW σ) {t : Nat} (ht : t < sN σ 2) (hg : ∀ z : Int32, 0 ≤ v_reinstate σ t (nI (zsm Ls ys (8 * i + 3) 6)) (nI (zsm Ls ys (8 * i + 4) 201)) z) (hB0 : sgc σ + B ≤ rm.cells ∧ sgs σ + 6 * B ≤ rm.slots) (hB : ∀ z : Int32, sgc (s_reinstate σ t (nI (zsm Ls ys (8 * i + 3) 6)) (nI (zsm Ls ys (8 * i + 4) 201)) z) + (B + 0) ≤ rm.cells ∧ sgs (s_reinstate σ t (nI (zsm Ls ys (8 * i + 3) 6)) (nI (zsm Ls ys (8 * i + 4) 201)) z) + 6 * (B + 0) ≤ rm.slots) (hB1 : sgc σ + (B + 1) ≤ rm.cells ∧ sgs σ + 6 * (B + 1) ≤ rm.slots)
    (kkA : ¬ v_isLimited σ t = 0 → ∀ z : Int32, (z = 0 ∨ z = 1) → zVf G X 21 (zLw G o a (s_reinstate σ t (nI (zsm Ls ys (8 * i + 3) 6)) (nI (zsm Ls ys (8 * i + 4) 201)) z) f B) 986 [(0, .ref bs), (1, .ref a), (2, .int (nI (sN σ 0))), (3, .int (nI (sN σ 1))), (4, .int (nI (sN σ 2))), (5, .int (nI (sN σ 3))), (6, .long cmt), (8, .ref o), (9, .int (nI i)), (10, .int (nI (8 * i))), (12, .int (nI t))] []) (kkB : v_isLimited σ t = 0 → zVf G X 21 (zLw G o a σ f (B + 1)) 986 [(0, .ref bs), (1, .ref a), (2, .int (nI (sN σ 0))), (3, .int (nI (sN σ 1))), (4, .int (nI (sN σ 2))), (5, .int (nI (sN σ 3))), (6, .long cmt), (8, .ref o), (9, .int (nI i)), (10, .int (nI (8 * i))), (12, .int (nI t))] []) : zVf G X 21 (zLw G o a σ f B) 928 [(0, .ref bs), (1, .ref a), (2, .int (nI (sN σ 0))), (3, .int (nI (sN σ 1))), (4, .int (nI (sN σ 2))), (5, .int (nI (sN σ 3))), (6, .long cmt), (8, .ref o), (9, .int (nI i)), (10, .int (nI (8 * i))), (12, .int (nI t))] [] := by
  intro k n
  refine zi_aload_n K (dL_law_p9 49 rfl) 1 rfl ?_
  refine zi_iload K (dL_law_p10 0 rfl) 10 rfl ?_
  refine zi_aload_n K (dL_law_p10 1 rfl) 0 rfl ?_
  refine zi_iload K (dL_law_p10 2 rfl) 9 rfl ?_
  refine zi_iconst K (dL_law_p10 3 rfl) zk_i3 ?_
  refine zi_iadd K (dL_law_p10 4 rfl) ?_
  refine zi_eqi (v := nI ((8 * i) + 3)) (nI_add (8 * i) 3) ?_
  refine zi_bipush K (dL_law_p10 5 rfl) zk_b6 ?_
  refine zV.rmk (fun H h => h.1) (fun hk9 => ?_)
  refine zl_some K Y hL9 ((8 * i) + 3) 6 (by omega) (by omega) (by omega) (dL_law_p10 6 rfl) ⟨by omega, by omega, by omega, by omega⟩ (Nat.le_of_ble_eq_true rfl) ?_
  refine zi_aload_n K (dL_law_p10 7 rfl) 0 rfl ?_
  refine zi_iload K (dL_law_p10 8 rfl) 9 rfl ?_
  refine zi_iconst K (dL_law_p10 9 rfl) zk_i4 ?_
  refine zi_iadd K (dL_law_p10 10 rfl) ?_
  refine zi_eqi (v := nI ((8 * i) + 4)) (nI_add (8 * i) 4) ?_
  refine zi_sipush K (dL_law_p10 11 rfl) zk_s201 ?_
  refine zV.rmk (fun H h => h.1) (fun hk9 => ?_)
  refine zl_some K Y hL9 ((8 * i) + 4) 201 (by omega) (by omega) (by omega) (dL_law_p10 12 rfl) ⟨by omega, by omega, by omega, by omega⟩ (Nat.le_of_ble_eq_true rfl) ?_
  refine zi_aload_n K (dL_law_p10 13 rfl) 0 rfl ?_
  refine zi_iload K (dL_law_p10 14 rfl) 9 rfl ?_
  refine zi_iconst K (dL_law_p10 15 rfl) zk_i5 ?_
  refine zi_iadd K (dL_law_p10 16 rfl) ?_
  refine zi_eqi (v := nI ((8 * i) + 5)) (nI_add (8 * i) 5) ?_
  refine zi_iconst K (dL_law_p10 17 rfl) zk_i2 ?_
  refine zV.rmk (fun H h => h.1) (fun hk9 => ?_)
  refine zl_some K Y hL9 ((8 * i) + 5) 2 (by omega) (by omega) (by omega) (dL_law_p10 18 rfl) ⟨by omega, by omega, by omega, by omega⟩ (Nat.le_of_ble_eq_true rfl) ?_
  refine zi_if_ne K 968 (dL_law_p10 19 rfl) rfl (fun h961_0 => ?_) (fun h961_0 => ?_)
  · skip
    refine zi_iconst K (dL_law_p10 22 rfl) zk_i0 ?_
    have q3 := zsm_lt (Ls := Ls) (ys := ys) (i := 8 * i + 3) (m := 6) (by omega)
    have q4 := zsm_lt (Ls := Ls) (ys := ys) (i := 8 * i + 4) (m := 201) (by omega)
    by_cases hl : v_isLimited σ t = 0
    · skip
      refine zw_callSW K (f := f) (B := B) (σ := σ) (σ' := σ) (As := [.ref a, .int (nI t), .int (nI (zsm Ls ys ((8 * i) + 3) 6)), .int (nI (zsm Ls ys ((8 * i) + 4) 201)), .int 0]) (na := 5) [] [.int (-1500000)] (e_reinstateF t (nI (zsm Ls ys (8 * i + 3) 6)) (nI (zsm Ls ys (8 * i + 4) 201)) 0 hw ht (isOut_nI (lo := 0) (hi := 5) (by omega) (by omega) (by omega)) (isOut_nI (lo := 0) (hi := 200) (by omega) (by omega) (by omega)) ⟨rfl, rfl⟩ hl) (dL_law_p10 23 rfl) w_1198 w_1199 w_24 w_1200 (by decide +kernel) rfl ⟨by omega, by omega⟩ hB1 (Nat.le_of_ble_eq_true rfl) rfl rfl ?_ k n
      show zVf G X 21 (zLw G o a σ f (B + 1)) 972 [(0, .ref bs), (1, .ref a), (2, .int (nI (sN σ 0))), (3, .int (nI (sN σ 1))), (4, .int (nI (sN σ 2))), (5, .int (nI (sN σ 3))), (6, .long cmt), (8, .ref o), (9, .int (nI i)), (10, .int (nI (8 * i))), (12, .int (nI t))] [.int (-1500000)]
      intro k n
      refine zi_istore K [(14, .int (-1500000)), (0, .ref bs), (1, .ref a), (2, .int (nI (sN σ 0))), (3, .int (nI (sN σ 1))), (4, .int (nI (sN σ 2))), (5, .int (nI (sN σ 3))), (6, .long cmt), (8, .ref o), (9, .int (nI i)), (10, .int (nI (8 * i))), (12, .int (nI t))] (dL_law_p10 24 rfl) (by decide) rfl ?_
      refine zi_iload K (dL_law_p10 25 rfl) 0 rfl ?_
      refine zi_if_ge K 986 (dL_law_p10 26 rfl) rfl (fun h976_1 => ?_) (fun h976_1 => ?_)
      · exact absurd h976_1 (by decide)
      refine zi_iload K (dL_law_p10 27 rfl) 0 rfl ?_
      refine zi_ldc K (dL_law_p10 28 rfl) w_1058 ?_
      refine zi_icmp_ne K 1030 (dL_law_p10 29 rfl) rfl (fun h983_1 => ?_) (fun h983_1 => ?_)
      · exact absurd rfl h983_1
      refine zV.pick [1, 2, 3, 4, 5, 6, 7, 8, 9, 10, 11] (lo' := [(0, .ref bs), (1, .ref a), (2, .int (nI (sN σ 0))), (3, .int (nI (sN σ 1))), (4, .int (nI (sN σ 2))), (5, .int (nI (sN σ 3))), (6, .long cmt), (8, .ref o), (9, .int (nI i)), (10, .int (nI (8 * i))), (12, .int (nI t))]) rfl ?_
      exact (kkB hl) k n
    · skip
      refine zw_callSW K (f := f) (B := B) (σ := σ) (σ' := s_reinstate σ t (nI (zsm Ls ys (8 * i + 3) 6)) (nI (zsm Ls ys (8 * i + 4) 201)) 0) (As := [.ref a, .int (nI t), .int (nI (zsm Ls ys ((8 * i) + 3) 6)), .int (nI (zsm Ls ys ((8 * i) + 4) 201)), .int 0]) (na := 5) [] [.int (v_reinstate σ t (nI (zsm Ls ys (8 * i + 3) 6)) (nI (zsm Ls ys (8 * i + 4) 201)) 0)] (e_reinstate t (nI (zsm Ls ys (8 * i + 3) 6)) (nI (zsm Ls ys (8 * i + 4) 201)) 0 hw ht (isOut_nI (lo := 0) (hi := 5) (by omega) (by omega) (by omega)) (isOut_nI (lo := 0) (hi := 200) (by omega) (by omega) (by omega)) ⟨rfl, rfl⟩ hl) (dL_law_p10 23 rfl) w_1198 w_1199 w_24 w_1200 (by decide +kernel) rfl ⟨by omega, by omega⟩ (hB 0) (Nat.le_of_ble_eq_true rfl) rfl rfl ?_ k n
      show zVf G X 21 (zLw G o a (s_reinstate σ t (nI (zsm Ls ys (8 * i + 3) 6)) (nI (zsm Ls ys (8 * i + 4) 201)) 0) f B) 972 [(0, .ref bs), (1, .ref a), (2, .int (nI (sN σ 0))), (3, .int (nI (sN σ 1))), (4, .int (nI (sN σ 2))), (5, .int (nI (sN σ 3))), (6, .long cmt), (8, .ref o), (9, .int (nI i)), (10, .int (nI (8 * i))), (12, .int (nI t))] [.int (v_reinstate σ t (nI (zsm Ls ys (8 * i + 3) 6)) (nI (zsm Ls ys (8 * i + 4) 201)) 0)]
      intro k n
      refine zi_istore K [(14, .int (v_reinstate σ t (nI (zsm Ls ys (8 * i + 3) 6)) (nI (zsm Ls ys (8 * i + 4) 201)) 0)), (0, .ref bs), (1, .ref a), (2, .int (nI (sN σ 0))), (3, .int (nI (sN σ 1))), (4, .int (nI (sN σ 2))), (5, .int (nI (sN σ 3))), (6, .long cmt), (8, .ref o), (9, .int (nI i)), (10, .int (nI (8 * i))), (12, .int (nI t))] (dL_law_p10 24 rfl) (by decide) rfl ?_
      refine zi_iload K (dL_law_p10 25 rfl) 0 rfl ?_
      refine zi_if_ge K 986 (dL_law_p10 26 rfl) rfl (fun h976_1 => ?_) (fun h976_1 => ?_)
      rotate_left
      · exact absurd (hg 0) h976_1
      refine zV.pick [1, 2, 3, 4, 5, 6, 7, 8, 9, 10, 11] (lo' := [(0, .ref bs), (1, .ref a), (2, .int (nI (sN σ 0))), (3, .int (nI (sN σ 1))), (4, .int (nI (sN σ 2))), (5, .int (nI (sN σ 3))), (6, .long cmt), (8, .ref o), (9, .int (nI i)), (10, .int (nI (8 * i))), (12, .int (nI t))]) rfl ?_
      exact (kkA hl 0 (by decide)) k n
  · skip
    refine zi_iconst K (dL_law_p10 20 rfl) zk_i1 ?_
    refine zi_goto K 969 (dL_law_p10 21 rfl) rfl ?_
    have q3 := zsm_lt (Ls := Ls) (ys := ys) (i := 8 * i + 3) (m := 6) (by omega)
    have q4 := zsm_lt (Ls := Ls) (ys := ys) (i := 8 * i + 4) (m := 201) (by omega)
    by_cases hl : v_isLimited σ t = 0
    · skip
      refine zw_callSW K (f := f) (B := B) (σ := σ) (σ' := σ) (As := [.ref a, .int (nI t), .int (nI (zsm Ls ys ((8 * i) + 3) 6)), .int (nI (zsm Ls ys ((8 * i) + 4) 201)), .int 1]) (na := 5) [] [.int (-1500000)] (e_reinstateF t (nI (zsm Ls ys (8 * i + 3) 6)) (nI (zsm Ls ys (8 * i + 4) 201)) 1 hw ht (isOut_nI (lo := 0) (hi := 5) (by omega) (by omega) (by omega)) (isOut_nI (lo := 0) (hi := 200) (by omega) (by omega) (by omega)) ⟨rfl, rfl⟩ hl) (dL_law_p10 23 rfl) w_1198 w_1199 w_24 w_1200 (by decide +kernel) rfl ⟨by omega, by omega⟩ hB1 (Nat.le_of_ble_eq_true rfl) rfl rfl ?_ k n
      show zVf G X 21 (zLw G o a σ f (B + 1)) 972 [(0, .ref bs), (1, .ref a), (2, .int (nI (sN σ 0))), (3, .int (nI (sN σ 1))), (4, .int (nI (sN σ 2))), (5, .int (nI (sN σ 3))), (6, .long cmt), (8, .ref o), (9, .int (nI i)), (10, .int (nI (8 * i))), (12, .int (nI t))] [.int (-1500000)]
      intro k n
      refine zi_istore K [(14, .int (-1500000)), (0, .ref bs), (1, .ref a), (2, .int (nI (sN σ 0))), (3, .int (nI (sN σ 1))), (4, .int (nI (sN σ 2))), (5, .int (nI (sN σ 3))), (6, .long cmt), (8, .ref o), (9, .int (nI i)), (10, .int (nI (8 * i))), (12, .int (nI t))] (dL_law_p10 24 rfl) (by decide) rfl ?_
      refine zi_iload K (dL_law_p10 25 rfl) 0 rfl ?_
      refine zi_if_ge K 986 (dL_law_p10 26 rfl) rfl (fun h976_1 => ?_) (fun h976_1 => ?_)
      · exact absurd h976_1 (by decide)
      refine zi_iload K (dL_law_p10 27 rfl) 0 rfl ?_
      refine zi_ldc K (dL_law_p10 28 rfl) w_1058 ?_
      refine zi_icmp_ne K 1030 (dL_law_p10 29 rfl) rfl (fun h983_1 => ?_) (fun h983_1 => ?_)
      · exact absurd rfl h983_1
      refine zV.pick [1, 2, 3, 4, 5, 6, 7, 8, 9, 10, 11] (lo' := [(0, .ref bs), (1, .ref a), (2, .int (nI (sN σ 0))), (3, .int (nI (sN σ 1))), (4, .int (nI (sN σ 2))), (5, .int (nI (sN σ 3))), (6, .long cmt), (8, .ref o), (9, .int (nI i)), (10, .int (nI (8 * i))), (12, .int (nI t))]) rfl ?_
      exact (kkB hl) k n
    · skip
      refine zw_callSW K (f := f) (B := B) (σ := σ) (σ' := s_reinstate σ t (nI (zsm Ls ys (8 * i + 3) 6)) (nI (zsm Ls ys (8 * i + 4) 201)) 1) (As := [.ref a, .int (nI t), .int (nI (zsm Ls ys ((8 * i) + 3) 6)), .int (nI (zsm Ls ys ((8 * i) + 4) 201)), .int 1]) (na := 5) [] [.int (v_reinstate σ t (nI (zsm Ls ys (8 * i + 3) 6)) (nI (zsm Ls ys (8 * i + 4) 201)) 1)] (e_reinstate t (nI (zsm Ls ys (8 * i + 3) 6)) (nI (zsm Ls ys (8 * i + 4) 201)) 1 hw ht (isOut_nI (lo := 0) (hi := 5) (by omega) (by omega) (by omega)) (isOut_nI (lo := 0) (hi := 200) (by omega) (by omega) (by omega)) ⟨rfl, rfl⟩ hl) (dL_law_p10 23 rfl) w_1198 w_1199 w_24 w_1200 (by decide +kernel) rfl ⟨by omega, by omega⟩ (hB 1) (Nat.le_of_ble_eq_true rfl) rfl rfl ?_ k n
      show zVf G X 21 (zLw G o a (s_reinstate σ t (nI (zsm Ls ys (8 * i + 3) 6)) (nI (zsm Ls ys (8 * i + 4) 201)) 1) f B) 972 [(0, .ref bs), (1, .ref a), (2, .int (nI (sN σ 0))), (3, .int (nI (sN σ 1))), (4, .int (nI (sN σ 2))), (5, .int (nI (sN σ 3))), (6, .long cmt), (8, .ref o), (9, .int (nI i)), (10, .int (nI (8 * i))), (12, .int (nI t))] [.int (v_reinstate σ t (nI (zsm Ls ys (8 * i + 3) 6)) (nI (zsm Ls ys (8 * i + 4) 201)) 1)]
      intro k n
      refine zi_istore K [(14, .int (v_reinstate σ t (nI (zsm Ls ys (8 * i + 3) 6)) (nI (zsm Ls ys (8 * i + 4) 201)) 1)), (0, .ref bs), (1, .ref a), (2, .int (nI (sN σ 0))), (3, .int (nI (sN σ 1))), (4, .int (nI (sN σ 2))), (5, .int (nI (sN σ 3))), (6, .long cmt), (8, .ref o), (9, .int (nI i)), (10, .int (nI (8 * i))), (12, .int (nI t))] (dL_law_p10 24 rfl) (by decide) rfl ?_
      refine zi_iload K (dL_law_p10 25 rfl) 0 rfl ?_
      refine zi_if_ge K 986 (dL_law_p10 26 rfl) rfl (fun h976_1 => ?_) (fun h976_1 => ?_)
      rotate_left
      · exact absurd (hg 1) h976_1
      refine zV.pick [1, 2, 3, 4, 5, 6, 7, 8, 9, 10, 11] (lo' := [(0, .ref bs), (1, .ref a), (2, .int (nI (sN σ 0))), (3, .int (nI (sN σ 1))), (4, .int (nI (sN σ 2))), (5, .int (nI (sN σ 3))), (6, .long cmt), (8, .ref o), (9, .int (nI i)), (10, .int (nI (8 * i))), (12, .int (nI t))]) rfl ?_
      exact (kkA hl 1 (by decide)) k n
