/-! settled: what is read stays -/
theorem r_comm {σ : zSt} (t : Nat) (p : Int32) : v_commute σ t p = sL (s_settle σ) 3 t 0 := by
  unfold v_commute
  rfl
theorem r_taken {G : zG} {o a : Nat} {σ : zSt} (t : Nat) (hs : s_settle σ = σ) (hw : zW σ) (ht : t < sN σ 2) : zWS G o a σ σ yL_taken cL_taken 3 (some FieldType.long) [(0, 5, 6, 28)] 15 424 0 ([.ref a, .int (nI t)] : List Value) (some (.long (sL σ 3 t 0))) := by
  have h := e_taken (G := G) (o := o) (a := a) t hw ht
  rw [hs] at h
  unfold v_taken at h
  rw [hs] at h
  exact h
theorem r_owed {G : zG} {o a : Nat} {σ : zSt} (t : Nat) (hs : s_settle σ = σ) (hw : zW σ) (ht : t < sN σ 2) : zWS G o a σ σ yL_owed cL_owed 3 (some FieldType.long) [(0, 5, 6, 28)] 15 424 0 ([.ref a, .int (nI t)] : List Value) (some (.long (sL σ 5 t 0))) := by
  have h := e_owed (G := G) (o := o) (a := a) t hw ht
  rw [hs] at h
  unfold v_owed at h
  rw [hs] at h
  exact h
set_option maxRecDepth 100000 in
set_option maxHeartbeats 8000000 in
theorem b_commute {G : zG} {X : zX} {bs Ls o a : Nat} {ys : Nat → Int32} {σ : zSt} {f : Nat → Int32} {B i : Nat} {cmt : Int64} {rm : Room} (K : zK G X cL_law "LayertreatyLaw" 21 (some .boolean) rm) (Y : zY G bs Ls ys (xs X)) (hL9 : Ls ≤ 260) (hi9 : i < 50) (hR9 : 60 ≤ rm.frames ∧ 2000 ≤ rm.locals) (hw : zW σ) {t : Nat} (ht : t < sN σ 2) (ht8 : t < 8) (hwτ : zW (s_settle σ)) (htτ : t < sN (s_settle σ) 2) (hov : f t = 0 ↔ sI (s_settle σ) 19 (t % 8) 0 = 0) (hw2 : sI (s_settle σ) 19 (t % 8) 0 = 0 → zW (s_comm (s_settle σ) t (nI (zsm Ls ys (8 * i + 4) 300)))) (ht2 : sI (s_settle σ) 19 (t % 8) 0 = 0 → t < sN (s_comm (s_settle σ) t (nI (zsm Ls ys (8 * i + 4) 300))) 2) (ht3 : sI (s_settle σ) 19 (t % 8) 0 = 0 → t < sN (s_settle (s_comm (s_settle σ) t (nI (zsm Ls ys (8 * i + 4) 300)))) 2) (hk : sI (s_settle σ) 19 (t % 8) 0 = 0 → v_taken (s_comm (s_settle σ) t (nI (zsm Ls ys (8 * i + 4) 300))) t = sL (s_settle σ) 3 t 0 ∧ sL (s_settle (s_comm (s_settle σ) t (nI (zsm Ls ys (8 * i + 4) 300)))) 5 t 0 = sL (s_settle σ) 5 t 0) (hB1 : sgc (s_settle σ) + (B + 0) ≤ rm.cells ∧ sgs (s_settle σ) + 6 * (B + 0) ≤ rm.slots) (hB2 : sgc (s_settle σ) + (B + 1) ≤ rm.cells ∧ sgs (s_settle σ) + 6 * (B + 1) ≤ rm.slots) (hB2z : sgc (s_settle σ) + ((B + 1) + 0) ≤ rm.cells ∧ sgs (s_settle σ) + 6 * ((B + 1) + 0) ≤ rm.slots) (hBc : sI (s_settle σ) 19 (t % 8) 0 = 0 → sgc (s_comm (s_settle σ) t (nI (zsm Ls ys (8 * i + 4) 300))) + (B + 0) ≤ rm.cells ∧ sgs (s_comm (s_settle σ) t (nI (zsm Ls ys (8 * i + 4) 300))) + 6 * (B + 0) ≤ rm.slots) (hB3 : sI (s_settle σ) 19 (t % 8) 0 = 0 → sgc (s_settle (s_comm (s_settle σ) t (nI (zsm Ls ys (8 * i + 4) 300)))) + (B + 0) ≤ rm.cells ∧ sgs (s_settle (s_comm (s_settle σ) t (nI (zsm Ls ys (8 * i + 4) 300)))) + 6 * (B + 0) ≤ rm.slots)
    (kkA : sI (s_settle σ) 19 (t % 8) 0 = 0 → zVf G X 21 (zLw G o a (s_settle (s_comm (s_settle σ) t (nI (zsm Ls ys (8 * i + 4) 300)))) (upd f t 1) B) 1296 [(0, .ref bs), (1, .ref a), (2, .int (nI (sN σ 0))), (3, .int (nI (sN σ 1))), (4, .int (nI (sN σ 2))), (5, .int (nI (sN σ 3))), (6, .long (cmt + (sL (s_settle σ) 3 t 0 + (nI (zsm Ls ys (8 * i + 4) 300)).toInt64))), (8, .ref o), (9, .int (nI i))] []) (kkB : ¬ sI (s_settle σ) 19 (t % 8) 0 = 0 → zVf G X 21 (zLw G o a (s_settle σ) (upd f t 1) (B + 1)) 1296 [(0, .ref bs), (1, .ref a), (2, .int (nI (sN σ 0))), (3, .int (nI (sN σ 1))), (4, .int (nI (sN σ 2))), (5, .int (nI (sN σ 3))), (6, .long (cmt + 0)), (8, .ref o), (9, .int (nI i))] []) : zVf G X 21 (zLw G o a σ f B) 797 [(0, .ref bs), (1, .ref a), (2, .int (nI (sN σ 0))), (3, .int (nI (sN σ 1))), (4, .int (nI (sN σ 2))), (5, .int (nI (sN σ 3))), (6, .long cmt), (8, .ref o), (9, .int (nI i)), (10, .int (nI (8 * i))), (12, .int (nI t))] [] := by
  intro k n
  refine zi_aload_n K (dL_law_p8 31 rfl) 1 rfl ?_
  refine zi_iload K (dL_law_p8 32 rfl) 10 rfl ?_
  refine zw_callSW K (f := f) (B := B) (σ := σ) (σ' := s_settle σ) (As := [.ref a, .int (nI t)]) (na := 2) [] [.long (v_taken σ t)] (e_taken t hw ht) (dL_law_p8 33 rfl) w_1256 w_1257 w_24 w_1258 (by decide +kernel) rfl ⟨by omega, by omega⟩ hB1 (Nat.le_of_ble_eq_true rfl) rfl rfl ?_ k n
  show zVf G X 21 (zLw G o a (s_settle σ) f B) 803 [(0, .ref bs), (1, .ref a), (2, .int (nI (sN σ 0))), (3, .int (nI (sN σ 1))), (4, .int (nI (sN σ 2))), (5, .int (nI (sN σ 3))), (6, .long cmt), (8, .ref o), (9, .int (nI i)), (10, .int (nI (8 * i))), (12, .int (nI t))] [.long (v_taken σ t)]
  intro k n
  show zV G X 21 (zLw G o a (s_settle σ) f B k n) k n 803 [(0, .ref bs), (1, .ref a), (2, .int (nI (sN σ 0))), (3, .int (nI (sN σ 1))), (4, .int (nI (sN σ 2))), (5, .int (nI (sN σ 3))), (6, .long cmt), (8, .ref o), (9, .int (nI i)), (10, .int (nI (8 * i))), (12, .int (nI t))] [.long (sL (s_settle σ) 3 t 0)]
  refine zi_lstore K [(14, .long (sL (s_settle σ) 3 t 0)), (0, .ref bs), (1, .ref a), (2, .int (nI (sN σ 0))), (3, .int (nI (sN σ 1))), (4, .int (nI (sN σ 2))), (5, .int (nI (sN σ 3))), (6, .long cmt), (8, .ref o), (9, .int (nI i)), (10, .int (nI (8 * i))), (12, .int (nI t))] (dL_law_p8 34 rfl) (by decide) rfl ?_
  refine zi_aload_n K (dL_law_p8 35 rfl) 2 rfl ?_
  refine zi_iload K (dL_law_p8 36 rfl) 11 rfl ?_
  refine zw_callSW K (f := f) (B := B) (σ := s_settle σ) (σ' := s_settle σ) (As := [.ref a, .int (nI t)]) (na := 2) [] [.long (sL (s_settle σ) 5 t 0)] (r_owed t (settle2 σ) hwτ htτ) (dL_law_p8 37 rfl) w_1263 w_1264 w_24 w_1265 (by decide +kernel) rfl ⟨by omega, by omega⟩ hB1 (Nat.le_of_ble_eq_true rfl) rfl rfl ?_ k n
  show zVf G X 21 (zLw G o a (s_settle σ) f B) 811 [(14, .long (sL (s_settle σ) 3 t 0)), (0, .ref bs), (1, .ref a), (2, .int (nI (sN σ 0))), (3, .int (nI (sN σ 1))), (4, .int (nI (sN σ 2))), (5, .int (nI (sN σ 3))), (6, .long cmt), (8, .ref o), (9, .int (nI i)), (10, .int (nI (8 * i))), (12, .int (nI t))] [.long (sL (s_settle σ) 5 t 0)]
  intro k n
  refine zi_lstore K [(16, .long (sL (s_settle σ) 5 t 0)), (14, .long (sL (s_settle σ) 3 t 0)), (0, .ref bs), (1, .ref a), (2, .int (nI (sN σ 0))), (3, .int (nI (sN σ 1))), (4, .int (nI (sN σ 2))), (5, .int (nI (sN σ 3))), (6, .long cmt), (8, .ref o), (9, .int (nI i)), (10, .int (nI (8 * i))), (12, .int (nI t))] (dL_law_p8 38 rfl) (by decide) rfl ?_
  refine zi_aload_n K (dL_law_p8 39 rfl) 3 rfl ?_
  refine zi_iload K (dL_law_p8 40 rfl) 12 rfl ?_
  refine zi_aload_n K (dL_law_p8 41 rfl) 2 rfl ?_
  refine zi_iload K (dL_law_p8 42 rfl) 11 rfl ?_
  refine zi_iconst K (dL_law_p8 43 rfl) zk_i4 ?_
  refine zi_iadd K (dL_law_p8 44 rfl) ?_
  refine zi_eqi (v := nI ((8 * i) + 4)) (nI_add (8 * i) 4) ?_
  refine zi_sipush K (dL_law_p8 45 rfl) zk_s300 ?_
  refine zV.rmk (fun H h => h.1) (fun hk9 => ?_)
  refine zl_some K Y hL9 ((8 * i) + 4) 300 (by omega) (by omega) (by omega) (dL_law_p8 46 rfl) ⟨by omega, by omega, by omega, by omega⟩ (Nat.le_of_ble_eq_true rfl) ?_
  have q4 := zsm_lt (Ls := Ls) (ys := ys) (i := 8 * i + 4) (m := 300) (by omega)
  by_cases hc : sI (s_settle σ) 19 (t % 8) 0 = 0
  · skip
    have hf0 : f t = 0 := hov.mpr hc
    have hB3c := hB3 hc
    refine zw_callSW K (f := f) (B := B) (σ := s_settle σ) (σ' := s_comm (s_settle σ) t (nI (zsm Ls ys (8 * i + 4) 300))) (As := [.ref a, .int (nI t), .int (nI (zsm Ls ys ((8 * i) + 4) 300))]) (na := 3) [] [.long (v_commute (s_settle σ) t (nI (zsm Ls ys (8 * i + 4) 300)))] (e_commute t (nI (zsm Ls ys (8 * i + 4) 300)) hwτ htτ (isOut_nI (lo := 0) (hi := 1000000) (by omega) (by omega) (by omega)) hc) (dL_law_p8 47 rfl) w_1233 w_1234 w_24 w_1235 (by decide +kernel) rfl ⟨by omega, by omega⟩ (hBc hc) (Nat.le_of_ble_eq_true rfl) rfl rfl ?_ k n
    show zVf G X 21 (zLw G o a (s_comm (s_settle σ) t (nI (zsm Ls ys (8 * i + 4) 300))) f B) 830 [(16, .long (sL (s_settle σ) 5 t 0)), (14, .long (sL (s_settle σ) 3 t 0)), (0, .ref bs), (1, .ref a), (2, .int (nI (sN σ 0))), (3, .int (nI (sN σ 1))), (4, .int (nI (sN σ 2))), (5, .int (nI (sN σ 3))), (6, .long cmt), (8, .ref o), (9, .int (nI i)), (10, .int (nI (8 * i))), (12, .int (nI t))] [.long (v_commute (s_settle σ) t (nI (zsm Ls ys (8 * i + 4) 300)))]
    intro k n
    rw [(r_comm t (nI (zsm Ls ys (8 * i + 4) 300))).trans (by rw [settle2] : _ = sL (s_settle σ) 3 t 0)]
    refine zi_lstore K [(18, .long (sL (s_settle σ) 3 t 0)), (16, .long (sL (s_settle σ) 5 t 0)), (14, .long (sL (s_settle σ) 3 t 0)), (0, .ref bs), (1, .ref a), (2, .int (nI (sN σ 0))), (3, .int (nI (sN σ 1))), (4, .int (nI (sN σ 2))), (5, .int (nI (sN σ 3))), (6, .long cmt), (8, .ref o), (9, .int (nI i)), (10, .int (nI (8 * i))), (12, .int (nI t))] (dL_law_p8 48 rfl) (by decide) rfl ?_
    refine zi_lload K (dL_law_p8 49 rfl) 0 rfl ?_
    refine zi_aload K (dL_law_p9 0 rfl) 10 rfl ?_
    refine zi_iload K (dL_law_p9 1 rfl) 13 rfl ?_
    refine zw_bald (σ := s_comm (s_settle σ) t (nI (zsm Ls ys (8 * i + 4) 300))) (f := f) (B := B) K t ht8 (dL_law_p9 2 rfl) ?_ k n
    intro k n
    refine zi_if_eq K 848 (dL_law_p9 3 rfl) rfl (fun h839_0 => ?_) (fun h839_0 => ?_)
    rotate_left
    · exact absurd hf0 h839_0
    refine zi_lload K (dL_law_p9 6 rfl) 2 rfl ?_
    refine zi_lif_ne K 878 (dL_law_p9 7 rfl) (dL_law_p9 8 rfl) rfl (fun h850_0 => ?_) (fun h850_0 => ?_)
    · exact absurd rfl h850_0
    refine zi_aload_n K (dL_law_p9 9 rfl) 4 rfl ?_
    refine zi_iload K (dL_law_p9 10 rfl) 13 rfl ?_
    refine zw_callSW K (f := f) (B := B) (σ := s_comm (s_settle σ) t (nI (zsm Ls ys (8 * i + 4) 300))) (σ' := s_settle (s_comm (s_settle σ) t (nI (zsm Ls ys (8 * i + 4) 300)))) (As := [.ref a, .int (nI t)]) (na := 2) [] [.long (v_taken (s_comm (s_settle σ) t (nI (zsm Ls ys (8 * i + 4) 300))) t)] (e_taken t (hw2 hc) (ht2 hc)) (dL_law_p9 11 rfl) w_1256 w_1257 w_24 w_1258 (by decide +kernel) rfl ⟨by omega, by omega⟩ (hB3 hc) (Nat.le_of_ble_eq_true rfl) rfl rfl ?_ k n
    show zVf G X 21 (zLw G o a (s_settle (s_comm (s_settle σ) t (nI (zsm Ls ys (8 * i + 4) 300)))) f B) 860 [(18, .long (sL (s_settle σ) 3 t 0)), (16, .long (sL (s_settle σ) 5 t 0)), (14, .long (sL (s_settle σ) 3 t 0)), (0, .ref bs), (1, .ref a), (2, .int (nI (sN σ 0))), (3, .int (nI (sN σ 1))), (4, .int (nI (sN σ 2))), (5, .int (nI (sN σ 3))), (6, .long cmt), (8, .ref o), (9, .int (nI i)), (10, .int (nI (8 * i))), (12, .int (nI t))] [.long (v_taken (s_comm (s_settle σ) t (nI (zsm Ls ys (8 * i + 4) 300))) t)]
    intro k n
    refine zi_lload K (dL_law_p9 12 rfl) 2 rfl ?_
    refine zi_lif_ne K 878 (dL_law_p9 13 rfl) (dL_law_p9 14 rfl) rfl (fun h862_0 => ?_) (fun h862_0 => ?_)
    · exact absurd (hk hc).1 h862_0
    refine zi_aload_n K (dL_law_p9 15 rfl) 4 rfl ?_
    refine zi_iload K (dL_law_p9 16 rfl) 13 rfl ?_
    refine zw_callSW K (f := f) (B := B) (σ := s_settle (s_comm (s_settle σ) t (nI (zsm Ls ys (8 * i + 4) 300)))) (σ' := s_settle (s_comm (s_settle σ) t (nI (zsm Ls ys (8 * i + 4) 300)))) (As := [.ref a, .int (nI t)]) (na := 2) [] [.long (sL (s_settle (s_comm (s_settle σ) t (nI (zsm Ls ys (8 * i + 4) 300)))) 5 t 0)] (r_owed t (settle2 _) (settle_W (hw2 hc)).1 (ht3 hc)) (dL_law_p9 17 rfl) w_1263 w_1264 w_24 w_1265 (by decide +kernel) rfl ⟨by omega, by omega⟩ (hB3 hc) (Nat.le_of_ble_eq_true rfl) rfl rfl ?_ k n
    show zVf G X 21 (zLw G o a (s_settle (s_comm (s_settle σ) t (nI (zsm Ls ys (8 * i + 4) 300)))) f B) 872 [(18, .long (sL (s_settle σ) 3 t 0)), (16, .long (sL (s_settle σ) 5 t 0)), (14, .long (sL (s_settle σ) 3 t 0)), (0, .ref bs), (1, .ref a), (2, .int (nI (sN σ 0))), (3, .int (nI (sN σ 1))), (4, .int (nI (sN σ 2))), (5, .int (nI (sN σ 3))), (6, .long cmt), (8, .ref o), (9, .int (nI i)), (10, .int (nI (8 * i))), (12, .int (nI t))] [.long (sL (s_settle (s_comm (s_settle σ) t (nI (zsm Ls ys (8 * i + 4) 300)))) 5 t 0)]
    intro k n
    refine zi_lload K (dL_law_p9 18 rfl) 1 rfl ?_
    refine zi_lif_eq K 880 (dL_law_p9 19 rfl) (dL_law_p9 20 rfl) rfl (fun h874_0 => ?_) (fun h874_0 => ?_)
    rotate_left
    · exact absurd (hk hc).2 h874_0
    refine zi_lload K (dL_law_p9 23 rfl) 9 rfl ?_
    refine zi_aload K (dL_law_p9 24 rfl) 10 rfl ?_
    refine zi_iload K (dL_law_p9 25 rfl) 13 rfl ?_
    refine zw_bald (σ := s_settle (s_comm (s_settle σ) t (nI (zsm Ls ys (8 * i + 4) 300)))) (f := f) (B := B) K t ht8 (dL_law_p9 26 rfl) ?_ k n
    intro k n
    refine zi_if_eq K 894 (dL_law_p9 27 rfl) rfl (fun h887_0 => ?_) (fun h887_0 => ?_)
    rotate_left
    · exact absurd hf0 h887_0
    refine zi_lload K (dL_law_p9 30 rfl) 2 rfl ?_
    refine zi_aload_n K (dL_law_p9 31 rfl) 3 rfl ?_
    refine zi_iload K (dL_law_p9 32 rfl) 12 rfl ?_
    refine zi_iconst K (dL_law_p9 33 rfl) zk_i4 ?_
    refine zi_iadd K (dL_law_p9 34 rfl) ?_
    refine zi_eqi (v := nI ((8 * i) + 4)) (nI_add (8 * i) 4) ?_
    refine zi_sipush K (dL_law_p9 35 rfl) zk_s300 ?_
    refine zV.rmk (fun H h => h.1) (fun hk9 => ?_)
    refine zl_some K Y hL9 ((8 * i) + 4) 300 (by omega) (by omega) (by omega) (dL_law_p9 36 rfl) ⟨by omega, by omega, by omega, by omega⟩ (Nat.le_of_ble_eq_true rfl) ?_
    refine zi_i2l K (dL_law_p9 37 rfl) ?_
    refine zi_ladd K (dL_law_p9 38 rfl) ?_
    refine zi_ladd K (dL_law_p9 39 rfl) ?_
    refine zi_lstore K [(6, .long (cmt + ((sL (s_settle σ) 3 t 0) + ((nI (zsm Ls ys ((8 * i) + 4) 300)).toInt64)))), (18, .long (sL (s_settle σ) 3 t 0)), (16, .long (sL (s_settle σ) 5 t 0)), (14, .long (sL (s_settle σ) 3 t 0)), (0, .ref bs), (1, .ref a), (2, .int (nI (sN σ 0))), (3, .int (nI (sN σ 1))), (4, .int (nI (sN σ 2))), (5, .int (nI (sN σ 3))), (8, .ref o), (9, .int (nI i)), (10, .int (nI (8 * i))), (12, .int (nI t))] (dL_law_p9 40 rfl) (by decide) rfl ?_
    refine zi_aload K (dL_law_p9 41 rfl) 10 rfl ?_
    refine zi_iload K (dL_law_p9 42 rfl) 13 rfl ?_
    refine zi_iconst K (dL_law_p9 43 rfl) zk_i1 ?_
    refine zw_bast (σ := s_settle (s_comm (s_settle σ) t (nI (zsm Ls ys (8 * i + 4) 300)))) (f := f) (B := B) K t ht8 (v := 1) rfl (dL_law_p9 44 rfl) ?_ k n
    intro k n
    refine zi_goto K 1296 (dL_law_p9 45 rfl) rfl ?_
    refine zV.pick [4, 5, 6, 7, 8, 9, 0, 10, 11] (lo' := [(0, .ref bs), (1, .ref a), (2, .int (nI (sN σ 0))), (3, .int (nI (sN σ 1))), (4, .int (nI (sN σ 2))), (5, .int (nI (sN σ 3))), (6, .long (cmt + ((sL (s_settle σ) 3 t 0) + ((nI (zsm Ls ys ((8 * i) + 4) 300)).toInt64)))), (8, .ref o), (9, .int (nI i))]) rfl ?_
    exact (kkA hc) k n
  · skip
    have hf1 : ¬ f t = 0 := fun q => hc (hov.mp q)
    refine zw_callSW K (f := f) (B := B) (σ := s_settle σ) (σ' := s_settle σ) (As := [.ref a, .int (nI t), .int (nI (zsm Ls ys ((8 * i) + 4) 300))]) (na := 3) [] [.long (-1500000)] (e_commuteF t (nI (zsm Ls ys (8 * i + 4) 300)) hwτ htτ (isOut_nI (lo := 0) (hi := 1000000) (by omega) (by omega) (by omega)) hc) (dL_law_p8 47 rfl) w_1233 w_1234 w_24 w_1235 (by decide +kernel) rfl ⟨by omega, by omega⟩ hB2 (Nat.le_of_ble_eq_true rfl) rfl rfl ?_ k n
    show zVf G X 21 (zLw G o a (s_settle σ) f (B + 1)) 830 [(16, .long (sL (s_settle σ) 5 t 0)), (14, .long (sL (s_settle σ) 3 t 0)), (0, .ref bs), (1, .ref a), (2, .int (nI (sN σ 0))), (3, .int (nI (sN σ 1))), (4, .int (nI (sN σ 2))), (5, .int (nI (sN σ 3))), (6, .long cmt), (8, .ref o), (9, .int (nI i)), (10, .int (nI (8 * i))), (12, .int (nI t))] [.long (-1500000)]
    intro k n
    refine zi_lstore K [(18, .long (-1500000)), (16, .long (sL (s_settle σ) 5 t 0)), (14, .long (sL (s_settle σ) 3 t 0)), (0, .ref bs), (1, .ref a), (2, .int (nI (sN σ 0))), (3, .int (nI (sN σ 1))), (4, .int (nI (sN σ 2))), (5, .int (nI (sN σ 3))), (6, .long cmt), (8, .ref o), (9, .int (nI i)), (10, .int (nI (8 * i))), (12, .int (nI t))] (dL_law_p8 48 rfl) (by decide) rfl ?_
    refine zi_lload K (dL_law_p8 49 rfl) 0 rfl ?_
    refine zi_aload K (dL_law_p9 0 rfl) 10 rfl ?_
    refine zi_iload K (dL_law_p9 1 rfl) 13 rfl ?_
    refine zw_bald (σ := s_settle σ) (f := f) (B := (B + 1)) K t ht8 (dL_law_p9 2 rfl) ?_ k n
    intro k n
    refine zi_if_eq K 848 (dL_law_p9 3 rfl) rfl (fun h839_0 => ?_) (fun h839_0 => ?_)
    · exact absurd h839_0 hf1
    refine zi_ldc2 K (dL_law_p9 4 rfl) w_1248 ?_
    refine zi_goto K 850 (dL_law_p9 5 rfl) rfl ?_
    refine zi_lif_ne K 878 (dL_law_p9 7 rfl) (dL_law_p9 8 rfl) rfl (fun h850_0 => ?_) (fun h850_0 => ?_)
    · exact absurd rfl h850_0
    refine zi_aload_n K (dL_law_p9 9 rfl) 4 rfl ?_
    refine zi_iload K (dL_law_p9 10 rfl) 13 rfl ?_
    refine zw_callSW K (f := f) (B := (B + 1)) (σ := s_settle σ) (σ' := s_settle σ) (As := [.ref a, .int (nI t)]) (na := 2) [] [.long (sL (s_settle σ) 3 t 0)] (r_taken t (settle2 σ) hwτ htτ) (dL_law_p9 11 rfl) w_1256 w_1257 w_24 w_1258 (by decide +kernel) rfl ⟨by omega, by omega⟩ hB2z (Nat.le_of_ble_eq_true rfl) rfl rfl ?_ k n
    show zVf G X 21 (zLw G o a (s_settle σ) f (B + 1)) 860 [(18, .long (-1500000)), (16, .long (sL (s_settle σ) 5 t 0)), (14, .long (sL (s_settle σ) 3 t 0)), (0, .ref bs), (1, .ref a), (2, .int (nI (sN σ 0))), (3, .int (nI (sN σ 1))), (4, .int (nI (sN σ 2))), (5, .int (nI (sN σ 3))), (6, .long cmt), (8, .ref o), (9, .int (nI i)), (10, .int (nI (8 * i))), (12, .int (nI t))] [.long (sL (s_settle σ) 3 t 0)]
    intro k n
    refine zi_lload K (dL_law_p9 12 rfl) 2 rfl ?_
    refine zi_lif_ne K 878 (dL_law_p9 13 rfl) (dL_law_p9 14 rfl) rfl (fun h862_0 => ?_) (fun h862_0 => ?_)
    · exact absurd rfl h862_0
    refine zi_aload_n K (dL_law_p9 15 rfl) 4 rfl ?_
    refine zi_iload K (dL_law_p9 16 rfl) 13 rfl ?_
    refine zw_callSW K (f := f) (B := (B + 1)) (σ := s_settle σ) (σ' := s_settle σ) (As := [.ref a, .int (nI t)]) (na := 2) [] [.long (sL (s_settle σ) 5 t 0)] (r_owed t (settle2 σ) hwτ htτ) (dL_law_p9 17 rfl) w_1263 w_1264 w_24 w_1265 (by decide +kernel) rfl ⟨by omega, by omega⟩ hB2z (Nat.le_of_ble_eq_true rfl) rfl rfl ?_ k n
    show zVf G X 21 (zLw G o a (s_settle σ) f (B + 1)) 872 [(18, .long (-1500000)), (16, .long (sL (s_settle σ) 5 t 0)), (14, .long (sL (s_settle σ) 3 t 0)), (0, .ref bs), (1, .ref a), (2, .int (nI (sN σ 0))), (3, .int (nI (sN σ 1))), (4, .int (nI (sN σ 2))), (5, .int (nI (sN σ 3))), (6, .long cmt), (8, .ref o), (9, .int (nI i)), (10, .int (nI (8 * i))), (12, .int (nI t))] [.long (sL (s_settle σ) 5 t 0)]
    intro k n
    refine zi_lload K (dL_law_p9 18 rfl) 1 rfl ?_
    refine zi_lif_eq K 880 (dL_law_p9 19 rfl) (dL_law_p9 20 rfl) rfl (fun h874_0 => ?_) (fun h874_0 => ?_)
    rotate_left
    · exact absurd rfl h874_0
    refine zi_lload K (dL_law_p9 23 rfl) 9 rfl ?_
    refine zi_aload K (dL_law_p9 24 rfl) 10 rfl ?_
    refine zi_iload K (dL_law_p9 25 rfl) 13 rfl ?_
    refine zw_bald (σ := s_settle σ) (f := f) (B := (B + 1)) K t ht8 (dL_law_p9 26 rfl) ?_ k n
    intro k n
    refine zi_if_eq K 894 (dL_law_p9 27 rfl) rfl (fun h887_0 => ?_) (fun h887_0 => ?_)
    · exact absurd h887_0 hf1
    refine zi_lconst K (dL_law_p9 28 rfl) zk_l0 ?_
    refine zi_goto K 909 (dL_law_p9 29 rfl) rfl ?_
    refine zi_ladd K (dL_law_p9 39 rfl) ?_
    refine zi_lstore K [(6, .long (cmt + 0)), (18, .long (-1500000)), (16, .long (sL (s_settle σ) 5 t 0)), (14, .long (sL (s_settle σ) 3 t 0)), (0, .ref bs), (1, .ref a), (2, .int (nI (sN σ 0))), (3, .int (nI (sN σ 1))), (4, .int (nI (sN σ 2))), (5, .int (nI (sN σ 3))), (8, .ref o), (9, .int (nI i)), (10, .int (nI (8 * i))), (12, .int (nI t))] (dL_law_p9 40 rfl) (by decide) rfl ?_
    refine zi_aload K (dL_law_p9 41 rfl) 10 rfl ?_
    refine zi_iload K (dL_law_p9 42 rfl) 13 rfl ?_
    refine zi_iconst K (dL_law_p9 43 rfl) zk_i1 ?_
    refine zw_bast (σ := s_settle σ) (f := f) (B := (B + 1)) K t ht8 (v := 1) rfl (dL_law_p9 44 rfl) ?_ k n
    intro k n
    refine zi_goto K 1296 (dL_law_p9 45 rfl) rfl ?_
    refine zV.pick [4, 5, 6, 7, 8, 9, 0, 10, 11] (lo' := [(0, .ref bs), (1, .ref a), (2, .int (nI (sN σ 0))), (3, .int (nI (sN σ 1))), (4, .int (nI (sN σ 2))), (5, .int (nI (sN σ 3))), (6, .long (cmt + 0)), (8, .ref o), (9, .int (nI i))]) rfl ?_
    exact (kkB hc) k n
