/-! the law's branch of treaties -/
theorem zl_charAt {G : zG} {X : zX} {cc : ByteArray} {nL : Nat} {ret : Option FieldType} {rm : Room} {P : Heap → Prop} {k n pc : Nat} {lo : List (Nat × Value)} {st : List Value} (K : zK G X cc "LayertreatyLaw" nL ret rm) {adK adV : Nat → Nat} {fm : Nat} (T : zTxt G adK adV fm (xs X)) (i j : Nat) (hi : i < 2) (hj : j < zTl.getD i 0) (hd : decode cc pc = .ok (.invokevirtual 174, 3)) (hR : 60 ≤ rm.frames ∧ 2000 ≤ rm.locals ∧ k ≤ rm.cells ∧ n ≤ rm.slots) (hst : (st.map fun v => v.category).sum ≤ 8)
    (kk : zV G X nL P k n (pc + 3) lo (.int (zqc i j) :: st)) : zV G X nL P k n pc lo (.int (nI j) :: .ref (adK i) :: st) := fun H locs ls hP hS hL =>
  zi_callVF K (na := 1) (b := adK i) (As := [.int (nI j)]) st (.int (zqc i j) :: st) zTxt.stb T (c_charAt (P := fun H9 => H9 = H ∧ P H) i j hi hj) hd w_1436 w_1437 w_1438 w_45 w_1439 (by decide +kernel) rfl (fun H9 (h : H9 = H ∧ P H) => h.1 ▸ vk_recv T.1 hi hS) (fun H h => h) ⟨by omega, by omega⟩ ⟨hR.2.2.1, hR.2.2.2⟩ hst rfl rfl (zV.imp (fun H9 (h : H9 = H ∧ P H) => h.1 ▸ h.2) kk) H locs ls ⟨rfl, hP⟩ hS hL
theorem basis_ok {σ : zSt} {j : Nat} (h : j < 3) : ¬ v_isBasis σ (zqc 1 j) = 0 := by
  have : j = 0 ∨ j = 1 ∨ j = 2 := by omega
  rcases this with rfl | rfl | rfl <;> (unfold v_isBasis; decide)
theorem fits_ok {σ : zSt} {J a b : Nat} (hJ : J < 5) (h1 : zqc 0 J = 113 → a ≤ 100) (h2 : a ≤ 1000000) (h3 : ¬ zqc 0 J = 113 → 1 ≤ a) (h4 : 1 ≤ b) (h5 : zqc 0 J = 115 → b ≤ 20) (h6 : b ≤ 1000000) : ¬ v_fitsKind σ (zqc 0 J) (nI a) (nI b) = 0 := by
  have hA : a ≤ 100 → v_isOut σ (nI a) 0 100 = 0 := fun q => isOut_nI (lo := 0) (hi := 100) (by omega) q (by omega)
  have hA0 : v_isOut σ (nI a) 0 1000000 = 0 := isOut_nI (lo := 0) (hi := 1000000) (by omega) h2 (by omega)
  have hA1 : 1 ≤ a → v_isOut σ (nI a) 1 1000000 = 0 := fun q => isOut_nI (lo := 1) (hi := 1000000) q h2 (by omega)
  have hB : v_isOut σ (nI b) 1 1000000 = 0 := isOut_nI (lo := 1) (hi := 1000000) h4 h6 (by omega)
  have hB2 : b ≤ 20 → v_isOut σ (nI b) 1 20 = 0 := fun q => isOut_nI (lo := 1) (hi := 20) h4 q (by omega)
  unfold v_fitsKind
  by_cases c1 : zqc 0 J = 113
  · rw [if_pos c1, if_pos (hA (h1 c1))]
    decide
  · rw [if_neg c1]
    by_cases c2 : zqc 0 J = 115
    · rw [if_pos c2, if_pos (hA1 (h3 c1)), if_pos (hB2 (h5 c2))]
      decide
    · rw [if_neg c2, if_pos hA0, if_pos hB]
      by_cases c3 : zqc 0 J = 114
      · rw [if_pos c3]
        decide
      · rw [if_neg c3]
        by_cases c4 : zqc 0 J = 101
        · rw [if_pos c4]
          decide
        · rw [if_neg c4]
          have c5 : zqc 0 J = 97 := by
            have : J = 0 ∨ J = 1 ∨ J = 2 ∨ J = 3 ∨ J = 4 := by omega
            rcases this with rfl | rfl | rfl | rfl | rfl
            · exact absurd (by decide) c1
            · exact absurd (by decide) c2
            · exact absurd (by decide) c3
            · exact absurd (by decide) c4
            · decide
          rw [if_pos c5]
          decide
theorem zqc_ch : ∀ i j : Nat, i < 2 → j < zTl.getD i 0 → (narrow .char (.int (zqc i j)) = .int (zqc i j) ∧ fits .char (.int (zqc i j)) = true) := by
  have h : ∀ i, i < 2 → ∀ j, j < zTl.getD i 0 → (narrow .char (.int (zqc i j)) = .int (zqc i j) ∧ fits .char (.int (zqc i j)) = true) := by decide +kernel
  exact fun i j hi hj => h i hi j hj
set_option maxRecDepth 100000 in
set_option maxHeartbeats 8000000 in
theorem b_treaty {G : zG} {X : zX} {bs Ls o a : Nat} {ys : Nat → Int32} {σ : zSt} {f : Nat → Int32} {B i : Nat} {cmt : Int64} {rm : Room} (K : zK G X cL_law "LayertreatyLaw" 21 (some .boolean) rm) (Y : zY G bs Ls ys (xs X)) (hL9 : Ls ≤ 260) (hi9 : i < 50) (hR9 : 60 ≤ rm.frames ∧ 2000 ≤ rm.locals) (hw : zW σ) {adK adV : Nat → Nat} {fm : Nat} (T9 : zTxt G adK adV fm (xs X)) (hs172 : vk_R "LayertreatyLaw" 172 "qsrea" (adK 0) (xs X)) (hs180 : vk_R "LayertreatyLaw" 180 "oac" (adK 1) (xs X)) (hB0 : sgc σ + B ≤ rm.cells ∧ sgs σ + 6 * B ≤ rm.slots) (hB : ∀ v2 v3 v4 v5 v6 v7 : Int32, sN σ 2 < 8 → sgc (s_treaty σ v2 v3 v4 v5 v6 v7) + (B + 0) ≤ rm.cells ∧ sgs (s_treaty σ v2 v3 v4 v5 v6 v7) + 6 * (B + 0) ≤ rm.slots) (hB1 : sgc σ + (B + 1) ≤ rm.cells ∧ sgs σ + 6 * (B + 1) ≤ rm.slots)
    (kkA : ∀ v2 v3 v4 v5 v6 v7 : Int32, sN σ 2 < 8 → ¬ v_isSpan σ v4 v5 = 0 → ¬ v_isBasis σ v3 = 0 → ¬ v_fitsKind σ v2 v6 v7 = 0 → v_isOut σ v7 1 1000000 = 0 → zVf G X 21 (zLw G o a (s_treaty σ v2 v3 v4 v5 v6 v7) f B) 1296 [(0, .ref bs), (1, .ref a), (2, .int (nI (sN σ 0))), (3, .int (nI (sN σ 1))), (4, .int (nI (sN σ 2 + 1))), (5, .int (nI (sN σ 3))), (6, .long cmt), (8, .ref o), (9, .int (nI i))] []) (kkB : sN σ 2 = 8 → zVf G X 21 (zLw G o a σ f (B + 1)) 1296 [(0, .ref bs), (1, .ref a), (2, .int (nI (sN σ 0))), (3, .int (nI (sN σ 1))), (4, .int (nI (sN σ 2))), (5, .int (nI (sN σ 3))), (6, .long cmt), (8, .ref o), (9, .int (nI i))] []) : zVf G X 21 (zLw G o a σ f B) 312 [(0, .ref bs), (1, .ref a), (2, .int (nI (sN σ 0))), (3, .int (nI (sN σ 1))), (4, .int (nI (sN σ 2))), (5, .int (nI (sN σ 3))), (6, .long cmt), (8, .ref o), (9, .int (nI i)), (10, .int (nI (8 * i)))] [] := by
  intro k n
  refine zi_ldcS K hs172 (dL_law_p3 23 rfl) ?_
  refine zi_aload_n K (dL_law_p3 24 rfl) 0 rfl ?_
  refine zi_iload K (dL_law_p3 25 rfl) 9 rfl ?_
  refine zi_iconst K (dL_law_p3 26 rfl) zk_i3 ?_
  refine zi_iadd K (dL_law_p3 27 rfl) ?_
  refine zi_eqi (v := nI ((8 * i) + 3)) (nI_add (8 * i) 3) ?_
  refine zi_iconst K (dL_law_p3 28 rfl) zk_i5 ?_
  refine zV.rmk (fun H h => h.1) (fun hk9 => ?_)
  refine zl_some K Y hL9 ((8 * i) + 3) 5 (by omega) (by omega) (by omega) (dL_law_p3 29 rfl) ⟨by omega, by omega, by omega, by omega⟩ (Nat.le_of_ble_eq_true rfl) ?_
  have qc0 := zsm_lt (Ls := Ls) (ys := ys) (i := 8 * i + 3) (m := 5) (by omega)
  refine zV.rmk (fun H h => h.1) (fun hk9 => ?_)
  refine zl_charAt K T9 0 (zsm Ls ys ((8 * i) + 3) 5) (by decide) qc0 (dL_law_p3 30 rfl) ⟨by omega, by omega, by omega, by omega⟩ (Nat.le_of_ble_eq_true rfl) ?_
  refine zi_istore K [(14, .int (zqc 0 (zsm Ls ys ((8 * i) + 3) 5))), (0, .ref bs), (1, .ref a), (2, .int (nI (sN σ 0))), (3, .int (nI (sN σ 1))), (4, .int (nI (sN σ 2))), (5, .int (nI (sN σ 3))), (6, .long cmt), (8, .ref o), (9, .int (nI i)), (10, .int (nI (8 * i)))] (dL_law_p3 31 rfl) (by decide) rfl ?_
  refine zi_aload_n K (dL_law_p3 32 rfl) 1 rfl ?_
  refine zi_iload K (dL_law_p3 33 rfl) 10 rfl ?_
  refine zi_iconst K (dL_law_p3 34 rfl) zk_i4 ?_
  refine zi_iadd K (dL_law_p3 35 rfl) ?_
  refine zi_eqi (v := nI ((8 * i) + 4)) (nI_add (8 * i) 4) ?_
  refine zi_bipush K (dL_law_p3 36 rfl) zk_b12 ?_
  refine zV.rmk (fun H h => h.1) (fun hk9 => ?_)
  refine zl_some K Y hL9 ((8 * i) + 4) 12 (by omega) (by omega) (by omega) (dL_law_p3 37 rfl) ⟨by omega, by omega, by omega, by omega⟩ (Nat.le_of_ble_eq_true rfl) ?_
  refine zi_istore K [(15, .int (nI (zsm Ls ys ((8 * i) + 4) 12))), (14, .int (zqc 0 (zsm Ls ys ((8 * i) + 3) 5))), (0, .ref bs), (1, .ref a), (2, .int (nI (sN σ 0))), (3, .int (nI (sN σ 1))), (4, .int (nI (sN σ 2))), (5, .int (nI (sN σ 3))), (6, .long cmt), (8, .ref o), (9, .int (nI i)), (10, .int (nI (8 * i)))] (dL_law_p3 38 rfl) (by decide) rfl ?_
  refine zi_aload_n K (dL_law_p3 39 rfl) 3 rfl ?_
  refine zi_iload K (dL_law_p3 40 rfl) 1 rfl ?_
  refine zi_ldcS K hs180 (dL_law_p3 41 rfl) ?_
  refine zi_aload_n K (dL_law_p3 42 rfl) 2 rfl ?_
  refine zi_iload K (dL_law_p3 43 rfl) 11 rfl ?_
  refine zi_iconst K (dL_law_p3 44 rfl) zk_i5 ?_
  refine zi_iadd K (dL_law_p3 45 rfl) ?_
  refine zi_eqi (v := nI ((8 * i) + 5)) (nI_add (8 * i) 5) ?_
  refine zi_iconst K (dL_law_p3 46 rfl) zk_i3 ?_
  refine zV.rmk (fun H h => h.1) (fun hk9 => ?_)
  refine zl_some K Y hL9 ((8 * i) + 5) 3 (by omega) (by omega) (by omega) (dL_law_p3 47 rfl) ⟨by omega, by omega, by omega, by omega⟩ (Nat.le_of_ble_eq_true rfl) ?_
  have qc1 := zsm_lt (Ls := Ls) (ys := ys) (i := 8 * i + 5) (m := 3) (by omega)
  refine zV.rmk (fun H h => h.1) (fun hk9 => ?_)
  refine zl_charAt K T9 1 (zsm Ls ys ((8 * i) + 5) 3) (by decide) qc1 (dL_law_p3 48 rfl) ⟨by omega, by omega, by omega, by omega⟩ (Nat.le_of_ble_eq_true rfl) ?_
  refine zi_iload K (dL_law_p3 49 rfl) 0 rfl ?_
  refine zi_iload K (dL_law_p4 0 rfl) 0 rfl ?_
  refine zi_aload_n K (dL_law_p4 1 rfl) 2 rfl ?_
  refine zi_iload K (dL_law_p4 2 rfl) 11 rfl ?_
  refine zi_bipush K (dL_law_p4 3 rfl) zk_b6 ?_
  refine zi_iadd K (dL_law_p4 4 rfl) ?_
  refine zi_eqi (v := nI ((8 * i) + 6)) (nI_add (8 * i) 6) ?_
  refine zi_bipush K (dL_law_p4 5 rfl) zk_b40 ?_
  refine zV.rmk (fun H h => h.1) (fun hk9 => ?_)
  refine zl_some K Y hL9 ((8 * i) + 6) 40 (by omega) (by omega) (by omega) (dL_law_p4 6 rfl) ⟨by omega, by omega, by omega, by omega⟩ (Nat.le_of_ble_eq_true rfl) ?_
  refine zi_iadd K (dL_law_p4 7 rfl) ?_
  refine zi_eqi (v := nI ((zsm Ls ys ((8 * i) + 4) 12) + (zsm Ls ys ((8 * i) + 6) 40))) (nI_add (zsm Ls ys ((8 * i) + 4) 12) (zsm Ls ys ((8 * i) + 6) 40)) ?_
  refine zi_iload K (dL_law_p4 8 rfl) 1 rfl ?_
  refine zi_bipush K (dL_law_p4 9 rfl) zk_b113 ?_
  refine zi_icmp_ne K 394 (dL_law_p4 10 rfl) rfl (fun h377_0 => ?_) (fun h377_0 => ?_)
  · skip
    refine zi_iconst K (dL_law_p4 18 rfl) zk_i1 ?_
    refine zi_aload_n K (dL_law_p4 19 rfl) 2 rfl ?_
    refine zi_iload K (dL_law_p4 20 rfl) 11 rfl ?_
    refine zi_bipush K (dL_law_p4 21 rfl) zk_b7 ?_
    refine zi_iadd K (dL_law_p4 22 rfl) ?_
    refine zi_eqi (v := nI ((8 * i) + 7)) (nI_add (8 * i) 7) ?_
    refine zi_sipush K (dL_law_p4 23 rfl) zk_s700 ?_
    refine zV.rmk (fun H h => h.1) (fun hk9 => ?_)
    refine zl_some K Y hL9 ((8 * i) + 7) 700 (by omega) (by omega) (by omega) (dL_law_p4 24 rfl) ⟨by omega, by omega, by omega, by omega⟩ (Nat.le_of_ble_eq_true rfl) ?_
    refine zi_iadd K (dL_law_p4 25 rfl) ?_
    refine zi_eqi (v := nI (1 + (zsm Ls ys ((8 * i) + 7) 700))) (nI_add 1 (zsm Ls ys ((8 * i) + 7) 700)) ?_
    refine zi_iload K (dL_law_p4 26 rfl) 1 rfl ?_
    refine zi_bipush K (dL_law_p4 27 rfl) zk_b115 ?_
    refine zi_icmp_ne K 430 (dL_law_p4 28 rfl) rfl (fun h412_1 => ?_) (fun h412_1 => ?_)
    · skip
      refine zi_iconst K (dL_law_p4 38 rfl) zk_i1 ?_
      refine zi_aload_n K (dL_law_p4 39 rfl) 2 rfl ?_
      refine zi_iload K (dL_law_p4 40 rfl) 11 rfl ?_
      refine zi_iconst K (dL_law_p4 41 rfl) zk_i2 ?_
      refine zi_iadd K (dL_law_p4 42 rfl) ?_
      refine zi_eqi (v := nI ((8 * i) + 2)) (nI_add (8 * i) 2) ?_
      refine zi_sipush K (dL_law_p4 43 rfl) zk_s600 ?_
      refine zV.rmk (fun H h => h.1) (fun hk9 => ?_)
      refine zl_some K Y hL9 ((8 * i) + 2) 600 (by omega) (by omega) (by omega) (dL_law_p4 44 rfl) ⟨by omega, by omega, by omega, by omega⟩ (Nat.le_of_ble_eq_true rfl) ?_
      refine zi_iadd K (dL_law_p4 45 rfl) ?_
      refine zi_eqi (v := nI (1 + (zsm Ls ys ((8 * i) + 2) 600))) (nI_add 1 (zsm Ls ys ((8 * i) + 2) 600)) ?_
      have q4_12 := zsm_lt (Ls := Ls) (ys := ys) (i := 8 * i + 4) (m := 12) (by omega)
      have q6_40 := zsm_lt (Ls := Ls) (ys := ys) (i := 8 * i + 6) (m := 40) (by omega)
      have q7_101 := zsm_lt (Ls := Ls) (ys := ys) (i := 8 * i + 7) (m := 101) (by omega)
      have q7_700 := zsm_lt (Ls := Ls) (ys := ys) (i := 8 * i + 7) (m := 700) (by omega)
      have q2_20 := zsm_lt (Ls := Ls) (ys := ys) (i := 8 * i + 2) (m := 20) (by omega)
      have q2_600 := zsm_lt (Ls := Ls) (ys := ys) (i := 8 * i + 2) (m := 600) (by omega)
      rcases Nat.lt_or_ge (sN σ 2) 8 with hc | hc
      · skip
        refine zw_callSW K (f := f) (B := B) (σ := σ) (σ' := s_treaty σ (zqc 0 (zsm Ls ys ((8 * i) + 3) 5)) (zqc 1 (zsm Ls ys ((8 * i) + 5) 3)) (nI (zsm Ls ys ((8 * i) + 4) 12)) (nI ((zsm Ls ys ((8 * i) + 4) 12) + (zsm Ls ys ((8 * i) + 6) 40))) (nI (1 + (zsm Ls ys ((8 * i) + 7) 700))) (nI (1 + (zsm Ls ys ((8 * i) + 2) 600)))) (As := [.ref a, .int (zqc 0 (zsm Ls ys ((8 * i) + 3) 5)), .int (zqc 1 (zsm Ls ys ((8 * i) + 5) 3)), .int (nI (zsm Ls ys ((8 * i) + 4) 12)), .int (nI ((zsm Ls ys ((8 * i) + 4) 12) + (zsm Ls ys ((8 * i) + 6) 40))), .int (nI (1 + (zsm Ls ys ((8 * i) + 7) 700))), .int (nI (1 + (zsm Ls ys ((8 * i) + 2) 600)))]) (na := 7) [] [.int (v_treaty σ (zqc 0 (zsm Ls ys ((8 * i) + 3) 5)) (zqc 1 (zsm Ls ys ((8 * i) + 5) 3)) (nI (zsm Ls ys ((8 * i) + 4) 12)) (nI ((zsm Ls ys ((8 * i) + 4) 12) + (zsm Ls ys ((8 * i) + 6) 40))) (nI (1 + (zsm Ls ys ((8 * i) + 7) 700))) (nI (1 + (zsm Ls ys ((8 * i) + 2) 600))))] (e_treaty (zqc 0 (zsm Ls ys ((8 * i) + 3) 5)) (zqc 1 (zsm Ls ys ((8 * i) + 5) 3)) (nI (zsm Ls ys ((8 * i) + 4) 12)) (nI ((zsm Ls ys ((8 * i) + 4) 12) + (zsm Ls ys ((8 * i) + 6) 40))) (nI (1 + (zsm Ls ys ((8 * i) + 7) 700))) (nI (1 + (zsm Ls ys ((8 * i) + 2) 600))) hw (isSpan_nI (by omega) (by omega)) (basis_ok qc1) (fits_ok (J := zsm Ls ys (8 * i + 3) 5) (a := 1 + (zsm Ls ys ((8 * i) + 7) 700)) (b := 1 + (zsm Ls ys ((8 * i) + 2) 600)) qc0 (fun h => by first | omega | (exfalso; contradiction)) (by omega) (fun h => by first | omega | (exfalso; contradiction)) (by omega) (fun h => by first | omega | (exfalso; contradiction)) (by omega)) hc (zqc_ch 0 (zsm Ls ys (8 * i + 3) 5) (by decide) qc0) (zqc_ch 1 (zsm Ls ys (8 * i + 5) 3) (by decide) qc1) (treaty_le σ (zqc 0 (zsm Ls ys ((8 * i) + 3) 5)) (zqc 1 (zsm Ls ys ((8 * i) + 5) 3)) (nI (zsm Ls ys ((8 * i) + 4) 12)) (nI ((zsm Ls ys ((8 * i) + 4) 12) + (zsm Ls ys ((8 * i) + 6) 40))) (nI (1 + (zsm Ls ys ((8 * i) + 7) 700))) (nI (1 + (zsm Ls ys ((8 * i) + 2) 600))))) (dL_law_p4 46 rfl) w_1072 w_1073 w_24 w_1074 (by decide +kernel) rfl ⟨by omega, by omega⟩ (hB (zqc 0 (zsm Ls ys ((8 * i) + 3) 5)) (zqc 1 (zsm Ls ys ((8 * i) + 5) 3)) (nI (zsm Ls ys ((8 * i) + 4) 12)) (nI ((zsm Ls ys ((8 * i) + 4) 12) + (zsm Ls ys ((8 * i) + 6) 40))) (nI (1 + (zsm Ls ys ((8 * i) + 7) 700))) (nI (1 + (zsm Ls ys ((8 * i) + 2) 600))) hc) (Nat.le_of_ble_eq_true rfl) rfl rfl ?_ k n
        show zVf G X 21 (zLw G o a (s_treaty σ (zqc 0 (zsm Ls ys ((8 * i) + 3) 5)) (zqc 1 (zsm Ls ys ((8 * i) + 5) 3)) (nI (zsm Ls ys ((8 * i) + 4) 12)) (nI ((zsm Ls ys ((8 * i) + 4) 12) + (zsm Ls ys ((8 * i) + 6) 40))) (nI (1 + (zsm Ls ys ((8 * i) + 7) 700))) (nI (1 + (zsm Ls ys ((8 * i) + 2) 600)))) f B) 446 [(15, .int (nI (zsm Ls ys ((8 * i) + 4) 12))), (14, .int (zqc 0 (zsm Ls ys ((8 * i) + 3) 5))), (0, .ref bs), (1, .ref a), (2, .int (nI (sN σ 0))), (3, .int (nI (sN σ 1))), (4, .int (nI (sN σ 2))), (5, .int (nI (sN σ 3))), (6, .long cmt), (8, .ref o), (9, .int (nI i)), (10, .int (nI (8 * i)))] [.int (v_treaty σ (zqc 0 (zsm Ls ys ((8 * i) + 3) 5)) (zqc 1 (zsm Ls ys ((8 * i) + 5) 3)) (nI (zsm Ls ys ((8 * i) + 4) 12)) (nI ((zsm Ls ys ((8 * i) + 4) 12) + (zsm Ls ys ((8 * i) + 6) 40))) (nI (1 + (zsm Ls ys ((8 * i) + 7) 700))) (nI (1 + (zsm Ls ys ((8 * i) + 2) 600))))]
        intro k n
        refine zi_eqi (v := nI (sN σ 2)) rfl ?_
        refine zi_istore K [(16, .int (nI (sN σ 2))), (15, .int (nI (zsm Ls ys ((8 * i) + 4) 12))), (14, .int (zqc 0 (zsm Ls ys ((8 * i) + 3) 5))), (0, .ref bs), (1, .ref a), (2, .int (nI (sN σ 0))), (3, .int (nI (sN σ 1))), (4, .int (nI (sN σ 2))), (5, .int (nI (sN σ 3))), (6, .long cmt), (8, .ref o), (9, .int (nI i)), (10, .int (nI (8 * i)))] (dL_law_p4 47 rfl) (by decide) rfl ?_
        refine zi_iload K (dL_law_p4 48 rfl) 0 rfl ?_
        refine zi_iload K (dL_law_p4 49 rfl) 7 rfl ?_
        refine zi_bipush K (dL_law_p5 0 rfl) zk_b8 ?_
        refine zi_icmp_ne K 462 (dL_law_p5 1 rfl) rfl (fun h454_2 => ?_) (fun h454_2 => ?_)
        rotate_left
        · exact absurd h454_2 (fun h9 => absurd (nI_lt (b := 8) hc (by decide)) (by rw [h9]; decide))
        refine zi_iload K (dL_law_p5 4 rfl) 7 rfl ?_
        refine zi_icmp_eq K 469 (dL_law_p5 5 rfl) rfl (fun h464_2 => ?_) (fun h464_2 => ?_)
        rotate_left
        · exact absurd rfl h464_2
        refine zi_iload K (dL_law_p5 8 rfl) 7 rfl ?_
        refine zi_iload K (dL_law_p5 9 rfl) 0 rfl ?_
        refine zi_if_ge K 480 (dL_law_p5 10 rfl) rfl (fun h473_2 => ?_) (fun h473_2 => ?_)
        rotate_left
        · exact absurd (nI_pos' (n := sN σ 2) (by omega)) h473_2
        refine zi_iconst K (dL_law_p5 13 rfl) zk_i1 ?_
        refine zi_iadd K (dL_law_p5 14 rfl) ?_
        refine zi_eqi (v := nI ((sN σ 2) + 1)) (nI_add (sN σ 2) 1) ?_
        refine zi_istore K [(4, .int (nI ((sN σ 2) + 1))), (16, .int (nI (sN σ 2))), (15, .int (nI (zsm Ls ys ((8 * i) + 4) 12))), (14, .int (zqc 0 (zsm Ls ys ((8 * i) + 3) 5))), (0, .ref bs), (1, .ref a), (2, .int (nI (sN σ 0))), (3, .int (nI (sN σ 1))), (5, .int (nI (sN σ 3))), (6, .long cmt), (8, .ref o), (9, .int (nI i)), (10, .int (nI (8 * i)))] (dL_law_p5 15 rfl) (by decide) rfl ?_
        refine zi_goto K 1296 (dL_law_p5 16 rfl) rfl ?_
        refine zV.pick [4, 5, 6, 7, 0, 8, 9, 10, 11] (lo' := [(0, .ref bs), (1, .ref a), (2, .int (nI (sN σ 0))), (3, .int (nI (sN σ 1))), (4, .int (nI ((sN σ 2) + 1))), (5, .int (nI (sN σ 3))), (6, .long cmt), (8, .ref o), (9, .int (nI i))]) rfl ?_
        exact (kkA (zqc 0 (zsm Ls ys ((8 * i) + 3) 5)) (zqc 1 (zsm Ls ys ((8 * i) + 5) 3)) (nI (zsm Ls ys ((8 * i) + 4) 12)) (nI ((zsm Ls ys ((8 * i) + 4) 12) + (zsm Ls ys ((8 * i) + 6) 40))) (nI (1 + (zsm Ls ys ((8 * i) + 7) 700))) (nI (1 + (zsm Ls ys ((8 * i) + 2) 600))) hc (isSpan_nI (by omega) (by omega)) (basis_ok qc1) (fits_ok (J := zsm Ls ys (8 * i + 3) 5) (a := 1 + (zsm Ls ys ((8 * i) + 7) 700)) (b := 1 + (zsm Ls ys ((8 * i) + 2) 600)) qc0 (fun h => by first | omega | (exfalso; contradiction)) (by omega) (fun h => by first | omega | (exfalso; contradiction)) (by omega) (fun h => by first | omega | (exfalso; contradiction)) (by omega)) (isOut_nI (lo := 1) (hi := 1000000) (by omega) (by omega) (by omega))) k n
      · skip
        have hc : sN σ 2 = 8 := Nat.le_antisymm hw.1.2.2.2.1.2 hc
        refine zw_callSW K (f := f) (B := B) (σ := σ) (σ' := σ) (As := [.ref a, .int (zqc 0 (zsm Ls ys ((8 * i) + 3) 5)), .int (zqc 1 (zsm Ls ys ((8 * i) + 5) 3)), .int (nI (zsm Ls ys ((8 * i) + 4) 12)), .int (nI ((zsm Ls ys ((8 * i) + 4) 12) + (zsm Ls ys ((8 * i) + 6) 40))), .int (nI (1 + (zsm Ls ys ((8 * i) + 7) 700))), .int (nI (1 + (zsm Ls ys ((8 * i) + 2) 600)))]) (na := 7) [] [.int (-1000000)] (e_treatyF (zqc 0 (zsm Ls ys ((8 * i) + 3) 5)) (zqc 1 (zsm Ls ys ((8 * i) + 5) 3)) (nI (zsm Ls ys ((8 * i) + 4) 12)) (nI ((zsm Ls ys ((8 * i) + 4) 12) + (zsm Ls ys ((8 * i) + 6) 40))) (nI (1 + (zsm Ls ys ((8 * i) + 7) 700))) (nI (1 + (zsm Ls ys ((8 * i) + 2) 600))) hw (isSpan_nI (by omega) (by omega)) (basis_ok qc1) (fits_ok (J := zsm Ls ys (8 * i + 3) 5) (a := 1 + (zsm Ls ys ((8 * i) + 7) 700)) (b := 1 + (zsm Ls ys ((8 * i) + 2) 600)) qc0 (fun h => by first | omega | (exfalso; contradiction)) (by omega) (fun h => by first | omega | (exfalso; contradiction)) (by omega) (fun h => by first | omega | (exfalso; contradiction)) (by omega)) hc) (dL_law_p4 46 rfl) w_1072 w_1073 w_24 w_1074 (by decide +kernel) rfl ⟨by omega, by omega⟩ hB1 (Nat.le_of_ble_eq_true rfl) rfl rfl ?_ k n
        show zVf G X 21 (zLw G o a σ f (B + 1)) 446 [(15, .int (nI (zsm Ls ys ((8 * i) + 4) 12))), (14, .int (zqc 0 (zsm Ls ys ((8 * i) + 3) 5))), (0, .ref bs), (1, .ref a), (2, .int (nI (sN σ 0))), (3, .int (nI (sN σ 1))), (4, .int (nI (sN σ 2))), (5, .int (nI (sN σ 3))), (6, .long cmt), (8, .ref o), (9, .int (nI i)), (10, .int (nI (8 * i)))] [.int (-1000000)]
        intro k n
        refine zi_istore K [(16, .int (-1000000)), (15, .int (nI (zsm Ls ys ((8 * i) + 4) 12))), (14, .int (zqc 0 (zsm Ls ys ((8 * i) + 3) 5))), (0, .ref bs), (1, .ref a), (2, .int (nI (sN σ 0))), (3, .int (nI (sN σ 1))), (4, .int (nI (sN σ 2))), (5, .int (nI (sN σ 3))), (6, .long cmt), (8, .ref o), (9, .int (nI i)), (10, .int (nI (8 * i)))] (dL_law_p4 47 rfl) (by decide) rfl ?_
        refine zi_iload K (dL_law_p4 48 rfl) 0 rfl ?_
        refine zi_iload K (dL_law_p4 49 rfl) 7 rfl ?_
        refine zi_bipush K (dL_law_p5 0 rfl) zk_b8 ?_
        refine zi_icmp_ne K 462 (dL_law_p5 1 rfl) rfl (fun h454_2 => ?_) (fun h454_2 => ?_)
        · exact absurd (by rw [hc]; rfl) h454_2
        refine zi_ldc K (dL_law_p5 2 rfl) w_777 ?_
        refine zi_goto K 464 (dL_law_p5 3 rfl) rfl ?_
        refine zi_icmp_eq K 469 (dL_law_p5 5 rfl) rfl (fun h464_2 => ?_) (fun h464_2 => ?_)
        rotate_left
        · exact absurd rfl h464_2
        refine zi_iload K (dL_law_p5 8 rfl) 7 rfl ?_
        refine zi_iload K (dL_law_p5 9 rfl) 0 rfl ?_
        refine zi_if_ge K 480 (dL_law_p5 10 rfl) rfl (fun h473_2 => ?_) (fun h473_2 => ?_)
        · exact absurd h473_2 (by decide)
        refine zi_iconst K (dL_law_p5 11 rfl) zk_i0 ?_
        refine zi_goto K 481 (dL_law_p5 12 rfl) rfl ?_
        refine zi_iadd K (dL_law_p5 14 rfl) ?_
        refine zi_eqi (v := nI ((sN σ 2) + 0)) (nI_add (sN σ 2) 0) ?_
        refine zi_istore K [(4, .int (nI ((sN σ 2) + 0))), (16, .int (-1000000)), (15, .int (nI (zsm Ls ys ((8 * i) + 4) 12))), (14, .int (zqc 0 (zsm Ls ys ((8 * i) + 3) 5))), (0, .ref bs), (1, .ref a), (2, .int (nI (sN σ 0))), (3, .int (nI (sN σ 1))), (5, .int (nI (sN σ 3))), (6, .long cmt), (8, .ref o), (9, .int (nI i)), (10, .int (nI (8 * i)))] (dL_law_p5 15 rfl) (by decide) rfl ?_
        refine zi_goto K 1296 (dL_law_p5 16 rfl) rfl ?_
        refine zV.pick [4, 5, 6, 7, 0, 8, 9, 10, 11] (lo' := [(0, .ref bs), (1, .ref a), (2, .int (nI (sN σ 0))), (3, .int (nI (sN σ 1))), (4, .int (nI ((sN σ 2) + 0))), (5, .int (nI (sN σ 3))), (6, .long cmt), (8, .ref o), (9, .int (nI i))]) rfl ?_
        exact (kkB hc) k n
    · skip
      refine zi_iconst K (dL_law_p4 29 rfl) zk_i1 ?_
      refine zi_aload_n K (dL_law_p4 30 rfl) 2 rfl ?_
      refine zi_iload K (dL_law_p4 31 rfl) 11 rfl ?_
      refine zi_iconst K (dL_law_p4 32 rfl) zk_i2 ?_
      refine zi_iadd K (dL_law_p4 33 rfl) ?_
      refine zi_eqi (v := nI ((8 * i) + 2)) (nI_add (8 * i) 2) ?_
      refine zi_bipush K (dL_law_p4 34 rfl) zk_b20 ?_
      refine zV.rmk (fun H h => h.1) (fun hk9 => ?_)
      refine zl_some K Y hL9 ((8 * i) + 2) 20 (by omega) (by omega) (by omega) (dL_law_p4 35 rfl) ⟨by omega, by omega, by omega, by omega⟩ (Nat.le_of_ble_eq_true rfl) ?_
      refine zi_iadd K (dL_law_p4 36 rfl) ?_
      refine zi_eqi (v := nI (1 + (zsm Ls ys ((8 * i) + 2) 20))) (nI_add 1 (zsm Ls ys ((8 * i) + 2) 20)) ?_
      refine zi_goto K 443 (dL_law_p4 37 rfl) rfl ?_
      have q4_12 := zsm_lt (Ls := Ls) (ys := ys) (i := 8 * i + 4) (m := 12) (by omega)
      have q6_40 := zsm_lt (Ls := Ls) (ys := ys) (i := 8 * i + 6) (m := 40) (by omega)
      have q7_101 := zsm_lt (Ls := Ls) (ys := ys) (i := 8 * i + 7) (m := 101) (by omega)
      have q7_700 := zsm_lt (Ls := Ls) (ys := ys) (i := 8 * i + 7) (m := 700) (by omega)
      have q2_20 := zsm_lt (Ls := Ls) (ys := ys) (i := 8 * i + 2) (m := 20) (by omega)
      have q2_600 := zsm_lt (Ls := Ls) (ys := ys) (i := 8 * i + 2) (m := 600) (by omega)
      rcases Nat.lt_or_ge (sN σ 2) 8 with hc | hc
      · skip
        refine zw_callSW K (f := f) (B := B) (σ := σ) (σ' := s_treaty σ (zqc 0 (zsm Ls ys ((8 * i) + 3) 5)) (zqc 1 (zsm Ls ys ((8 * i) + 5) 3)) (nI (zsm Ls ys ((8 * i) + 4) 12)) (nI ((zsm Ls ys ((8 * i) + 4) 12) + (zsm Ls ys ((8 * i) + 6) 40))) (nI (1 + (zsm Ls ys ((8 * i) + 7) 700))) (nI (1 + (zsm Ls ys ((8 * i) + 2) 20)))) (As := [.ref a, .int (zqc 0 (zsm Ls ys ((8 * i) + 3) 5)), .int (zqc 1 (zsm Ls ys ((8 * i) + 5) 3)), .int (nI (zsm Ls ys ((8 * i) + 4) 12)), .int (nI ((zsm Ls ys ((8 * i) + 4) 12) + (zsm Ls ys ((8 * i) + 6) 40))), .int (nI (1 + (zsm Ls ys ((8 * i) + 7) 700))), .int (nI (1 + (zsm Ls ys ((8 * i) + 2) 20)))]) (na := 7) [] [.int (v_treaty σ (zqc 0 (zsm Ls ys ((8 * i) + 3) 5)) (zqc 1 (zsm Ls ys ((8 * i) + 5) 3)) (nI (zsm Ls ys ((8 * i) + 4) 12)) (nI ((zsm Ls ys ((8 * i) + 4) 12) + (zsm Ls ys ((8 * i) + 6) 40))) (nI (1 + (zsm Ls ys ((8 * i) + 7) 700))) (nI (1 + (zsm Ls ys ((8 * i) + 2) 20))))] (e_treaty (zqc 0 (zsm Ls ys ((8 * i) + 3) 5)) (zqc 1 (zsm Ls ys ((8 * i) + 5) 3)) (nI (zsm Ls ys ((8 * i) + 4) 12)) (nI ((zsm Ls ys ((8 * i) + 4) 12) + (zsm Ls ys ((8 * i) + 6) 40))) (nI (1 + (zsm Ls ys ((8 * i) + 7) 700))) (nI (1 + (zsm Ls ys ((8 * i) + 2) 20))) hw (isSpan_nI (by omega) (by omega)) (basis_ok qc1) (fits_ok (J := zsm Ls ys (8 * i + 3) 5) (a := 1 + (zsm Ls ys ((8 * i) + 7) 700)) (b := 1 + (zsm Ls ys ((8 * i) + 2) 20)) qc0 (fun h => by first | omega | (exfalso; contradiction)) (by omega) (fun h => by first | omega | (exfalso; contradiction)) (by omega) (fun h => by first | omega | (exfalso; contradiction)) (by omega)) hc (zqc_ch 0 (zsm Ls ys (8 * i + 3) 5) (by decide) qc0) (zqc_ch 1 (zsm Ls ys (8 * i + 5) 3) (by decide) qc1) (treaty_le σ (zqc 0 (zsm Ls ys ((8 * i) + 3) 5)) (zqc 1 (zsm Ls ys ((8 * i) + 5) 3)) (nI (zsm Ls ys ((8 * i) + 4) 12)) (nI ((zsm Ls ys ((8 * i) + 4) 12) + (zsm Ls ys ((8 * i) + 6) 40))) (nI (1 + (zsm Ls ys ((8 * i) + 7) 700))) (nI (1 + (zsm Ls ys ((8 * i) + 2) 20))))) (dL_law_p4 46 rfl) w_1072 w_1073 w_24 w_1074 (by decide +kernel) rfl ⟨by omega, by omega⟩ (hB (zqc 0 (zsm Ls ys ((8 * i) + 3) 5)) (zqc 1 (zsm Ls ys ((8 * i) + 5) 3)) (nI (zsm Ls ys ((8 * i) + 4) 12)) (nI ((zsm Ls ys ((8 * i) + 4) 12) + (zsm Ls ys ((8 * i) + 6) 40))) (nI (1 + (zsm Ls ys ((8 * i) + 7) 700))) (nI (1 + (zsm Ls ys ((8 * i) + 2) 20))) hc) (Nat.le_of_ble_eq_true rfl) rfl rfl ?_ k n
        show zVf G X 21 (zLw G o a (s_treaty σ (zqc 0 (zsm Ls ys ((8 * i) + 3) 5)) (zqc 1 (zsm Ls ys ((8 * i) + 5) 3)) (nI (zsm Ls ys ((8 * i) + 4) 12)) (nI ((zsm Ls ys ((8 * i) + 4) 12) + (zsm Ls ys ((8 * i) + 6) 40))) (nI (1 + (zsm Ls ys ((8 * i) + 7) 700))) (nI (1 + (zsm Ls ys ((8 * i) + 2) 20)))) f B) 446 [(15, .int (nI (zsm Ls ys ((8 * i) + 4) 12))), (14, .int (zqc 0 (zsm Ls ys ((8 * i) + 3) 5))), (0, .ref bs), (1, .ref a), (2, .int (nI (sN σ 0))), (3, .int (nI (sN σ 1))), (4, .int (nI (sN σ 2))), (5, .int (nI (sN σ 3))), (6, .long cmt), (8, .ref o), (9, .int (nI i)), (10, .int (nI (8 * i)))] [.int (v_treaty σ (zqc 0 (zsm Ls ys ((8 * i) + 3) 5)) (zqc 1 (zsm Ls ys ((8 * i) + 5) 3)) (nI (zsm Ls ys ((8 * i) + 4) 12)) (nI ((zsm Ls ys ((8 * i) + 4) 12) + (zsm Ls ys ((8 * i) + 6) 40))) (nI (1 + (zsm Ls ys ((8 * i) + 7) 700))) (nI (1 + (zsm Ls ys ((8 * i) + 2) 20))))]
        intro k n
        refine zi_eqi (v := nI (sN σ 2)) rfl ?_
        refine zi_istore K [(16, .int (nI (sN σ 2))), (15, .int (nI (zsm Ls ys ((8 * i) + 4) 12))), (14, .int (zqc 0 (zsm Ls ys ((8 * i) + 3) 5))), (0, .ref bs), (1, .ref a), (2, .int (nI (sN σ 0))), (3, .int (nI (sN σ 1))), (4, .int (nI (sN σ 2))), (5, .int (nI (sN σ 3))), (6, .long cmt), (8, .ref o), (9, .int (nI i)), (10, .int (nI (8 * i)))] (dL_law_p4 47 rfl) (by decide) rfl ?_
        refine zi_iload K (dL_law_p4 48 rfl) 0 rfl ?_
        refine zi_iload K (dL_law_p4 49 rfl) 7 rfl ?_
        refine zi_bipush K (dL_law_p5 0 rfl) zk_b8 ?_
        refine zi_icmp_ne K 462 (dL_law_p5 1 rfl) rfl (fun h454_2 => ?_) (fun h454_2 => ?_)
        rotate_left
        · exact absurd h454_2 (fun h9 => absurd (nI_lt (b := 8) hc (by decide)) (by rw [h9]; decide))
        refine zi_iload K (dL_law_p5 4 rfl) 7 rfl ?_
        refine zi_icmp_eq K 469 (dL_law_p5 5 rfl) rfl (fun h464_2 => ?_) (fun h464_2 => ?_)
        rotate_left
        · exact absurd rfl h464_2
        refine zi_iload K (dL_law_p5 8 rfl) 7 rfl ?_
        refine zi_iload K (dL_law_p5 9 rfl) 0 rfl ?_
        refine zi_if_ge K 480 (dL_law_p5 10 rfl) rfl (fun h473_2 => ?_) (fun h473_2 => ?_)
        rotate_left
        · exact absurd (nI_pos' (n := sN σ 2) (by omega)) h473_2
        refine zi_iconst K (dL_law_p5 13 rfl) zk_i1 ?_
        refine zi_iadd K (dL_law_p5 14 rfl) ?_
        refine zi_eqi (v := nI ((sN σ 2) + 1)) (nI_add (sN σ 2) 1) ?_
        refine zi_istore K [(4, .int (nI ((sN σ 2) + 1))), (16, .int (nI (sN σ 2))), (15, .int (nI (zsm Ls ys ((8 * i) + 4) 12))), (14, .int (zqc 0 (zsm Ls ys ((8 * i) + 3) 5))), (0, .ref bs), (1, .ref a), (2, .int (nI (sN σ 0))), (3, .int (nI (sN σ 1))), (5, .int (nI (sN σ 3))), (6, .long cmt), (8, .ref o), (9, .int (nI i)), (10, .int (nI (8 * i)))] (dL_law_p5 15 rfl) (by decide) rfl ?_
        refine zi_goto K 1296 (dL_law_p5 16 rfl) rfl ?_
        refine zV.pick [4, 5, 6, 7, 0, 8, 9, 10, 11] (lo' := [(0, .ref bs), (1, .ref a), (2, .int (nI (sN σ 0))), (3, .int (nI (sN σ 1))), (4, .int (nI ((sN σ 2) + 1))), (5, .int (nI (sN σ 3))), (6, .long cmt), (8, .ref o), (9, .int (nI i))]) rfl ?_
        exact (kkA (zqc 0 (zsm Ls ys ((8 * i) + 3) 5)) (zqc 1 (zsm Ls ys ((8 * i) + 5) 3)) (nI (zsm Ls ys ((8 * i) + 4) 12)) (nI ((zsm Ls ys ((8 * i) + 4) 12) + (zsm Ls ys ((8 * i) + 6) 40))) (nI (1 + (zsm Ls ys ((8 * i) + 7) 700))) (nI (1 + (zsm Ls ys ((8 * i) + 2) 20))) hc (isSpan_nI (by omega) (by omega)) (basis_ok qc1) (fits_ok (J := zsm Ls ys (8 * i + 3) 5) (a := 1 + (zsm Ls ys ((8 * i) + 7) 700)) (b := 1 + (zsm Ls ys ((8 * i) + 2) 20)) qc0 (fun h => by first | omega | (exfalso; contradiction)) (by omega) (fun h => by first | omega | (exfalso; contradiction)) (by omega) (fun h => by first | omega | (exfalso; contradiction)) (by omega)) (isOut_nI (lo := 1) (hi := 1000000) (by omega) (by omega) (by omega))) k n
      · skip
        have hc : sN σ 2 = 8 := Nat.le_antisymm hw.1.2.2.2.1.2 hc
        refine zw_callSW K (f := f) (B := B) (σ := σ) (σ' := σ) (As := [.ref a, .int (zqc 0 (zsm Ls ys ((8 * i) + 3) 5)), .int (zqc 1 (zsm Ls ys ((8 * i) + 5) 3)), .int (nI (zsm Ls ys ((8 * i) + 4) 12)), .int (nI ((zsm Ls ys ((8 * i) + 4) 12) + (zsm Ls ys ((8 * i) + 6) 40))), .int (nI (1 + (zsm Ls ys ((8 * i) + 7) 700))), .int (nI (1 + (zsm Ls ys ((8 * i) + 2) 20)))]) (na := 7) [] [.int (-1000000)] (e_treatyF (zqc 0 (zsm Ls ys ((8 * i) + 3) 5)) (zqc 1 (zsm Ls ys ((8 * i) + 5) 3)) (nI (zsm Ls ys ((8 * i) + 4) 12)) (nI ((zsm Ls ys ((8 * i) + 4) 12) + (zsm Ls ys ((8 * i) + 6) 40))) (nI (1 + (zsm Ls ys ((8 * i) + 7) 700))) (nI (1 + (zsm Ls ys ((8 * i) + 2) 20))) hw (isSpan_nI (by omega) (by omega)) (basis_ok qc1) (fits_ok (J := zsm Ls ys (8 * i + 3) 5) (a := 1 + (zsm Ls ys ((8 * i) + 7) 700)) (b := 1 + (zsm Ls ys ((8 * i) + 2) 20)) qc0 (fun h => by first | omega | (exfalso; contradiction)) (by omega) (fun h => by first | omega | (exfalso; contradiction)) (by omega) (fun h => by first | omega | (exfalso; contradiction)) (by omega)) hc) (dL_law_p4 46 rfl) w_1072 w_1073 w_24 w_1074 (by decide +kernel) rfl ⟨by omega, by omega⟩ hB1 (Nat.le_of_ble_eq_true rfl) rfl rfl ?_ k n
        show zVf G X 21 (zLw G o a σ f (B + 1)) 446 [(15, .int (nI (zsm Ls ys ((8 * i) + 4) 12))), (14, .int (zqc 0 (zsm Ls ys ((8 * i) + 3) 5))), (0, .ref bs), (1, .ref a), (2, .int (nI (sN σ 0))), (3, .int (nI (sN σ 1))), (4, .int (nI (sN σ 2))), (5, .int (nI (sN σ 3))), (6, .long cmt), (8, .ref o), (9, .int (nI i)), (10, .int (nI (8 * i)))] [.int (-1000000)]
        intro k n
        refine zi_istore K [(16, .int (-1000000)), (15, .int (nI (zsm Ls ys ((8 * i) + 4) 12))), (14, .int (zqc 0 (zsm Ls ys ((8 * i) + 3) 5))), (0, .ref bs), (1, .ref a), (2, .int (nI (sN σ 0))), (3, .int (nI (sN σ 1))), (4, .int (nI (sN σ 2))), (5, .int (nI (sN σ 3))), (6, .long cmt), (8, .ref o), (9, .int (nI i)), (10, .int (nI (8 * i)))] (dL_law_p4 47 rfl) (by decide) rfl ?_
        refine zi_iload K (dL_law_p4 48 rfl) 0 rfl ?_
        refine zi_iload K (dL_law_p4 49 rfl) 7 rfl ?_
        refine zi_bipush K (dL_law_p5 0 rfl) zk_b8 ?_
        refine zi_icmp_ne K 462 (dL_law_p5 1 rfl) rfl (fun h454_2 => ?_) (fun h454_2 => ?_)
        · exact absurd (by rw [hc]; rfl) h454_2
        refine zi_ldc K (dL_law_p5 2 rfl) w_777 ?_
        refine zi_goto K 464 (dL_law_p5 3 rfl) rfl ?_
        refine zi_icmp_eq K 469 (dL_law_p5 5 rfl) rfl (fun h464_2 => ?_) (fun h464_2 => ?_)
        rotate_left
        · exact absurd rfl h464_2
        refine zi_iload K (dL_law_p5 8 rfl) 7 rfl ?_
        refine zi_iload K (dL_law_p5 9 rfl) 0 rfl ?_
        refine zi_if_ge K 480 (dL_law_p5 10 rfl) rfl (fun h473_2 => ?_) (fun h473_2 => ?_)
        · exact absurd h473_2 (by decide)
        refine zi_iconst K (dL_law_p5 11 rfl) zk_i0 ?_
        refine zi_goto K 481 (dL_law_p5 12 rfl) rfl ?_
        refine zi_iadd K (dL_law_p5 14 rfl) ?_
        refine zi_eqi (v := nI ((sN σ 2) + 0)) (nI_add (sN σ 2) 0) ?_
        refine zi_istore K [(4, .int (nI ((sN σ 2) + 0))), (16, .int (-1000000)), (15, .int (nI (zsm Ls ys ((8 * i) + 4) 12))), (14, .int (zqc 0 (zsm Ls ys ((8 * i) + 3) 5))), (0, .ref bs), (1, .ref a), (2, .int (nI (sN σ 0))), (3, .int (nI (sN σ 1))), (5, .int (nI (sN σ 3))), (6, .long cmt), (8, .ref o), (9, .int (nI i)), (10, .int (nI (8 * i)))] (dL_law_p5 15 rfl) (by decide) rfl ?_
        refine zi_goto K 1296 (dL_law_p5 16 rfl) rfl ?_
        refine zV.pick [4, 5, 6, 7, 0, 8, 9, 10, 11] (lo' := [(0, .ref bs), (1, .ref a), (2, .int (nI (sN σ 0))), (3, .int (nI (sN σ 1))), (4, .int (nI ((sN σ 2) + 0))), (5, .int (nI (sN σ 3))), (6, .long cmt), (8, .ref o), (9, .int (nI i))]) rfl ?_
        exact (kkB hc) k n
  · skip
    refine zi_aload_n K (dL_law_p4 11 rfl) 2 rfl ?_
    refine zi_iload K (dL_law_p4 12 rfl) 11 rfl ?_
    refine zi_bipush K (dL_law_p4 13 rfl) zk_b7 ?_
    refine zi_iadd K (dL_law_p4 14 rfl) ?_
    refine zi_eqi (v := nI ((8 * i) + 7)) (nI_add (8 * i) 7) ?_
    refine zi_bipush K (dL_law_p4 15 rfl) zk_b101 ?_
    refine zV.rmk (fun H h => h.1) (fun hk9 => ?_)
    refine zl_some K Y hL9 ((8 * i) + 7) 101 (by omega) (by omega) (by omega) (dL_law_p4 16 rfl) ⟨by omega, by omega, by omega, by omega⟩ (Nat.le_of_ble_eq_true rfl) ?_
    refine zi_goto K 408 (dL_law_p4 17 rfl) rfl ?_
    refine zi_iload K (dL_law_p4 26 rfl) 1 rfl ?_
    refine zi_bipush K (dL_law_p4 27 rfl) zk_b115 ?_
    refine zi_icmp_ne K 430 (dL_law_p4 28 rfl) rfl (fun h412_1 => ?_) (fun h412_1 => ?_)
    · skip
      refine zi_iconst K (dL_law_p4 38 rfl) zk_i1 ?_
      refine zi_aload_n K (dL_law_p4 39 rfl) 2 rfl ?_
      refine zi_iload K (dL_law_p4 40 rfl) 11 rfl ?_
      refine zi_iconst K (dL_law_p4 41 rfl) zk_i2 ?_
      refine zi_iadd K (dL_law_p4 42 rfl) ?_
      refine zi_eqi (v := nI ((8 * i) + 2)) (nI_add (8 * i) 2) ?_
      refine zi_sipush K (dL_law_p4 43 rfl) zk_s600 ?_
      refine zV.rmk (fun H h => h.1) (fun hk9 => ?_)
      refine zl_some K Y hL9 ((8 * i) + 2) 600 (by omega) (by omega) (by omega) (dL_law_p4 44 rfl) ⟨by omega, by omega, by omega, by omega⟩ (Nat.le_of_ble_eq_true rfl) ?_
      refine zi_iadd K (dL_law_p4 45 rfl) ?_
      refine zi_eqi (v := nI (1 + (zsm Ls ys ((8 * i) + 2) 600))) (nI_add 1 (zsm Ls ys ((8 * i) + 2) 600)) ?_
      have q4_12 := zsm_lt (Ls := Ls) (ys := ys) (i := 8 * i + 4) (m := 12) (by omega)
      have q6_40 := zsm_lt (Ls := Ls) (ys := ys) (i := 8 * i + 6) (m := 40) (by omega)
      have q7_101 := zsm_lt (Ls := Ls) (ys := ys) (i := 8 * i + 7) (m := 101) (by omega)
      have q7_700 := zsm_lt (Ls := Ls) (ys := ys) (i := 8 * i + 7) (m := 700) (by omega)
      have q2_20 := zsm_lt (Ls := Ls) (ys := ys) (i := 8 * i + 2) (m := 20) (by omega)
      have q2_600 := zsm_lt (Ls := Ls) (ys := ys) (i := 8 * i + 2) (m := 600) (by omega)
      rcases Nat.lt_or_ge (sN σ 2) 8 with hc | hc
      · skip
        refine zw_callSW K (f := f) (B := B) (σ := σ) (σ' := s_treaty σ (zqc 0 (zsm Ls ys ((8 * i) + 3) 5)) (zqc 1 (zsm Ls ys ((8 * i) + 5) 3)) (nI (zsm Ls ys ((8 * i) + 4) 12)) (nI ((zsm Ls ys ((8 * i) + 4) 12) + (zsm Ls ys ((8 * i) + 6) 40))) (nI (zsm Ls ys ((8 * i) + 7) 101)) (nI (1 + (zsm Ls ys ((8 * i) + 2) 600)))) (As := [.ref a, .int (zqc 0 (zsm Ls ys ((8 * i) + 3) 5)), .int (zqc 1 (zsm Ls ys ((8 * i) + 5) 3)), .int (nI (zsm Ls ys ((8 * i) + 4) 12)), .int (nI ((zsm Ls ys ((8 * i) + 4) 12) + (zsm Ls ys ((8 * i) + 6) 40))), .int (nI (zsm Ls ys ((8 * i) + 7) 101)), .int (nI (1 + (zsm Ls ys ((8 * i) + 2) 600)))]) (na := 7) [] [.int (v_treaty σ (zqc 0 (zsm Ls ys ((8 * i) + 3) 5)) (zqc 1 (zsm Ls ys ((8 * i) + 5) 3)) (nI (zsm Ls ys ((8 * i) + 4) 12)) (nI ((zsm Ls ys ((8 * i) + 4) 12) + (zsm Ls ys ((8 * i) + 6) 40))) (nI (zsm Ls ys ((8 * i) + 7) 101)) (nI (1 + (zsm Ls ys ((8 * i) + 2) 600))))] (e_treaty (zqc 0 (zsm Ls ys ((8 * i) + 3) 5)) (zqc 1 (zsm Ls ys ((8 * i) + 5) 3)) (nI (zsm Ls ys ((8 * i) + 4) 12)) (nI ((zsm Ls ys ((8 * i) + 4) 12) + (zsm Ls ys ((8 * i) + 6) 40))) (nI (zsm Ls ys ((8 * i) + 7) 101)) (nI (1 + (zsm Ls ys ((8 * i) + 2) 600))) hw (isSpan_nI (by omega) (by omega)) (basis_ok qc1) (fits_ok (J := zsm Ls ys (8 * i + 3) 5) (a := zsm Ls ys ((8 * i) + 7) 101) (b := 1 + (zsm Ls ys ((8 * i) + 2) 600)) qc0 (fun h => by first | omega | (exfalso; contradiction)) (by omega) (fun h => by first | omega | (exfalso; contradiction)) (by omega) (fun h => by first | omega | (exfalso; contradiction)) (by omega)) hc (zqc_ch 0 (zsm Ls ys (8 * i + 3) 5) (by decide) qc0) (zqc_ch 1 (zsm Ls ys (8 * i + 5) 3) (by decide) qc1) (treaty_le σ (zqc 0 (zsm Ls ys ((8 * i) + 3) 5)) (zqc 1 (zsm Ls ys ((8 * i) + 5) 3)) (nI (zsm Ls ys ((8 * i) + 4) 12)) (nI ((zsm Ls ys ((8 * i) + 4) 12) + (zsm Ls ys ((8 * i) + 6) 40))) (nI (zsm Ls ys ((8 * i) + 7) 101)) (nI (1 + (zsm Ls ys ((8 * i) + 2) 600))))) (dL_law_p4 46 rfl) w_1072 w_1073 w_24 w_1074 (by decide +kernel) rfl ⟨by omega, by omega⟩ (hB (zqc 0 (zsm Ls ys ((8 * i) + 3) 5)) (zqc 1 (zsm Ls ys ((8 * i) + 5) 3)) (nI (zsm Ls ys ((8 * i) + 4) 12)) (nI ((zsm Ls ys ((8 * i) + 4) 12) + (zsm Ls ys ((8 * i) + 6) 40))) (nI (zsm Ls ys ((8 * i) + 7) 101)) (nI (1 + (zsm Ls ys ((8 * i) + 2) 600))) hc) (Nat.le_of_ble_eq_true rfl) rfl rfl ?_ k n
        show zVf G X 21 (zLw G o a (s_treaty σ (zqc 0 (zsm Ls ys ((8 * i) + 3) 5)) (zqc 1 (zsm Ls ys ((8 * i) + 5) 3)) (nI (zsm Ls ys ((8 * i) + 4) 12)) (nI ((zsm Ls ys ((8 * i) + 4) 12) + (zsm Ls ys ((8 * i) + 6) 40))) (nI (zsm Ls ys ((8 * i) + 7) 101)) (nI (1 + (zsm Ls ys ((8 * i) + 2) 600)))) f B) 446 [(15, .int (nI (zsm Ls ys ((8 * i) + 4) 12))), (14, .int (zqc 0 (zsm Ls ys ((8 * i) + 3) 5))), (0, .ref bs), (1, .ref a), (2, .int (nI (sN σ 0))), (3, .int (nI (sN σ 1))), (4, .int (nI (sN σ 2))), (5, .int (nI (sN σ 3))), (6, .long cmt), (8, .ref o), (9, .int (nI i)), (10, .int (nI (8 * i)))] [.int (v_treaty σ (zqc 0 (zsm Ls ys ((8 * i) + 3) 5)) (zqc 1 (zsm Ls ys ((8 * i) + 5) 3)) (nI (zsm Ls ys ((8 * i) + 4) 12)) (nI ((zsm Ls ys ((8 * i) + 4) 12) + (zsm Ls ys ((8 * i) + 6) 40))) (nI (zsm Ls ys ((8 * i) + 7) 101)) (nI (1 + (zsm Ls ys ((8 * i) + 2) 600))))]
        intro k n
        refine zi_eqi (v := nI (sN σ 2)) rfl ?_
        refine zi_istore K [(16, .int (nI (sN σ 2))), (15, .int (nI (zsm Ls ys ((8 * i) + 4) 12))), (14, .int (zqc 0 (zsm Ls ys ((8 * i) + 3) 5))), (0, .ref bs), (1, .ref a), (2, .int (nI (sN σ 0))), (3, .int (nI (sN σ 1))), (4, .int (nI (sN σ 2))), (5, .int (nI (sN σ 3))), (6, .long cmt), (8, .ref o), (9, .int (nI i)), (10, .int (nI (8 * i)))] (dL_law_p4 47 rfl) (by decide) rfl ?_
        refine zi_iload K (dL_law_p4 48 rfl) 0 rfl ?_
        refine zi_iload K (dL_law_p4 49 rfl) 7 rfl ?_
        refine zi_bipush K (dL_law_p5 0 rfl) zk_b8 ?_
        refine zi_icmp_ne K 462 (dL_law_p5 1 rfl) rfl (fun h454_2 => ?_) (fun h454_2 => ?_)
        rotate_left
        · exact absurd h454_2 (fun h9 => absurd (nI_lt (b := 8) hc (by decide)) (by rw [h9]; decide))
        refine zi_iload K (dL_law_p5 4 rfl) 7 rfl ?_
        refine zi_icmp_eq K 469 (dL_law_p5 5 rfl) rfl (fun h464_2 => ?_) (fun h464_2 => ?_)
        rotate_left
        · exact absurd rfl h464_2
        refine zi_iload K (dL_law_p5 8 rfl) 7 rfl ?_
        refine zi_iload K (dL_law_p5 9 rfl) 0 rfl ?_
        refine zi_if_ge K 480 (dL_law_p5 10 rfl) rfl (fun h473_2 => ?_) (fun h473_2 => ?_)
        rotate_left
        · exact absurd (nI_pos' (n := sN σ 2) (by omega)) h473_2
        refine zi_iconst K (dL_law_p5 13 rfl) zk_i1 ?_
        refine zi_iadd K (dL_law_p5 14 rfl) ?_
        refine zi_eqi (v := nI ((sN σ 2) + 1)) (nI_add (sN σ 2) 1) ?_
        refine zi_istore K [(4, .int (nI ((sN σ 2) + 1))), (16, .int (nI (sN σ 2))), (15, .int (nI (zsm Ls ys ((8 * i) + 4) 12))), (14, .int (zqc 0 (zsm Ls ys ((8 * i) + 3) 5))), (0, .ref bs), (1, .ref a), (2, .int (nI (sN σ 0))), (3, .int (nI (sN σ 1))), (5, .int (nI (sN σ 3))), (6, .long cmt), (8, .ref o), (9, .int (nI i)), (10, .int (nI (8 * i)))] (dL_law_p5 15 rfl) (by decide) rfl ?_
        refine zi_goto K 1296 (dL_law_p5 16 rfl) rfl ?_
        refine zV.pick [4, 5, 6, 7, 0, 8, 9, 10, 11] (lo' := [(0, .ref bs), (1, .ref a), (2, .int (nI (sN σ 0))), (3, .int (nI (sN σ 1))), (4, .int (nI ((sN σ 2) + 1))), (5, .int (nI (sN σ 3))), (6, .long cmt), (8, .ref o), (9, .int (nI i))]) rfl ?_
        exact (kkA (zqc 0 (zsm Ls ys ((8 * i) + 3) 5)) (zqc 1 (zsm Ls ys ((8 * i) + 5) 3)) (nI (zsm Ls ys ((8 * i) + 4) 12)) (nI ((zsm Ls ys ((8 * i) + 4) 12) + (zsm Ls ys ((8 * i) + 6) 40))) (nI (zsm Ls ys ((8 * i) + 7) 101)) (nI (1 + (zsm Ls ys ((8 * i) + 2) 600))) hc (isSpan_nI (by omega) (by omega)) (basis_ok qc1) (fits_ok (J := zsm Ls ys (8 * i + 3) 5) (a := zsm Ls ys ((8 * i) + 7) 101) (b := 1 + (zsm Ls ys ((8 * i) + 2) 600)) qc0 (fun h => by first | omega | (exfalso; contradiction)) (by omega) (fun h => by first | omega | (exfalso; contradiction)) (by omega) (fun h => by first | omega | (exfalso; contradiction)) (by omega)) (isOut_nI (lo := 1) (hi := 1000000) (by omega) (by omega) (by omega))) k n
      · skip
        have hc : sN σ 2 = 8 := Nat.le_antisymm hw.1.2.2.2.1.2 hc
        refine zw_callSW K (f := f) (B := B) (σ := σ) (σ' := σ) (As := [.ref a, .int (zqc 0 (zsm Ls ys ((8 * i) + 3) 5)), .int (zqc 1 (zsm Ls ys ((8 * i) + 5) 3)), .int (nI (zsm Ls ys ((8 * i) + 4) 12)), .int (nI ((zsm Ls ys ((8 * i) + 4) 12) + (zsm Ls ys ((8 * i) + 6) 40))), .int (nI (zsm Ls ys ((8 * i) + 7) 101)), .int (nI (1 + (zsm Ls ys ((8 * i) + 2) 600)))]) (na := 7) [] [.int (-1000000)] (e_treatyF (zqc 0 (zsm Ls ys ((8 * i) + 3) 5)) (zqc 1 (zsm Ls ys ((8 * i) + 5) 3)) (nI (zsm Ls ys ((8 * i) + 4) 12)) (nI ((zsm Ls ys ((8 * i) + 4) 12) + (zsm Ls ys ((8 * i) + 6) 40))) (nI (zsm Ls ys ((8 * i) + 7) 101)) (nI (1 + (zsm Ls ys ((8 * i) + 2) 600))) hw (isSpan_nI (by omega) (by omega)) (basis_ok qc1) (fits_ok (J := zsm Ls ys (8 * i + 3) 5) (a := zsm Ls ys ((8 * i) + 7) 101) (b := 1 + (zsm Ls ys ((8 * i) + 2) 600)) qc0 (fun h => by first | omega | (exfalso; contradiction)) (by omega) (fun h => by first | omega | (exfalso; contradiction)) (by omega) (fun h => by first | omega | (exfalso; contradiction)) (by omega)) hc) (dL_law_p4 46 rfl) w_1072 w_1073 w_24 w_1074 (by decide +kernel) rfl ⟨by omega, by omega⟩ hB1 (Nat.le_of_ble_eq_true rfl) rfl rfl ?_ k n
        show zVf G X 21 (zLw G o a σ f (B + 1)) 446 [(15, .int (nI (zsm Ls ys ((8 * i) + 4) 12))), (14, .int (zqc 0 (zsm Ls ys ((8 * i) + 3) 5))), (0, .ref bs), (1, .ref a), (2, .int (nI (sN σ 0))), (3, .int (nI (sN σ 1))), (4, .int (nI (sN σ 2))), (5, .int (nI (sN σ 3))), (6, .long cmt), (8, .ref o), (9, .int (nI i)), (10, .int (nI (8 * i)))] [.int (-1000000)]
        intro k n
        refine zi_istore K [(16, .int (-1000000)), (15, .int (nI (zsm Ls ys ((8 * i) + 4) 12))), (14, .int (zqc 0 (zsm Ls ys ((8 * i) + 3) 5))), (0, .ref bs), (1, .ref a), (2, .int (nI (sN σ 0))), (3, .int (nI (sN σ 1))), (4, .int (nI (sN σ 2))), (5, .int (nI (sN σ 3))), (6, .long cmt), (8, .ref o), (9, .int (nI i)), (10, .int (nI (8 * i)))] (dL_law_p4 47 rfl) (by decide) rfl ?_
        refine zi_iload K (dL_law_p4 48 rfl) 0 rfl ?_
        refine zi_iload K (dL_law_p4 49 rfl) 7 rfl ?_
        refine zi_bipush K (dL_law_p5 0 rfl) zk_b8 ?_
        refine zi_icmp_ne K 462 (dL_law_p5 1 rfl) rfl (fun h454_2 => ?_) (fun h454_2 => ?_)
        · exact absurd (by rw [hc]; rfl) h454_2
        refine zi_ldc K (dL_law_p5 2 rfl) w_777 ?_
        refine zi_goto K 464 (dL_law_p5 3 rfl) rfl ?_
        refine zi_icmp_eq K 469 (dL_law_p5 5 rfl) rfl (fun h464_2 => ?_) (fun h464_2 => ?_)
        rotate_left
        · exact absurd rfl h464_2
        refine zi_iload K (dL_law_p5 8 rfl) 7 rfl ?_
        refine zi_iload K (dL_law_p5 9 rfl) 0 rfl ?_
        refine zi_if_ge K 480 (dL_law_p5 10 rfl) rfl (fun h473_2 => ?_) (fun h473_2 => ?_)
        · exact absurd h473_2 (by decide)
        refine zi_iconst K (dL_law_p5 11 rfl) zk_i0 ?_
        refine zi_goto K 481 (dL_law_p5 12 rfl) rfl ?_
        refine zi_iadd K (dL_law_p5 14 rfl) ?_
        refine zi_eqi (v := nI ((sN σ 2) + 0)) (nI_add (sN σ 2) 0) ?_
        refine zi_istore K [(4, .int (nI ((sN σ 2) + 0))), (16, .int (-1000000)), (15, .int (nI (zsm Ls ys ((8 * i) + 4) 12))), (14, .int (zqc 0 (zsm Ls ys ((8 * i) + 3) 5))), (0, .ref bs), (1, .ref a), (2, .int (nI (sN σ 0))), (3, .int (nI (sN σ 1))), (5, .int (nI (sN σ 3))), (6, .long cmt), (8, .ref o), (9, .int (nI i)), (10, .int (nI (8 * i)))] (dL_law_p5 15 rfl) (by decide) rfl ?_
        refine zi_goto K 1296 (dL_law_p5 16 rfl) rfl ?_
        refine zV.pick [4, 5, 6, 7, 0, 8, 9, 10, 11] (lo' := [(0, .ref bs), (1, .ref a), (2, .int (nI (sN σ 0))), (3, .int (nI (sN σ 1))), (4, .int (nI ((sN σ 2) + 0))), (5, .int (nI (sN σ 3))), (6, .long cmt), (8, .ref o), (9, .int (nI i))]) rfl ?_
        exact (kkB hc) k n
    · skip
      refine zi_iconst K (dL_law_p4 29 rfl) zk_i1 ?_
      refine zi_aload_n K (dL_law_p4 30 rfl) 2 rfl ?_
      refine zi_iload K (dL_law_p4 31 rfl) 11 rfl ?_
      refine zi_iconst K (dL_law_p4 32 rfl) zk_i2 ?_
      refine zi_iadd K (dL_law_p4 33 rfl) ?_
      refine zi_eqi (v := nI ((8 * i) + 2)) (nI_add (8 * i) 2) ?_
      refine zi_bipush K (dL_law_p4 34 rfl) zk_b20 ?_
      refine zV.rmk (fun H h => h.1) (fun hk9 => ?_)
      refine zl_some K Y hL9 ((8 * i) + 2) 20 (by omega) (by omega) (by omega) (dL_law_p4 35 rfl) ⟨by omega, by omega, by omega, by omega⟩ (Nat.le_of_ble_eq_true rfl) ?_
      refine zi_iadd K (dL_law_p4 36 rfl) ?_
      refine zi_eqi (v := nI (1 + (zsm Ls ys ((8 * i) + 2) 20))) (nI_add 1 (zsm Ls ys ((8 * i) + 2) 20)) ?_
      refine zi_goto K 443 (dL_law_p4 37 rfl) rfl ?_
      have q4_12 := zsm_lt (Ls := Ls) (ys := ys) (i := 8 * i + 4) (m := 12) (by omega)
      have q6_40 := zsm_lt (Ls := Ls) (ys := ys) (i := 8 * i + 6) (m := 40) (by omega)
      have q7_101 := zsm_lt (Ls := Ls) (ys := ys) (i := 8 * i + 7) (m := 101) (by omega)
      have q7_700 := zsm_lt (Ls := Ls) (ys := ys) (i := 8 * i + 7) (m := 700) (by omega)
      have q2_20 := zsm_lt (Ls := Ls) (ys := ys) (i := 8 * i + 2) (m := 20) (by omega)
      have q2_600 := zsm_lt (Ls := Ls) (ys := ys) (i := 8 * i + 2) (m := 600) (by omega)
      rcases Nat.lt_or_ge (sN σ 2) 8 with hc | hc
      · skip
        refine zw_callSW K (f := f) (B := B) (σ := σ) (σ' := s_treaty σ (zqc 0 (zsm Ls ys ((8 * i) + 3) 5)) (zqc 1 (zsm Ls ys ((8 * i) + 5) 3)) (nI (zsm Ls ys ((8 * i) + 4) 12)) (nI ((zsm Ls ys ((8 * i) + 4) 12) + (zsm Ls ys ((8 * i) + 6) 40))) (nI (zsm Ls ys ((8 * i) + 7) 101)) (nI (1 + (zsm Ls ys ((8 * i) + 2) 20)))) (As := [.ref a, .int (zqc 0 (zsm Ls ys ((8 * i) + 3) 5)), .int (zqc 1 (zsm Ls ys ((8 * i) + 5) 3)), .int (nI (zsm Ls ys ((8 * i) + 4) 12)), .int (nI ((zsm Ls ys ((8 * i) + 4) 12) + (zsm Ls ys ((8 * i) + 6) 40))), .int (nI (zsm Ls ys ((8 * i) + 7) 101)), .int (nI (1 + (zsm Ls ys ((8 * i) + 2) 20)))]) (na := 7) [] [.int (v_treaty σ (zqc 0 (zsm Ls ys ((8 * i) + 3) 5)) (zqc 1 (zsm Ls ys ((8 * i) + 5) 3)) (nI (zsm Ls ys ((8 * i) + 4) 12)) (nI ((zsm Ls ys ((8 * i) + 4) 12) + (zsm Ls ys ((8 * i) + 6) 40))) (nI (zsm Ls ys ((8 * i) + 7) 101)) (nI (1 + (zsm Ls ys ((8 * i) + 2) 20))))] (e_treaty (zqc 0 (zsm Ls ys ((8 * i) + 3) 5)) (zqc 1 (zsm Ls ys ((8 * i) + 5) 3)) (nI (zsm Ls ys ((8 * i) + 4) 12)) (nI ((zsm Ls ys ((8 * i) + 4) 12) + (zsm Ls ys ((8 * i) + 6) 40))) (nI (zsm Ls ys ((8 * i) + 7) 101)) (nI (1 + (zsm Ls ys ((8 * i) + 2) 20))) hw (isSpan_nI (by omega) (by omega)) (basis_ok qc1) (fits_ok (J := zsm Ls ys (8 * i + 3) 5) (a := zsm Ls ys ((8 * i) + 7) 101) (b := 1 + (zsm Ls ys ((8 * i) + 2) 20)) qc0 (fun h => by first | omega | (exfalso; contradiction)) (by omega) (fun h => by first | omega | (exfalso; contradiction)) (by omega) (fun h => by first | omega | (exfalso; contradiction)) (by omega)) hc (zqc_ch 0 (zsm Ls ys (8 * i + 3) 5) (by decide) qc0) (zqc_ch 1 (zsm Ls ys (8 * i + 5) 3) (by decide) qc1) (treaty_le σ (zqc 0 (zsm Ls ys ((8 * i) + 3) 5)) (zqc 1 (zsm Ls ys ((8 * i) + 5) 3)) (nI (zsm Ls ys ((8 * i) + 4) 12)) (nI ((zsm Ls ys ((8 * i) + 4) 12) + (zsm Ls ys ((8 * i) + 6) 40))) (nI (zsm Ls ys ((8 * i) + 7) 101)) (nI (1 + (zsm Ls ys ((8 * i) + 2) 20))))) (dL_law_p4 46 rfl) w_1072 w_1073 w_24 w_1074 (by decide +kernel) rfl ⟨by omega, by omega⟩ (hB (zqc 0 (zsm Ls ys ((8 * i) + 3) 5)) (zqc 1 (zsm Ls ys ((8 * i) + 5) 3)) (nI (zsm Ls ys ((8 * i) + 4) 12)) (nI ((zsm Ls ys ((8 * i) + 4) 12) + (zsm Ls ys ((8 * i) + 6) 40))) (nI (zsm Ls ys ((8 * i) + 7) 101)) (nI (1 + (zsm Ls ys ((8 * i) + 2) 20))) hc) (Nat.le_of_ble_eq_true rfl) rfl rfl ?_ k n
        show zVf G X 21 (zLw G o a (s_treaty σ (zqc 0 (zsm Ls ys ((8 * i) + 3) 5)) (zqc 1 (zsm Ls ys ((8 * i) + 5) 3)) (nI (zsm Ls ys ((8 * i) + 4) 12)) (nI ((zsm Ls ys ((8 * i) + 4) 12) + (zsm Ls ys ((8 * i) + 6) 40))) (nI (zsm Ls ys ((8 * i) + 7) 101)) (nI (1 + (zsm Ls ys ((8 * i) + 2) 20)))) f B) 446 [(15, .int (nI (zsm Ls ys ((8 * i) + 4) 12))), (14, .int (zqc 0 (zsm Ls ys ((8 * i) + 3) 5))), (0, .ref bs), (1, .ref a), (2, .int (nI (sN σ 0))), (3, .int (nI (sN σ 1))), (4, .int (nI (sN σ 2))), (5, .int (nI (sN σ 3))), (6, .long cmt), (8, .ref o), (9, .int (nI i)), (10, .int (nI (8 * i)))] [.int (v_treaty σ (zqc 0 (zsm Ls ys ((8 * i) + 3) 5)) (zqc 1 (zsm Ls ys ((8 * i) + 5) 3)) (nI (zsm Ls ys ((8 * i) + 4) 12)) (nI ((zsm Ls ys ((8 * i) + 4) 12) + (zsm Ls ys ((8 * i) + 6) 40))) (nI (zsm Ls ys ((8 * i) + 7) 101)) (nI (1 + (zsm Ls ys ((8 * i) + 2) 20))))]
        intro k n
        refine zi_eqi (v := nI (sN σ 2)) rfl ?_
        refine zi_istore K [(16, .int (nI (sN σ 2))), (15, .int (nI (zsm Ls ys ((8 * i) + 4) 12))), (14, .int (zqc 0 (zsm Ls ys ((8 * i) + 3) 5))), (0, .ref bs), (1, .ref a), (2, .int (nI (sN σ 0))), (3, .int (nI (sN σ 1))), (4, .int (nI (sN σ 2))), (5, .int (nI (sN σ 3))), (6, .long cmt), (8, .ref o), (9, .int (nI i)), (10, .int (nI (8 * i)))] (dL_law_p4 47 rfl) (by decide) rfl ?_
        refine zi_iload K (dL_law_p4 48 rfl) 0 rfl ?_
        refine zi_iload K (dL_law_p4 49 rfl) 7 rfl ?_
        refine zi_bipush K (dL_law_p5 0 rfl) zk_b8 ?_
        refine zi_icmp_ne K 462 (dL_law_p5 1 rfl) rfl (fun h454_2 => ?_) (fun h454_2 => ?_)
        rotate_left
        · exact absurd h454_2 (fun h9 => absurd (nI_lt (b := 8) hc (by decide)) (by rw [h9]; decide))
        refine zi_iload K (dL_law_p5 4 rfl) 7 rfl ?_
        refine zi_icmp_eq K 469 (dL_law_p5 5 rfl) rfl (fun h464_2 => ?_) (fun h464_2 => ?_)
        rotate_left
        · exact absurd rfl h464_2
        refine zi_iload K (dL_law_p5 8 rfl) 7 rfl ?_
        refine zi_iload K (dL_law_p5 9 rfl) 0 rfl ?_
        refine zi_if_ge K 480 (dL_law_p5 10 rfl) rfl (fun h473_2 => ?_) (fun h473_2 => ?_)
        rotate_left
        · exact absurd (nI_pos' (n := sN σ 2) (by omega)) h473_2
        refine zi_iconst K (dL_law_p5 13 rfl) zk_i1 ?_
        refine zi_iadd K (dL_law_p5 14 rfl) ?_
        refine zi_eqi (v := nI ((sN σ 2) + 1)) (nI_add (sN σ 2) 1) ?_
        refine zi_istore K [(4, .int (nI ((sN σ 2) + 1))), (16, .int (nI (sN σ 2))), (15, .int (nI (zsm Ls ys ((8 * i) + 4) 12))), (14, .int (zqc 0 (zsm Ls ys ((8 * i) + 3) 5))), (0, .ref bs), (1, .ref a), (2, .int (nI (sN σ 0))), (3, .int (nI (sN σ 1))), (5, .int (nI (sN σ 3))), (6, .long cmt), (8, .ref o), (9, .int (nI i)), (10, .int (nI (8 * i)))] (dL_law_p5 15 rfl) (by decide) rfl ?_
        refine zi_goto K 1296 (dL_law_p5 16 rfl) rfl ?_
        refine zV.pick [4, 5, 6, 7, 0, 8, 9, 10, 11] (lo' := [(0, .ref bs), (1, .ref a), (2, .int (nI (sN σ 0))), (3, .int (nI (sN σ 1))), (4, .int (nI ((sN σ 2) + 1))), (5, .int (nI (sN σ 3))), (6, .long cmt), (8, .ref o), (9, .int (nI i))]) rfl ?_
        exact (kkA (zqc 0 (zsm Ls ys ((8 * i) + 3) 5)) (zqc 1 (zsm Ls ys ((8 * i) + 5) 3)) (nI (zsm Ls ys ((8 * i) + 4) 12)) (nI ((zsm Ls ys ((8 * i) + 4) 12) + (zsm Ls ys ((8 * i) + 6) 40))) (nI (zsm Ls ys ((8 * i) + 7) 101)) (nI (1 + (zsm Ls ys ((8 * i) + 2) 20))) hc (isSpan_nI (by omega) (by omega)) (basis_ok qc1) (fits_ok (J := zsm Ls ys (8 * i + 3) 5) (a := zsm Ls ys ((8 * i) + 7) 101) (b := 1 + (zsm Ls ys ((8 * i) + 2) 20)) qc0 (fun h => by first | omega | (exfalso; contradiction)) (by omega) (fun h => by first | omega | (exfalso; contradiction)) (by omega) (fun h => by first | omega | (exfalso; contradiction)) (by omega)) (isOut_nI (lo := 1) (hi := 1000000) (by omega) (by omega) (by omega))) k n
      · skip
        have hc : sN σ 2 = 8 := Nat.le_antisymm hw.1.2.2.2.1.2 hc
        refine zw_callSW K (f := f) (B := B) (σ := σ) (σ' := σ) (As := [.ref a, .int (zqc 0 (zsm Ls ys ((8 * i) + 3) 5)), .int (zqc 1 (zsm Ls ys ((8 * i) + 5) 3)), .int (nI (zsm Ls ys ((8 * i) + 4) 12)), .int (nI ((zsm Ls ys ((8 * i) + 4) 12) + (zsm Ls ys ((8 * i) + 6) 40))), .int (nI (zsm Ls ys ((8 * i) + 7) 101)), .int (nI (1 + (zsm Ls ys ((8 * i) + 2) 20)))]) (na := 7) [] [.int (-1000000)] (e_treatyF (zqc 0 (zsm Ls ys ((8 * i) + 3) 5)) (zqc 1 (zsm Ls ys ((8 * i) + 5) 3)) (nI (zsm Ls ys ((8 * i) + 4) 12)) (nI ((zsm Ls ys ((8 * i) + 4) 12) + (zsm Ls ys ((8 * i) + 6) 40))) (nI (zsm Ls ys ((8 * i) + 7) 101)) (nI (1 + (zsm Ls ys ((8 * i) + 2) 20))) hw (isSpan_nI (by omega) (by omega)) (basis_ok qc1) (fits_ok (J := zsm Ls ys (8 * i + 3) 5) (a := zsm Ls ys ((8 * i) + 7) 101) (b := 1 + (zsm Ls ys ((8 * i) + 2) 20)) qc0 (fun h => by first | omega | (exfalso; contradiction)) (by omega) (fun h => by first | omega | (exfalso; contradiction)) (by omega) (fun h => by first | omega | (exfalso; contradiction)) (by omega)) hc) (dL_law_p4 46 rfl) w_1072 w_1073 w_24 w_1074 (by decide +kernel) rfl ⟨by omega, by omega⟩ hB1 (Nat.le_of_ble_eq_true rfl) rfl rfl ?_ k n
        show zVf G X 21 (zLw G o a σ f (B + 1)) 446 [(15, .int (nI (zsm Ls ys ((8 * i) + 4) 12))), (14, .int (zqc 0 (zsm Ls ys ((8 * i) + 3) 5))), (0, .ref bs), (1, .ref a), (2, .int (nI (sN σ 0))), (3, .int (nI (sN σ 1))), (4, .int (nI (sN σ 2))), (5, .int (nI (sN σ 3))), (6, .long cmt), (8, .ref o), (9, .int (nI i)), (10, .int (nI (8 * i)))] [.int (-1000000)]
        intro k n
        refine zi_istore K [(16, .int (-1000000)), (15, .int (nI (zsm Ls ys ((8 * i) + 4) 12))), (14, .int (zqc 0 (zsm Ls ys ((8 * i) + 3) 5))), (0, .ref bs), (1, .ref a), (2, .int (nI (sN σ 0))), (3, .int (nI (sN σ 1))), (4, .int (nI (sN σ 2))), (5, .int (nI (sN σ 3))), (6, .long cmt), (8, .ref o), (9, .int (nI i)), (10, .int (nI (8 * i)))] (dL_law_p4 47 rfl) (by decide) rfl ?_
        refine zi_iload K (dL_law_p4 48 rfl) 0 rfl ?_
        refine zi_iload K (dL_law_p4 49 rfl) 7 rfl ?_
        refine zi_bipush K (dL_law_p5 0 rfl) zk_b8 ?_
        refine zi_icmp_ne K 462 (dL_law_p5 1 rfl) rfl (fun h454_2 => ?_) (fun h454_2 => ?_)
        · exact absurd (by rw [hc]; rfl) h454_2
        refine zi_ldc K (dL_law_p5 2 rfl) w_777 ?_
        refine zi_goto K 464 (dL_law_p5 3 rfl) rfl ?_
        refine zi_icmp_eq K 469 (dL_law_p5 5 rfl) rfl (fun h464_2 => ?_) (fun h464_2 => ?_)
        rotate_left
        · exact absurd rfl h464_2
        refine zi_iload K (dL_law_p5 8 rfl) 7 rfl ?_
        refine zi_iload K (dL_law_p5 9 rfl) 0 rfl ?_
        refine zi_if_ge K 480 (dL_law_p5 10 rfl) rfl (fun h473_2 => ?_) (fun h473_2 => ?_)
        · exact absurd h473_2 (by decide)
        refine zi_iconst K (dL_law_p5 11 rfl) zk_i0 ?_
        refine zi_goto K 481 (dL_law_p5 12 rfl) rfl ?_
        refine zi_iadd K (dL_law_p5 14 rfl) ?_
        refine zi_eqi (v := nI ((sN σ 2) + 0)) (nI_add (sN σ 2) 0) ?_
        refine zi_istore K [(4, .int (nI ((sN σ 2) + 0))), (16, .int (-1000000)), (15, .int (nI (zsm Ls ys ((8 * i) + 4) 12))), (14, .int (zqc 0 (zsm Ls ys ((8 * i) + 3) 5))), (0, .ref bs), (1, .ref a), (2, .int (nI (sN σ 0))), (3, .int (nI (sN σ 1))), (5, .int (nI (sN σ 3))), (6, .long cmt), (8, .ref o), (9, .int (nI i)), (10, .int (nI (8 * i)))] (dL_law_p5 15 rfl) (by decide) rfl ?_
        refine zi_goto K 1296 (dL_law_p5 16 rfl) rfl ?_
        refine zV.pick [4, 5, 6, 7, 0, 8, 9, 10, 11] (lo' := [(0, .ref bs), (1, .ref a), (2, .int (nI (sN σ 0))), (3, .int (nI (sN σ 1))), (4, .int (nI ((sN σ 2) + 0))), (5, .int (nI (sN σ 3))), (6, .long cmt), (8, .ref o), (9, .int (nI i))]) rfl ?_
        exact (kkB hc) k n
