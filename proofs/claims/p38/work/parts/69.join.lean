/-! the law's join: kept each fourth turn -/
set_option maxRecDepth 100000 in
set_option maxHeartbeats 8000000 in
theorem b_join {G : zG} {X : zX} {bs Ls o a : Nat} {ys : Nat → Int32} {σ : zSt} {f : Nat → Int32} {B i : Nat} {cmt : Int64} {rm : Room} (K : zK G X cL_law "LayertreatyLaw" 21 (some .boolean) rm) (Y : zY G bs Ls ys (xs X)) (hL9 : Ls ≤ 260) (hi9 : i < 50) (hR9 : 60 ≤ rm.frames ∧ 2000 ≤ rm.locals) (hw : zW σ) (hm : i % 4 = 3 → zKM (s_settle σ) (sN σ 1) (sN σ 2) cmt) (hB : sgc (s_settle σ) + (B + 24) ≤ rm.cells ∧ sgs (s_settle σ) + 6 * (B + 24) ≤ rm.slots)
    (kk : ∀ ρ, (ρ = σ ∨ (zW ρ ∧ zPo ρ (s_settle σ))) → zVf G X 21 (zLw G o a ρ f (B + 24)) 1318 [(0, .ref bs), (1, .ref a), (2, .int (nI (sN σ 0))), (3, .int (nI (sN σ 1))), (4, .int (nI (sN σ 2))), (5, .int (nI (sN σ 3))), (6, .long cmt), (8, .ref o), (9, .int (nI i))] []) : zVf G X 21 (zLw G o a σ f B) 1296 [(0, .ref bs), (1, .ref a), (2, .int (nI (sN σ 0))), (3, .int (nI (sN σ 1))), (4, .int (nI (sN σ 2))), (5, .int (nI (sN σ 3))), (6, .long cmt), (8, .ref o), (9, .int (nI i))] [] := by
  intro k n
  refine zi_iload K (dL_law_p13 42 rfl) 8 rfl ?_
  refine zi_iconst K (dL_law_p13 43 rfl) zk_i4 ?_
  refine zi_irem K (dL_law_p13 44 rfl) (by decide) ?_
  refine zi_eqi (v := nI ((i) % 4)) (nI_mod (w := i) (m := 4) (by omega) (by omega) (by omega)) ?_
  refine zi_iconst K (dL_law_p13 45 rfl) zk_i3 ?_
  refine zi_icmp_ne K 1318 (dL_law_p13 46 rfl) rfl (fun h1301_0 => ?_) (fun h1301_0 => ?_)
  · skip
    refine zV.pick [0, 1, 2, 3, 4, 5, 6, 7, 8] (lo' := [(0, .ref bs), (1, .ref a), (2, .int (nI (sN σ 0))), (3, .int (nI (sN σ 1))), (4, .int (nI (sN σ 2))), (5, .int (nI (sN σ 3))), (6, .long cmt), (8, .ref o), (9, .int (nI i))]) rfl ?_
    exact (zw_wk (Nat.le_add_right B 24) (kk σ (Or.inl rfl))) k n
  · skip
    refine zi_aload_n K (dL_law_p13 47 rfl) 1 rfl ?_
    refine zi_iload_n K (dL_law_p13 48 rfl) 3 rfl ?_
    refine zi_iload K (dL_law_p13 49 rfl) 4 rfl ?_
    refine zi_lload K (dL_law_p14 0 rfl) 6 rfl ?_
    refine zw_kept (σ := σ) (f := f) (B := B) K (L := sN σ 1) (T := sN σ 2) (cmt := cmt) [] [.int 1] hw (hm (by have q9 := congrArg Int32.toInt h1301_0; rw [nI_toInt (by omega)] at q9; have e3 : (3 : Int32).toInt = 3 := rfl; omega)) (dL_law_p14 1 rfl) w_1397 ⟨by omega, by omega⟩ ⟨by omega, by omega⟩ (Nat.le_of_ble_eq_true rfl) rfl rfl (fun ρ hwρ hρ => ?_) k n
    intro k n
    refine zi_if_ne K 1318 (dL_law_p14 2 rfl) rfl (fun h1313_1 => ?_) (fun h1313_1 => ?_)
    rotate_left
    · exact absurd h1313_1 (by decide)
    refine zV.pick [0, 1, 2, 3, 4, 5, 6, 7, 8] (lo' := [(0, .ref bs), (1, .ref a), (2, .int (nI (sN σ 0))), (3, .int (nI (sN σ 1))), (4, .int (nI (sN σ 2))), (5, .int (nI (sN σ 3))), (6, .long cmt), (8, .ref o), (9, .int (nI i))]) rfl ?_
    exact (kk ρ (Or.inr ⟨hwρ, hρ⟩)) k n
