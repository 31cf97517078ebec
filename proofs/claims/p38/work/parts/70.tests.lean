/-! the law's two tests ahead of the tails -/
set_option maxRecDepth 100000 in
set_option maxHeartbeats 8000000 in
theorem b_tests {G : zG} {X : zX} {bs Ls o a : Nat} {ys : Nat → Int32} {σ : zSt} {f : Nat → Int32} {B i : Nat} {cmt : Int64} {rm : Room} (K : zK G X cL_law "LayertreatyLaw" 21 (some .boolean) rm) (Y : zY G bs Ls ys (xs X)) (hL9 : Ls ≤ 260) (hi9 : i < 50) (hR9 : 60 ≤ rm.frames ∧ 2000 ≤ rm.locals) (hw : zW σ) 
    (kkT : 0 < sN σ 3 → zVf G X 21 (zLw G o a σ f B) 1330 [(0, .ref bs), (1, .ref a), (2, .int (nI (sN σ 0))), (3, .int (nI (sN σ 1))), (4, .int (nI (sN σ 2))), (5, .int (nI (sN σ 3))), (6, .long cmt), (8, .ref o), (9, .int (nI i))] []) (kk : zVf G X 21 (zLw G o a σ f B) 1438 [(0, .ref bs), (1, .ref a), (2, .int (nI (sN σ 0))), (3, .int (nI (sN σ 1))), (4, .int (nI (sN σ 2))), (5, .int (nI (sN σ 3))), (6, .long cmt), (8, .ref o), (9, .int (nI i))] []) : zVf G X 21 (zLw G o a σ f B) 1318 [(0, .ref bs), (1, .ref a), (2, .int (nI (sN σ 0))), (3, .int (nI (sN σ 1))), (4, .int (nI (sN σ 2))), (5, .int (nI (sN σ 3))), (6, .long cmt), (8, .ref o), (9, .int (nI i))] [] := by
  intro k n
  refine zi_iload K (dL_law_p14 5 rfl) 5 rfl ?_
  refine zi_if_le K 1438 (dL_law_p14 6 rfl) rfl (fun h1320_0 => ?_) (fun h1320_0 => ?_)
  · skip
    refine zV.pick [0, 1, 2, 3, 4, 5, 6, 7, 8] (lo' := [(0, .ref bs), (1, .ref a), (2, .int (nI (sN σ 0))), (3, .int (nI (sN σ 1))), (4, .int (nI (sN σ 2))), (5, .int (nI (sN σ 3))), (6, .long cmt), (8, .ref o), (9, .int (nI i))]) rfl ?_
    exact kk k n
  · skip
    refine zi_iload K (dL_law_p14 7 rfl) 8 rfl ?_
    refine zi_iconst K (dL_law_p14 8 rfl) zk_i5 ?_
    refine zi_irem K (dL_law_p14 9 rfl) (by decide) ?_
    refine zi_eqi (v := nI ((i) % 5)) (nI_mod (w := i) (m := 5) (by omega) (by omega) (by omega)) ?_
    refine zi_if_ne K 1438 (dL_law_p14 10 rfl) rfl (fun h1327_1 => ?_) (fun h1327_1 => ?_)
    · skip
      refine zV.pick [0, 1, 2, 3, 4, 5, 6, 7, 8] (lo' := [(0, .ref bs), (1, .ref a), (2, .int (nI (sN σ 0))), (3, .int (nI (sN σ 1))), (4, .int (nI (sN σ 2))), (5, .int (nI (sN σ 3))), (6, .long cmt), (8, .ref o), (9, .int (nI i))]) rfl ?_
      exact kk k n
    · skip
      refine zV.pick [0, 1, 2, 3, 4, 5, 6, 7, 8] (lo' := [(0, .ref bs), (1, .ref a), (2, .int (nI (sN σ 0))), (3, .int (nI (sN σ 1))), (4, .int (nI (sN σ 2))), (5, .int (nI (sN σ 3))), (6, .long cmt), (8, .ref o), (9, .int (nI i))]) rfl ?_
      exact kkT (Nat.pos_of_ne_zero (fun e9 => h1320_0 (by rw [e9]; decide))) k n
