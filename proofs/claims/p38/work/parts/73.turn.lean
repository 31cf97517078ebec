/-! the law's turn: its head, the choice of the branch, the loop's end -/
theorem nIle {m i : Nat} (hm : m < 2 ^ 31) (hi : i < 2 ^ 31) : nI m ≤ nI i ↔ m ≤ i := ⟨fun h => Nat.not_lt.mp (fun q => absurd (Int32.le_iff_toInt_le.mp h) (by rw [nI_toInt hm, nI_toInt hi]; omega)), fun h => nI_le h hi⟩
theorem nIle0 {n : Nat} (hn : n < 2 ^ 31) : nI n ≤ 0 ↔ n = 0 := ⟨fun h => Nat.le_zero.mp ((nIle (m := n) (i := 0) hn (by omega)).mp h), fun h => by subst h; decide⟩
theorem nIz {n : Nat} (hn : n < 2 ^ 31) : nI n = 0 ↔ n = 0 := ⟨fun h => (nIle0 hn).mp (by rw [h]; decide), fun h => by subst h; rfl⟩
set_option maxRecDepth 100000 in
set_option maxHeartbeats 8000000 in
theorem b_disp {G : zG} {X : zX} {bs Ls o a : Nat} {ys : Nat → Int32} {σ : zSt} {f : Nat → Int32} {B i : Nat} {cmt : Int64} {rm : Room} (K : zK G X cL_law "LayertreatyLaw" 21 (some .boolean) rm) (Y : zY G bs Ls ys (xs X)) (hL9 : Ls ≤ 260) (hi9 : i < 50) (hR9 : 60 ≤ rm.frames ∧ 2000 ≤ rm.locals) (hw : zW σ) {w t r : Nat} (hw12 : w < 12) (hB0 : sgc σ + B ≤ rm.cells ∧ sgs σ + 6 * B ≤ rm.slots)
    (k0 : w = 0 → zVf G X 21 (zLw G o a σ f B) 123 [(0, .ref bs), (1, .ref a), (2, .int (nI (sN σ 0))), (3, .int (nI (sN σ 1))), (4, .int (nI (sN σ 2))), (5, .int (nI (sN σ 3))), (6, .long cmt), (8, .ref o), (9, .int (nI i)), (10, .int (nI (8 * i)))] []) (k1 : w = 1 → zVf G X 21 (zLw G o a σ f B) 215 [(0, .ref bs), (1, .ref a), (2, .int (nI (sN σ 0))), (3, .int (nI (sN σ 1))), (4, .int (nI (sN σ 2))), (5, .int (nI (sN σ 3))), (6, .long cmt), (8, .ref o), (9, .int (nI i)), (10, .int (nI (8 * i)))] []) (k2 : w = 2 ∨ w = 3 → zVf G X 21 (zLw G o a σ f B) 312 [(0, .ref bs), (1, .ref a), (2, .int (nI (sN σ 0))), (3, .int (nI (sN σ 1))), (4, .int (nI (sN σ 2))), (5, .int (nI (sN σ 3))), (6, .long cmt), (8, .ref o), (9, .int (nI i)), (10, .int (nI (8 * i)))] []) (k4 : w = 4 → zVf G X 21 (zLw G o a σ f B) 493 [(0, .ref bs), (1, .ref a), (2, .int (nI (sN σ 0))), (3, .int (nI (sN σ 1))), (4, .int (nI (sN σ 2))), (5, .int (nI (sN σ 3))), (6, .long cmt), (8, .ref o), (9, .int (nI i)), (10, .int (nI (8 * i))), (12, .int (nI t)), (13, .int (nI r))] []) (k5 : w = 5 → zVf G X 21 (zLw G o a σ f B) 536 [(0, .ref bs), (1, .ref a), (2, .int (nI (sN σ 0))), (3, .int (nI (sN σ 1))), (4, .int (nI (sN σ 2))), (5, .int (nI (sN σ 3))), (6, .long cmt), (8, .ref o), (9, .int (nI i)), (10, .int (nI (8 * i))), (13, .int (nI r))] []) (k6 : w = 6 → zVf G X 21 (zLw G o a σ f B) 592 [(0, .ref bs), (1, .ref a), (2, .int (nI (sN σ 0))), (3, .int (nI (sN σ 1))), (4, .int (nI (sN σ 2))), (5, .int (nI (sN σ 3))), (6, .long cmt), (8, .ref o), (9, .int (nI i)), (10, .int (nI (8 * i))), (13, .int (nI r))] []) (k7 : w = 7 → zVf G X 21 (zLw G o a σ f B) 797 [(0, .ref bs), (1, .ref a), (2, .int (nI (sN σ 0))), (3, .int (nI (sN σ 1))), (4, .int (nI (sN σ 2))), (5, .int (nI (sN σ 3))), (6, .long cmt), (8, .ref o), (9, .int (nI i)), (10, .int (nI (8 * i))), (12, .int (nI t))] []) (k8 : w = 8 → zVf G X 21 (zLw G o a σ f B) 928 [(0, .ref bs), (1, .ref a), (2, .int (nI (sN σ 0))), (3, .int (nI (sN σ 1))), (4, .int (nI (sN σ 2))), (5, .int (nI (sN σ 3))), (6, .long cmt), (8, .ref o), (9, .int (nI i)), (10, .int (nI (8 * i))), (12, .int (nI t))] []) (k9 : w = 9 → 0 < sN σ 1 → zVf G X 21 (zLw G o a σ f B) 1046 [(0, .ref bs), (1, .ref a), (2, .int (nI (sN σ 0))), (3, .int (nI (sN σ 1))), (4, .int (nI (sN σ 2))), (5, .int (nI (sN σ 3))), (6, .long cmt), (8, .ref o), (9, .int (nI i)), (10, .int (nI (8 * i)))] []) (k10 : w = 10 → zVf G X 21 (zLw G o a σ f B) 1115 [(0, .ref bs), (1, .ref a), (2, .int (nI (sN σ 0))), (3, .int (nI (sN σ 1))), (4, .int (nI (sN σ 2))), (5, .int (nI (sN σ 3))), (6, .long cmt), (8, .ref o), (9, .int (nI i)), (10, .int (nI (8 * i)))] []) (kE : w = 7 ∨ w = 9 ∨ w = 11 → zVf G X 21 (zLw G o a σ f B) 1239 [(0, .ref bs), (1, .ref a), (2, .int (nI (sN σ 0))), (3, .int (nI (sN σ 1))), (4, .int (nI (sN σ 2))), (5, .int (nI (sN σ 3))), (6, .long cmt), (8, .ref o), (9, .int (nI i)), (10, .int (nI (8 * i))), (12, .int (nI t))] []) : zVf G X 21 (zLw G o a σ f B) 118 [(0, .ref bs), (1, .ref a), (2, .int (nI (sN σ 0))), (3, .int (nI (sN σ 1))), (4, .int (nI (sN σ 2))), (5, .int (nI (sN σ 3))), (6, .long cmt), (8, .ref o), (9, .int (nI i)), (10, .int (nI (8 * i))), (11, .int (nI w)), (12, .int (nI t)), (13, .int (nI r))] [] := by
  intro k n
  have hc : w = 0 ∨ w = 1 ∨ w = 2 ∨ w = 3 ∨ w = 4 ∨ w = 5 ∨ w = 6 ∨ w = 7 ∨ w = 8 ∨ w = 9 ∨ w = 10 ∨ w = 11 := by omega
  rcases hc with rfl | rfl | rfl | rfl | rfl | rfl | rfl | rfl | rfl | rfl | rfl | rfl
  · skip
    show zV G X 21 (zLw G o a σ f B k n) k n 118 [(0, .ref bs), (1, .ref a), (2, .int (nI (sN σ 0))), (3, .int (nI (sN σ 1))), (4, .int (nI (sN σ 2))), (5, .int (nI (sN σ 3))), (6, .long cmt), (8, .ref o), (9, .int (nI i)), (10, .int (nI (8 * i))), (11, .int 0), (12, .int (nI t)), (13, .int (nI r))] []
    refine zi_iload K (dL_law_p1 14 rfl) 10 rfl ?_
    refine zi_if_ne K 209 (dL_law_p1 15 rfl) rfl (fun h120_0 => ?_) (fun h120_0 => ?_)
    · exact absurd h120_0 (by decide)
    refine zV.pick [0, 1, 2, 3, 4, 5, 6, 7, 8, 9] (lo' := [(0, .ref bs), (1, .ref a), (2, .int (nI (sN σ 0))), (3, .int (nI (sN σ 1))), (4, .int (nI (sN σ 2))), (5, .int (nI (sN σ 3))), (6, .long cmt), (8, .ref o), (9, .int (nI i)), (10, .int (nI (8 * i)))]) rfl ?_
    exact k0 (by omega) k n
  · skip
    show zV G X 21 (zLw G o a σ f B k n) k n 118 [(0, .ref bs), (1, .ref a), (2, .int (nI (sN σ 0))), (3, .int (nI (sN σ 1))), (4, .int (nI (sN σ 2))), (5, .int (nI (sN σ 3))), (6, .long cmt), (8, .ref o), (9, .int (nI i)), (10, .int (nI (8 * i))), (11, .int 1), (12, .int (nI t)), (13, .int (nI r))] []
    refine zi_iload K (dL_law_p1 14 rfl) 10 rfl ?_
    refine zi_if_ne K 209 (dL_law_p1 15 rfl) rfl (fun h120_0 => ?_) (fun h120_0 => ?_)
    rotate_left
    · exact absurd h120_0 (by decide)
    refine zi_iload K (dL_law_p2 16 rfl) 10 rfl ?_
    refine zi_iconst K (dL_law_p2 17 rfl) zk_i1 ?_
    refine zi_icmp_ne K 306 (dL_law_p2 18 rfl) rfl (fun h212_0 => ?_) (fun h212_0 => ?_)
    · exact absurd rfl h212_0
    refine zV.pick [0, 1, 2, 3, 4, 5, 6, 7, 8, 9] (lo' := [(0, .ref bs), (1, .ref a), (2, .int (nI (sN σ 0))), (3, .int (nI (sN σ 1))), (4, .int (nI (sN σ 2))), (5, .int (nI (sN σ 3))), (6, .long cmt), (8, .ref o), (9, .int (nI i)), (10, .int (nI (8 * i)))]) rfl ?_
    exact k1 (by omega) k n
  · skip
    show zV G X 21 (zLw G o a σ f B k n) k n 118 [(0, .ref bs), (1, .ref a), (2, .int (nI (sN σ 0))), (3, .int (nI (sN σ 1))), (4, .int (nI (sN σ 2))), (5, .int (nI (sN σ 3))), (6, .long cmt), (8, .ref o), (9, .int (nI i)), (10, .int (nI (8 * i))), (11, .int 2), (12, .int (nI t)), (13, .int (nI r))] []
    refine zi_iload K (dL_law_p1 14 rfl) 10 rfl ?_
    refine zi_if_ne K 209 (dL_law_p1 15 rfl) rfl (fun h120_0 => ?_) (fun h120_0 => ?_)
    rotate_left
    · exact absurd h120_0 (by decide)
    refine zi_iload K (dL_law_p2 16 rfl) 10 rfl ?_
    refine zi_iconst K (dL_law_p2 17 rfl) zk_i1 ?_
    refine zi_icmp_ne K 306 (dL_law_p2 18 rfl) rfl (fun h212_0 => ?_) (fun h212_0 => ?_)
    rotate_left
    · exact absurd h212_0 (by decide)
    refine zi_iload K (dL_law_p3 20 rfl) 10 rfl ?_
    refine zi_iconst K (dL_law_p3 21 rfl) zk_i4 ?_
    refine zi_icmp_ge K 487 (dL_law_p3 22 rfl) rfl (fun h309_0 => ?_) (fun h309_0 => ?_)
    · exact absurd h309_0 (by decide)
    refine zV.pick [0, 1, 2, 3, 4, 5, 6, 7, 8, 9] (lo' := [(0, .ref bs), (1, .ref a), (2, .int (nI (sN σ 0))), (3, .int (nI (sN σ 1))), (4, .int (nI (sN σ 2))), (5, .int (nI (sN σ 3))), (6, .long cmt), (8, .ref o), (9, .int (nI i)), (10, .int (nI (8 * i)))]) rfl ?_
    exact k2 (by omega) k n
  · skip
    show zV G X 21 (zLw G o a σ f B k n) k n 118 [(0, .ref bs), (1, .ref a), (2, .int (nI (sN σ 0))), (3, .int (nI (sN σ 1))), (4, .int (nI (sN σ 2))), (5, .int (nI (sN σ 3))), (6, .long cmt), (8, .ref o), (9, .int (nI i)), (10, .int (nI (8 * i))), (11, .int 3), (12, .int (nI t)), (13, .int (nI r))] []
    refine zi_iload K (dL_law_p1 14 rfl) 10 rfl ?_
    refine zi_if_ne K 209 (dL_law_p1 15 rfl) rfl (fun h120_0 => ?_) (fun h120_0 => ?_)
    rotate_left
    · exact absurd h120_0 (by decide)
    refine zi_iload K (dL_law_p2 16 rfl) 10 rfl ?_
    refine zi_iconst K (dL_law_p2 17 rfl) zk_i1 ?_
    refine zi_icmp_ne K 306 (dL_law_p2 18 rfl) rfl (fun h212_0 => ?_) (fun h212_0 => ?_)
    rotate_left
    · exact absurd h212_0 (by decide)
    refine zi_iload K (dL_law_p3 20 rfl) 10 rfl ?_
    refine zi_iconst K (dL_law_p3 21 rfl) zk_i4 ?_
    refine zi_icmp_ge K 487 (dL_law_p3 22 rfl) rfl (fun h309_0 => ?_) (fun h309_0 => ?_)
    · exact absurd h309_0 (by decide)
    refine zV.pick [0, 1, 2, 3, 4, 5, 6, 7, 8, 9] (lo' := [(0, .ref bs), (1, .ref a), (2, .int (nI (sN σ 0))), (3, .int (nI (sN σ 1))), (4, .int (nI (sN σ 2))), (5, .int (nI (sN σ 3))), (6, .long cmt), (8, .ref o), (9, .int (nI i)), (10, .int (nI (8 * i)))]) rfl ?_
    exact k2 (by omega) k n
  · skip
    show zV G X 21 (zLw G o a σ f B k n) k n 118 [(0, .ref bs), (1, .ref a), (2, .int (nI (sN σ 0))), (3, .int (nI (sN σ 1))), (4, .int (nI (sN σ 2))), (5, .int (nI (sN σ 3))), (6, .long cmt), (8, .ref o), (9, .int (nI i)), (10, .int (nI (8 * i))), (11, .int 4), (12, .int (nI t)), (13, .int (nI r))] []
    refine zi_iload K (dL_law_p1 14 rfl) 10 rfl ?_
    refine zi_if_ne K 209 (dL_law_p1 15 rfl) rfl (fun h120_0 => ?_) (fun h120_0 => ?_)
    rotate_left
    · exact absurd h120_0 (by decide)
    refine zi_iload K (dL_law_p2 16 rfl) 10 rfl ?_
    refine zi_iconst K (dL_law_p2 17 rfl) zk_i1 ?_
    refine zi_icmp_ne K 306 (dL_law_p2 18 rfl) rfl (fun h212_0 => ?_) (fun h212_0 => ?_)
    rotate_left
    · exact absurd h212_0 (by decide)
    refine zi_iload K (dL_law_p3 20 rfl) 10 rfl ?_
    refine zi_iconst K (dL_law_p3 21 rfl) zk_i4 ?_
    refine zi_icmp_ge K 487 (dL_law_p3 22 rfl) rfl (fun h309_0 => ?_) (fun h309_0 => ?_)
    rotate_left
    · exact absurd (by decide) h309_0
    refine zi_iload K (dL_law_p5 17 rfl) 10 rfl ?_
    refine zi_iconst K (dL_law_p5 18 rfl) zk_i4 ?_
    refine zi_icmp_ne K 530 (dL_law_p5 19 rfl) rfl (fun h490_0 => ?_) (fun h490_0 => ?_)
    · exact absurd rfl h490_0
    refine zV.pick [0, 1, 2, 3, 4, 5, 6, 7, 8, 9, 11, 12] (lo' := [(0, .ref bs), (1, .ref a), (2, .int (nI (sN σ 0))), (3, .int (nI (sN σ 1))), (4, .int (nI (sN σ 2))), (5, .int (nI (sN σ 3))), (6, .long cmt), (8, .ref o), (9, .int (nI i)), (10, .int (nI (8 * i))), (12, .int (nI t)), (13, .int (nI r))]) rfl ?_
    exact k4 (by omega) k n
  · skip
    show zV G X 21 (zLw G o a σ f B k n) k n 118 [(0, .ref bs), (1, .ref a), (2, .int (nI (sN σ 0))), (3, .int (nI (sN σ 1))), (4, .int (nI (sN σ 2))), (5, .int (nI (sN σ 3))), (6, .long cmt), (8, .ref o), (9, .int (nI i)), (10, .int (nI (8 * i))), (11, .int 5), (12, .int (nI t)), (13, .int (nI r))] []
    refine zi_iload K (dL_law_p1 14 rfl) 10 rfl ?_
    refine zi_if_ne K 209 (dL_law_p1 15 rfl) rfl (fun h120_0 => ?_) (fun h120_0 => ?_)
    rotate_left
    · exact absurd h120_0 (by decide)
    refine zi_iload K (dL_law_p2 16 rfl) 10 rfl ?_
    refine zi_iconst K (dL_law_p2 17 rfl) zk_i1 ?_
    refine zi_icmp_ne K 306 (dL_law_p2 18 rfl) rfl (fun h212_0 => ?_) (fun h212_0 => ?_)
    rotate_left
    · exact absurd h212_0 (by decide)
    refine zi_iload K (dL_law_p3 20 rfl) 10 rfl ?_
    refine zi_iconst K (dL_law_p3 21 rfl) zk_i4 ?_
    refine zi_icmp_ge K 487 (dL_law_p3 22 rfl) rfl (fun h309_0 => ?_) (fun h309_0 => ?_)
    rotate_left
    · exact absurd (by decide) h309_0
    refine zi_iload K (dL_law_p5 17 rfl) 10 rfl ?_
    refine zi_iconst K (dL_law_p5 18 rfl) zk_i4 ?_
    refine zi_icmp_ne K 530 (dL_law_p5 19 rfl) rfl (fun h490_0 => ?_) (fun h490_0 => ?_)
    rotate_left
    · exact absurd h490_0 (by decide)
    refine zi_iload K (dL_law_p5 39 rfl) 10 rfl ?_
    refine zi_iconst K (dL_law_p5 40 rfl) zk_i5 ?_
    refine zi_icmp_ne K 585 (dL_law_p5 41 rfl) rfl (fun h533_0 => ?_) (fun h533_0 => ?_)
    · exact absurd rfl h533_0
    refine zV.pick [0, 1, 2, 3, 4, 5, 6, 7, 8, 9, 12] (lo' := [(0, .ref bs), (1, .ref a), (2, .int (nI (sN σ 0))), (3, .int (nI (sN σ 1))), (4, .int (nI (sN σ 2))), (5, .int (nI (sN σ 3))), (6, .long cmt), (8, .ref o), (9, .int (nI i)), (10, .int (nI (8 * i))), (13, .int (nI r))]) rfl ?_
    exact k5 (by omega) k n
  · skip
    show zV G X 21 (zLw G o a σ f B k n) k n 118 [(0, .ref bs), (1, .ref a), (2, .int (nI (sN σ 0))), (3, .int (nI (sN σ 1))), (4, .int (nI (sN σ 2))), (5, .int (nI (sN σ 3))), (6, .long cmt), (8, .ref o), (9, .int (nI i)), (10, .int (nI (8 * i))), (11, .int 6), (12, .int (nI t)), (13, .int (nI r))] []
    refine zi_iload K (dL_law_p1 14 rfl) 10 rfl ?_
    refine zi_if_ne K 209 (dL_law_p1 15 rfl) rfl (fun h120_0 => ?_) (fun h120_0 => ?_)
    rotate_left
    · exact absurd h120_0 (by decide)
    refine zi_iload K (dL_law_p2 16 rfl) 10 rfl ?_
    refine zi_iconst K (dL_law_p2 17 rfl) zk_i1 ?_
    refine zi_icmp_ne K 306 (dL_law_p2 18 rfl) rfl (fun h212_0 => ?_) (fun h212_0 => ?_)
    rotate_left
    · exact absurd h212_0 (by decide)
    refine zi_iload K (dL_law_p3 20 rfl) 10 rfl ?_
    refine zi_iconst K (dL_law_p3 21 rfl) zk_i4 ?_
    refine zi_icmp_ge K 487 (dL_law_p3 22 rfl) rfl (fun h309_0 => ?_) (fun h309_0 => ?_)
    rotate_left
    · exact absurd (by decide) h309_0
    refine zi_iload K (dL_law_p5 17 rfl) 10 rfl ?_
    refine zi_iconst K (dL_law_p5 18 rfl) zk_i4 ?_
    refine zi_icmp_ne K 530 (dL_law_p5 19 rfl) rfl (fun h490_0 => ?_) (fun h490_0 => ?_)
    rotate_left
    · exact absurd h490_0 (by decide)
    refine zi_iload K (dL_law_p5 39 rfl) 10 rfl ?_
    refine zi_iconst K (dL_law_p5 40 rfl) zk_i5 ?_
    refine zi_icmp_ne K 585 (dL_law_p5 41 rfl) rfl (fun h533_0 => ?_) (fun h533_0 => ?_)
    rotate_left
    · exact absurd h533_0 (by decide)
    refine zi_iload K (dL_law_p6 22 rfl) 10 rfl ?_
    refine zi_bipush K (dL_law_p6 23 rfl) zk_b6 ?_
    refine zi_icmp_ne K 778 (dL_law_p6 24 rfl) rfl (fun h589_0 => ?_) (fun h589_0 => ?_)
    · exact absurd rfl h589_0
    refine zV.pick [0, 1, 2, 3, 4, 5, 6, 7, 8, 9, 12] (lo' := [(0, .ref bs), (1, .ref a), (2, .int (nI (sN σ 0))), (3, .int (nI (sN σ 1))), (4, .int (nI (sN σ 2))), (5, .int (nI (sN σ 3))), (6, .long cmt), (8, .ref o), (9, .int (nI i)), (10, .int (nI (8 * i))), (13, .int (nI r))]) rfl ?_
    exact k6 (by omega) k n
  · skip
    show zV G X 21 (zLw G o a σ f B k n) k n 118 [(0, .ref bs), (1, .ref a), (2, .int (nI (sN σ 0))), (3, .int (nI (sN σ 1))), (4, .int (nI (sN σ 2))), (5, .int (nI (sN σ 3))), (6, .long cmt), (8, .ref o), (9, .int (nI i)), (10, .int (nI (8 * i))), (11, .int 7), (12, .int (nI t)), (13, .int (nI r))] []
    refine zi_iload K (dL_law_p1 14 rfl) 10 rfl ?_
    refine zi_if_ne K 209 (dL_law_p1 15 rfl) rfl (fun h120_0 => ?_) (fun h120_0 => ?_)
    rotate_left
    · exact absurd h120_0 (by decide)
    refine zi_iload K (dL_law_p2 16 rfl) 10 rfl ?_
    refine zi_iconst K (dL_law_p2 17 rfl) zk_i1 ?_
    refine zi_icmp_ne K 306 (dL_law_p2 18 rfl) rfl (fun h212_0 => ?_) (fun h212_0 => ?_)
    rotate_left
    · exact absurd h212_0 (by decide)
    refine zi_iload K (dL_law_p3 20 rfl) 10 rfl ?_
    refine zi_iconst K (dL_law_p3 21 rfl) zk_i4 ?_
    refine zi_icmp_ge K 487 (dL_law_p3 22 rfl) rfl (fun h309_0 => ?_) (fun h309_0 => ?_)
    rotate_left
    · exact absurd (by decide) h309_0
    refine zi_iload K (dL_law_p5 17 rfl) 10 rfl ?_
    refine zi_iconst K (dL_law_p5 18 rfl) zk_i4 ?_
    refine zi_icmp_ne K 530 (dL_law_p5 19 rfl) rfl (fun h490_0 => ?_) (fun h490_0 => ?_)
    rotate_left
    · exact absurd h490_0 (by decide)
    refine zi_iload K (dL_law_p5 39 rfl) 10 rfl ?_
    refine zi_iconst K (dL_law_p5 40 rfl) zk_i5 ?_
    refine zi_icmp_ne K 585 (dL_law_p5 41 rfl) rfl (fun h533_0 => ?_) (fun h533_0 => ?_)
    rotate_left
    · exact absurd h533_0 (by decide)
    refine zi_iload K (dL_law_p6 22 rfl) 10 rfl ?_
    refine zi_bipush K (dL_law_p6 23 rfl) zk_b6 ?_
    refine zi_icmp_ne K 778 (dL_law_p6 24 rfl) rfl (fun h589_0 => ?_) (fun h589_0 => ?_)
    rotate_left
    · exact absurd h589_0 (by decide)
    refine zi_iload K (dL_law_p8 21 rfl) 10 rfl ?_
    refine zi_bipush K (dL_law_p8 22 rfl) zk_b7 ?_
    refine zi_icmp_ne K 921 (dL_law_p8 23 rfl) rfl (fun h782_0 => ?_) (fun h782_0 => ?_)
    · exact absurd rfl h782_0
    refine zi_aload_n K (dL_law_p8 24 rfl) 0 rfl ?_
    refine zi_iload K (dL_law_p8 25 rfl) 9 rfl ?_
    refine zi_iconst K (dL_law_p8 26 rfl) zk_i3 ?_
    refine zi_iadd K (dL_law_p8 27 rfl) ?_
    refine zi_eqi (v := nI ((8 * i) + 3)) (nI_add (8 * i) 3) ?_
    refine zi_iconst K (dL_law_p8 28 rfl) zk_i3 ?_
    refine zV.rmk (fun H h => h.1) (fun hk9 => ?_)
    refine zl_some K Y hL9 ((8 * i) + 3) 3 (by omega) (by omega) (by omega) (dL_law_p8 29 rfl) ⟨by omega, by omega, by omega, by omega⟩ (Nat.le_of_ble_eq_true rfl) ?_
    refine zi_if_ne K 921 (dL_law_p8 30 rfl) rfl (fun h794_0 => ?_) (fun h794_0 => ?_)
    · skip
      refine zi_iload K (dL_law_p9 46 rfl) 10 rfl ?_
      refine zi_bipush K (dL_law_p9 47 rfl) zk_b8 ?_
      refine zi_icmp_ne K 1035 (dL_law_p9 48 rfl) rfl (fun h925_1 => ?_) (fun h925_1 => ?_)
      rotate_left
      · exact absurd h925_1 (by decide)
      refine zi_iload K (dL_law_p11 6 rfl) 10 rfl ?_
      refine zi_bipush K (dL_law_p11 7 rfl) zk_b9 ?_
      refine zi_icmp_ne K 1108 (dL_law_p11 8 rfl) rfl (fun h1039_1 => ?_) (fun h1039_1 => ?_)
      rotate_left
      · exact absurd h1039_1 (by decide)
      refine zi_iload K (dL_law_p11 44 rfl) 10 rfl ?_
      refine zi_bipush K (dL_law_p11 45 rfl) zk_b10 ?_
      refine zi_icmp_ne K 1239 (dL_law_p11 46 rfl) rfl (fun h1112_1 => ?_) (fun h1112_1 => ?_)
      rotate_left
      · exact absurd h1112_1 (by decide)
      refine zV.pick [0, 1, 2, 3, 4, 5, 6, 7, 8, 9, 11] (lo' := [(0, .ref bs), (1, .ref a), (2, .int (nI (sN σ 0))), (3, .int (nI (sN σ 1))), (4, .int (nI (sN σ 2))), (5, .int (nI (sN σ 3))), (6, .long cmt), (8, .ref o), (9, .int (nI i)), (10, .int (nI (8 * i))), (12, .int (nI t))]) rfl ?_
      exact kE (by omega) k n
    · skip
      refine zV.pick [0, 1, 2, 3, 4, 5, 6, 7, 8, 9, 11] (lo' := [(0, .ref bs), (1, .ref a), (2, .int (nI (sN σ 0))), (3, .int (nI (sN σ 1))), (4, .int (nI (sN σ 2))), (5, .int (nI (sN σ 3))), (6, .long cmt), (8, .ref o), (9, .int (nI i)), (10, .int (nI (8 * i))), (12, .int (nI t))]) rfl ?_
      exact k7 (by omega) k n
  · skip
    show zV G X 21 (zLw G o a σ f B k n) k n 118 [(0, .ref bs), (1, .ref a), (2, .int (nI (sN σ 0))), (3, .int (nI (sN σ 1))), (4, .int (nI (sN σ 2))), (5, .int (nI (sN σ 3))), (6, .long cmt), (8, .ref o), (9, .int (nI i)), (10, .int (nI (8 * i))), (11, .int 8), (12, .int (nI t)), (13, .int (nI r))] []
    refine zi_iload K (dL_law_p1 14 rfl) 10 rfl ?_
    refine zi_if_ne K 209 (dL_law_p1 15 rfl) rfl (fun h120_0 => ?_) (fun h120_0 => ?_)
    rotate_left
    · exact absurd h120_0 (by decide)
    refine zi_iload K (dL_law_p2 16 rfl) 10 rfl ?_
    refine zi_iconst K (dL_law_p2 17 rfl) zk_i1 ?_
    refine zi_icmp_ne K 306 (dL_law_p2 18 rfl) rfl (fun h212_0 => ?_) (fun h212_0 => ?_)
    rotate_left
    · exact absurd h212_0 (by decide)
    refine zi_iload K (dL_law_p3 20 rfl) 10 rfl ?_
    refine zi_iconst K (dL_law_p3 21 rfl) zk_i4 ?_
    refine zi_icmp_ge K 487 (dL_law_p3 22 rfl) rfl (fun h309_0 => ?_) (fun h309_0 => ?_)
    rotate_left
    · exact absurd (by decide) h309_0
    refine zi_iload K (dL_law_p5 17 rfl) 10 rfl ?_
    refine zi_iconst K (dL_law_p5 18 rfl) zk_i4 ?_
    refine zi_icmp_ne K 530 (dL_law_p5 19 rfl) rfl (fun h490_0 => ?_) (fun h490_0 => ?_)
    rotate_left
    · exact absurd h490_0 (by decide)
    refine zi_iload K (dL_law_p5 39 rfl) 10 rfl ?_
    refine zi_iconst K (dL_law_p5 40 rfl) zk_i5 ?_
    refine zi_icmp_ne K 585 (dL_law_p5 41 rfl) rfl (fun h533_0 => ?_) (fun h533_0 => ?_)
    rotate_left
    · exact absurd h533_0 (by decide)
    refine zi_iload K (dL_law_p6 22 rfl) 10 rfl ?_
    refine zi_bipush K (dL_law_p6 23 rfl) zk_b6 ?_
    refine zi_icmp_ne K 778 (dL_law_p6 24 rfl) rfl (fun h589_0 => ?_) (fun h589_0 => ?_)
    rotate_left
    · exact absurd h589_0 (by decide)
    refine zi_iload K (dL_law_p8 21 rfl) 10 rfl ?_
    refine zi_bipush K (dL_law_p8 22 rfl) zk_b7 ?_
    refine zi_icmp_ne K 921 (dL_law_p8 23 rfl) rfl (fun h782_0 => ?_) (fun h782_0 => ?_)
    rotate_left
    · exact absurd h782_0 (by decide)
    refine zi_iload K (dL_law_p9 46 rfl) 10 rfl ?_
    refine zi_bipush K (dL_law_p9 47 rfl) zk_b8 ?_
    refine zi_icmp_ne K 1035 (dL_law_p9 48 rfl) rfl (fun h925_0 => ?_) (fun h925_0 => ?_)
    · exact absurd rfl h925_0
    refine zV.pick [0, 1, 2, 3, 4, 5, 6, 7, 8, 9, 11] (lo' := [(0, .ref bs), (1, .ref a), (2, .int (nI (sN σ 0))), (3, .int (nI (sN σ 1))), (4, .int (nI (sN σ 2))), (5, .int (nI (sN σ 3))), (6, .long cmt), (8, .ref o), (9, .int (nI i)), (10, .int (nI (8 * i))), (12, .int (nI t))]) rfl ?_
    exact k8 (by omega) k n
  · skip
    show zV G X 21 (zLw G o a σ f B k n) k n 118 [(0, .ref bs), (1, .ref a), (2, .int (nI (sN σ 0))), (3, .int (nI (sN σ 1))), (4, .int (nI (sN σ 2))), (5, .int (nI (sN σ 3))), (6, .long cmt), (8, .ref o), (9, .int (nI i)), (10, .int (nI (8 * i))), (11, .int 9), (12, .int (nI t)), (13, .int (nI r))] []
    refine zi_iload K (dL_law_p1 14 rfl) 10 rfl ?_
    refine zi_if_ne K 209 (dL_law_p1 15 rfl) rfl (fun h120_0 => ?_) (fun h120_0 => ?_)
    rotate_left
    · exact absurd h120_0 (by decide)
    refine zi_iload K (dL_law_p2 16 rfl) 10 rfl ?_
    refine zi_iconst K (dL_law_p2 17 rfl) zk_i1 ?_
    refine zi_icmp_ne K 306 (dL_law_p2 18 rfl) rfl (fun h212_0 => ?_) (fun h212_0 => ?_)
    rotate_left
    · exact absurd h212_0 (by decide)
    refine zi_iload K (dL_law_p3 20 rfl) 10 rfl ?_
    refine zi_iconst K (dL_law_p3 21 rfl) zk_i4 ?_
    refine zi_icmp_ge K 487 (dL_law_p3 22 rfl) rfl (fun h309_0 => ?_) (fun h309_0 => ?_)
    rotate_left
    · exact absurd (by decide) h309_0
    refine zi_iload K (dL_law_p5 17 rfl) 10 rfl ?_
    refine zi_iconst K (dL_law_p5 18 rfl) zk_i4 ?_
    refine zi_icmp_ne K 530 (dL_law_p5 19 rfl) rfl (fun h490_0 => ?_) (fun h490_0 => ?_)
    rotate_left
    · exact absurd h490_0 (by decide)
    refine zi_iload K (dL_law_p5 39 rfl) 10 rfl ?_
    refine zi_iconst K (dL_law_p5 40 rfl) zk_i5 ?_
    refine zi_icmp_ne K 585 (dL_law_p5 41 rfl) rfl (fun h533_0 => ?_) (fun h533_0 => ?_)
    rotate_left
    · exact absurd h533_0 (by decide)
    refine zi_iload K (dL_law_p6 22 rfl) 10 rfl ?_
    refine zi_bipush K (dL_law_p6 23 rfl) zk_b6 ?_
    refine zi_icmp_ne K 778 (dL_law_p6 24 rfl) rfl (fun h589_0 => ?_) (fun h589_0 => ?_)
    rotate_left
    · exact absurd h589_0 (by decide)
    refine zi_iload K (dL_law_p8 21 rfl) 10 rfl ?_
    refine zi_bipush K (dL_law_p8 22 rfl) zk_b7 ?_
    refine zi_icmp_ne K 921 (dL_law_p8 23 rfl) rfl (fun h782_0 => ?_) (fun h782_0 => ?_)
    rotate_left
    · exact absurd h782_0 (by decide)
    refine zi_iload K (dL_law_p9 46 rfl) 10 rfl ?_
    refine zi_bipush K (dL_law_p9 47 rfl) zk_b8 ?_
    refine zi_icmp_ne K 1035 (dL_law_p9 48 rfl) rfl (fun h925_0 => ?_) (fun h925_0 => ?_)
    rotate_left
    · exact absurd h925_0 (by decide)
    refine zi_iload K (dL_law_p11 6 rfl) 10 rfl ?_
    refine zi_bipush K (dL_law_p11 7 rfl) zk_b9 ?_
    refine zi_icmp_ne K 1108 (dL_law_p11 8 rfl) rfl (fun h1039_0 => ?_) (fun h1039_0 => ?_)
    · exact absurd rfl h1039_0
    refine zi_iload_n K (dL_law_p11 9 rfl) 3 rfl ?_
    refine zi_if_le K 1108 (dL_law_p11 10 rfl) rfl (fun h1043_0 => ?_) (fun h1043_0 => ?_)
    · skip
      refine zi_iload K (dL_law_p11 44 rfl) 10 rfl ?_
      refine zi_bipush K (dL_law_p11 45 rfl) zk_b10 ?_
      refine zi_icmp_ne K 1239 (dL_law_p11 46 rfl) rfl (fun h1112_1 => ?_) (fun h1112_1 => ?_)
      rotate_left
      · exact absurd h1112_1 (by decide)
      refine zV.pick [0, 1, 2, 3, 4, 5, 6, 7, 8, 9, 11] (lo' := [(0, .ref bs), (1, .ref a), (2, .int (nI (sN σ 0))), (3, .int (nI (sN σ 1))), (4, .int (nI (sN σ 2))), (5, .int (nI (sN σ 3))), (6, .long cmt), (8, .ref o), (9, .int (nI i)), (10, .int (nI (8 * i))), (12, .int (nI t))]) rfl ?_
      exact kE (by omega) k n
    · skip
      refine zV.pick [0, 1, 2, 3, 4, 5, 6, 7, 8, 9] (lo' := [(0, .ref bs), (1, .ref a), (2, .int (nI (sN σ 0))), (3, .int (nI (sN σ 1))), (4, .int (nI (sN σ 2))), (5, .int (nI (sN σ 3))), (6, .long cmt), (8, .ref o), (9, .int (nI i)), (10, .int (nI (8 * i)))]) rfl ?_
      exact k9 (by omega) (Nat.pos_of_ne_zero (fun q => h1043_0 (by rw [q]; decide))) k n
  · skip
    show zV G X 21 (zLw G o a σ f B k n) k n 118 [(0, .ref bs), (1, .ref a), (2, .int (nI (sN σ 0))), (3, .int (nI (sN σ 1))), (4, .int (nI (sN σ 2))), (5, .int (nI (sN σ 3))), (6, .long cmt), (8, .ref o), (9, .int (nI i)), (10, .int (nI (8 * i))), (11, .int 10), (12, .int (nI t)), (13, .int (nI r))] []
    refine zi_iload K (dL_law_p1 14 rfl) 10 rfl ?_
    refine zi_if_ne K 209 (dL_law_p1 15 rfl) rfl (fun h120_0 => ?_) (fun h120_0 => ?_)
    rotate_left
    · exact absurd h120_0 (by decide)
    refine zi_iload K (dL_law_p2 16 rfl) 10 rfl ?_
    refine zi_iconst K (dL_law_p2 17 rfl) zk_i1 ?_
    refine zi_icmp_ne K 306 (dL_law_p2 18 rfl) rfl (fun h212_0 => ?_) (fun h212_0 => ?_)
    rotate_left
    · exact absurd h212_0 (by decide)
    refine zi_iload K (dL_law_p3 20 rfl) 10 rfl ?_
    refine zi_iconst K (dL_law_p3 21 rfl) zk_i4 ?_
    refine zi_icmp_ge K 487 (dL_law_p3 22 rfl) rfl (fun h309_0 => ?_) (fun h309_0 => ?_)
    rotate_left
    · exact absurd (by decide) h309_0
    refine zi_iload K (dL_law_p5 17 rfl) 10 rfl ?_
    refine zi_iconst K (dL_law_p5 18 rfl) zk_i4 ?_
    refine zi_icmp_ne K 530 (dL_law_p5 19 rfl) rfl (fun h490_0 => ?_) (fun h490_0 => ?_)
    rotate_left
    · exact absurd h490_0 (by decide)
    refine zi_iload K (dL_law_p5 39 rfl) 10 rfl ?_
    refine zi_iconst K (dL_law_p5 40 rfl) zk_i5 ?_
    refine zi_icmp_ne K 585 (dL_law_p5 41 rfl) rfl (fun h533_0 => ?_) (fun h533_0 => ?_)
    rotate_left
    · exact absurd h533_0 (by decide)
    refine zi_iload K (dL_law_p6 22 rfl) 10 rfl ?_
    refine zi_bipush K (dL_law_p6 23 rfl) zk_b6 ?_
    refine zi_icmp_ne K 778 (dL_law_p6 24 rfl) rfl (fun h589_0 => ?_) (fun h589_0 => ?_)
    rotate_left
    · exact absurd h589_0 (by decide)
    refine zi_iload K (dL_law_p8 21 rfl) 10 rfl ?_
    refine zi_bipush K (dL_law_p8 22 rfl) zk_b7 ?_
    refine zi_icmp_ne K 921 (dL_law_p8 23 rfl) rfl (fun h782_0 => ?_) (fun h782_0 => ?_)
    rotate_left
    · exact absurd h782_0 (by decide)
    refine zi_iload K (dL_law_p9 46 rfl) 10 rfl ?_
    refine zi_bipush K (dL_law_p9 47 rfl) zk_b8 ?_
    refine zi_icmp_ne K 1035 (dL_law_p9 48 rfl) rfl (fun h925_0 => ?_) (fun h925_0 => ?_)
    rotate_left
    · exact absurd h925_0 (by decide)
    refine zi_iload K (dL_law_p11 6 rfl) 10 rfl ?_
    refine zi_bipush K (dL_law_p11 7 rfl) zk_b9 ?_
    refine zi_icmp_ne K 1108 (dL_law_p11 8 rfl) rfl (fun h1039_0 => ?_) (fun h1039_0 => ?_)
    rotate_left
    · exact absurd h1039_0 (by decide)
    refine zi_iload K (dL_law_p11 44 rfl) 10 rfl ?_
    refine zi_bipush K (dL_law_p11 45 rfl) zk_b10 ?_
    refine zi_icmp_ne K 1239 (dL_law_p11 46 rfl) rfl (fun h1112_0 => ?_) (fun h1112_0 => ?_)
    · exact absurd rfl h1112_0
    refine zV.pick [0, 1, 2, 3, 4, 5, 6, 7, 8, 9] (lo' := [(0, .ref bs), (1, .ref a), (2, .int (nI (sN σ 0))), (3, .int (nI (sN σ 1))), (4, .int (nI (sN σ 2))), (5, .int (nI (sN σ 3))), (6, .long cmt), (8, .ref o), (9, .int (nI i)), (10, .int (nI (8 * i)))]) rfl ?_
    exact k10 (by omega) k n
  · skip
    show zV G X 21 (zLw G o a σ f B k n) k n 118 [(0, .ref bs), (1, .ref a), (2, .int (nI (sN σ 0))), (3, .int (nI (sN σ 1))), (4, .int (nI (sN σ 2))), (5, .int (nI (sN σ 3))), (6, .long cmt), (8, .ref o), (9, .int (nI i)), (10, .int (nI (8 * i))), (11, .int 11), (12, .int (nI t)), (13, .int (nI r))] []
    refine zi_iload K (dL_law_p1 14 rfl) 10 rfl ?_
    refine zi_if_ne K 209 (dL_law_p1 15 rfl) rfl (fun h120_0 => ?_) (fun h120_0 => ?_)
    rotate_left
    · exact absurd h120_0 (by decide)
    refine zi_iload K (dL_law_p2 16 rfl) 10 rfl ?_
    refine zi_iconst K (dL_law_p2 17 rfl) zk_i1 ?_
    refine zi_icmp_ne K 306 (dL_law_p2 18 rfl) rfl (fun h212_0 => ?_) (fun h212_0 => ?_)
    rotate_left
    · exact absurd h212_0 (by decide)
    refine zi_iload K (dL_law_p3 20 rfl) 10 rfl ?_
    refine zi_iconst K (dL_law_p3 21 rfl) zk_i4 ?_
    refine zi_icmp_ge K 487 (dL_law_p3 22 rfl) rfl (fun h309_0 => ?_) (fun h309_0 => ?_)
    rotate_left
    · exact absurd (by decide) h309_0
    refine zi_iload K (dL_law_p5 17 rfl) 10 rfl ?_
    refine zi_iconst K (dL_law_p5 18 rfl) zk_i4 ?_
    refine zi_icmp_ne K 530 (dL_law_p5 19 rfl) rfl (fun h490_0 => ?_) (fun h490_0 => ?_)
    rotate_left
    · exact absurd h490_0 (by decide)
    refine zi_iload K (dL_law_p5 39 rfl) 10 rfl ?_
    refine zi_iconst K (dL_law_p5 40 rfl) zk_i5 ?_
    refine zi_icmp_ne K 585 (dL_law_p5 41 rfl) rfl (fun h533_0 => ?_) (fun h533_0 => ?_)
    rotate_left
    · exact absurd h533_0 (by decide)
    refine zi_iload K (dL_law_p6 22 rfl) 10 rfl ?_
    refine zi_bipush K (dL_law_p6 23 rfl) zk_b6 ?_
    refine zi_icmp_ne K 778 (dL_law_p6 24 rfl) rfl (fun h589_0 => ?_) (fun h589_0 => ?_)
    rotate_left
    · exact absurd h589_0 (by decide)
    refine zi_iload K (dL_law_p8 21 rfl) 10 rfl ?_
    refine zi_bipush K (dL_law_p8 22 rfl) zk_b7 ?_
    refine zi_icmp_ne K 921 (dL_law_p8 23 rfl) rfl (fun h782_0 => ?_) (fun h782_0 => ?_)
    rotate_left
    · exact absurd h782_0 (by decide)
    refine zi_iload K (dL_law_p9 46 rfl) 10 rfl ?_
    refine zi_bipush K (dL_law_p9 47 rfl) zk_b8 ?_
    refine zi_icmp_ne K 1035 (dL_law_p9 48 rfl) rfl (fun h925_0 => ?_) (fun h925_0 => ?_)
    rotate_left
    · exact absurd h925_0 (by decide)
    refine zi_iload K (dL_law_p11 6 rfl) 10 rfl ?_
    refine zi_bipush K (dL_law_p11 7 rfl) zk_b9 ?_
    refine zi_icmp_ne K 1108 (dL_law_p11 8 rfl) rfl (fun h1039_0 => ?_) (fun h1039_0 => ?_)
    rotate_left
    · exact absurd h1039_0 (by decide)
    refine zi_iload K (dL_law_p11 44 rfl) 10 rfl ?_
    refine zi_bipush K (dL_law_p11 45 rfl) zk_b10 ?_
    refine zi_icmp_ne K 1239 (dL_law_p11 46 rfl) rfl (fun h1112_0 => ?_) (fun h1112_0 => ?_)
    rotate_left
    · exact absurd h1112_0 (by decide)
    refine zV.pick [0, 1, 2, 3, 4, 5, 6, 7, 8, 9, 11] (lo' := [(0, .ref bs), (1, .ref a), (2, .int (nI (sN σ 0))), (3, .int (nI (sN σ 1))), (4, .int (nI (sN σ 2))), (5, .int (nI (sN σ 3))), (6, .long cmt), (8, .ref o), (9, .int (nI i)), (10, .int (nI (8 * i))), (12, .int (nI t))]) rfl ?_
    exact kE (by omega) k n
set_option maxRecDepth 100000 in
set_option maxHeartbeats 8000000 in
theorem b_head {G : zG} {X : zX} {bs Ls o a : Nat} {ys : Nat → Int32} {σ : zSt} {f : Nat → Int32} {B i : Nat} {cmt : Int64} {rm : Room} (K : zK G X cL_law "LayertreatyLaw" 21 (some .boolean) rm) (Y : zY G bs Ls ys (xs X)) (hL9 : Ls ≤ 260) (hi9 : i < 50) (hR9 : 60 ≤ rm.frames ∧ 2000 ≤ rm.locals) (hw : zW σ) (hN2 : sN σ 2 ≤ 8) (hB0 : sgc σ + B ≤ rm.cells ∧ sgs σ + 6 * B ≤ rm.slots)
    (kw : ∀ w t r : Nat, w < 12 → t < 8 → r < 5 → (0 < sN σ 2 → t < sN σ 2) → (w = 0 ∨ 3 ≤ i) → (w < 3 ∨ 11 ≤ i) → (w = 2 ∨ i < 8 ∨ 11 ≤ i) → zVf G X 21 (zLw G o a σ f B) 118 [(0, .ref bs), (1, .ref a), (2, .int (nI (sN σ 0))), (3, .int (nI (sN σ 1))), (4, .int (nI (sN σ 2))), (5, .int (nI (sN σ 3))), (6, .long cmt), (8, .ref o), (9, .int (nI i)), (10, .int (nI (8 * i))), (11, .int (nI w)), (12, .int (nI t)), (13, .int (nI r))] []) : zVf G X 21 (zLw G o a σ f B) 30 [(0, .ref bs), (1, .ref a), (2, .int (nI (sN σ 0))), (3, .int (nI (sN σ 1))), (4, .int (nI (sN σ 2))), (5, .int (nI (sN σ 3))), (6, .long cmt), (8, .ref o), (9, .int (nI i))] [] := by
  intro k n
  refine zi_iload K (dL_law_p0 19 rfl) 8 rfl ?_
  refine zi_bipush K (dL_law_p0 20 rfl) zk_b50 ?_
  refine zi_icmp_ge K 1444 (dL_law_p0 21 rfl) rfl (fun h34_0 => ?_) (fun h34_0 => ?_)
  · exact absurd ((nIle (m := 50) (i := i) (by decide) (by omega)).mp h34_0) (by omega)
  refine zi_bipush K (dL_law_p0 22 rfl) zk_b8 ?_
  refine zi_iload K (dL_law_p0 23 rfl) 8 rfl ?_
  refine zi_imul K (dL_law_p0 24 rfl) ?_
  refine zi_eqi (v := nI (8 * i)) (nI_mul 8 i) ?_
  refine zi_istore K [(10, .int (nI (8 * i))), (0, .ref bs), (1, .ref a), (2, .int (nI (sN σ 0))), (3, .int (nI (sN σ 1))), (4, .int (nI (sN σ 2))), (5, .int (nI (sN σ 3))), (6, .long cmt), (8, .ref o), (9, .int (nI i))] (dL_law_p0 25 rfl) (by decide) rfl ?_
  refine zi_iload K (dL_law_p0 26 rfl) 9 rfl ?_
  refine zi_iconst K (dL_law_p0 27 rfl) zk_i3 ?_
  refine zi_icmp_ge K 54 (dL_law_p0 28 rfl) rfl (fun h47_0 => ?_) (fun h47_0 => ?_)
  · skip
    refine zi_iload K (dL_law_p0 31 rfl) 9 rfl ?_
    refine zi_bipush K (dL_law_p0 32 rfl) zk_b8 ?_
    refine zi_icmp_ge K 65 (dL_law_p0 33 rfl) rfl (fun h58_1 => ?_) (fun h58_1 => ?_)
    · skip
      refine zi_iload K (dL_law_p0 36 rfl) 9 rfl ?_
      refine zi_bipush K (dL_law_p0 37 rfl) zk_b11 ?_
      refine zi_icmp_ge K 76 (dL_law_p0 38 rfl) rfl (fun h69_2 => ?_) (fun h69_2 => ?_)
      · skip
        refine zi_aload_n K (dL_law_p0 41 rfl) 1 rfl ?_
        refine zi_iload K (dL_law_p0 42 rfl) 0 rfl ?_
        refine zi_bipush K (dL_law_p0 43 rfl) zk_b12 ?_
        refine zV.rmk (fun H h => h.1) (fun hk9 => ?_)
        refine zl_some K Y hL9 (8 * i) 12 (by omega) (by omega) (by omega) (dL_law_p0 44 rfl) ⟨by omega, by omega, by omega, by omega⟩ (Nat.le_of_ble_eq_true rfl) ?_
        refine zi_istore K [(11, .int (nI (zsm Ls ys (8 * i) 12))), (10, .int (nI (8 * i))), (0, .ref bs), (1, .ref a), (2, .int (nI (sN σ 0))), (3, .int (nI (sN σ 1))), (4, .int (nI (sN σ 2))), (5, .int (nI (sN σ 3))), (6, .long cmt), (8, .ref o), (9, .int (nI i))] (dL_law_p0 45 rfl) (by decide) rfl ?_
        refine zi_iload K (dL_law_p0 46 rfl) 6 rfl ?_
        refine zi_if_ne K 95 (dL_law_p0 47 rfl) rfl (fun h88_3 => ?_) (fun h88_3 => ?_)
        · skip
          have ht0 : 0 < sN σ 2 := Nat.pos_of_ne_zero (fun q => h88_3 (by rw [q]; rfl))
          have hq1 := zsm_lt (Ls := Ls) (ys := ys) (i := 8 * i + 1) (m := sN σ 2) ht0
          refine zi_aload_n K (dL_law_p1 0 rfl) 2 rfl ?_
          refine zi_iload K (dL_law_p1 1 rfl) 1 rfl ?_
          refine zi_iconst K (dL_law_p1 2 rfl) zk_i1 ?_
          refine zi_iadd K (dL_law_p1 3 rfl) ?_
          refine zi_eqi (v := nI ((8 * i) + 1)) (nI_add (8 * i) 1) ?_
          refine zi_iload K (dL_law_p1 4 rfl) 6 rfl ?_
          refine zV.rmk (fun H h => h.1) (fun hk9 => ?_)
          refine zl_some K Y hL9 ((8 * i) + 1) (sN σ 2) (by omega) (by omega) (by omega) (dL_law_p1 5 rfl) ⟨by omega, by omega, by omega, by omega⟩ (Nat.le_of_ble_eq_true rfl) ?_
          refine zi_istore K [(12, .int (nI (zsm Ls ys ((8 * i) + 1) (sN σ 2)))), (11, .int (nI (zsm Ls ys (8 * i) 12))), (10, .int (nI (8 * i))), (0, .ref bs), (1, .ref a), (2, .int (nI (sN σ 0))), (3, .int (nI (sN σ 1))), (4, .int (nI (sN σ 2))), (5, .int (nI (sN σ 3))), (6, .long cmt), (8, .ref o), (9, .int (nI i))] (dL_law_p1 6 rfl) (by decide) rfl ?_
          refine zi_aload_n K (dL_law_p1 7 rfl) 3 rfl ?_
          refine zi_iload K (dL_law_p1 8 rfl) 2 rfl ?_
          refine zi_iconst K (dL_law_p1 9 rfl) zk_i2 ?_
          refine zi_iadd K (dL_law_p1 10 rfl) ?_
          refine zi_eqi (v := nI ((8 * i) + 2)) (nI_add (8 * i) 2) ?_
          refine zi_iconst K (dL_law_p1 11 rfl) zk_i5 ?_
          refine zV.rmk (fun H h => h.1) (fun hk9 => ?_)
          refine zl_some K Y hL9 ((8 * i) + 2) 5 (by omega) (by omega) (by omega) (dL_law_p1 12 rfl) ⟨by omega, by omega, by omega, by omega⟩ (Nat.le_of_ble_eq_true rfl) ?_
          refine zi_istore K [(13, .int (nI (zsm Ls ys ((8 * i) + 2) 5))), (12, .int (nI (zsm Ls ys ((8 * i) + 1) (sN σ 2)))), (11, .int (nI (zsm Ls ys (8 * i) 12))), (10, .int (nI (8 * i))), (0, .ref bs), (1, .ref a), (2, .int (nI (sN σ 0))), (3, .int (nI (sN σ 1))), (4, .int (nI (sN σ 2))), (5, .int (nI (sN σ 3))), (6, .long cmt), (8, .ref o), (9, .int (nI i))] (dL_law_p1 13 rfl) (by decide) rfl ?_
          refine zV.pick [4, 5, 6, 7, 8, 9, 10, 11, 12, 3, 2, 1, 0] (lo' := [(0, .ref bs), (1, .ref a), (2, .int (nI (sN σ 0))), (3, .int (nI (sN σ 1))), (4, .int (nI (sN σ 2))), (5, .int (nI (sN σ 3))), (6, .long cmt), (8, .ref o), (9, .int (nI i)), (10, .int (nI (8 * i))), (11, .int (nI (zsm Ls ys (8 * i) 12))), (12, .int (nI (zsm Ls ys ((8 * i) + 1) (sN σ 2)))), (13, .int (nI (zsm Ls ys ((8 * i) + 2) 5)))]) rfl ?_
          exact (kw (zsm Ls ys (8 * i) 12) (zsm Ls ys ((8 * i) + 1) (sN σ 2)) (zsm Ls ys (8 * i + 2) 5) (zsm_lt (by decide)) (by omega) (zsm_lt (by decide)) (fun _ => hq1) (by have g47 : 3 ≤ i := (nIle (m := 3) (i := i) (by decide) (by omega)).mp h47_0; have g58 : 8 ≤ i := (nIle (m := 8) (i := i) (by decide) (by omega)).mp h58_1; have g69 : 11 ≤ i := (nIle (m := 11) (i := i) (by decide) (by omega)).mp h69_2; omega) (by have g47 : 3 ≤ i := (nIle (m := 3) (i := i) (by decide) (by omega)).mp h47_0; have g58 : 8 ≤ i := (nIle (m := 8) (i := i) (by decide) (by omega)).mp h58_1; have g69 : 11 ≤ i := (nIle (m := 11) (i := i) (by decide) (by omega)).mp h69_2; omega) (by have g47 : 3 ≤ i := (nIle (m := 3) (i := i) (by decide) (by omega)).mp h47_0; have g58 : 8 ≤ i := (nIle (m := 8) (i := i) (by decide) (by omega)).mp h58_1; have g69 : 11 ≤ i := (nIle (m := 11) (i := i) (by decide) (by omega)).mp h69_2; omega)) k n
        · skip
          refine zi_iconst K (dL_law_p0 48 rfl) zk_i0 ?_
          refine zi_goto K 105 (dL_law_p0 49 rfl) rfl ?_
          refine zi_istore K [(12, .int 0), (11, .int (nI (zsm Ls ys (8 * i) 12))), (10, .int (nI (8 * i))), (0, .ref bs), (1, .ref a), (2, .int (nI (sN σ 0))), (3, .int (nI (sN σ 1))), (4, .int (nI (sN σ 2))), (5, .int (nI (sN σ 3))), (6, .long cmt), (8, .ref o), (9, .int (nI i))] (dL_law_p1 6 rfl) (by decide) rfl ?_
          refine zi_aload_n K (dL_law_p1 7 rfl) 3 rfl ?_
          refine zi_iload K (dL_law_p1 8 rfl) 2 rfl ?_
          refine zi_iconst K (dL_law_p1 9 rfl) zk_i2 ?_
          refine zi_iadd K (dL_law_p1 10 rfl) ?_
          refine zi_eqi (v := nI ((8 * i) + 2)) (nI_add (8 * i) 2) ?_
          refine zi_iconst K (dL_law_p1 11 rfl) zk_i5 ?_
          refine zV.rmk (fun H h => h.1) (fun hk9 => ?_)
          refine zl_some K Y hL9 ((8 * i) + 2) 5 (by omega) (by omega) (by omega) (dL_law_p1 12 rfl) ⟨by omega, by omega, by omega, by omega⟩ (Nat.le_of_ble_eq_true rfl) ?_
          refine zi_istore K [(13, .int (nI (zsm Ls ys ((8 * i) + 2) 5))), (12, .int 0), (11, .int (nI (zsm Ls ys (8 * i) 12))), (10, .int (nI (8 * i))), (0, .ref bs), (1, .ref a), (2, .int (nI (sN σ 0))), (3, .int (nI (sN σ 1))), (4, .int (nI (sN σ 2))), (5, .int (nI (sN σ 3))), (6, .long cmt), (8, .ref o), (9, .int (nI i))] (dL_law_p1 13 rfl) (by decide) rfl ?_
          refine zV.pick [4, 5, 6, 7, 8, 9, 10, 11, 12, 3, 2, 1, 0] (lo' := [(0, .ref bs), (1, .ref a), (2, .int (nI (sN σ 0))), (3, .int (nI (sN σ 1))), (4, .int (nI (sN σ 2))), (5, .int (nI (sN σ 3))), (6, .long cmt), (8, .ref o), (9, .int (nI i)), (10, .int (nI (8 * i))), (11, .int (nI (zsm Ls ys (8 * i) 12))), (12, .int 0), (13, .int (nI (zsm Ls ys ((8 * i) + 2) 5)))]) rfl ?_
          exact (kw (zsm Ls ys (8 * i) 12) (0) (zsm Ls ys (8 * i + 2) 5) (zsm_lt (by decide)) (by decide) (zsm_lt (by decide)) (fun q => absurd (by rw [(nIz (by omega)).mp (h88_3)] at q; exact q) (Nat.lt_irrefl 0)) (by have g47 : 3 ≤ i := (nIle (m := 3) (i := i) (by decide) (by omega)).mp h47_0; have g58 : 8 ≤ i := (nIle (m := 8) (i := i) (by decide) (by omega)).mp h58_1; have g69 : 11 ≤ i := (nIle (m := 11) (i := i) (by decide) (by omega)).mp h69_2; omega) (by have g47 : 3 ≤ i := (nIle (m := 3) (i := i) (by decide) (by omega)).mp h47_0; have g58 : 8 ≤ i := (nIle (m := 8) (i := i) (by decide) (by omega)).mp h58_1; have g69 : 11 ≤ i := (nIle (m := 11) (i := i) (by decide) (by omega)).mp h69_2; omega) (by have g47 : 3 ≤ i := (nIle (m := 3) (i := i) (by decide) (by omega)).mp h47_0; have g58 : 8 ≤ i := (nIle (m := 8) (i := i) (by decide) (by omega)).mp h58_1; have g69 : 11 ≤ i := (nIle (m := 11) (i := i) (by decide) (by omega)).mp h69_2; omega)) k n
      · skip
        refine zi_iconst K (dL_law_p0 39 rfl) zk_i2 ?_
        refine zi_goto K 84 (dL_law_p0 40 rfl) rfl ?_
        refine zi_istore K [(11, .int 2), (10, .int (nI (8 * i))), (0, .ref bs), (1, .ref a), (2, .int (nI (sN σ 0))), (3, .int (nI (sN σ 1))), (4, .int (nI (sN σ 2))), (5, .int (nI (sN σ 3))), (6, .long cmt), (8, .ref o), (9, .int (nI i))] (dL_law_p0 45 rfl) (by decide) rfl ?_
        refine zi_iload K (dL_law_p0 46 rfl) 6 rfl ?_
        refine zi_if_ne K 95 (dL_law_p0 47 rfl) rfl (fun h88_3 => ?_) (fun h88_3 => ?_)
        · skip
          have ht0 : 0 < sN σ 2 := Nat.pos_of_ne_zero (fun q => h88_3 (by rw [q]; rfl))
          have hq1 := zsm_lt (Ls := Ls) (ys := ys) (i := 8 * i + 1) (m := sN σ 2) ht0
          refine zi_aload_n K (dL_law_p1 0 rfl) 2 rfl ?_
          refine zi_iload K (dL_law_p1 1 rfl) 1 rfl ?_
          refine zi_iconst K (dL_law_p1 2 rfl) zk_i1 ?_
          refine zi_iadd K (dL_law_p1 3 rfl) ?_
          refine zi_eqi (v := nI ((8 * i) + 1)) (nI_add (8 * i) 1) ?_
          refine zi_iload K (dL_law_p1 4 rfl) 6 rfl ?_
          refine zV.rmk (fun H h => h.1) (fun hk9 => ?_)
          refine zl_some K Y hL9 ((8 * i) + 1) (sN σ 2) (by omega) (by omega) (by omega) (dL_law_p1 5 rfl) ⟨by omega, by omega, by omega, by omega⟩ (Nat.le_of_ble_eq_true rfl) ?_
          refine zi_istore K [(12, .int (nI (zsm Ls ys ((8 * i) + 1) (sN σ 2)))), (11, .int 2), (10, .int (nI (8 * i))), (0, .ref bs), (1, .ref a), (2, .int (nI (sN σ 0))), (3, .int (nI (sN σ 1))), (4, .int (nI (sN σ 2))), (5, .int (nI (sN σ 3))), (6, .long cmt), (8, .ref o), (9, .int (nI i))] (dL_law_p1 6 rfl) (by decide) rfl ?_
          refine zi_aload_n K (dL_law_p1 7 rfl) 3 rfl ?_
          refine zi_iload K (dL_law_p1 8 rfl) 2 rfl ?_
          refine zi_iconst K (dL_law_p1 9 rfl) zk_i2 ?_
          refine zi_iadd K (dL_law_p1 10 rfl) ?_
          refine zi_eqi (v := nI ((8 * i) + 2)) (nI_add (8 * i) 2) ?_
          refine zi_iconst K (dL_law_p1 11 rfl) zk_i5 ?_
          refine zV.rmk (fun H h => h.1) (fun hk9 => ?_)
          refine zl_some K Y hL9 ((8 * i) + 2) 5 (by omega) (by omega) (by omega) (dL_law_p1 12 rfl) ⟨by omega, by omega, by omega, by omega⟩ (Nat.le_of_ble_eq_true rfl) ?_
          refine zi_istore K [(13, .int (nI (zsm Ls ys ((8 * i) + 2) 5))), (12, .int (nI (zsm Ls ys ((8 * i) + 1) (sN σ 2)))), (11, .int 2), (10, .int (nI (8 * i))), (0, .ref bs), (1, .ref a), (2, .int (nI (sN σ 0))), (3, .int (nI (sN σ 1))), (4, .int (nI (sN σ 2))), (5, .int (nI (sN σ 3))), (6, .long cmt), (8, .ref o), (9, .int (nI i))] (dL_law_p1 13 rfl) (by decide) rfl ?_
          refine zV.pick [4, 5, 6, 7, 8, 9, 10, 11, 12, 3, 2, 1, 0] (lo' := [(0, .ref bs), (1, .ref a), (2, .int (nI (sN σ 0))), (3, .int (nI (sN σ 1))), (4, .int (nI (sN σ 2))), (5, .int (nI (sN σ 3))), (6, .long cmt), (8, .ref o), (9, .int (nI i)), (10, .int (nI (8 * i))), (11, .int 2), (12, .int (nI (zsm Ls ys ((8 * i) + 1) (sN σ 2)))), (13, .int (nI (zsm Ls ys ((8 * i) + 2) 5)))]) rfl ?_
          exact (kw (2) (zsm Ls ys ((8 * i) + 1) (sN σ 2)) (zsm Ls ys (8 * i + 2) 5) (by decide) (by omega) (zsm_lt (by decide)) (fun _ => hq1) (by have g47 : 3 ≤ i := (nIle (m := 3) (i := i) (by decide) (by omega)).mp h47_0; have g58 : 8 ≤ i := (nIle (m := 8) (i := i) (by decide) (by omega)).mp h58_1; have g69 : ¬ 11 ≤ i := fun q => h69_2 ((nIle (m := 11) (i := i) (by decide) (by omega)).mpr q); omega) (by have g47 : 3 ≤ i := (nIle (m := 3) (i := i) (by decide) (by omega)).mp h47_0; have g58 : 8 ≤ i := (nIle (m := 8) (i := i) (by decide) (by omega)).mp h58_1; have g69 : ¬ 11 ≤ i := fun q => h69_2 ((nIle (m := 11) (i := i) (by decide) (by omega)).mpr q); omega) (by have g47 : 3 ≤ i := (nIle (m := 3) (i := i) (by decide) (by omega)).mp h47_0; have g58 : 8 ≤ i := (nIle (m := 8) (i := i) (by decide) (by omega)).mp h58_1; have g69 : ¬ 11 ≤ i := fun q => h69_2 ((nIle (m := 11) (i := i) (by decide) (by omega)).mpr q); omega)) k n
        · skip
          refine zi_iconst K (dL_law_p0 48 rfl) zk_i0 ?_
          refine zi_goto K 105 (dL_law_p0 49 rfl) rfl ?_
          refine zi_istore K [(12, .int 0), (11, .int 2), (10, .int (nI (8 * i))), (0, .ref bs), (1, .ref a), (2, .int (nI (sN σ 0))), (3, .int (nI (sN σ 1))), (4, .int (nI (sN σ 2))), (5, .int (nI (sN σ 3))), (6, .long cmt), (8, .ref o), (9, .int (nI i))] (dL_law_p1 6 rfl) (by decide) rfl ?_
          refine zi_aload_n K (dL_law_p1 7 rfl) 3 rfl ?_
          refine zi_iload K (dL_law_p1 8 rfl) 2 rfl ?_
          refine zi_iconst K (dL_law_p1 9 rfl) zk_i2 ?_
          refine zi_iadd K (dL_law_p1 10 rfl) ?_
          refine zi_eqi (v := nI ((8 * i) + 2)) (nI_add (8 * i) 2) ?_
          refine zi_iconst K (dL_law_p1 11 rfl) zk_i5 ?_
          refine zV.rmk (fun H h => h.1) (fun hk9 => ?_)
          refine zl_some K Y hL9 ((8 * i) + 2) 5 (by omega) (by omega) (by omega) (dL_law_p1 12 rfl) ⟨by omega, by omega, by omega, by omega⟩ (Nat.le_of_ble_eq_true rfl) ?_
          refine zi_istore K [(13, .int (nI (zsm Ls ys ((8 * i) + 2) 5))), (12, .int 0), (11, .int 2), (10, .int (nI (8 * i))), (0, .ref bs), (1, .ref a), (2, .int (nI (sN σ 0))), (3, .int (nI (sN σ 1))), (4, .int (nI (sN σ 2))), (5, .int (nI (sN σ 3))), (6, .long cmt), (8, .ref o), (9, .int (nI i))] (dL_law_p1 13 rfl) (by decide) rfl ?_
          refine zV.pick [4, 5, 6, 7, 8, 9, 10, 11, 12, 3, 2, 1, 0] (lo' := [(0, .ref bs), (1, .ref a), (2, .int (nI (sN σ 0))), (3, .int (nI (sN σ 1))), (4, .int (nI (sN σ 2))), (5, .int (nI (sN σ 3))), (6, .long cmt), (8, .ref o), (9, .int (nI i)), (10, .int (nI (8 * i))), (11, .int 2), (12, .int 0), (13, .int (nI (zsm Ls ys ((8 * i) + 2) 5)))]) rfl ?_
          exact (kw (2) (0) (zsm Ls ys (8 * i + 2) 5) (by decide) (by decide) (zsm_lt (by decide)) (fun q => absurd (by rw [(nIz (by omega)).mp (h88_3)] at q; exact q) (Nat.lt_irrefl 0)) (by have g47 : 3 ≤ i := (nIle (m := 3) (i := i) (by decide) (by omega)).mp h47_0; have g58 : 8 ≤ i := (nIle (m := 8) (i := i) (by decide) (by omega)).mp h58_1; have g69 : ¬ 11 ≤ i := fun q => h69_2 ((nIle (m := 11) (i := i) (by decide) (by omega)).mpr q); omega) (by have g47 : 3 ≤ i := (nIle (m := 3) (i := i) (by decide) (by omega)).mp h47_0; have g58 : 8 ≤ i := (nIle (m := 8) (i := i) (by decide) (by omega)).mp h58_1; have g69 : ¬ 11 ≤ i := fun q => h69_2 ((nIle (m := 11) (i := i) (by decide) (by omega)).mpr q); omega) (by have g47 : 3 ≤ i := (nIle (m := 3) (i := i) (by decide) (by omega)).mp h47_0; have g58 : 8 ≤ i := (nIle (m := 8) (i := i) (by decide) (by omega)).mp h58_1; have g69 : ¬ 11 ≤ i := fun q => h69_2 ((nIle (m := 11) (i := i) (by decide) (by omega)).mpr q); omega)) k n
    · skip
      refine zi_iconst K (dL_law_p0 34 rfl) zk_i1 ?_
      refine zi_goto K 84 (dL_law_p0 35 rfl) rfl ?_
      refine zi_istore K [(11, .int 1), (10, .int (nI (8 * i))), (0, .ref bs), (1, .ref a), (2, .int (nI (sN σ 0))), (3, .int (nI (sN σ 1))), (4, .int (nI (sN σ 2))), (5, .int (nI (sN σ 3))), (6, .long cmt), (8, .ref o), (9, .int (nI i))] (dL_law_p0 45 rfl) (by decide) rfl ?_
      refine zi_iload K (dL_law_p0 46 rfl) 6 rfl ?_
      refine zi_if_ne K 95 (dL_law_p0 47 rfl) rfl (fun h88_2 => ?_) (fun h88_2 => ?_)
      · skip
        have ht0 : 0 < sN σ 2 := Nat.pos_of_ne_zero (fun q => h88_2 (by rw [q]; rfl))
        have hq1 := zsm_lt (Ls := Ls) (ys := ys) (i := 8 * i + 1) (m := sN σ 2) ht0
        refine zi_aload_n K (dL_law_p1 0 rfl) 2 rfl ?_
        refine zi_iload K (dL_law_p1 1 rfl) 1 rfl ?_
        refine zi_iconst K (dL_law_p1 2 rfl) zk_i1 ?_
        refine zi_iadd K (dL_law_p1 3 rfl) ?_
        refine zi_eqi (v := nI ((8 * i) + 1)) (nI_add (8 * i) 1) ?_
        refine zi_iload K (dL_law_p1 4 rfl) 6 rfl ?_
        refine zV.rmk (fun H h => h.1) (fun hk9 => ?_)
        refine zl_some K Y hL9 ((8 * i) + 1) (sN σ 2) (by omega) (by omega) (by omega) (dL_law_p1 5 rfl) ⟨by omega, by omega, by omega, by omega⟩ (Nat.le_of_ble_eq_true rfl) ?_
        refine zi_istore K [(12, .int (nI (zsm Ls ys ((8 * i) + 1) (sN σ 2)))), (11, .int 1), (10, .int (nI (8 * i))), (0, .ref bs), (1, .ref a), (2, .int (nI (sN σ 0))), (3, .int (nI (sN σ 1))), (4, .int (nI (sN σ 2))), (5, .int (nI (sN σ 3))), (6, .long cmt), (8, .ref o), (9, .int (nI i))] (dL_law_p1 6 rfl) (by decide) rfl ?_
        refine zi_aload_n K (dL_law_p1 7 rfl) 3 rfl ?_
        refine zi_iload K (dL_law_p1 8 rfl) 2 rfl ?_
        refine zi_iconst K (dL_law_p1 9 rfl) zk_i2 ?_
        refine zi_iadd K (dL_law_p1 10 rfl) ?_
        refine zi_eqi (v := nI ((8 * i) + 2)) (nI_add (8 * i) 2) ?_
        refine zi_iconst K (dL_law_p1 11 rfl) zk_i5 ?_
        refine zV.rmk (fun H h => h.1) (fun hk9 => ?_)
        refine zl_some K Y hL9 ((8 * i) + 2) 5 (by omega) (by omega) (by omega) (dL_law_p1 12 rfl) ⟨by omega, by omega, by omega, by omega⟩ (Nat.le_of_ble_eq_true rfl) ?_
        refine zi_istore K [(13, .int (nI (zsm Ls ys ((8 * i) + 2) 5))), (12, .int (nI (zsm Ls ys ((8 * i) + 1) (sN σ 2)))), (11, .int 1), (10, .int (nI (8 * i))), (0, .ref bs), (1, .ref a), (2, .int (nI (sN σ 0))), (3, .int (nI (sN σ 1))), (4, .int (nI (sN σ 2))), (5, .int (nI (sN σ 3))), (6, .long cmt), (8, .ref o), (9, .int (nI i))] (dL_law_p1 13 rfl) (by decide) rfl ?_
        refine zV.pick [4, 5, 6, 7, 8, 9, 10, 11, 12, 3, 2, 1, 0] (lo' := [(0, .ref bs), (1, .ref a), (2, .int (nI (sN σ 0))), (3, .int (nI (sN σ 1))), (4, .int (nI (sN σ 2))), (5, .int (nI (sN σ 3))), (6, .long cmt), (8, .ref o), (9, .int (nI i)), (10, .int (nI (8 * i))), (11, .int 1), (12, .int (nI (zsm Ls ys ((8 * i) + 1) (sN σ 2)))), (13, .int (nI (zsm Ls ys ((8 * i) + 2) 5)))]) rfl ?_
        exact (kw (1) (zsm Ls ys ((8 * i) + 1) (sN σ 2)) (zsm Ls ys (8 * i + 2) 5) (by decide) (by omega) (zsm_lt (by decide)) (fun _ => hq1) (by have g47 : 3 ≤ i := (nIle (m := 3) (i := i) (by decide) (by omega)).mp h47_0; have g58 : ¬ 8 ≤ i := fun q => h58_1 ((nIle (m := 8) (i := i) (by decide) (by omega)).mpr q); omega) (by have g47 : 3 ≤ i := (nIle (m := 3) (i := i) (by decide) (by omega)).mp h47_0; have g58 : ¬ 8 ≤ i := fun q => h58_1 ((nIle (m := 8) (i := i) (by decide) (by omega)).mpr q); omega) (by have g47 : 3 ≤ i := (nIle (m := 3) (i := i) (by decide) (by omega)).mp h47_0; have g58 : ¬ 8 ≤ i := fun q => h58_1 ((nIle (m := 8) (i := i) (by decide) (by omega)).mpr q); omega)) k n
      · skip
        refine zi_iconst K (dL_law_p0 48 rfl) zk_i0 ?_
        refine zi_goto K 105 (dL_law_p0 49 rfl) rfl ?_
        refine zi_istore K [(12, .int 0), (11, .int 1), (10, .int (nI (8 * i))), (0, .ref bs), (1, .ref a), (2, .int (nI (sN σ 0))), (3, .int (nI (sN σ 1))), (4, .int (nI (sN σ 2))), (5, .int (nI (sN σ 3))), (6, .long cmt), (8, .ref o), (9, .int (nI i))] (dL_law_p1 6 rfl) (by decide) rfl ?_
        refine zi_aload_n K (dL_law_p1 7 rfl) 3 rfl ?_
        refine zi_iload K (dL_law_p1 8 rfl) 2 rfl ?_
        refine zi_iconst K (dL_law_p1 9 rfl) zk_i2 ?_
        refine zi_iadd K (dL_law_p1 10 rfl) ?_
        refine zi_eqi (v := nI ((8 * i) + 2)) (nI_add (8 * i) 2) ?_
        refine zi_iconst K (dL_law_p1 11 rfl) zk_i5 ?_
        refine zV.rmk (fun H h => h.1) (fun hk9 => ?_)
        refine zl_some K Y hL9 ((8 * i) + 2) 5 (by omega) (by omega) (by omega) (dL_law_p1 12 rfl) ⟨by omega, by omega, by omega, by omega⟩ (Nat.le_of_ble_eq_true rfl) ?_
        refine zi_istore K [(13, .int (nI (zsm Ls ys ((8 * i) + 2) 5))), (12, .int 0), (11, .int 1), (10, .int (nI (8 * i))), (0, .ref bs), (1, .ref a), (2, .int (nI (sN σ 0))), (3, .int (nI (sN σ 1))), (4, .int (nI (sN σ 2))), (5, .int (nI (sN σ 3))), (6, .long cmt), (8, .ref o), (9, .int (nI i))] (dL_law_p1 13 rfl) (by decide) rfl ?_
        refine zV.pick [4, 5, 6, 7, 8, 9, 10, 11, 12, 3, 2, 1, 0] (lo' := [(0, .ref bs), (1, .ref a), (2, .int (nI (sN σ 0))), (3, .int (nI (sN σ 1))), (4, .int (nI (sN σ 2))), (5, .int (nI (sN σ 3))), (6, .long cmt), (8, .ref o), (9, .int (nI i)), (10, .int (nI (8 * i))), (11, .int 1), (12, .int 0), (13, .int (nI (zsm Ls ys ((8 * i) + 2) 5)))]) rfl ?_
        exact (kw (1) (0) (zsm Ls ys (8 * i + 2) 5) (by decide) (by decide) (zsm_lt (by decide)) (fun q => absurd (by rw [(nIz (by omega)).mp (h88_2)] at q; exact q) (Nat.lt_irrefl 0)) (by have g47 : 3 ≤ i := (nIle (m := 3) (i := i) (by decide) (by omega)).mp h47_0; have g58 : ¬ 8 ≤ i := fun q => h58_1 ((nIle (m := 8) (i := i) (by decide) (by omega)).mpr q); omega) (by have g47 : 3 ≤ i := (nIle (m := 3) (i := i) (by decide) (by omega)).mp h47_0; have g58 : ¬ 8 ≤ i := fun q => h58_1 ((nIle (m := 8) (i := i) (by decide) (by omega)).mpr q); omega) (by have g47 : 3 ≤ i := (nIle (m := 3) (i := i) (by decide) (by omega)).mp h47_0; have g58 : ¬ 8 ≤ i := fun q => h58_1 ((nIle (m := 8) (i := i) (by decide) (by omega)).mpr q); omega)) k n
  · skip
    refine zi_iconst K (dL_law_p0 29 rfl) zk_i0 ?_
    refine zi_goto K 84 (dL_law_p0 30 rfl) rfl ?_
    refine zi_istore K [(11, .int 0), (10, .int (nI (8 * i))), (0, .ref bs), (1, .ref a), (2, .int (nI (sN σ 0))), (3, .int (nI (sN σ 1))), (4, .int (nI (sN σ 2))), (5, .int (nI (sN σ 3))), (6, .long cmt), (8, .ref o), (9, .int (nI i))] (dL_law_p0 45 rfl) (by decide) rfl ?_
    refine zi_iload K (dL_law_p0 46 rfl) 6 rfl ?_
    refine zi_if_ne K 95 (dL_law_p0 47 rfl) rfl (fun h88_1 => ?_) (fun h88_1 => ?_)
    · skip
      have ht0 : 0 < sN σ 2 := Nat.pos_of_ne_zero (fun q => h88_1 (by rw [q]; rfl))
      have hq1 := zsm_lt (Ls := Ls) (ys := ys) (i := 8 * i + 1) (m := sN σ 2) ht0
      refine zi_aload_n K (dL_law_p1 0 rfl) 2 rfl ?_
      refine zi_iload K (dL_law_p1 1 rfl) 1 rfl ?_
      refine zi_iconst K (dL_law_p1 2 rfl) zk_i1 ?_
      refine zi_iadd K (dL_law_p1 3 rfl) ?_
      refine zi_eqi (v := nI ((8 * i) + 1)) (nI_add (8 * i) 1) ?_
      refine zi_iload K (dL_law_p1 4 rfl) 6 rfl ?_
      refine zV.rmk (fun H h => h.1) (fun hk9 => ?_)
      refine zl_some K Y hL9 ((8 * i) + 1) (sN σ 2) (by omega) (by omega) (by omega) (dL_law_p1 5 rfl) ⟨by omega, by omega, by omega, by omega⟩ (Nat.le_of_ble_eq_true rfl) ?_
      refine zi_istore K [(12, .int (nI (zsm Ls ys ((8 * i) + 1) (sN σ 2)))), (11, .int 0), (10, .int (nI (8 * i))), (0, .ref bs), (1, .ref a), (2, .int (nI (sN σ 0))), (3, .int (nI (sN σ 1))), (4, .int (nI (sN σ 2))), (5, .int (nI (sN σ 3))), (6, .long cmt), (8, .ref o), (9, .int (nI i))] (dL_law_p1 6 rfl) (by decide) rfl ?_
      refine zi_aload_n K (dL_law_p1 7 rfl) 3 rfl ?_
      refine zi_iload K (dL_law_p1 8 rfl) 2 rfl ?_
      refine zi_iconst K (dL_law_p1 9 rfl) zk_i2 ?_
      refine zi_iadd K (dL_law_p1 10 rfl) ?_
      refine zi_eqi (v := nI ((8 * i) + 2)) (nI_add (8 * i) 2) ?_
      refine zi_iconst K (dL_law_p1 11 rfl) zk_i5 ?_
      refine zV.rmk (fun H h => h.1) (fun hk9 => ?_)
      refine zl_some K Y hL9 ((8 * i) + 2) 5 (by omega) (by omega) (by omega) (dL_law_p1 12 rfl) ⟨by omega, by omega, by omega, by omega⟩ (Nat.le_of_ble_eq_true rfl) ?_
      refine zi_istore K [(13, .int (nI (zsm Ls ys ((8 * i) + 2) 5))), (12, .int (nI (zsm Ls ys ((8 * i) + 1) (sN σ 2)))), (11, .int 0), (10, .int (nI (8 * i))), (0, .ref bs), (1, .ref a), (2, .int (nI (sN σ 0))), (3, .int (nI (sN σ 1))), (4, .int (nI (sN σ 2))), (5, .int (nI (sN σ 3))), (6, .long cmt), (8, .ref o), (9, .int (nI i))] (dL_law_p1 13 rfl) (by decide) rfl ?_
      refine zV.pick [4, 5, 6, 7, 8, 9, 10, 11, 12, 3, 2, 1, 0] (lo' := [(0, .ref bs), (1, .ref a), (2, .int (nI (sN σ 0))), (3, .int (nI (sN σ 1))), (4, .int (nI (sN σ 2))), (5, .int (nI (sN σ 3))), (6, .long cmt), (8, .ref o), (9, .int (nI i)), (10, .int (nI (8 * i))), (11, .int 0), (12, .int (nI (zsm Ls ys ((8 * i) + 1) (sN σ 2)))), (13, .int (nI (zsm Ls ys ((8 * i) + 2) 5)))]) rfl ?_
      exact (kw (0) (zsm Ls ys ((8 * i) + 1) (sN σ 2)) (zsm Ls ys (8 * i + 2) 5) (by decide) (by omega) (zsm_lt (by decide)) (fun _ => hq1) (by have g47 : ¬ 3 ≤ i := fun q => h47_0 ((nIle (m := 3) (i := i) (by decide) (by omega)).mpr q); omega) (by have g47 : ¬ 3 ≤ i := fun q => h47_0 ((nIle (m := 3) (i := i) (by decide) (by omega)).mpr q); omega) (by have g47 : ¬ 3 ≤ i := fun q => h47_0 ((nIle (m := 3) (i := i) (by decide) (by omega)).mpr q); omega)) k n
    · skip
      refine zi_iconst K (dL_law_p0 48 rfl) zk_i0 ?_
      refine zi_goto K 105 (dL_law_p0 49 rfl) rfl ?_
      refine zi_istore K [(12, .int 0), (11, .int 0), (10, .int (nI (8 * i))), (0, .ref bs), (1, .ref a), (2, .int (nI (sN σ 0))), (3, .int (nI (sN σ 1))), (4, .int (nI (sN σ 2))), (5, .int (nI (sN σ 3))), (6, .long cmt), (8, .ref o), (9, .int (nI i))] (dL_law_p1 6 rfl) (by decide) rfl ?_
      refine zi_aload_n K (dL_law_p1 7 rfl) 3 rfl ?_
      refine zi_iload K (dL_law_p1 8 rfl) 2 rfl ?_
      refine zi_iconst K (dL_law_p1 9 rfl) zk_i2 ?_
      refine zi_iadd K (dL_law_p1 10 rfl) ?_
      refine zi_eqi (v := nI ((8 * i) + 2)) (nI_add (8 * i) 2) ?_
      refine zi_iconst K (dL_law_p1 11 rfl) zk_i5 ?_
      refine zV.rmk (fun H h => h.1) (fun hk9 => ?_)
      refine zl_some K Y hL9 ((8 * i) + 2) 5 (by omega) (by omega) (by omega) (dL_law_p1 12 rfl) ⟨by omega, by omega, by omega, by omega⟩ (Nat.le_of_ble_eq_true rfl) ?_
      refine zi_istore K [(13, .int (nI (zsm Ls ys ((8 * i) + 2) 5))), (12, .int 0), (11, .int 0), (10, .int (nI (8 * i))), (0, .ref bs), (1, .ref a), (2, .int (nI (sN σ 0))), (3, .int (nI (sN σ 1))), (4, .int (nI (sN σ 2))), (5, .int (nI (sN σ 3))), (6, .long cmt), (8, .ref o), (9, .int (nI i))] (dL_law_p1 13 rfl) (by decide) rfl ?_
      refine zV.pick [4, 5, 6, 7, 8, 9, 10, 11, 12, 3, 2, 1, 0] (lo' := [(0, .ref bs), (1, .ref a), (2, .int (nI (sN σ 0))), (3, .int (nI (sN σ 1))), (4, .int (nI (sN σ 2))), (5, .int (nI (sN σ 3))), (6, .long cmt), (8, .ref o), (9, .int (nI i)), (10, .int (nI (8 * i))), (11, .int 0), (12, .int 0), (13, .int (nI (zsm Ls ys ((8 * i) + 2) 5)))]) rfl ?_
      exact (kw (0) (0) (zsm Ls ys (8 * i + 2) 5) (by decide) (by decide) (zsm_lt (by decide)) (fun q => absurd (by rw [(nIz (by omega)).mp (h88_1)] at q; exact q) (Nat.lt_irrefl 0)) (by have g47 : ¬ 3 ≤ i := fun q => h47_0 ((nIle (m := 3) (i := i) (by decide) (by omega)).mpr q); omega) (by have g47 : ¬ 3 ≤ i := fun q => h47_0 ((nIle (m := 3) (i := i) (by decide) (by omega)).mpr q); omega) (by have g47 : ¬ 3 ≤ i := fun q => h47_0 ((nIle (m := 3) (i := i) (by decide) (by omega)).mpr q); omega)) k n
set_option maxRecDepth 100000 in
set_option maxHeartbeats 8000000 in
theorem b_exit {G : zG} {X : zX} {bs Ls o a : Nat} {ys : Nat → Int32} {σ : zSt} {f : Nat → Int32} {B : Nat} {cmt : Int64} {rm : Room} (K : zK G X cL_law "LayertreatyLaw" 21 (some .boolean) rm) (Y : zY G bs Ls ys (xs X)) (hL9 : Ls ≤ 260) (hR9 : 60 ≤ rm.frames ∧ 2000 ≤ rm.locals) (hw : zW σ) 
    (kk : zVf G X 21 (zLw G o a σ f B) 1444 [(0, .ref bs), (1, .ref a), (2, .int (nI (sN σ 0))), (3, .int (nI (sN σ 1))), (4, .int (nI (sN σ 2))), (5, .int (nI (sN σ 3))), (6, .long cmt), (8, .ref o), (9, .int 50)] []) : zVf G X 21 (zLw G o a σ f B) 30 [(0, .ref bs), (1, .ref a), (2, .int (nI (sN σ 0))), (3, .int (nI (sN σ 1))), (4, .int (nI (sN σ 2))), (5, .int (nI (sN σ 3))), (6, .long cmt), (8, .ref o), (9, .int 50)] [] := by
  intro k n
  refine zi_iload K (dL_law_p0 19 rfl) 8 rfl ?_
  refine zi_bipush K (dL_law_p0 20 rfl) zk_b50 ?_
  refine zi_icmp_ge K 1444 (dL_law_p0 21 rfl) rfl (fun h34_0 => ?_) (fun h34_0 => ?_)
  rotate_left
  · exact absurd (by decide) h34_0
  refine zV.pick [0, 1, 2, 3, 4, 5, 6, 7, 8] (lo' := [(0, .ref bs), (1, .ref a), (2, .int (nI (sN σ 0))), (3, .int (nI (sN σ 1))), (4, .int (nI (sN σ 2))), (5, .int (nI (sN σ 3))), (6, .long cmt), (8, .ref o), (9, .int 50)]) rfl ?_
  exact kk k n
set_option maxRecDepth 100000 in
set_option maxHeartbeats 8000000 in
theorem b_next {G : zG} {X : zX} {bs Ls o a : Nat} {ys : Nat → Int32} {σ : zSt} {f : Nat → Int32} {B i : Nat} {cmt : Int64} {rm : Room} (K : zK G X cL_law "LayertreatyLaw" 21 (some .boolean) rm) (Y : zY G bs Ls ys (xs X)) (hL9 : Ls ≤ 260) (hi9 : i < 50) (hR9 : 60 ≤ rm.frames ∧ 2000 ≤ rm.locals) (hw : zW σ) 
    (kk : zVf G X 21 (zLw G o a σ f B) 30 [(0, .ref bs), (1, .ref a), (2, .int (nI (sN σ 0))), (3, .int (nI (sN σ 1))), (4, .int (nI (sN σ 2))), (5, .int (nI (sN σ 3))), (6, .long cmt), (8, .ref o), (9, .int (nI (i + 1)))] []) : zVf G X 21 (zLw G o a σ f B) 1438 [(0, .ref bs), (1, .ref a), (2, .int (nI (sN σ 0))), (3, .int (nI (sN σ 1))), (4, .int (nI (sN σ 2))), (5, .int (nI (sN σ 3))), (6, .long cmt), (8, .ref o), (9, .int (nI i))] [] := by
  intro k n
  refine zi_iinc K (v := nI (i + 1)) [(9, .int (nI (i + 1))), (0, .ref bs), (1, .ref a), (2, .int (nI (sN σ 0))), (3, .int (nI (sN σ 1))), (4, .int (nI (sN σ 2))), (5, .int (nI (sN σ 3))), (6, .long cmt), (8, .ref o)] (dL_law_p15 17 rfl) 8 rfl (zk_inc _) (by decide) rfl ?_
  refine zi_goto K 30 (dL_law_p15 18 rfl) rfl ?_
  refine zV.pick [1, 2, 3, 4, 5, 6, 7, 8, 0] (lo' := [(0, .ref bs), (1, .ref a), (2, .int (nI (sN σ 0))), (3, .int (nI (sN σ 1))), (4, .int (nI (sN σ 2))), (5, .int (nI (sN σ 3))), (6, .long cmt), (8, .ref o), (9, .int (nI (i + 1)))]) rfl ?_
  exact kk k n
