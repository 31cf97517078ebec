/-! the law's start: the new object, its first state -/
def zS0 : zSt := (fun t _ _ => if t = 26 then 1 else 0, fun _ _ _ => 0, fun _ _ => none, fun _ => 0, fun _ => 0, fun _ => 0, fun _ => 0, fun _ => 0, 39, 438)
def zB00 : zBs := (fun _ _ => False, fun _ _ => True)
theorem zB00_ok : zBo zB00 := ⟨fun _ _ _ _ h => h.elim, fun _ _ _ _ _ => trivial⟩
def zTb0 : List (Nat × Nat) := [(0, 0), (18, 0), (27, 0), (26, 0), (25, 0), (24, 0), (23, 0), (22, 0), (21, 0), (20, 0), (19, 0), (11, 1), (12, 1), (17, 1), (16, 1), (15, 1), (14, 1), (13, 1), (28, 12), (28, 11), (28, 10), (28, 9), (11, 0), (12, 0), (17, 0), (16, 0), (15, 0), (14, 0), (13, 0), (28, 8), (28, 7), (28, 6), (28, 5), (28, 4), (28, 3), (28, 2), (28, 1), (28, 0)]
def zadI (l : List ((Nat × Nat) × Nat)) (kd ix : Nat) : Nat := (l.lookup (kd, ix)).getD 0
theorem pw_inj {α β : Type} {f : α → β} : ∀ {l : List α}, l.Pairwise (fun x y => f x ≠ f y) → ∀ x, x ∈ l → ∀ y, y ∈ l → f x = f y → x = y
  | [], _, x, hx, _, _, _ => absurd hx List.not_mem_nil
  | z :: l, h, x, hx, y, hy, e => by
    have hp := List.pairwise_cons.mp h
    rcases List.mem_cons.mp hx with rfl | hx2
    · rcases List.mem_cons.mp hy with rfl | hy2
      · rfl
      · exact absurd e (hp.1 y hy2)
    · rcases List.mem_cons.mp hy with rfl | hy2
      · exact absurd e.symm (hp.1 x hx2)
      · exact pw_inj hp.2 x hx2 y hy2 e
theorem zlv0 : ∀ kd ix : Nat, zlv zS0 kd ix → (kd, ix) ∈ zTb0
  | 0, ix, h => by
    have h : ix = 0 := h
    subst h
    decide
  | 1, ix, h => absurd h (Nat.not_lt_zero _)
  | 2, ix, h => by
    have h : ix < 0 ∨ (30 ≤ ix ∧ ix < 30 + 0) := h
    omega
  | 3, ix, h => by
    have h : ix < 0 ∨ (30 ≤ ix ∧ ix < 30 + 0) := h
    omega
  | 4, ix, h => by
    have h : ix < 0 ∨ (30 ≤ ix ∧ ix < 30 + 0) := h
    omega
  | 5, ix, h => absurd h (Nat.not_lt_zero _)
  | 6, ix, h => absurd h (Nat.not_lt_zero _)
  | 7, ix, h => by
    have h : ix < 0 ∨ (8 ≤ ix ∧ ix < 8 + 0) := h
    omega
  | 8, ix, h => by
    have h : ix < 0 ∨ (8 ≤ ix ∧ ix < 8 + 0) := h
    omega
  | 9, ix, h => absurd h (Nat.not_lt_zero _)
  | 10, ix, h => absurd h (Nat.not_lt_zero _)
  | 11, ix, h => by
    have h : ix < 2 := h
    have : ix = 0 ∨ ix = 1 := by omega
    rcases this with rfl | rfl <;> decide
  | 12, ix, h => by
    have h : ix < 2 := h
    have : ix = 0 ∨ ix = 1 := by omega
    rcases this with rfl | rfl <;> decide
  | 13, ix, h => by
    have h : ix < 2 := h
    have : ix = 0 ∨ ix = 1 := by omega
    rcases this with rfl | rfl <;> decide
  | 14, ix, h => by
    have h : ix < 2 := h
    have : ix = 0 ∨ ix = 1 := by omega
    rcases this with rfl | rfl <;> decide
  | 15, ix, h => by
    have h : ix < 2 := h
    have : ix = 0 ∨ ix = 1 := by omega
    rcases this with rfl | rfl <;> decide
  | 16, ix, h => by
    have h : ix < 2 := h
    have : ix = 0 ∨ ix = 1 := by omega
    rcases this with rfl | rfl <;> decide
  | 17, ix, h => by
    have h : ix < 2 := h
    have : ix = 0 ∨ ix = 1 := by omega
    rcases this with rfl | rfl <;> decide
  | 18, ix, h => by
    have h : ix = 0 := h
    subst h
    decide
  | 19, ix, h => by
    have h : ix = 0 := h
    subst h
    decide
  | 20, ix, h => by
    have h : ix = 0 := h
    subst h
    decide
  | 21, ix, h => by
    have h : ix = 0 := h
    subst h
    decide
  | 22, ix, h => by
    have h : ix = 0 := h
    subst h
    decide
  | 23, ix, h => by
    have h : ix = 0 := h
    subst h
    decide
  | 24, ix, h => by
    have h : ix = 0 := h
    subst h
    decide
  | 25, ix, h => by
    have h : ix = 0 := h
    subst h
    decide
  | 26, ix, h => by
    have h : ix = 0 := h
    subst h
    decide
  | 27, ix, h => by
    have h : ix = 0 := h
    subst h
    decide
  | 28, ix, h => by
    have h : ix < 13 := h
    have : ix = 0 ∨ ix = 1 ∨ ix = 2 ∨ ix = 3 ∨ ix = 4 ∨ ix = 5 ∨ ix = 6 ∨ ix = 7 ∨ ix = 8 ∨ ix = 9 ∨ ix = 10 ∨ ix = 11 ∨ ix = 12 := by omega
    rcases this with rfl | rfl | rfl | rfl | rfl | rfl | rfl | rfl | rfl | rfl | rfl | rfl | rfl <;> decide
  | 29, ix, h => absurd h.2 (Nat.not_lt_zero _)
  | n + 30, ix, h => h.elim
def zlk0 (a x1 x2 x3 x4 x5 x6 x7 x8 x9 x10 x11 x12 x13 x14 x15 x16 x17 x18 x19 x20 x21 x22 x23 x24 x25 x26 x27 x28 x29 x30 x31 x32 x33 x34 x35 x36 x37 : Nat) : List ((Nat × Nat) × Nat) := [((0, 0), a), ((18, 0), x28), ((27, 0), x37), ((26, 0), x36), ((25, 0), x35), ((24, 0), x34), ((23, 0), x33), ((22, 0), x32), ((21, 0), x31), ((20, 0), x30), ((19, 0), x29), ((11, 1), x17), ((12, 1), x22), ((17, 1), x27), ((16, 1), x26), ((15, 1), x25), ((14, 1), x24), ((13, 1), x23), ((28, 12), x21), ((28, 11), x20), ((28, 10), x19), ((28, 9), x18), ((11, 0), x6), ((12, 0), x11), ((17, 0), x16), ((16, 0), x15), ((15, 0), x14), ((14, 0), x13), ((13, 0), x12), ((28, 8), x10), ((28, 7), x9), ((28, 6), x8), ((28, 5), x7), ((28, 4), x5), ((28, 3), x4), ((28, 2), x3), ((28, 1), x2), ((28, 0), x1)]
set_option maxRecDepth 100000 in
set_option maxHeartbeats 4000000 in
theorem zinit_map (G : zG) (aa : Nat → Nat) (a x1 x2 x3 x4 x5 x6 x7 x8 x9 x10 x11 x12 x13 x14 x15 x16 x17 x18 x19 x20 x21 x22 x23 x24 x25 x26 x27 x28 x29 x30 x31 x32 x33 x34 x35 x36 x37 : Nat) : zTb0.map (fun q => (zadr (zadI (zlk0 a x1 x2 x3 x4 x5 x6 x7 x8 x9 x10 x11 x12 x13 x14 x15 x16 x17 x18 x19 x20 x21 x22 x23 x24 x25 x26 x27 x28 x29 x30 x31 x32 x33 x34 x35 x36 x37)) aa q.1 q.2, zct G (zadI (zlk0 a x1 x2 x3 x4 x5 x6 x7 x8 x9 x10 x11 x12 x13 x14 x15 x16 x17 x18 x19 x20 x21 x22 x23 x24 x25 x26 x27 x28 x29 x30 x31 x32 x33 x34 x35 x36 x37)) aa zS0 q.1 q.2)) = [(a, .inr (8, [.ref x1, .ref x2, .ref x3, .ref x4, .ref x5, .ref x6, .ref x17, .ref x28, .int 0])), (x28, .inr (5, [.ref x29, .ref x30, .ref x31, .ref x32, .ref x33, .ref x34, .ref x35, .ref x36, .ref x37])), (x37, .inl (G.2.2.2.1 1, 5, .inr (.inl (fun _ => 0)))), (x36, .inl (G.2.2.2.1 1, 5, .inr (.inl (fun _ => 0)))), (x35, .inl (G.2.2.2.1 1, 5, .inr (.inl (fun _ => 0)))), (x34, .inl (G.2.2.2.1 1, 5, .inr (.inl (fun _ => 0)))), (x33, .inl (G.2.2.2.1 1, 5, .inr (.inl (fun _ => 0)))), (x32, .inl (G.2.2.2.1 0, 5, .inl (fun _ => 0))), (x31, .inl (G.2.2.2.1 0, 5, .inl (fun _ => 0))), (x30, .inl (G.2.2.2.1 0, 5, .inl (fun _ => 0))), (x29, .inl (G.2.2.2.1 2, 5, .inl (fun _ => 0))), (x17, .inr (2, [.ref x18, .ref x19, .ref x20, .ref x21, .ref x22, .int 1])), (x22, .inr (3, [.ref x23, .ref x24, .ref x25, .ref x26, .ref x27, .int 0])), (x27, .inl (G.2.2.2.1 0, 31, .inl (fun _ => 0))), (x26, .inl (G.2.2.2.1 1, 31, .inr (.inl (fun _ => 0)))), (x25, .inl (G.2.2.2.1 0, 30, .inl (fun _ => 0))), (x24, .inl (G.2.2.2.1 1, 30, .inr (.inl (fun _ => 0)))), (x23, .inl (G.2.2.2.1 0, 30, .inl (fun _ => 0))), (x21, .inr (9, [.int 0, .ref (G.2.2.2.2 0), .int 0])), (x20, .inr (9, [.int 0, .ref (G.2.2.2.2 0), .int 0])), (x19, .inr (9, [.int 0, .ref (G.2.2.2.2 0), .int 0])), (x18, .inr (9, [.int 0, .ref (G.2.2.2.2 0), .int 0])), (x6, .inr (2, [.ref x7, .ref x8, .ref x9, .ref x10, .ref x11, .int 1])), (x11, .inr (3, [.ref x12, .ref x13, .ref x14, .ref x15, .ref x16, .int 0])), (x16, .inl (G.2.2.2.1 0, 31, .inl (fun _ => 0))), (x15, .inl (G.2.2.2.1 1, 31, .inr (.inl (fun _ => 0)))), (x14, .inl (G.2.2.2.1 0, 30, .inl (fun _ => 0))), (x13, .inl (G.2.2.2.1 1, 30, .inr (.inl (fun _ => 0)))), (x12, .inl (G.2.2.2.1 0, 30, .inl (fun _ => 0))), (x10, .inr (9, [.int 0, .ref (G.2.2.2.2 0), .int 0])), (x9, .inr (9, [.int 0, .ref (G.2.2.2.2 0), .int 0])), (x8, .inr (9, [.int 0, .ref (G.2.2.2.2 0), .int 0])), (x7, .inr (9, [.int 0, .ref (G.2.2.2.2 0), .int 0])), (x5, .inr (9, [.int 0, .ref (G.2.2.2.2 0), .int 0])), (x4, .inr (9, [.int 0, .ref (G.2.2.2.2 0), .int 0])), (x3, .inr (9, [.int 0, .ref (G.2.2.2.2 0), .int 0])), (x2, .inr (9, [.int 0, .ref (G.2.2.2.2 0), .int 0])), (x1, .inr (9, [.int 0, .ref (G.2.2.2.2 0), .int 0]))] := rfl
set_option maxRecDepth 100000 in
set_option maxHeartbeats 4000000 in
theorem zinit {G : zG} {a o x1 x2 x3 x4 x5 x6 x7 x8 x9 x10 x11 x12 x13 x14 x15 x16 x17 x18 x19 x20 x21 x22 x23 x24 x25 x26 x27 x28 x29 x30 x31 x32 x33 x34 x35 x36 x37 k n : Nat} {H : Heap} (hk : k ≤ 39) (hn : n ≤ 438) (h : zPx G zB00 ((a, .inr (8, [.ref x1, .ref x2, .ref x3, .ref x4, .ref x5, .ref x6, .ref x17, .ref x28, .int 0])) :: (o, .inl (G.2.2.2.1 2, 8, .inl (fun _ => 0))) :: (x28, .inr (5, [.ref x29, .ref x30, .ref x31, .ref x32, .ref x33, .ref x34, .ref x35, .ref x36, .ref x37])) :: (x37, .inl (G.2.2.2.1 1, 5, .inr (.inl (fun _ => 0)))) :: (x36, .inl (G.2.2.2.1 1, 5, .inr (.inl (fun _ => 0)))) :: (x35, .inl (G.2.2.2.1 1, 5, .inr (.inl (fun _ => 0)))) :: (x34, .inl (G.2.2.2.1 1, 5, .inr (.inl (fun _ => 0)))) :: (x33, .inl (G.2.2.2.1 1, 5, .inr (.inl (fun _ => 0)))) :: (x32, .inl (G.2.2.2.1 0, 5, .inl (fun _ => 0))) :: (x31, .inl (G.2.2.2.1 0, 5, .inl (fun _ => 0))) :: (x30, .inl (G.2.2.2.1 0, 5, .inl (fun _ => 0))) :: (x29, .inl (G.2.2.2.1 2, 5, .inl (fun _ => 0))) :: (x17, .inr (2, [.ref x18, .ref x19, .ref x20, .ref x21, .ref x22, .int 1])) :: (x22, .inr (3, [.ref x23, .ref x24, .ref x25, .ref x26, .ref x27, .int 0])) :: (x27, .inl (G.2.2.2.1 0, 31, .inl (fun _ => 0))) :: (x26, .inl (G.2.2.2.1 1, 31, .inr (.inl (fun _ => 0)))) :: (x25, .inl (G.2.2.2.1 0, 30, .inl (fun _ => 0))) :: (x24, .inl (G.2.2.2.1 1, 30, .inr (.inl (fun _ => 0)))) :: (x23, .inl (G.2.2.2.1 0, 30, .inl (fun _ => 0))) :: (x21, .inr (9, [.int 0, .ref (G.2.2.2.2 0), .int 0])) :: (x20, .inr (9, [.int 0, .ref (G.2.2.2.2 0), .int 0])) :: (x19, .inr (9, [.int 0, .ref (G.2.2.2.2 0), .int 0])) :: (x18, .inr (9, [.int 0, .ref (G.2.2.2.2 0), .int 0])) :: (x6, .inr (2, [.ref x7, .ref x8, .ref x9, .ref x10, .ref x11, .int 1])) :: (x11, .inr (3, [.ref x12, .ref x13, .ref x14, .ref x15, .ref x16, .int 0])) :: (x16, .inl (G.2.2.2.1 0, 31, .inl (fun _ => 0))) :: (x15, .inl (G.2.2.2.1 1, 31, .inr (.inl (fun _ => 0)))) :: (x14, .inl (G.2.2.2.1 0, 30, .inl (fun _ => 0))) :: (x13, .inl (G.2.2.2.1 1, 30, .inr (.inl (fun _ => 0)))) :: (x12, .inl (G.2.2.2.1 0, 30, .inl (fun _ => 0))) :: (x10, .inr (9, [.int 0, .ref (G.2.2.2.2 0), .int 0])) :: (x9, .inr (9, [.int 0, .ref (G.2.2.2.2 0), .int 0])) :: (x8, .inr (9, [.int 0, .ref (G.2.2.2.2 0), .int 0])) :: (x7, .inr (9, [.int 0, .ref (G.2.2.2.2 0), .int 0])) :: (x5, .inr (9, [.int 0, .ref (G.2.2.2.2 0), .int 0])) :: (x4, .inr (9, [.int 0, .ref (G.2.2.2.2 0), .int 0])) :: (x3, .inr (9, [.int 0, .ref (G.2.2.2.2 0), .int 0])) :: (x2, .inr (9, [.int 0, .ref (G.2.2.2.2 0), .int 0])) :: (x1, .inr (9, [.int 0, .ref (G.2.2.2.2 0), .int 0])) :: []) H) : zLw G o a zS0 (fun _ => 0) 0 k n H := by
  obtain ⟨-, -, h2, -, h4⟩ := h.perm (List.Perm.swap _ _ _)
  have hp := List.pairwise_cons.mp h4
  have ho := h2 _ List.mem_cons_self
  have hmap := zinit_map (zGo G o) (fun _ => 0) a x1 x2 x3 x4 x5 x6 x7 x8 x9 x10 x11 x12 x13 x14 x15 x16 x17 x18 x19 x20 x21 x22 x23 x24 x25 x26 x27 x28 x29 x30 x31 x32 x33 x34 x35 x36 x37
  refine ⟨⟨hk, hn⟩, ⟨zadI (zlk0 a x1 x2 x3 x4 x5 x6 x7 x8 x9 x10 x11 x12 x13 x14 x15 x16 x17 x18 x19 x20 x21 x22 x23 x24 x25 x26 x27 x28 x29 x30 x31 x32 x33 x34 x35 x36 x37), rfl, fun _ => 0, fun kd ix hl => ?_, fun kd ix kd' ix' h1 h1' e => ?_⟩, ho.1, ho.2⟩
  · have hW : (zadr (zadI (zlk0 a x1 x2 x3 x4 x5 x6 x7 x8 x9 x10 x11 x12 x13 x14 x15 x16 x17 x18 x19 x20 x21 x22 x23 x24 x25 x26 x27 x28 x29 x30 x31 x32 x33 x34 x35 x36 x37)) (fun _ => 0) kd ix, zct (zGo G o) (zadI (zlk0 a x1 x2 x3 x4 x5 x6 x7 x8 x9 x10 x11 x12 x13 x14 x15 x16 x17 x18 x19 x20 x21 x22 x23 x24 x25 x26 x27 x28 x29 x30 x31 x32 x33 x34 x35 x36 x37)) (fun _ => 0) zS0 kd ix) ∈ zTb0.map (fun q => (zadr (zadI (zlk0 a x1 x2 x3 x4 x5 x6 x7 x8 x9 x10 x11 x12 x13 x14 x15 x16 x17 x18 x19 x20 x21 x22 x23 x24 x25 x26 x27 x28 x29 x30 x31 x32 x33 x34 x35 x36 x37)) (fun _ => 0) q.1 q.2, zct (zGo G o) (zadI (zlk0 a x1 x2 x3 x4 x5 x6 x7 x8 x9 x10 x11 x12 x13 x14 x15 x16 x17 x18 x19 x20 x21 x22 x23 x24 x25 x26 x27 x28 x29 x30 x31 x32 x33 x34 x35 x36 x37)) (fun _ => 0) zS0 q.1 q.2)) := List.mem_map.mpr ⟨(kd, ix), zlv0 kd ix hl, rfl⟩
    rw [hmap] at hW
    have g := h2 _ (List.mem_cons_of_mem _ hW)
    exact ⟨g.1, g.2, fun q => hp.1 _ hW q.symm⟩
  · have hq : (zTb0.map (fun q => (zadr (zadI (zlk0 a x1 x2 x3 x4 x5 x6 x7 x8 x9 x10 x11 x12 x13 x14 x15 x16 x17 x18 x19 x20 x21 x22 x23 x24 x25 x26 x27 x28 x29 x30 x31 x32 x33 x34 x35 x36 x37)) (fun _ => 0) q.1 q.2, zct (zGo G o) (zadI (zlk0 a x1 x2 x3 x4 x5 x6 x7 x8 x9 x10 x11 x12 x13 x14 x15 x16 x17 x18 x19 x20 x21 x22 x23 x24 x25 x26 x27 x28 x29 x30 x31 x32 x33 x34 x35 x36 x37)) (fun _ => 0) zS0 q.1 q.2))).Pairwise (fun x y => x.1 ≠ y.1) := by
      rw [hmap]
      exact hp.2
    have hq2 := List.pairwise_map.mp hq
    have he := pw_inj (f := fun q : Nat × Nat => zadr (zadI (zlk0 a x1 x2 x3 x4 x5 x6 x7 x8 x9 x10 x11 x12 x13 x14 x15 x16 x17 x18 x19 x20 x21 x22 x23 x24 x25 x26 x27 x28 x29 x30 x31 x32 x33 x34 x35 x36 x37)) (fun _ => 0) q.1 q.2) hq2 _ (zlv0 kd ix h1) _ (zlv0 kd' ix' h1') e
    cases he
    exact ⟨rfl, rfl⟩
set_option maxRecDepth 100000 in
set_option maxHeartbeats 8000000 in
theorem b_init {G : zG} {X : zX} {bs : Nat} {rm : Room} (K : zK G X cL_law "LayertreatyLaw" 21 (some .boolean) rm) (hR9 : 60 ≤ rm.frames ∧ 2000 ≤ rm.locals) (hC9 : 100 ≤ rm.cells ∧ 1000 ≤ rm.slots)
    (kk : ∀ a o : Nat, zVf G X 21 (zLw G o a zS0 (fun _ => 0) 0) 30 [(0, .ref bs), (1, .ref a), (2, .int 0), (3, .int 0), (4, .int 0), (5, .int 0), (6, .long 0), (8, .ref o), (9, .int 0)] []) : zV G X 21 (fun _ => True) 0 0 0 [(0, .ref bs)] [] := by
  refine zV.imp (P' := zPx G zB00 []) (fun H _ => ⟨fun _ => 0, trivial, fun w hw => absurd hw List.not_mem_nil, fun w hw => absurd hw List.not_mem_nil, List.Pairwise.nil⟩) ?_
  refine zx_new (C := RX8) (T := TX8) (N := 9) (ci := 8) zB00_ok K rfl inX8 tyX8 tyX8_ok w_60 w_61 w_25 [.null, .null, .null, .null, .null, .null, .null, .null, .int 0] (fun j hj => by rcases (show j = 0 ∨ j = 1 ∨ j = 2 ∨ j = 3 ∨ j = 4 ∨ j = 5 ∨ j = 6 ∨ j = 7 ∨ j = 8 by omega) with rfl | rfl | rfl | rfl | rfl | rfl | rfl | rfl | rfl <;> rfl) ⟨by omega, by omega⟩ (dL_law_p0 0 rfl) (fun a => ?_)
  refine zi_dup K (dL_law_p0 1 rfl) rfl ?_
  refine zi_callI K (na := 0) (As := []) [.ref a] [.ref a] (n_all (ws := []) zB00_ok a) (dL_law_p0 2 rfl) w_62 w_63 w_25 w_64 (by decide +kernel) rfl rfl (fun H h => h) ⟨by omega, by omega⟩ ⟨by omega, by omega⟩ (Nat.le_of_ble_eq_true rfl) rfl rfl ?_
  refine zV.ex (fun x1 => ?_)
  refine zV.ex (fun x2 => ?_)
  refine zV.ex (fun x3 => ?_)
  refine zV.ex (fun x4 => ?_)
  refine zV.ex (fun x5 => ?_)
  refine zV.ex (fun x6 => ?_)
  refine zV.ex (fun x7 => ?_)
  refine zV.ex (fun x8 => ?_)
  refine zV.ex (fun x9 => ?_)
  refine zV.ex (fun x10 => ?_)
  refine zV.ex (fun x11 => ?_)
  refine zV.ex (fun x12 => ?_)
  refine zV.ex (fun x13 => ?_)
  refine zV.ex (fun x14 => ?_)
  refine zV.ex (fun x15 => ?_)
  refine zV.ex (fun x16 => ?_)
  refine zV.ex (fun x17 => ?_)
  refine zV.ex (fun x18 => ?_)
  refine zV.ex (fun x19 => ?_)
  refine zV.ex (fun x20 => ?_)
  refine zV.ex (fun x21 => ?_)
  refine zV.ex (fun x22 => ?_)
  refine zV.ex (fun x23 => ?_)
  refine zV.ex (fun x24 => ?_)
  refine zV.ex (fun x25 => ?_)
  refine zV.ex (fun x26 => ?_)
  refine zV.ex (fun x27 => ?_)
  refine zV.ex (fun x28 => ?_)
  refine zV.ex (fun x29 => ?_)
  refine zV.ex (fun x30 => ?_)
  refine zV.ex (fun x31 => ?_)
  refine zV.ex (fun x32 => ?_)
  refine zV.ex (fun x33 => ?_)
  refine zV.ex (fun x34 => ?_)
  refine zV.ex (fun x35 => ?_)
  refine zV.ex (fun x36 => ?_)
  refine zV.ex (fun x37 => ?_)
  refine zi_astore_n K [(1, .ref a), (0, .ref bs)] (dL_law_p0 3 rfl) (by decide) rfl ?_
  refine zi_iconst K (dL_law_p0 4 rfl) zk_i0 ?_
  refine zi_istore_n K [(2, .int 0), (1, .ref a), (0, .ref bs)] (dL_law_p0 5 rfl) (by decide) rfl ?_
  refine zi_iconst K (dL_law_p0 6 rfl) zk_i0 ?_
  refine zi_istore_n K [(3, .int 0), (2, .int 0), (1, .ref a), (0, .ref bs)] (dL_law_p0 7 rfl) (by decide) rfl ?_
  refine zi_iconst K (dL_law_p0 8 rfl) zk_i0 ?_
  refine zi_istore K [(4, .int 0), (3, .int 0), (2, .int 0), (1, .ref a), (0, .ref bs)] (dL_law_p0 9 rfl) (by decide) rfl ?_
  refine zi_iconst K (dL_law_p0 10 rfl) zk_i0 ?_
  refine zi_istore K [(5, .int 0), (4, .int 0), (3, .int 0), (2, .int 0), (1, .ref a), (0, .ref bs)] (dL_law_p0 11 rfl) (by decide) rfl ?_
  refine zi_lconst K (dL_law_p0 12 rfl) zk_l0 ?_
  refine zi_lstore K [(6, .long 0), (5, .int 0), (4, .int 0), (3, .int 0), (2, .int 0), (1, .ref a), (0, .ref bs)] (dL_law_p0 13 rfl) (by decide) rfl ?_
  refine zi_bipush K (dL_law_p0 14 rfl) zk_b8 ?_
  refine zx_newaz zB00_ok K (N := 8) rfl (by decide) ⟨by omega, by omega⟩ (dL_law_p0 15 rfl) (fun o => ?_)
  refine zi_astore K [(8, .ref o), (6, .long 0), (5, .int 0), (4, .int 0), (3, .int 0), (2, .int 0), (1, .ref a), (0, .ref bs)] (dL_law_p0 16 rfl) (by decide) rfl ?_
  refine zi_iconst K (dL_law_p0 17 rfl) zk_i0 ?_
  refine zi_istore K [(9, .int 0), (8, .ref o), (6, .long 0), (5, .int 0), (4, .int 0), (3, .int 0), (2, .int 0), (1, .ref a), (0, .ref bs)] (dL_law_p0 18 rfl) (by decide) rfl ?_
  refine zV.pick [8, 7, 6, 5, 4, 3, 2, 1, 0] (lo' := [(0, .ref bs), (1, .ref a), (2, .int 0), (3, .int 0), (4, .int 0), (5, .int 0), (6, .long 0), (8, .ref o), (9, .int 0)]) rfl ?_
  exact zV.imp (fun H h => zinit (Nat.le_of_ble_eq_true rfl) (Nat.le_of_ble_eq_true rfl) h) (kk a o _ _)
theorem zS0_W : zW zS0 := by
  have hl : ∀ q, q < 13 → zLC zS0 q := fun q hq => ⟨⟨⟨hq, Nat.le_refl _, Nat.le_of_ble_eq_true rfl, fun _ _ => rfl, fun j x h => by cases h⟩, fun i hi => absurd hi (Nat.not_lt_zero _)⟩, Or.inl rfl⟩
  refine ⟨⟨fun q hq => hl q (by omega), ⟨rfl, Nat.zero_le _⟩, ⟨rfl, Nat.zero_le _⟩, ⟨rfl, Nat.zero_le _⟩, ⟨rfl, Nat.zero_le _⟩, ⟨rfl, rfl⟩, rfl, ⟨rfl, rfl⟩, ⟨rfl, rfl⟩⟩, ?_, ?_, ⟨hl 7 (by decide), Nat.zero_le _⟩, hl 8 (by decide), ⟨hl 9 (by decide), Nat.zero_le _⟩, ⟨hl 11 (by decide), Nat.zero_le _⟩, hl 12 (by decide)⟩
  · exact ⟨fun i hi => absurd hi (Nat.not_lt_zero _), fun i hi => absurd hi (Nat.not_lt_zero _), fun i hi => absurd hi (Nat.not_lt_zero _), fun i hi => absurd hi (Nat.not_lt_zero _), fun i hi => absurd hi (Nat.not_lt_zero _), fun i hi => absurd hi (Nat.not_lt_zero _), fun i hi => absurd hi (Nat.not_lt_zero _), fun i hi => absurd hi (Nat.not_lt_zero _), fun i hi => absurd hi (Nat.not_lt_zero _)⟩
  · refine ⟨fun i hi => absurd hi (Nat.not_lt_zero _), fun i hi => absurd hi (Nat.not_lt_zero _), fun i hi => absurd hi (Nat.not_lt_zero _), fun i _ => ?_, fun i _ => Or.inl rfl⟩
    show (0 : Int32) = nI (0 : Int32).toNatClampNeg ∧ (0 : Int32).toNatClampNeg < 5
    decide
