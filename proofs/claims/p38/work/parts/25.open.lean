/-! lists that grow: open and group; what a flow keeps; findOpen, gather -/
def zch (c : Nat) : Prop := c = 0 ∨ c = 10 ∨ c = 15 ∨ c = 22 ∨ c = 33
/-- growths so far, and what they took -/
def zpc (c : Nat) : Nat := if c = 0 then 0 else if c = 10 then 1 else if c = 15 then 2 else if c = 22 then 3 else 4
def zps (c : Nat) : Nat := if c = 0 then 0 else if c = 10 then 10 else if c = 15 then 25 else if c = 22 then 47 else 80
theorem zpc_le (c : Nat) : zpc c ≤ 4 := by
  unfold zpc
  repeat' split
  all_goals omega
theorem zps_le (c : Nat) : zps c ≤ 80 := by
  unfold zps
  repeat' split
  all_goals omega
theorem zch_g {c : Nat} (h : zch c) (h2 : c < 33) : zch (zgC c) ∧ zpc (zgC c) = zpc c + 1 ∧ zps (zgC c) = zps c + zgC c ∧ zgC c < 1000 := by
  rcases h with h | h | h | h | h
  · subst h; exact ⟨by unfold zch; decide, by decide, by decide, by decide⟩
  · subst h; exact ⟨by unfold zch; decide, by decide, by decide, by decide⟩
  · subst h; exact ⟨by unfold zch; decide, by decide, by decide, by decide⟩
  · subst h; exact ⟨by unfold zch; decide, by decide, by decide, by decide⟩
  · omega
def zLC (σ : zSt) (q : Nat) : Prop := zLW σ q ∧ zch (sC σ q)
theorem zLC_2 {σ : zSt} {q : Nat} (h : zLC σ q) : sC σ q = 0 ∨ 2 ≤ sC σ q := by
  rcases h.2 with h | h | h | h | h <;> omega
theorem zLC_clear {σ : zSt} {q : Nat} (h : zLC σ q) : zLC (s_clear σ q) q ∧ sZ (s_clear σ q) q = 0 := by
  obtain ⟨h1, h2, h3⟩ := zLW_clear h.1
  exact ⟨⟨h1, by rw [h3]; exact h.2⟩, h2⟩
theorem s_add_C (σ : zSt) (q x : Nat) : sC (s_add σ q x) q = if sZ σ q = sC σ q then zgC (sC σ q) else sC σ q := by
  unfold s_add s_addE
  split
  · exact if_pos rfl
  · rfl
theorem zLC_add {σ : zSt} {q x : Nat} (h : zLC σ q) (hz : sZ σ q < 33) (hx : zlv σ (zeK q) x) : zLC (s_add σ q x) q ∧ sZ (s_add σ q x) q = sZ σ q + 1 ∧ (∀ j, sE (s_add σ q x) q j = if j = sZ σ q then some x else sE σ q j) ∧
    sgc (s_add σ q x) + zpc (sC σ q) = sgc σ + zpc (sC (s_add σ q x) q) ∧ sgs (s_add σ q x) + zps (sC σ q) = sgs σ + zps (sC (s_add σ q x) q) := by
  by_cases e : sZ σ q = sC σ q
  · obtain ⟨g1, g2, g3, g4⟩ := zch_g h.2 (by omega)
    obtain ⟨a1, a2, a3⟩ := zLW_add (σ := σ) (q := q) (x := x) h.1 g4 (zLC_2 h) hx
    refine ⟨⟨a1, ?_⟩, a2, a3, ?_, ?_⟩
    · rw [s_add_C, if_pos e]; exact g1
    · rw [s_add_C, if_pos e, sgc_add, if_pos e, g2]; omega
    · rw [s_add_C, if_pos e, sgs_add, if_pos e, g3]; omega
  · have hC := s_add_C σ q x
    rw [if_neg e] at hC
    have hg : zgC (sC σ q) < 1000 := by
      rcases h.2 with h | h | h | h | h <;> rw [h] <;> decide
    obtain ⟨a1, a2, a3⟩ := zLW_add (σ := σ) (q := q) (x := x) h.1 hg (zLC_2 h) hx
    refine ⟨⟨a1, ?_⟩, a2, a3, ?_, ?_⟩
    · rw [hC]; exact h.2
    · rw [hC, sgc_add, if_neg e]; omega
    · rw [hC, sgs_add, if_neg e]; omega
/-- the lists of a flow that its run fills: open, group -/
def zQb (b : Nat) (q : Nat) : Prop := q = 7 + 4 * b ∨ q = 8 + 4 * b
theorem zQ5 {b : Nat} : ¬ zQb b (5 + 4 * b) := fun h => by rcases h with h | h <;> omega
theorem zQ6 {b : Nat} : ¬ zQb b (6 + 4 * b) := fun h => by rcases h with h | h <;> omega
/-- tags of ints that a run leaves as they are -/
def zst (t : Nat) : Prop := t ≠ 7 ∧ t ≠ 22 ∧ t ≠ 26 ∧ t ≠ 27 ∧ t ≠ 28 ∧ t ≠ 29 ∧ t ≠ 30
def zFr (b : Nat) (σ' σ : zSt) : Prop := zSx (zQb b) σ' σ ∧ (sgc σ ≤ sgc σ' ∧ sgs σ ≤ sgs σ') ∧ (∀ t, zst t → ∀ o e, sI σ' t o e = sI σ t o e) ∧
  sgc σ' + (zpc (sC σ (7 + 4 * b)) + zpc (sC σ (8 + 4 * b))) = sgc σ + (zpc (sC σ' (7 + 4 * b)) + zpc (sC σ' (8 + 4 * b))) ∧
  sgs σ' + (zps (sC σ (7 + 4 * b)) + zps (sC σ (8 + 4 * b))) = sgs σ + (zps (sC σ' (7 + 4 * b)) + zps (sC σ' (8 + 4 * b)))
theorem zFr.rf {b : Nat} {σ : zSt} : zFr b σ σ := ⟨zSx.rf, ⟨Nat.le_refl _, Nat.le_refl _⟩, fun _ _ _ _ => rfl, rfl, rfl⟩
theorem zFr.trans {b : Nat} {x y z : zSt} (h : zFr b x y) (k : zFr b y z) : zFr b x z := ⟨h.1.trans k.1, ⟨Nat.le_trans k.2.1.1 h.2.1.1, Nat.le_trans k.2.1.2 h.2.1.2⟩, fun t ht o e => (h.2.2.1 t ht o e).trans (k.2.2.1 t ht o e), by have := h.2.2.2.1; have := k.2.2.2.1; omega, by have := h.2.2.2.2; have := k.2.2.2.2; omega⟩
theorem zFr.of {b : Nat} {σ σ' : zSt} (e : σ'.2.2 = σ.2.2) (h : ∀ t, zst t → ∀ o e, sI σ' t o e = sI σ t o e) : zFr b σ' σ := by
  obtain ⟨a, x, c⟩ := σ
  obtain ⟨a', x', c'⟩ := σ'
  cases e
  exact ⟨zSx.of rfl, ⟨Nat.le_refl _, Nat.le_refl _⟩, h, rfl, rfl⟩
theorem zFr.of1 {b : Nat} {σ σ' : zSt} (e1 : σ'.1 = σ.1) (e : σ'.2.2 = σ.2.2) : zFr b σ' σ := zFr.of e (fun t _ o x => by
  show σ'.1 t o x = σ.1 t o x
  rw [e1])
theorem zFr.uI {b : Nat} {σ : zSt} {t o e : Nat} {v : Int32} (ht : ¬ zst t) : zFr b (uI σ t o e v) σ := zFr.of rfl (fun t' h _ _ => u3_n _ _ (fun q => ht (q.1 ▸ h)))
theorem s_add_I (σ : zSt) (q x : Nat) : (s_add σ q x).1 = σ.1 ∧ (s_add σ q x).2.1 = σ.2.1 := by
  unfold s_add s_addE
  split <;> exact ⟨rfl, rfl⟩
theorem zclr_I (σ : zSt) (q i : Nat) : (zclr σ q i).1 = σ.1 ∧ (zclr σ q i).2.1 = σ.2.1 ∧ sgc (zclr σ q i) = sgc σ ∧ sgs (zclr σ q i) = sgs σ := by
  induction i with
  | zero => exact ⟨rfl, rfl, rfl, rfl⟩
  | succ i ih => exact ih
theorem s_clear_I (σ : zSt) (q : Nat) : (s_clear σ q).1 = σ.1 ∧ (s_clear σ q).2.1 = σ.2.1 ∧ sgc (s_clear σ q) = sgc σ ∧ sgs (s_clear σ q) = sgs σ := zclr_I _ q _
theorem s_clear_C (σ : zSt) (q : Nat) : sC (s_clear σ q) = sC σ := by
  unfold s_clear
  rw [zclr_C]
  rfl
theorem zFr.clear {b : Nat} {σ : zSt} {q : Nat} (hq : zQb b q) : zFr b (s_clear σ q) σ := by
  obtain ⟨h1, h2, h3, h4⟩ := s_clear_I σ q
  refine ⟨s_clear_sx σ q _ hq, ⟨by rw [h3]; exact Nat.le_refl _, by rw [h4]; exact Nat.le_refl _⟩, fun t _ o e => ?_, by rw [h3, s_clear_C], by rw [h4, s_clear_C]⟩
  show (s_clear σ q).1 t o e = σ.1 t o e
  rw [h1]
theorem s_add_Co {σ : zSt} {q x p : Nat} (hp : p ≠ q) : sC (s_add σ q x) p = sC σ p := (s_add_sx σ q x (fun y => y = q) rfl).2.2 p hp |>.2.2
theorem zFr.add {b : Nat} {σ : zSt} {q x : Nat} (hq : zQb b q) (h : zLC σ q) (hz : sZ σ q < 33) (hx : zlv σ (zeK q) x) : zFr b (s_add σ q x) σ := by
  obtain ⟨-, -, -, h4, h5⟩ := zLC_add h hz hx
  refine ⟨s_add_sx σ q x _ hq, ⟨by rw [sgc_add]; omega, by rw [sgs_add]; omega⟩, fun t _ o e => ?_, ?_, ?_⟩
  · show (s_add σ q x).1 t o e = σ.1 t o e
    rw [(s_add_I σ q x).1]
  · rcases hq with hq | hq <;> subst hq
    · rw [s_add_Co (p := 8 + 4 * b) (by omega)]; omega
    · rw [s_add_Co (p := 7 + 4 * b) (by omega)]; omega
  · rcases hq with hq | hq <;> subst hq
    · rw [s_add_Co (p := 8 + 4 * b) (by omega)]; omega
    · rw [s_add_Co (p := 7 + 4 * b) (by omega)]; omega
/-- lists that stay, and their rooms -/
theorem zSx_LC {Q : Nat → Prop} {σ σ' : zSt} (e : zSx Q σ' σ) {q : Nat} (hq : ¬ Q q) (h : zLC σ q) : zLC σ' q := ⟨zSx_LW e hq h.1, by rw [(e.2.2 q hq).2.2]; exact h.2⟩
theorem zLC_mv {σ σ' : zSt} (e : σ'.2.2 = σ.2.2) {q : Nat} (h : zLC σ q) : zLC σ' q := by
  obtain ⟨a, x, c⟩ := σ
  obtain ⟨a', x', c'⟩ := σ'
  cases e
  exact h
theorem s_add_mono (σ : zSt) (q x : Nat) : sgc σ ≤ sgc (s_add σ q x) ∧ sgs σ ≤ sgs (s_add σ q x) := by
  rw [sgc_add, sgs_add]
  omega
/-- the claims that are open to a treaty, the first i looked at -/
def foI (σ : zSt) (b j : Nat) : Nat → zSt
  | 0 => s_clear σ (7 + 4 * b)
  | i + 1 => if 0 < sL (foI σ b j i) 0 (lx σ (5 + 4 * b) i) 0 then (if v_covers (foI σ b j i) (j % 8) (lx σ (5 + 4 * b) i) = 0 then (foI σ b j i) else s_add (foI σ b j i) (7 + 4 * b) (lx σ (5 + 4 * b) i)) else (foI σ b j i)
theorem zQm7 {b : Nat} : zQb b (7 + 4 * b) := Or.inl rfl
theorem zQm8 {b : Nat} : zQb b (8 + 4 * b) := Or.inr rfl
theorem foI_ok {σ : zSt} {b j : Nat} (hb : b < 2) (h5 : zLW σ (5 + 4 * b)) (h30 : sZ σ (5 + 4 * b) ≤ 30) (h7 : zLC σ (7 + 4 * b)) : ∀ i, i ≤ sZ σ (5 + 4 * b) → zFr b (foI σ b j i) σ ∧ zLC (foI σ b j i) (7 + 4 * b) ∧ sZ (foI σ b j i) (7 + 4 * b) ≤ i := by
  intro i
  induction i with
  | zero => intro _; exact ⟨zFr.clear zQm7, (zLC_clear h7).1, by show sZ (s_clear σ _) _ ≤ 0; rw [(zLC_clear h7).2]; exact Nat.le_refl _⟩
  | succ i ih =>
    intro hi
    obtain ⟨f1, f2, f3⟩ := ih (by omega)
    have hx : zlv (foI σ b j i) (zeK (7 + 4 * b)) (lx σ (5 + 4 * b) i) := by
      rw [zeK7 hb]
      exact zSx_C f1.1 (zL_lv h5 (show i < sZ σ (5 + 4 * b) by omega) (zeK5 hb))
    have hz : sZ (foI σ b j i) (7 + 4 * b) < 33 := by omega
    simp only [foI]
    split
    · split
      · exact ⟨f1, f2, by omega⟩
      · obtain ⟨a1, a2, -⟩ := zLC_add f2 hz hx
        exact ⟨(zFr.add zQm7 f2 hz hx).trans f1, a1, by omega⟩
    · exact ⟨f1, f2, by omega⟩
theorem foI_mono (σ : zSt) (b j : Nat) {i n : Nat} (h : i ≤ n) : sgc (foI σ b j i) ≤ sgc (foI σ b j n) ∧ sgs (foI σ b j i) ≤ sgs (foI σ b j n) := by
  induction n with
  | zero => rw [show i = 0 by omega]; exact ⟨Nat.le_refl _, Nat.le_refl _⟩
  | succ n ih =>
    by_cases e : i = n + 1
    · subst e; exact ⟨Nat.le_refl _, Nat.le_refl _⟩
    · have h1 := ih (by omega)
      have h2 : sgc (foI σ b j n) ≤ sgc (foI σ b j (n + 1)) ∧ sgs (foI σ b j n) ≤ sgs (foI σ b j (n + 1)) := by
        simp only [foI]
        split
        · split
          · exact ⟨Nat.le_refl _, Nat.le_refl _⟩
          · exact s_add_mono _ _ _
        · exact ⟨Nat.le_refl _, Nat.le_refl _⟩
      omega
def s_findOpen (σ : zSt) (b j : Nat) : zSt := (foI σ b j (sZ σ (5 + 4 * b)))
set_option maxRecDepth 100000 in
set_option maxHeartbeats 4000000 in
theorem c_findOpen {G : zG} {ad : Nat → Nat → Nat} {σ : zSt} (b j : Nat) (hb : b < 2) (hj : zlV σ j) (ht : j % 8 < sN σ 2) (h5 : zLW σ (5 + 4 * b)) (h30 : sZ σ (5 + 4 * b) ≤ 30) (h7 : zLC σ (7 + 4 * b)) (hP : ∀ k, zlC σ k → sP σ k < sN σ 0) : zC G yX2_findOpen cX2_findOpen 3 none 7 173 (sgc (s_findOpen σ b j) - sgc σ) (sgs (s_findOpen σ b j) - sgs σ) [.ref (ad 11 b), .ref (ad 7 j)] (zP G ad σ) none (zP G ad (s_findOpen σ b j)) := by
  refine zC_of (by decide) (Nat.le_of_ble_eq_true rfl) (fun X K E hnm => ?_)
  show zV G X 3 (zP G ad σ) 0 0 0 [(0, .ref (ad 11 b)), (1, .ref (ad 7 j))] []
  refine zi_aload_n K (dX2_findOpen 0 rfl) 0 rfl ?_
  refine zg_FL_open K hb w_136 (dX2_findOpen 1 rfl) ?_
  refine zi_callV K (na := 0) [] [] (c_clear (σ := σ) (7 + 4 * b) (zL_ok h7.1)) (dX2_findOpen 2 rfl) w_431 w_432 w_433 w_28 w_434 (by decide +kernel) rfl (fun H h => zrecv_LST K (zL_ok h7.1).1 h) (fun H h => h) ⟨Nat.le_of_ble_eq_true rfl, Nat.le_of_ble_eq_true rfl⟩ ⟨show 0 + 0 ≤ sgc (s_findOpen σ b j) - sgc σ by omega, show 0 + 0 ≤ sgs (s_findOpen σ b j) - sgs σ by omega⟩ (Nat.le_of_ble_eq_true rfl) rfl rfl ?_
  have e1 : zSx (zQb b) (s_clear σ (7 + 4 * b)) σ := (s_clear_sx σ (7 + 4 * b) (zQb b) zQm7).trans zSx.rf
  refine zi_iconst K (dX2_findOpen 3 rfl) zk_i0 ?_
  refine zi_istore_n K [(2, .int 0), (0, .ref (ad 11 b)), (1, .ref (ad 7 j))] (dX2_findOpen 4 rfl) (by decide) rfl ?_
  refine zV.pick [1, 2, 0] (lo' := [(0, .ref (ad 11 b)), (1, .ref (ad 7 j)), (2, .int 0)]) rfl ?_
  refine zV.wd (k' := sgc (foI σ b j 0) - sgc σ) (n' := sgs (foI σ b j 0) - sgs σ) (Nat.zero_le _) (Nat.zero_le _) ?_
  suffices hloop9 : ∀ (r i : Nat), i ≤ sZ σ (5 + 4 * b) → sZ σ (5 + 4 * b) - i < r → zV G X 3 (zP G ad (foI σ b j i)) (sgc (foI σ b j i) - sgc σ) (sgs (foI σ b j i) - sgs σ) 9 [(0, .ref (ad 11 b)), (1, .ref (ad 7 j)), (2, .int (nI i))] [] from hloop9 (sZ σ (5 + 4 * b) + 1) 0 (Nat.zero_le _) (Nat.lt_succ_of_le (Nat.sub_le _ _))
  intro r
  induction r with
  | zero => intro i _ h; exact absurd h (Nat.not_lt_zero _)
  | succ r ih9 =>
    intro i hi9 hr9
    have hF := foI_ok (j := j) hb h5 h30 h7 i hi9
    have hG := hF.1.2.1
    have hm0 : sgc (foI σ b j i) ≤ sgc (s_findOpen σ b j) ∧ sgs (foI σ b j i) ≤ sgs (s_findOpen σ b j) := foI_mono σ b j hi9
    refine zi_iload_n K (dX2_findOpen 5 rfl) 2 rfl ?_
    refine zi_aload_n K (dX2_findOpen 6 rfl) 0 rfl ?_
    refine zg_FL_claims K hb w_132 (dX2_findOpen 7 rfl) ?_
    refine zi_callV K (na := 0) [.int (nI i)] [.int (nI (sZ σ (5 + 4 * b))), .int (nI i)] (c_sizeN (σ := (foI σ b j i)) (5 + 4 * b) (sZ σ (5 + 4 * b)) (zL_ok h5).1 (zSx_Z hF.1.1 zQ5)) (dX2_findOpen 8 rfl) w_351 w_231 w_232 w_28 w_233 (by decide +kernel) rfl (fun H h => zrecv_LST K (zL_ok h5).1 h) (fun H h => h) ⟨Nat.le_of_ble_eq_true rfl, Nat.le_of_ble_eq_true rfl⟩ ⟨show sgc (foI σ b j i) - sgc σ + 0 ≤ sgc (s_findOpen σ b j) - sgc σ by omega, show sgs (foI σ b j i) - sgs σ + 0 ≤ sgs (s_findOpen σ b j) - sgs σ by omega⟩ (Nat.le_of_ble_eq_true rfl) rfl rfl ?_
    refine zi_icmp_ge K 85 (dX2_findOpen 9 rfl) rfl (fun h17_0 => ?_) (fun h17_0 => ?_)
    · skip
      have hN9 := zloop_exit rfl (zL_b h5) hi9 h17_0
      subst hN9
      exact zi_vret K E (dX2_findOpen 39 rfl) (Nat.le_refl _) (Nat.le_refl _) rfl (fun H h => by exact h)
    · skip
      have hlt9 := zloop_in rfl (zL_b h5) hi9 h17_0
      refine zi_aload_n K (dX2_findOpen 10 rfl) 0 rfl ?_
      refine zg_FL_claims K hb w_132 (dX2_findOpen 11 rfl) ?_
      refine zi_iload_n K (dX2_findOpen 12 rfl) 2 rfl ?_
      refine zi_callV K (na := 1) [] [.ref (ad 2 (lx σ (5 + 4 * b) i))] (c_getK (σ := (foI σ b j i)) (5 + 4 * b) i (lx σ (5 + 4 * b) i) 2 (zeK5 hb) (zL_ok (zSx_LW hF.1.1 zQ5 h5)) ((zSx_Z hF.1.1 zQ5).symm ▸ hlt9) ((zSx_E hF.1.1 zQ5 i).trans (zL_x h5 hlt9))) (dX2_findOpen 13 rfl) w_352 w_310 w_311 w_28 w_312 (by decide +kernel) rfl (fun H h => zrecv_LST K (zL_ok h5).1 h) (fun H h => h) ⟨Nat.le_of_ble_eq_true rfl, Nat.le_of_ble_eq_true rfl⟩ ⟨show sgc (foI σ b j i) - sgc σ + 0 ≤ sgc (s_findOpen σ b j) - sgc σ by omega, show sgs (foI σ b j i) - sgs σ + 0 ≤ sgs (s_findOpen σ b j) - sgs σ by omega⟩ (Nat.le_of_ble_eq_true rfl) rfl rfl ?_
      refine zi_cast K (fun H h => (zr_CL (σ := (foI σ b j i)) (zSx_C hF.1.1 (zL_lv h5 hlt9 (zeK5 hb))) H h).1) rfl w_353 (dX2_findOpen 14 rfl) ?_
      refine zg_CL_left K (zSx_C hF.1.1 (zL_lv h5 hlt9 (zeK5 hb))) w_759 (dX2_findOpen 15 rfl) ?_
      refine zi_lconst K (dX2_findOpen 16 rfl) zk_l0 ?_
      refine zi_lif_le K 79 (dX2_findOpen 17 rfl) (dX2_findOpen 18 rfl) rfl (fun h35_0 => ?_) (fun h35_0 => ?_)
      · skip
        refine zi_iinc K (v := nI (i + 1)) [(2, .int (nI (i + 1))), (0, .ref (ad 11 b)), (1, .ref (ad 7 j))] (dX2_findOpen 37 rfl) 2 rfl (zk_inc _) (by decide) rfl ?_
        refine zi_goto K 9 (dX2_findOpen 38 rfl) rfl ?_
        refine zV.pick [1, 2, 0] (lo' := [(0, .ref (ad 11 b)), (1, .ref (ad 7 j)), (2, .int (nI (i + 1)))]) rfl ?_
        have hSx : foI σ b j (i + 1) = (foI σ b j i) := (by simp only [foI, if_neg h35_0])
        have ihx := ih9 (i + 1) (by omega) (by omega)
        rw [hSx] at ihx
        exact ihx
      · skip
        refine zi_aload_n K (dX2_findOpen 19 rfl) 1 rfl ?_
        refine zg_COV_treaty K (zSx_V hF.1.1 hj) w_1162 (dX2_findOpen 20 rfl) ?_
        refine zi_aload_n K (dX2_findOpen 21 rfl) 0 rfl ?_
        refine zg_FL_claims K hb w_132 (dX2_findOpen 22 rfl) ?_
        refine zi_iload_n K (dX2_findOpen 23 rfl) 2 rfl ?_
        refine zi_callV K (na := 1) [.ref (ad 5 (j % 8))] [.ref (ad 2 (lx σ (5 + 4 * b) i)), .ref (ad 5 (j % 8))] (c_getK (σ := (foI σ b j i)) (5 + 4 * b) i (lx σ (5 + 4 * b) i) 2 (zeK5 hb) (zL_ok (zSx_LW hF.1.1 zQ5 h5)) ((zSx_Z hF.1.1 zQ5).symm ▸ hlt9) ((zSx_E hF.1.1 zQ5 i).trans (zL_x h5 hlt9))) (dX2_findOpen 24 rfl) w_352 w_310 w_311 w_28 w_312 (by decide +kernel) rfl (fun H h => zrecv_LST K (zL_ok h5).1 h) (fun H h => h) ⟨Nat.le_of_ble_eq_true rfl, Nat.le_of_ble_eq_true rfl⟩ ⟨show sgc (foI σ b j i) - sgc σ + 0 ≤ sgc (s_findOpen σ b j) - sgc σ by omega, show sgs (foI σ b j i) - sgs σ + 0 ≤ sgs (s_findOpen σ b j) - sgs σ by omega⟩ (Nat.le_of_ble_eq_true rfl) rfl rfl ?_
        refine zi_cast K (fun H h => (zr_CL (σ := (foI σ b j i)) (zSx_C hF.1.1 (zL_lv h5 hlt9 (zeK5 hb))) H h).1) rfl w_353 (dX2_findOpen 25 rfl) ?_
        refine zi_callV K (na := 1) [] [.int (v_covers (foI σ b j i) (j % 8) (lx σ (5 + 4 * b) i))] (c_covers (σ := (foI σ b j i)) (j % 8) (lx σ (5 + 4 * b) i) (zSx_N hF.1.1 ht) (zSx_C hF.1.1 (zL_lv h5 hlt9 (zeK5 hb))) (zSx_P hF.1.1 (hP _ (zL_lv h5 hlt9 (zeK5 hb))))) (dX2_findOpen 26 rfl) w_387 w_388 w_389 w_55 w_390 (by decide +kernel) rfl (fun H h => zi_recv K (zr_TR (σ := (foI σ b j i)) (zSx_N hF.1.1 ht) H h).1 rfl) (fun H h => h) ⟨Nat.le_of_ble_eq_true rfl, Nat.le_of_ble_eq_true rfl⟩ ⟨show sgc (foI σ b j i) - sgc σ + 0 ≤ sgc (s_findOpen σ b j) - sgc σ by omega, show sgs (foI σ b j i) - sgs σ + 0 ≤ sgs (s_findOpen σ b j) - sgs σ by omega⟩ (Nat.le_of_ble_eq_true rfl) rfl rfl ?_
        refine zi_if_eq K 79 (dX2_findOpen 27 rfl) rfl (fun h57_1 => ?_) (fun h57_1 => ?_)
        · skip
          refine zi_iinc K (v := nI (i + 1)) [(2, .int (nI (i + 1))), (0, .ref (ad 11 b)), (1, .ref (ad 7 j))] (dX2_findOpen 37 rfl) 2 rfl (zk_inc _) (by decide) rfl ?_
          refine zi_goto K 9 (dX2_findOpen 38 rfl) rfl ?_
          refine zV.pick [1, 2, 0] (lo' := [(0, .ref (ad 11 b)), (1, .ref (ad 7 j)), (2, .int (nI (i + 1)))]) rfl ?_
          have hSx : foI σ b j (i + 1) = (foI σ b j i) := (by simp only [foI, if_pos h35_0, if_pos h57_1])
          have ihx := ih9 (i + 1) (by omega) (by omega)
          rw [hSx] at ihx
          exact ihx
        · skip
          refine zi_aload_n K (dX2_findOpen 28 rfl) 0 rfl ?_
          refine zg_FL_open K hb w_136 (dX2_findOpen 29 rfl) ?_
          refine zi_aload_n K (dX2_findOpen 30 rfl) 0 rfl ?_
          refine zg_FL_claims K hb w_132 (dX2_findOpen 31 rfl) ?_
          refine zi_iload_n K (dX2_findOpen 32 rfl) 2 rfl ?_
          refine zi_callV K (na := 1) [.ref (ad 28 (7 + 4 * b))] [.ref (ad 2 (lx σ (5 + 4 * b) i)), .ref (ad 28 (7 + 4 * b))] (c_getK (σ := (foI σ b j i)) (5 + 4 * b) i (lx σ (5 + 4 * b) i) 2 (zeK5 hb) (zL_ok (zSx_LW hF.1.1 zQ5 h5)) ((zSx_Z hF.1.1 zQ5).symm ▸ hlt9) ((zSx_E hF.1.1 zQ5 i).trans (zL_x h5 hlt9))) (dX2_findOpen 33 rfl) w_352 w_310 w_311 w_28 w_312 (by decide +kernel) rfl (fun H h => zrecv_LST K (zL_ok h5).1 h) (fun H h => h) ⟨Nat.le_of_ble_eq_true rfl, Nat.le_of_ble_eq_true rfl⟩ ⟨show sgc (foI σ b j i) - sgc σ + 0 ≤ sgc (s_findOpen σ b j) - sgc σ by omega, show sgs (foI σ b j i) - sgs σ + 0 ≤ sgs (s_findOpen σ b j) - sgs σ by omega⟩ (Nat.le_of_ble_eq_true rfl) rfl rfl ?_
          refine zi_cast K (fun H h => (zr_CL (σ := (foI σ b j i)) (zSx_C hF.1.1 (zL_lv h5 hlt9 (zeK5 hb))) H h).1) rfl w_353 (dX2_findOpen 34 rfl) ?_
          have hm := foI_mono σ b j (show i + 1 ≤ sZ σ (5 + 4 * b) by omega)
          rw [show foI σ b j (i + 1) = s_add (foI σ b j i) (7 + 4 * b) (lx σ (5 + 4 * b) i) by simp only [foI, if_pos h35_0, if_neg h57_1]] at hm
          have hm2 := s_add_mono (foI σ b j i) (7 + 4 * b) (lx σ (5 + 4 * b) i)
          rw [show foI σ b j (sZ σ (5 + 4 * b)) = s_findOpen σ b j from rfl] at hm
          refine zi_callV K (na := 1) [] [.int 1] (c_addA (σ := (foI σ b j i)) (7 + 4 * b) (lx σ (5 + 4 * b) i) 2 (zeK7 hb) (zL_ok hF.2.1.1) (zLC_2 hF.2.1) (zSx_C hF.1.1 (zL_lv h5 hlt9 (zeK5 hb)))) (dX2_findOpen 35 rfl) w_435 w_436 w_437 w_28 w_438 (by decide +kernel) rfl (fun H h => zrecv_LST K (zL_ok hF.2.1.1).1 h) (fun H h => h) ⟨Nat.le_of_ble_eq_true rfl, Nat.le_of_ble_eq_true rfl⟩ ⟨show sgc (foI σ b j i) - sgc σ + (sgc (s_add (foI σ b j i) (7 + 4 * b) (lx σ (5 + 4 * b) i)) - sgc (foI σ b j i)) ≤ sgc (s_findOpen σ b j) - sgc σ by omega, show sgs (foI σ b j i) - sgs σ + (sgs (s_add (foI σ b j i) (7 + 4 * b) (lx σ (5 + 4 * b) i)) - sgs (foI σ b j i)) ≤ sgs (s_findOpen σ b j) - sgs σ by omega⟩ (Nat.le_of_ble_eq_true rfl) rfl rfl ?_
          have e2 : zSx (zQb b) (s_add (foI σ b j i) (7 + 4 * b) (lx σ (5 + 4 * b) i)) σ := (s_add_sx (foI σ b j i) (7 + 4 * b) (lx σ (5 + 4 * b) i) (zQb b) zQm7).trans hF.1.1
          refine zV.wd (k' := sgc (s_add (foI σ b j i) (7 + 4 * b) (lx σ (5 + 4 * b) i)) - sgc σ) (n' := sgs (s_add (foI σ b j i) (7 + 4 * b) (lx σ (5 + 4 * b) i)) - sgs σ) (by omega) (by omega) ?_
          refine zi_pop K (dX2_findOpen 36 rfl) rfl ?_
          refine zi_iinc K (v := nI (i + 1)) [(2, .int (nI (i + 1))), (0, .ref (ad 11 b)), (1, .ref (ad 7 j))] (dX2_findOpen 37 rfl) 2 rfl (zk_inc _) (by decide) rfl ?_
          refine zi_goto K 9 (dX2_findOpen 38 rfl) rfl ?_
          refine zV.pick [1, 2, 0] (lo' := [(0, .ref (ad 11 b)), (1, .ref (ad 7 j)), (2, .int (nI (i + 1)))]) rfl ?_
          have hSx : foI σ b j (i + 1) = (s_add (foI σ b j i) (7 + 4 * b) (lx σ (5 + 4 * b) i)) := (by simp only [foI, if_pos h35_0, if_neg h57_1])
          have ihx := ih9 (i + 1) (by omega) (by omega)
          rw [hSx] at ihx
          exact ihx
/-- the open claims of a zone and of some days, the first i looked at -/
def gaI (σ : zSt) (b : Nat) (z f l : Int32) : Nat → zSt
  | 0 => s_clear σ (8 + 4 * b)
  | i + 1 => if z = -1 then (if sI (gaI σ b z f l i) 4 (lx σ (7 + 4 * b) i) 0 < f then (gaI σ b z f l i) else if l < sI (gaI σ b z f l i) 4 (lx σ (7 + 4 * b) i) 0 then (gaI σ b z f l i) else s_add (gaI σ b z f l i) (8 + 4 * b) (lx σ (7 + 4 * b) i)) else if sI (gaI σ b z f l i) 1 (sP (gaI σ b z f l i) (lx σ (7 + 4 * b) i)) 0 = z then (if sI (gaI σ b z f l i) 4 (lx σ (7 + 4 * b) i) 0 < f then (gaI σ b z f l i) else if l < sI (gaI σ b z f l i) 4 (lx σ (7 + 4 * b) i) 0 then (gaI σ b z f l i) else s_add (gaI σ b z f l i) (8 + 4 * b) (lx σ (7 + 4 * b) i)) else (gaI σ b z f l i)
theorem gaI_ok {σ : zSt} {b : Nat} {z f l : Int32} (hb : b < 2) (h7 : zLW σ (7 + 4 * b)) (h30 : sZ σ (7 + 4 * b) ≤ 30) (h8 : zLC σ (8 + 4 * b)) : ∀ i, i ≤ sZ σ (7 + 4 * b) → zFr b (gaI σ b z f l i) σ ∧ zSx (fun y => y = (8 + 4 * b)) (gaI σ b z f l i) σ ∧ zLC (gaI σ b z f l i) (8 + 4 * b) ∧ sZ (gaI σ b z f l i) (8 + 4 * b) ≤ i := by
  intro i
  induction i with
  | zero => intro _; exact ⟨zFr.clear zQm8, s_clear_sx _ _ _ rfl, (zLC_clear h8).1, by show sZ (s_clear σ _) _ ≤ 0; rw [(zLC_clear h8).2]; exact Nat.le_refl _⟩
  | succ i ih =>
    intro hi
    obtain ⟨f1, f4, f2, f3⟩ := ih (by omega)
    have hx : zlv (gaI σ b z f l i) (zeK (8 + 4 * b)) (lx σ (7 + 4 * b) i) := by
      rw [zeK8 hb]
      exact zSx_C f1.1 (zL_lv h7 (show i < sZ σ (7 + 4 * b) by omega) (zeK7 hb))
    have hz : sZ (gaI σ b z f l i) (8 + 4 * b) < 33 := by omega
    obtain ⟨a1, a2, -⟩ := zLC_add f2 hz hx
    have hT := (⟨(zFr.add zQm8 f2 hz hx).trans f1, (s_add_sx _ _ _ (fun y => y = (8 + 4 * b)) rfl).trans f4, a1, by omega⟩ : zFr b (s_add (gaI σ b z f l i) (8 + 4 * b) (lx σ (7 + 4 * b) i)) σ ∧ zSx (fun y => y = (8 + 4 * b)) (s_add (gaI σ b z f l i) (8 + 4 * b) (lx σ (7 + 4 * b) i)) σ ∧ zLC (s_add (gaI σ b z f l i) (8 + 4 * b) (lx σ (7 + 4 * b) i)) (8 + 4 * b) ∧ sZ (s_add (gaI σ b z f l i) (8 + 4 * b) (lx σ (7 + 4 * b) i)) (8 + 4 * b) ≤ i + 1)
    have hE := (⟨f1, f4, f2, by omega⟩ : zFr b (gaI σ b z f l i) σ ∧ zSx (fun y => y = (8 + 4 * b)) (gaI σ b z f l i) σ ∧ zLC (gaI σ b z f l i) (8 + 4 * b) ∧ sZ (gaI σ b z f l i) (8 + 4 * b) ≤ i + 1)
    simp only [gaI]
    repeat' split
    all_goals first | exact hE | exact hT
theorem gaI_mono (σ : zSt) (b : Nat) (z f l : Int32) {i n : Nat} (h : i ≤ n) : sgc (gaI σ b z f l i) ≤ sgc (gaI σ b z f l n) ∧ sgs (gaI σ b z f l i) ≤ sgs (gaI σ b z f l n) := by
  induction n with
  | zero => rw [show i = 0 by omega]; exact ⟨Nat.le_refl _, Nat.le_refl _⟩
  | succ n ih =>
    by_cases e : i = n + 1
    · subst e; exact ⟨Nat.le_refl _, Nat.le_refl _⟩
    · have h1 := ih (by omega)
      have h2 : sgc (gaI σ b z f l n) ≤ sgc (gaI σ b z f l (n + 1)) ∧ sgs (gaI σ b z f l n) ≤ sgs (gaI σ b z f l (n + 1)) := by
        simp only [gaI]
        repeat' split
        all_goals first | exact ⟨Nat.le_refl _, Nat.le_refl _⟩ | exact s_add_mono _ _ _
      omega
theorem zQ78 {b : Nat} : ¬ (7 + 4 * b = 8 + 4 * b) := by omega
def s_gather (σ : zSt) (b : Nat) (z f l : Int32) : zSt := (gaI σ b z f l (sZ σ (7 + 4 * b)))
set_option maxRecDepth 100000 in
set_option maxHeartbeats 4000000 in
theorem c_gather {G : zG} {ad : Nat → Nat → Nat} {σ : zSt} (b : Nat) (z f l : Int32) (hb : b < 2) (h7 : zLW σ (7 + 4 * b)) (h30 : sZ σ (7 + 4 * b) ≤ 30) (h8 : zLC σ (8 + 4 * b)) (hP : ∀ k, zlC σ k → sP σ k < sN σ 0) : zC G yX2_gather cX2_gather 7 none 7 173 (sgc (s_gather σ b z f l) - sgc σ) (sgs (s_gather σ b z f l) - sgs σ) [.ref (ad 11 b), .int z, .int f, .int l] (zP G ad σ) none (zP G ad (s_gather σ b z f l)) := by
  refine zC_of (by decide) (Nat.le_of_ble_eq_true rfl) (fun X K E hnm => ?_)
  show zV G X 7 (zP G ad σ) 0 0 0 [(0, .ref (ad 11 b)), (1, .int z), (2, .int f), (3, .int l)] []
  refine zi_aload_n K (dX2_gather 0 rfl) 0 rfl ?_
  refine zg_FL_group K hb w_137 (dX2_gather 1 rfl) ?_
  refine zi_callV K (na := 0) [] [] (c_clear (σ := σ) (8 + 4 * b) (zL_ok h8.1)) (dX2_gather 2 rfl) w_431 w_432 w_433 w_28 w_434 (by decide +kernel) rfl (fun H h => zrecv_LST K (zL_ok h8.1).1 h) (fun H h => h) ⟨Nat.le_of_ble_eq_true rfl, Nat.le_of_ble_eq_true rfl⟩ ⟨show 0 + 0 ≤ sgc (s_gather σ b z f l) - sgc σ by omega, show 0 + 0 ≤ sgs (s_gather σ b z f l) - sgs σ by omega⟩ (Nat.le_of_ble_eq_true rfl) rfl rfl ?_
  have e1 : zSx (fun y => y = (8 + 4 * b)) (s_clear σ (8 + 4 * b)) σ := (s_clear_sx σ (8 + 4 * b) (fun y => y = (8 + 4 * b)) rfl).trans zSx.rf
  refine zi_iconst K (dX2_gather 3 rfl) zk_i0 ?_
  refine zi_istore K [(4, .int 0), (0, .ref (ad 11 b)), (1, .int z), (2, .int f), (3, .int l)] (dX2_gather 4 rfl) (by decide) rfl ?_
  refine zV.pick [1, 2, 3, 4, 0] (lo' := [(0, .ref (ad 11 b)), (1, .int z), (2, .int f), (3, .int l), (4, .int 0)]) rfl ?_
  refine zV.wd (k' := sgc (gaI σ b z f l 0) - sgc σ) (n' := sgs (gaI σ b z f l 0) - sgs σ) (Nat.zero_le _) (Nat.zero_le _) ?_
  suffices hloop10 : ∀ (r i : Nat), i ≤ sZ σ (7 + 4 * b) → sZ σ (7 + 4 * b) - i < r → zV G X 7 (zP G ad (gaI σ b z f l i)) (sgc (gaI σ b z f l i) - sgc σ) (sgs (gaI σ b z f l i) - sgs σ) 10 [(0, .ref (ad 11 b)), (1, .int z), (2, .int f), (3, .int l), (4, .int (nI i))] [] from hloop10 (sZ σ (7 + 4 * b) + 1) 0 (Nat.zero_le _) (Nat.lt_succ_of_le (Nat.sub_le _ _))
  intro r
  induction r with
  | zero => intro i _ h; exact absurd h (Nat.not_lt_zero _)
  | succ r ih10 =>
    intro i hi10 hr10
    have hF := gaI_ok (z := z) (f := f) (l := l) hb h7 h30 h8 i hi10
    have hG := hF.1.2.1
    have hm0 : sgc (gaI σ b z f l i) ≤ sgc (s_gather σ b z f l) ∧ sgs (gaI σ b z f l i) ≤ sgs (s_gather σ b z f l) := gaI_mono σ b z f l hi10
    refine zi_iload K (dX2_gather 5 rfl) 4 rfl ?_
    refine zi_aload_n K (dX2_gather 6 rfl) 0 rfl ?_
    refine zg_FL_open K hb w_136 (dX2_gather 7 rfl) ?_
    refine zi_callV K (na := 0) [.int (nI i)] [.int (nI (sZ σ (7 + 4 * b))), .int (nI i)] (c_sizeN (σ := (gaI σ b z f l i)) (7 + 4 * b) (sZ σ (7 + 4 * b)) (zL_ok h7).1 (zSx_Z hF.2.1 zQ78)) (dX2_gather 8 rfl) w_351 w_231 w_232 w_28 w_233 (by decide +kernel) rfl (fun H h => zrecv_LST K (zL_ok h7).1 h) (fun H h => h) ⟨Nat.le_of_ble_eq_true rfl, Nat.le_of_ble_eq_true rfl⟩ ⟨show sgc (gaI σ b z f l i) - sgc σ + 0 ≤ sgc (s_gather σ b z f l) - sgc σ by omega, show sgs (gaI σ b z f l i) - sgs σ + 0 ≤ sgs (s_gather σ b z f l) - sgs σ by omega⟩ (Nat.le_of_ble_eq_true rfl) rfl rfl ?_
    refine zi_icmp_ge K 99 (dX2_gather 9 rfl) rfl (fun h19_0 => ?_) (fun h19_0 => ?_)
    · skip
      have hN10 := zloop_exit rfl (zL_b h7) hi10 h19_0
      subst hN10
      exact zi_vret K E (dX2_gather 45 rfl) (Nat.le_refl _) (Nat.le_refl _) rfl (fun H h => by exact h)
    · skip
      have hlt10 := zloop_in rfl (zL_b h7) hi10 h19_0
      refine zi_aload_n K (dX2_gather 10 rfl) 0 rfl ?_
      refine zg_FL_open K hb w_136 (dX2_gather 11 rfl) ?_
      refine zi_iload K (dX2_gather 12 rfl) 4 rfl ?_
      refine zi_callV K (na := 1) [] [.ref (ad 2 (lx σ (7 + 4 * b) i))] (c_getK (σ := (gaI σ b z f l i)) (7 + 4 * b) i (lx σ (7 + 4 * b) i) 2 (zeK7 hb) (zL_ok (zSx_LW hF.2.1 zQ78 h7)) ((zSx_Z hF.2.1 zQ78).symm ▸ hlt10) ((zSx_E hF.2.1 zQ78 i).trans (zL_x h7 hlt10))) (dX2_gather 13 rfl) w_352 w_310 w_311 w_28 w_312 (by decide +kernel) rfl (fun H h => zrecv_LST K (zL_ok h7).1 h) (fun H h => h) ⟨Nat.le_of_ble_eq_true rfl, Nat.le_of_ble_eq_true rfl⟩ ⟨show sgc (gaI σ b z f l i) - sgc σ + 0 ≤ sgc (s_gather σ b z f l) - sgc σ by omega, show sgs (gaI σ b z f l i) - sgs σ + 0 ≤ sgs (s_gather σ b z f l) - sgs σ by omega⟩ (Nat.le_of_ble_eq_true rfl) rfl rfl ?_
      refine zi_cast K (fun H h => (zr_CL (σ := (gaI σ b z f l i)) (zSx_C hF.2.1 (zL_lv h7 hlt10 (zeK7 hb))) H h).1) rfl w_353 (dX2_gather 14 rfl) ?_
      refine zi_astore K [(5, .ref (ad 2 (lx σ (7 + 4 * b) i))), (0, .ref (ad 11 b)), (1, .int z), (2, .int f), (3, .int l), (4, .int (nI i))] (dX2_gather 15 rfl) (by decide) rfl ?_
      refine zi_iload_n K (dX2_gather 16 rfl) 2 rfl ?_
      refine zi_iconst K (dX2_gather 17 rfl) zk_im1 ?_
      refine zi_icmp_eq K 53 (dX2_gather 18 rfl) rfl (fun h38_0 => ?_) (fun h38_0 => ?_)
      · skip
        refine zi_iconst K (dX2_gather 24 rfl) zk_i1 ?_
        refine zi_goto K 58 (dX2_gather 25 rfl) rfl ?_
        refine zi_istore K [(6, .int 1), (5, .ref (ad 2 (lx σ (7 + 4 * b) i))), (0, .ref (ad 11 b)), (1, .int z), (2, .int f), (3, .int l), (4, .int (nI i))] (dX2_gather 27 rfl) (by decide) rfl ?_
        refine zi_iload K (dX2_gather 28 rfl) 0 rfl ?_
        refine zi_if_eq K 93 (dX2_gather 29 rfl) rfl (fun h62_1 => ?_) (fun h62_1 => ?_)
        · exact absurd h62_1 (by decide)
        refine zi_iload_n K (dX2_gather 30 rfl) 4 rfl ?_
        refine zi_aload K (dX2_gather 31 rfl) 1 rfl ?_
        refine zg_CL_day K (zSx_C hF.2.1 (zL_lv h7 hlt10 (zeK7 hb))) w_748 (dX2_gather 32 rfl) ?_
        refine zi_icmp_gt K 93 (dX2_gather 33 rfl) rfl (fun h71_1 => ?_) (fun h71_1 => ?_)
        · skip
          refine zi_iinc K (v := nI (i + 1)) [(4, .int (nI (i + 1))), (6, .int 1), (5, .ref (ad 2 (lx σ (7 + 4 * b) i))), (0, .ref (ad 11 b)), (1, .int z), (2, .int f), (3, .int l)] (dX2_gather 43 rfl) 6 rfl (zk_inc _) (by decide) rfl ?_
          refine zi_goto K 10 (dX2_gather 44 rfl) rfl ?_
          refine zV.pick [3, 4, 5, 6, 0] (lo' := [(0, .ref (ad 11 b)), (1, .int z), (2, .int f), (3, .int l), (4, .int (nI (i + 1)))]) rfl ?_
          have hSx : gaI σ b z f l (i + 1) = (gaI σ b z f l i) := (by simp only [gaI, if_pos h38_0, if_pos h71_1])
          have ihx := ih10 (i + 1) (by omega) (by omega)
          rw [hSx] at ihx
          exact ihx
        · skip
          refine zi_aload K (dX2_gather 34 rfl) 1 rfl ?_
          refine zg_CL_day K (zSx_C hF.2.1 (zL_lv h7 hlt10 (zeK7 hb))) w_748 (dX2_gather 35 rfl) ?_
          refine zi_iload_n K (dX2_gather 36 rfl) 5 rfl ?_
          refine zi_icmp_gt K 93 (dX2_gather 37 rfl) rfl (fun h80_2 => ?_) (fun h80_2 => ?_)
          · skip
            refine zi_iinc K (v := nI (i + 1)) [(4, .int (nI (i + 1))), (6, .int 1), (5, .ref (ad 2 (lx σ (7 + 4 * b) i))), (0, .ref (ad 11 b)), (1, .int z), (2, .int f), (3, .int l)] (dX2_gather 43 rfl) 6 rfl (zk_inc _) (by decide) rfl ?_
            refine zi_goto K 10 (dX2_gather 44 rfl) rfl ?_
            refine zV.pick [3, 4, 5, 6, 0] (lo' := [(0, .ref (ad 11 b)), (1, .int z), (2, .int f), (3, .int l), (4, .int (nI (i + 1)))]) rfl ?_
            have hSx : gaI σ b z f l (i + 1) = (gaI σ b z f l i) := (by simp only [gaI, if_pos h38_0, if_neg h71_1, if_pos h80_2])
            have ihx := ih10 (i + 1) (by omega) (by omega)
            rw [hSx] at ihx
            exact ihx
          · skip
            refine zi_aload_n K (dX2_gather 38 rfl) 2 rfl ?_
            refine zg_FL_group K hb w_137 (dX2_gather 39 rfl) ?_
            refine zi_aload K (dX2_gather 40 rfl) 1 rfl ?_
            have hm := gaI_mono σ b z f l (show i + 1 ≤ sZ σ (7 + 4 * b) by omega)
            rw [show gaI σ b z f l (i + 1) = s_add (gaI σ b z f l i) (8 + 4 * b) (lx σ (7 + 4 * b) i) by simp only [gaI, if_pos h38_0, if_neg h71_1, if_neg h80_2]] at hm
            have hm2 := s_add_mono (gaI σ b z f l i) (8 + 4 * b) (lx σ (7 + 4 * b) i)
            rw [show gaI σ b z f l (sZ σ (7 + 4 * b)) = s_gather σ b z f l from rfl] at hm
            refine zi_callV K (na := 1) [] [.int 1] (c_addA (σ := (gaI σ b z f l i)) (8 + 4 * b) (lx σ (7 + 4 * b) i) 2 (zeK8 hb) (zL_ok hF.2.2.1.1) (zLC_2 hF.2.2.1) (zSx_C hF.2.1 (zL_lv h7 hlt10 (zeK7 hb)))) (dX2_gather 41 rfl) w_435 w_436 w_437 w_28 w_438 (by decide +kernel) rfl (fun H h => zrecv_LST K (zL_ok hF.2.2.1.1).1 h) (fun H h => h) ⟨Nat.le_of_ble_eq_true rfl, Nat.le_of_ble_eq_true rfl⟩ ⟨show sgc (gaI σ b z f l i) - sgc σ + (sgc (s_add (gaI σ b z f l i) (8 + 4 * b) (lx σ (7 + 4 * b) i)) - sgc (gaI σ b z f l i)) ≤ sgc (s_gather σ b z f l) - sgc σ by omega, show sgs (gaI σ b z f l i) - sgs σ + (sgs (s_add (gaI σ b z f l i) (8 + 4 * b) (lx σ (7 + 4 * b) i)) - sgs (gaI σ b z f l i)) ≤ sgs (s_gather σ b z f l) - sgs σ by omega⟩ (Nat.le_of_ble_eq_true rfl) rfl rfl ?_
            have e2 : zSx (fun y => y = (8 + 4 * b)) (s_add (gaI σ b z f l i) (8 + 4 * b) (lx σ (7 + 4 * b) i)) σ := (s_add_sx (gaI σ b z f l i) (8 + 4 * b) (lx σ (7 + 4 * b) i) (fun y => y = (8 + 4 * b)) rfl).trans hF.2.1
            refine zV.wd (k' := sgc (s_add (gaI σ b z f l i) (8 + 4 * b) (lx σ (7 + 4 * b) i)) - sgc σ) (n' := sgs (s_add (gaI σ b z f l i) (8 + 4 * b) (lx σ (7 + 4 * b) i)) - sgs σ) (by omega) (by omega) ?_
            refine zi_pop K (dX2_gather 42 rfl) rfl ?_
            refine zi_iinc K (v := nI (i + 1)) [(4, .int (nI (i + 1))), (6, .int 1), (5, .ref (ad 2 (lx σ (7 + 4 * b) i))), (0, .ref (ad 11 b)), (1, .int z), (2, .int f), (3, .int l)] (dX2_gather 43 rfl) 6 rfl (zk_inc _) (by decide) rfl ?_
            refine zi_goto K 10 (dX2_gather 44 rfl) rfl ?_
            refine zV.pick [3, 4, 5, 6, 0] (lo' := [(0, .ref (ad 11 b)), (1, .int z), (2, .int f), (3, .int l), (4, .int (nI (i + 1)))]) rfl ?_
            have hSx : gaI σ b z f l (i + 1) = (s_add (gaI σ b z f l i) (8 + 4 * b) (lx σ (7 + 4 * b) i)) := (by simp only [gaI, if_pos h38_0, if_neg h71_1, if_neg h80_2])
            have ihx := ih10 (i + 1) (by omega) (by omega)
            rw [hSx] at ihx
            exact ihx
      · skip
        refine zi_aload K (dX2_gather 19 rfl) 0 rfl ?_
        refine zg_CL_policy K (zSx_C hF.2.1 (zL_lv h7 hlt10 (zeK7 hb))) w_738 (dX2_gather 20 rfl) ?_
        refine zg_POL_zone K (zSx_P hF.2.1 (hP _ (zL_lv h7 hlt10 (zeK7 hb)))) w_718 (dX2_gather 21 rfl) ?_
        refine zi_iload_n K (dX2_gather 22 rfl) 2 rfl ?_
        refine zi_icmp_ne K 57 (dX2_gather 23 rfl) rfl (fun h50_1 => ?_) (fun h50_1 => ?_)
        · skip
          refine zi_iconst K (dX2_gather 26 rfl) zk_i0 ?_
          refine zi_istore K [(6, .int 0), (5, .ref (ad 2 (lx σ (7 + 4 * b) i))), (0, .ref (ad 11 b)), (1, .int z), (2, .int f), (3, .int l), (4, .int (nI i))] (dX2_gather 27 rfl) (by decide) rfl ?_
          refine zi_iload K (dX2_gather 28 rfl) 0 rfl ?_
          refine zi_if_eq K 93 (dX2_gather 29 rfl) rfl (fun h62_2 => ?_) (fun h62_2 => ?_)
          rotate_left
          · exact absurd (by decide) h62_2
          refine zi_iinc K (v := nI (i + 1)) [(4, .int (nI (i + 1))), (6, .int 0), (5, .ref (ad 2 (lx σ (7 + 4 * b) i))), (0, .ref (ad 11 b)), (1, .int z), (2, .int f), (3, .int l)] (dX2_gather 43 rfl) 6 rfl (zk_inc _) (by decide) rfl ?_
          refine zi_goto K 10 (dX2_gather 44 rfl) rfl ?_
          refine zV.pick [3, 4, 5, 6, 0] (lo' := [(0, .ref (ad 11 b)), (1, .int z), (2, .int f), (3, .int l), (4, .int (nI (i + 1)))]) rfl ?_
          have hSx : gaI σ b z f l (i + 1) = (gaI σ b z f l i) := (by simp only [gaI, if_neg h38_0, if_neg h50_1])
          have ihx := ih10 (i + 1) (by omega) (by omega)
          rw [hSx] at ihx
          exact ihx
        · skip
          refine zi_iconst K (dX2_gather 24 rfl) zk_i1 ?_
          refine zi_goto K 58 (dX2_gather 25 rfl) rfl ?_
          refine zi_istore K [(6, .int 1), (5, .ref (ad 2 (lx σ (7 + 4 * b) i))), (0, .ref (ad 11 b)), (1, .int z), (2, .int f), (3, .int l), (4, .int (nI i))] (dX2_gather 27 rfl) (by decide) rfl ?_
          refine zi_iload K (dX2_gather 28 rfl) 0 rfl ?_
          refine zi_if_eq K 93 (dX2_gather 29 rfl) rfl (fun h62_2 => ?_) (fun h62_2 => ?_)
          · exact absurd h62_2 (by decide)
          refine zi_iload_n K (dX2_gather 30 rfl) 4 rfl ?_
          refine zi_aload K (dX2_gather 31 rfl) 1 rfl ?_
          refine zg_CL_day K (zSx_C hF.2.1 (zL_lv h7 hlt10 (zeK7 hb))) w_748 (dX2_gather 32 rfl) ?_
          refine zi_icmp_gt K 93 (dX2_gather 33 rfl) rfl (fun h71_2 => ?_) (fun h71_2 => ?_)
          · skip
            refine zi_iinc K (v := nI (i + 1)) [(4, .int (nI (i + 1))), (6, .int 1), (5, .ref (ad 2 (lx σ (7 + 4 * b) i))), (0, .ref (ad 11 b)), (1, .int z), (2, .int f), (3, .int l)] (dX2_gather 43 rfl) 6 rfl (zk_inc _) (by decide) rfl ?_
            refine zi_goto K 10 (dX2_gather 44 rfl) rfl ?_
            refine zV.pick [3, 4, 5, 6, 0] (lo' := [(0, .ref (ad 11 b)), (1, .int z), (2, .int f), (3, .int l), (4, .int (nI (i + 1)))]) rfl ?_
            have hSx : gaI σ b z f l (i + 1) = (gaI σ b z f l i) := (by simp only [gaI, if_neg h38_0, if_pos h50_1, if_pos h71_2])
            have ihx := ih10 (i + 1) (by omega) (by omega)
            rw [hSx] at ihx
            exact ihx
          · skip
            refine zi_aload K (dX2_gather 34 rfl) 1 rfl ?_
            refine zg_CL_day K (zSx_C hF.2.1 (zL_lv h7 hlt10 (zeK7 hb))) w_748 (dX2_gather 35 rfl) ?_
            refine zi_iload_n K (dX2_gather 36 rfl) 5 rfl ?_
            refine zi_icmp_gt K 93 (dX2_gather 37 rfl) rfl (fun h80_3 => ?_) (fun h80_3 => ?_)
            · skip
              refine zi_iinc K (v := nI (i + 1)) [(4, .int (nI (i + 1))), (6, .int 1), (5, .ref (ad 2 (lx σ (7 + 4 * b) i))), (0, .ref (ad 11 b)), (1, .int z), (2, .int f), (3, .int l)] (dX2_gather 43 rfl) 6 rfl (zk_inc _) (by decide) rfl ?_
              refine zi_goto K 10 (dX2_gather 44 rfl) rfl ?_
              refine zV.pick [3, 4, 5, 6, 0] (lo' := [(0, .ref (ad 11 b)), (1, .int z), (2, .int f), (3, .int l), (4, .int (nI (i + 1)))]) rfl ?_
              have hSx : gaI σ b z f l (i + 1) = (gaI σ b z f l i) := (by simp only [gaI, if_neg h38_0, if_pos h50_1, if_neg h71_2, if_pos h80_3])
              have ihx := ih10 (i + 1) (by omega) (by omega)
              rw [hSx] at ihx
              exact ihx
            · skip
              refine zi_aload_n K (dX2_gather 38 rfl) 2 rfl ?_
              refine zg_FL_group K hb w_137 (dX2_gather 39 rfl) ?_
              refine zi_aload K (dX2_gather 40 rfl) 1 rfl ?_
              have hm := gaI_mono σ b z f l (show i + 1 ≤ sZ σ (7 + 4 * b) by omega)
              rw [show gaI σ b z f l (i + 1) = s_add (gaI σ b z f l i) (8 + 4 * b) (lx σ (7 + 4 * b) i) by simp only [gaI, if_neg h38_0, if_pos h50_1, if_neg h71_2, if_neg h80_3]] at hm
              have hm2 := s_add_mono (gaI σ b z f l i) (8 + 4 * b) (lx σ (7 + 4 * b) i)
              rw [show gaI σ b z f l (sZ σ (7 + 4 * b)) = s_gather σ b z f l from rfl] at hm
              refine zi_callV K (na := 1) [] [.int 1] (c_addA (σ := (gaI σ b z f l i)) (8 + 4 * b) (lx σ (7 + 4 * b) i) 2 (zeK8 hb) (zL_ok hF.2.2.1.1) (zLC_2 hF.2.2.1) (zSx_C hF.2.1 (zL_lv h7 hlt10 (zeK7 hb)))) (dX2_gather 41 rfl) w_435 w_436 w_437 w_28 w_438 (by decide +kernel) rfl (fun H h => zrecv_LST K (zL_ok hF.2.2.1.1).1 h) (fun H h => h) ⟨Nat.le_of_ble_eq_true rfl, Nat.le_of_ble_eq_true rfl⟩ ⟨show sgc (gaI σ b z f l i) - sgc σ + (sgc (s_add (gaI σ b z f l i) (8 + 4 * b) (lx σ (7 + 4 * b) i)) - sgc (gaI σ b z f l i)) ≤ sgc (s_gather σ b z f l) - sgc σ by omega, show sgs (gaI σ b z f l i) - sgs σ + (sgs (s_add (gaI σ b z f l i) (8 + 4 * b) (lx σ (7 + 4 * b) i)) - sgs (gaI σ b z f l i)) ≤ sgs (s_gather σ b z f l) - sgs σ by omega⟩ (Nat.le_of_ble_eq_true rfl) rfl rfl ?_
              have e3 : zSx (fun y => y = (8 + 4 * b)) (s_add (gaI σ b z f l i) (8 + 4 * b) (lx σ (7 + 4 * b) i)) σ := (s_add_sx (gaI σ b z f l i) (8 + 4 * b) (lx σ (7 + 4 * b) i) (fun y => y = (8 + 4 * b)) rfl).trans hF.2.1
              refine zV.wd (k' := sgc (s_add (gaI σ b z f l i) (8 + 4 * b) (lx σ (7 + 4 * b) i)) - sgc σ) (n' := sgs (s_add (gaI σ b z f l i) (8 + 4 * b) (lx σ (7 + 4 * b) i)) - sgs σ) (by omega) (by omega) ?_
              refine zi_pop K (dX2_gather 42 rfl) rfl ?_
              refine zi_iinc K (v := nI (i + 1)) [(4, .int (nI (i + 1))), (6, .int 1), (5, .ref (ad 2 (lx σ (7 + 4 * b) i))), (0, .ref (ad 11 b)), (1, .int z), (2, .int f), (3, .int l)] (dX2_gather 43 rfl) 6 rfl (zk_inc _) (by decide) rfl ?_
              refine zi_goto K 10 (dX2_gather 44 rfl) rfl ?_
              refine zV.pick [3, 4, 5, 6, 0] (lo' := [(0, .ref (ad 11 b)), (1, .int z), (2, .int f), (3, .int l), (4, .int (nI (i + 1)))]) rfl ?_
              have hSx : gaI σ b z f l (i + 1) = (s_add (gaI σ b z f l i) (8 + 4 * b) (lx σ (7 + 4 * b) i)) := (by simp only [gaI, if_neg h38_0, if_pos h50_1, if_neg h71_2, if_neg h80_3])
              have ihx := ih10 (i + 1) (by omega) (by omega)
              rw [hSx] at ihx
              exact ihx
