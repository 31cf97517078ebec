/-! reading lists: elements by their places; Flow's sums -/
def lx (σ : zSt) (q i : Nat) : Nat := (sE σ q i).getD 0
def zLW (σ : zSt) (q : Nat) : Prop := zLok σ q ∧ ∀ i, i < sZ σ q → (sE σ q i).isSome = true
theorem zL_ok {σ : zSt} {q : Nat} (h : zLW σ q) : zLok σ q := h.1
theorem zL_x {σ : zSt} {q i : Nat} (h : zLW σ q) (hi : i < sZ σ q) : sE σ q i = some (lx σ q i) := by
  have h1 := h.2 i hi
  unfold lx
  cases he : sE σ q i with
  | none => rw [he] at h1; cases h1
  | some x => rfl
theorem zL_lv {σ : zSt} {q i kd : Nat} (h : zLW σ q) (hi : i < sZ σ q) (hk : zeK q = kd) : zlv σ kd (lx σ q i) := hk ▸ h.1.2.2.2.2 i _ (zL_x h hi)
theorem zL_b {σ : zSt} {q : Nat} (h : zLW σ q) : sZ σ q < 2 ^ 31 := by have := h.1.2.1; have := h.1.2.2.1; omega
theorem zeK5 {b : Nat} (hb : b < 2) : zeK (5 + 4 * b) = 2 := by
  rcases (show b = 0 ∨ b = 1 by omega) with rfl | rfl <;> rfl
theorem zeK6 {b : Nat} (hb : b < 2) : zeK (6 + 4 * b) = 7 := by
  rcases (show b = 0 ∨ b = 1 by omega) with rfl | rfl <;> rfl
theorem zeK7 {b : Nat} (hb : b < 2) : zeK (7 + 4 * b) = 2 := by
  rcases (show b = 0 ∨ b = 1 by omega) with rfl | rfl <;> rfl
theorem zeK8 {b : Nat} (hb : b < 2) : zeK (8 + 4 * b) = 2 := by
  rcases (show b = 0 ∨ b = 1 by omega) with rfl | rfl <;> rfl
theorem c_getK {G : zG} {ad : Nat → Nat → Nat} {σ : zSt} (q i x kd : Nat) (hk : zeK q = kd) (hq : zLok σ q) (hi : i < sZ σ q) (hx : sE σ q i = some x) : zC G yJx4a65c_get_915e3 cJx4a65c_get_915e3 2 (some (FieldType.object "java/lang/Object")) 2 43 0 0 [.ref (ad 28 q), .int (nI i)] (zP G ad σ) (some (.ref (ad kd x))) (zP G ad σ) := hk ▸ c_get q i x hq hi hx
theorem c_sizeN {G : zG} {ad : Nat → Nat → Nat} {σ : zSt} (q n : Nat) (hq : q < 13) (hn : sZ σ q = n) : zC G yJx4a65c_size_8abf5 cJx4a65c_size_8abf5 1 (some FieldType.int) 0 0 0 0 [.ref (ad 28 q)] (zP G ad σ) (some (.int (nI n))) (zP G ad σ) := hn ▸ c_size q hq
theorem zrecv_LST {G : zG} {X : zX} {cc : ByteArray} {own : String} {nL : Nat} {ret : Option FieldType} {rm : Room} {ad : Nat → Nat → Nat} {σ : zSt} {H : Heap} {q : Nat} (K : zK G X cc own nL ret rm) (hq : q < 13) (h : zP G ad σ H) : ∃ cell : Cell, H[ad 28 q]? = some cell ∧ cell.vm.isStatics = false ∧ (xs X).vm.findClass RJx4a65c = some cell.cls := by
  obtain ⟨aa, h⟩ := h
  exact zi_recv K (zr0_LST h hq).1 rfl
/-- two states that differ in numbers alone -/
theorem zLW_mv {σ σ' : zSt} (e : σ'.2.2 = σ.2.2) {q : Nat} (h : zLW σ q) : zLW σ' q := by
  obtain ⟨a, b, c⟩ := σ
  obtain ⟨a', b', c'⟩ := σ'
  cases e
  exact h
theorem zZ_mv {σ σ' : zSt} (e : σ'.2.2 = σ.2.2) (q : Nat) : sZ σ' q = sZ σ q := by
  obtain ⟨a, b, c⟩ := σ
  obtain ⟨a', b', c'⟩ := σ'
  cases e
  rfl
theorem zE_mv {σ σ' : zSt} (e : σ'.2.2 = σ.2.2) (q i : Nat) : sE σ' q i = sE σ q i := by
  obtain ⟨a, b, c⟩ := σ
  obtain ⟨a', b', c'⟩ := σ'
  cases e
  rfl
def zsumL (f : Nat → Int64) : Nat → Int64
  | 0 => 0
  | i + 1 => zsumL f i + f i
def v_allLeft (σ : zSt) (b : Nat) : Int64 := zsumL (fun y => sL σ 0 (lx σ (5 + 4 * b) y) 0) (sZ σ (5 + 4 * b))
set_option maxRecDepth 100000 in
set_option maxHeartbeats 4000000 in
theorem c_allLeft {G : zG} {ad : Nat → Nat → Nat} {σ : zSt} (b : Nat) (hb : b < 2) (h5 : zLW σ (5 + 4 * b)) : zC G yX2_allLeft cX2_allLeft 4 (some FieldType.long) 3 64 0 0 [.ref (ad 11 b)] (zP G ad σ) (some (.long (v_allLeft σ b))) (zP G ad σ) := by
  refine zC_of (by decide) (Nat.le_of_ble_eq_true rfl) (fun X K E hnm => ?_)
  show zV G X 4 (zP G ad σ) 0 0 0 [(0, .ref (ad 11 b))] []
  refine zi_lconst K (dX2_allLeft 0 rfl) zk_l0 ?_
  refine zi_lstore_n K [(1, .long 0), (0, .ref (ad 11 b))] (dX2_allLeft 1 rfl) (by decide) rfl ?_
  refine zi_iconst K (dX2_allLeft 2 rfl) zk_i0 ?_
  refine zi_istore_n K [(3, .int 0), (1, .long 0), (0, .ref (ad 11 b))] (dX2_allLeft 3 rfl) (by decide) rfl ?_
  refine zV.pick [2, 1, 0] (lo' := [(0, .ref (ad 11 b)), (1, .long 0), (3, .int 0)]) rfl ?_
  suffices hloop4 : ∀ (r i : Nat), i ≤ sZ σ (5 + 4 * b) → sZ σ (5 + 4 * b) - i < r → zV G X 4 (zP G ad σ) (0) (0) 4 [(0, .ref (ad 11 b)), (1, .long (zsumL (fun y => sL σ 0 (lx σ (5 + 4 * b) y) 0) i)), (3, .int (nI i))] [] from hloop4 (sZ σ (5 + 4 * b) + 1) 0 (Nat.zero_le _) (Nat.lt_succ_of_le (Nat.sub_le _ _))
  intro r
  induction r with
  | zero => intro i _ h; exact absurd h (Nat.not_lt_zero _)
  | succ r ih4 =>
    intro i hi4 hr4
    refine zi_iload_n K (dX2_allLeft 4 rfl) 2 rfl ?_
    refine zi_aload_n K (dX2_allLeft 5 rfl) 0 rfl ?_
    refine zg_FL_claims K hb w_132 (dX2_allLeft 6 rfl) ?_
    refine zi_callV K (na := 0) [.int (nI i)] [.int (nI (sZ σ (5 + 4 * b))), .int (nI i)] (c_sizeN (σ := σ) (5 + 4 * b) (sZ σ (5 + 4 * b)) (zL_ok h5).1 rfl) (dX2_allLeft 7 rfl) w_351 w_231 w_232 w_28 w_233 (by decide +kernel) rfl (fun H h => zrecv_LST K (zL_ok h5).1 h) (fun H h => h) ⟨Nat.le_of_ble_eq_true rfl, Nat.le_of_ble_eq_true rfl⟩ ⟨Nat.le_refl _, Nat.le_refl _⟩ (Nat.le_of_ble_eq_true rfl) rfl rfl ?_
    refine zi_icmp_ge K 38 (dX2_allLeft 8 rfl) rfl (fun h12_0 => ?_) (fun h12_0 => ?_)
    · skip
      have hN4 := zloop_exit rfl (zL_b h5) hi4 h12_0
      subst hN4
      refine zi_lload_n K (dX2_allLeft 20 rfl) 1 rfl ?_
      exact zi_lret K E (dX2_allLeft 21 rfl) (Nat.le_refl _) (Nat.le_refl _) rfl (fun _ h => h)
    · skip
      have hlt4 := zloop_in rfl (zL_b h5) hi4 h12_0
      refine zi_lload_n K (dX2_allLeft 9 rfl) 1 rfl ?_
      refine zi_aload_n K (dX2_allLeft 10 rfl) 0 rfl ?_
      refine zg_FL_claims K hb w_132 (dX2_allLeft 11 rfl) ?_
      refine zi_iload_n K (dX2_allLeft 12 rfl) 2 rfl ?_
      refine zi_callV K (na := 1) [.long (zsumL (fun y => sL σ 0 (lx σ (5 + 4 * b) y) 0) i)] [.ref (ad 2 (lx σ (5 + 4 * b) i)), .long (zsumL (fun y => sL σ 0 (lx σ (5 + 4 * b) y) 0) i)] (c_getK (σ := σ) (5 + 4 * b) i (lx σ (5 + 4 * b) i) 2 (zeK5 hb) (zL_ok h5) hlt4 (zL_x h5 hlt4)) (dX2_allLeft 13 rfl) w_352 w_310 w_311 w_28 w_312 (by decide +kernel) rfl (fun H h => zrecv_LST K (zL_ok h5).1 h) (fun H h => h) ⟨Nat.le_of_ble_eq_true rfl, Nat.le_of_ble_eq_true rfl⟩ ⟨Nat.le_refl _, Nat.le_refl _⟩ (Nat.le_of_ble_eq_true rfl) rfl rfl ?_
      refine zi_cast K (fun H h => (zr_CL (σ := σ) (zL_lv h5 hlt4 (zeK5 hb)) H h).1) rfl w_353 (dX2_allLeft 14 rfl) ?_
      refine zg_CL_left K (zL_lv h5 hlt4 (zeK5 hb)) w_759 (dX2_allLeft 15 rfl) ?_
      refine zi_ladd K (dX2_allLeft 16 rfl) ?_
      refine zi_lstore_n K [(1, .long ((zsumL (fun y => sL σ 0 (lx σ (5 + 4 * b) y) 0) i) + (sL σ 0 (lx σ (5 + 4 * b) i) 0))), (0, .ref (ad 11 b)), (3, .int (nI i))] (dX2_allLeft 17 rfl) (by decide) rfl ?_
      refine zi_iinc K (v := nI (i + 1)) [(3, .int (nI (i + 1))), (1, .long ((zsumL (fun y => sL σ 0 (lx σ (5 + 4 * b) y) 0) i) + (sL σ 0 (lx σ (5 + 4 * b) i) 0))), (0, .ref (ad 11 b))] (dX2_allLeft 18 rfl) 2 rfl (zk_inc _) (by decide) rfl ?_
      refine zi_goto K 4 (dX2_allLeft 19 rfl) rfl ?_
      refine zV.pick [2, 1, 0] (lo' := [(0, .ref (ad 11 b)), (1, .long ((zsumL (fun y => sL σ 0 (lx σ (5 + 4 * b) y) 0) i) + (sL σ 0 (lx σ (5 + 4 * b) i) 0))), (3, .int (nI (i + 1)))]) rfl ?_
      refine zV.lov (lo' := [(0, .ref (ad 11 b)), (1, .long (zsumL (fun y => sL σ 0 (lx σ (5 + 4 * b) y) 0) (i + 1))), (3, .int (nI (i + 1)))]) (by first | rfl | (simp only [zsumL])) ?_
      exact ih4 (i + 1) (by omega) (by omega)
def v_partOf (σ : zSt) (b t i0 : Nat) : Int64 := zsumL (fun y => sL σ 1 (lx σ (5 + 4 * b) y) t * (sI σ 21 t i0).toInt64 / 100) (sZ σ (5 + 4 * b))
set_option maxRecDepth 100000 in
set_option maxHeartbeats 4000000 in
theorem c_partOf {G : zG} {ad : Nat → Nat → Nat} {σ : zSt} (b t i0 : Nat) (hb : b < 2) (ht : t < sN σ 2) (hi0 : i0 < 5) (ht8 : t < 8) (h5 : zLW σ (5 + 4 * b)) : zC G yX2_partOf cX2_partOf 6 (some FieldType.long) 3 64 0 0 [.ref (ad 11 b), .ref (ad 5 t), .int (nI i0)] (zP G ad σ) (some (.long (v_partOf σ b t i0))) (zP G ad σ) := by
  refine zC_of (by decide) (Nat.le_of_ble_eq_true rfl) (fun X K E hnm => ?_)
  show zV G X 6 (zP G ad σ) 0 0 0 [(0, .ref (ad 11 b)), (1, .ref (ad 5 t)), (2, .int (nI i0))] []
  refine zi_lconst K (dX2_partOf 0 rfl) zk_l0 ?_
  refine zi_lstore_n K [(3, .long 0), (0, .ref (ad 11 b)), (1, .ref (ad 5 t)), (2, .int (nI i0))] (dX2_partOf 1 rfl) (by decide) rfl ?_
  refine zi_iconst K (dX2_partOf 2 rfl) zk_i0 ?_
  refine zi_istore K [(5, .int 0), (3, .long 0), (0, .ref (ad 11 b)), (1, .ref (ad 5 t)), (2, .int (nI i0))] (dX2_partOf 3 rfl) (by decide) rfl ?_
  refine zV.pick [2, 3, 4, 1, 0] (lo' := [(0, .ref (ad 11 b)), (1, .ref (ad 5 t)), (2, .int (nI i0)), (3, .long 0), (5, .int 0)]) rfl ?_
  suffices hloop5 : ∀ (r i : Nat), i ≤ sZ σ (5 + 4 * b) → sZ σ (5 + 4 * b) - i < r → zV G X 6 (zP G ad σ) (0) (0) 5 [(0, .ref (ad 11 b)), (1, .ref (ad 5 t)), (2, .int (nI i0)), (3, .long (zsumL (fun y => sL σ 1 (lx σ (5 + 4 * b) y) t * (sI σ 21 t i0).toInt64 / 100) i)), (5, .int (nI i))] [] from hloop5 (sZ σ (5 + 4 * b) + 1) 0 (Nat.zero_le _) (Nat.lt_succ_of_le (Nat.sub_le _ _))
  intro r
  induction r with
  | zero => intro i _ h; exact absurd h (Nat.not_lt_zero _)
  | succ r ih5 =>
    intro i hi5 hr5
    refine zi_iload K (dX2_partOf 4 rfl) 4 rfl ?_
    refine zi_aload_n K (dX2_partOf 5 rfl) 0 rfl ?_
    refine zg_FL_claims K hb w_132 (dX2_partOf 6 rfl) ?_
    refine zi_callV K (na := 0) [.int (nI i)] [.int (nI (sZ σ (5 + 4 * b))), .int (nI i)] (c_sizeN (σ := σ) (5 + 4 * b) (sZ σ (5 + 4 * b)) (zL_ok h5).1 rfl) (dX2_partOf 7 rfl) w_351 w_231 w_232 w_28 w_233 (by decide +kernel) rfl (fun H h => zrecv_LST K (zL_ok h5).1 h) (fun H h => h) ⟨Nat.le_of_ble_eq_true rfl, Nat.le_of_ble_eq_true rfl⟩ ⟨Nat.le_refl _, Nat.le_refl _⟩ (Nat.le_of_ble_eq_true rfl) rfl rfl ?_
    refine zi_icmp_ge K 58 (dX2_partOf 8 rfl) rfl (fun h14_0 => ?_) (fun h14_0 => ?_)
    · skip
      have hN5 := zloop_exit rfl (zL_b h5) hi5 h14_0
      subst hN5
      refine zi_lload_n K (dX2_partOf 31 rfl) 3 rfl ?_
      exact zi_lret K E (dX2_partOf 32 rfl) (Nat.le_refl _) (Nat.le_refl _) rfl (fun _ h => h)
    · skip
      have hlt5 := zloop_in rfl (zL_b h5) hi5 h14_0
      refine zi_lload_n K (dX2_partOf 9 rfl) 3 rfl ?_
      refine zi_aload_n K (dX2_partOf 10 rfl) 0 rfl ?_
      refine zg_FL_claims K hb w_132 (dX2_partOf 11 rfl) ?_
      refine zi_iload K (dX2_partOf 12 rfl) 4 rfl ?_
      refine zi_callV K (na := 1) [.long (zsumL (fun y => sL σ 1 (lx σ (5 + 4 * b) y) t * (sI σ 21 t i0).toInt64 / 100) i)] [.ref (ad 2 (lx σ (5 + 4 * b) i)), .long (zsumL (fun y => sL σ 1 (lx σ (5 + 4 * b) y) t * (sI σ 21 t i0).toInt64 / 100) i)] (c_getK (σ := σ) (5 + 4 * b) i (lx σ (5 + 4 * b) i) 2 (zeK5 hb) (zL_ok h5) hlt5 (zL_x h5 hlt5)) (dX2_partOf 13 rfl) w_352 w_310 w_311 w_28 w_312 (by decide +kernel) rfl (fun H h => zrecv_LST K (zL_ok h5).1 h) (fun H h => h) ⟨Nat.le_of_ble_eq_true rfl, Nat.le_of_ble_eq_true rfl⟩ ⟨Nat.le_refl _, Nat.le_refl _⟩ (Nat.le_of_ble_eq_true rfl) rfl rfl ?_
      refine zi_cast K (fun H h => (zr_CL (σ := σ) (zL_lv h5 hlt5 (zeK5 hb)) H h).1) rfl w_353 (dX2_partOf 14 rfl) ?_
      refine zg_CL_took K (zL_lv h5 hlt5 (zeK5 hb)) w_742 (dX2_partOf 15 rfl) ?_
      refine zi_aload_n K (dX2_partOf 16 rfl) 1 rfl ?_
      refine zg_TR_number K ht w_1092 (dX2_partOf 17 rfl) ?_
      refine zl_TOOK K (zL_lv h5 hlt5 (zeK5 hb)) t rfl (by omega) (dX2_partOf 18 rfl) ?_
      refine zi_aload_n K (dX2_partOf 19 rfl) 1 rfl ?_
      refine zg_TR_shares K ht w_1106 (dX2_partOf 20 rfl) ?_
      refine zi_iload_n K (dX2_partOf 21 rfl) 2 rfl ?_
      refine zl_SHR K ht i0 rfl (by omega) (dX2_partOf 22 rfl) ?_
      refine zi_i2l K (dX2_partOf 23 rfl) ?_
      refine zi_lmul K (dX2_partOf 24 rfl) ?_
      refine zi_ldc2 K (dX2_partOf 25 rfl) w_564 ?_
      refine zi_ldiv K (dX2_partOf 26 rfl) (by decide) ?_
      refine zi_ladd K (dX2_partOf 27 rfl) ?_
      refine zi_lstore_n K [(3, .long ((zsumL (fun y => sL σ 1 (lx σ (5 + 4 * b) y) t * (sI σ 21 t i0).toInt64 / 100) i) + (((sL σ 1 (lx σ (5 + 4 * b) i) t) * ((sI σ 21 t i0).toInt64)) / 100))), (0, .ref (ad 11 b)), (1, .ref (ad 5 t)), (2, .int (nI i0)), (5, .int (nI i))] (dX2_partOf 28 rfl) (by decide) rfl ?_
      refine zi_iinc K (v := nI (i + 1)) [(5, .int (nI (i + 1))), (3, .long ((zsumL (fun y => sL σ 1 (lx σ (5 + 4 * b) y) t * (sI σ 21 t i0).toInt64 / 100) i) + (((sL σ 1 (lx σ (5 + 4 * b) i) t) * ((sI σ 21 t i0).toInt64)) / 100))), (0, .ref (ad 11 b)), (1, .ref (ad 5 t)), (2, .int (nI i0))] (dX2_partOf 29 rfl) 4 rfl (zk_inc _) (by decide) rfl ?_
      refine zi_goto K 5 (dX2_partOf 30 rfl) rfl ?_
      refine zV.pick [2, 3, 4, 1, 0] (lo' := [(0, .ref (ad 11 b)), (1, .ref (ad 5 t)), (2, .int (nI i0)), (3, .long ((zsumL (fun y => sL σ 1 (lx σ (5 + 4 * b) y) t * (sI σ 21 t i0).toInt64 / 100) i) + (((sL σ 1 (lx σ (5 + 4 * b) i) t) * ((sI σ 21 t i0).toInt64)) / 100))), (5, .int (nI (i + 1)))]) rfl ?_
      refine zV.lov (lo' := [(0, .ref (ad 11 b)), (1, .ref (ad 5 t)), (2, .int (nI i0)), (3, .long (zsumL (fun y => sL σ 1 (lx σ (5 + 4 * b) y) t * (sI σ 21 t i0).toInt64 / 100) (i + 1))), (5, .int (nI (i + 1)))]) (by first | rfl | (simp only [zsumL])) ?_
      exact ih5 (i + 1) (by omega) (by omega)
def v_allPartsOf (σ : zSt) (b i0 : Nat) : Int64 := zsumL (fun y => v_partOf σ b (lx σ (6 + 4 * b) y % 8) i0) (sZ σ (6 + 4 * b))
set_option maxRecDepth 100000 in
set_option maxHeartbeats 4000000 in
theorem c_allPartsOf {G : zG} {ad : Nat → Nat → Nat} {σ : zSt} (b i0 : Nat) (hb : b < 2) (hi0 : i0 < 5) (hcv : ∀ j, zlV σ j → j % 8 < sN σ 2) (h5 : zLW σ (5 + 4 * b)) (h6 : zLW σ (6 + 4 * b)) : zC G yX2_allPartsOf cX2_allPartsOf 5 (some FieldType.long) 4 89 0 0 [.ref (ad 11 b), .int (nI i0)] (zP G ad σ) (some (.long (v_allPartsOf σ b i0))) (zP G ad σ) := by
  refine zC_of (by decide) (Nat.le_of_ble_eq_true rfl) (fun X K E hnm => ?_)
  show zV G X 5 (zP G ad σ) 0 0 0 [(0, .ref (ad 11 b)), (1, .int (nI i0))] []
  refine zi_lconst K (dX2_allPartsOf 0 rfl) zk_l0 ?_
  refine zi_lstore_n K [(2, .long 0), (0, .ref (ad 11 b)), (1, .int (nI i0))] (dX2_allPartsOf 1 rfl) (by decide) rfl ?_
  refine zi_iconst K (dX2_allPartsOf 2 rfl) zk_i0 ?_
  refine zi_istore K [(4, .int 0), (2, .long 0), (0, .ref (ad 11 b)), (1, .int (nI i0))] (dX2_allPartsOf 3 rfl) (by decide) rfl ?_
  refine zV.pick [2, 3, 1, 0] (lo' := [(0, .ref (ad 11 b)), (1, .int (nI i0)), (2, .long 0), (4, .int 0)]) rfl ?_
  suffices hloop5 : ∀ (r i : Nat), i ≤ sZ σ (6 + 4 * b) → sZ σ (6 + 4 * b) - i < r → zV G X 5 (zP G ad σ) (0) (0) 5 [(0, .ref (ad 11 b)), (1, .int (nI i0)), (2, .long (zsumL (fun y => v_partOf σ b (lx σ (6 + 4 * b) y % 8) i0) i)), (4, .int (nI i))] [] from hloop5 (sZ σ (6 + 4 * b) + 1) 0 (Nat.zero_le _) (Nat.lt_succ_of_le (Nat.sub_le _ _))
  intro r
  induction r with
  | zero => intro i _ h; exact absurd h (Nat.not_lt_zero _)
  | succ r ih5 =>
    intro i hi5 hr5
    refine zi_iload K (dX2_allPartsOf 4 rfl) 3 rfl ?_
    refine zi_aload_n K (dX2_allPartsOf 5 rfl) 0 rfl ?_
    refine zg_FL_covers K hb w_134 (dX2_allPartsOf 6 rfl) ?_
    refine zi_callV K (na := 0) [.int (nI i)] [.int (nI (sZ σ (6 + 4 * b))), .int (nI i)] (c_sizeN (σ := σ) (6 + 4 * b) (sZ σ (6 + 4 * b)) (zL_ok h6).1 rfl) (dX2_allPartsOf 7 rfl) w_351 w_231 w_232 w_28 w_233 (by decide +kernel) rfl (fun H h => zrecv_LST K (zL_ok h6).1 h) (fun H h => h) ⟨Nat.le_of_ble_eq_true rfl, Nat.le_of_ble_eq_true rfl⟩ ⟨Nat.le_refl _, Nat.le_refl _⟩ (Nat.le_of_ble_eq_true rfl) rfl rfl ?_
    refine zi_icmp_ge K 46 (dX2_allPartsOf 8 rfl) rfl (fun h14_0 => ?_) (fun h14_0 => ?_)
    · skip
      have hN5 := zloop_exit rfl (zL_b h6) hi5 h14_0
      subst hN5
      refine zi_lload_n K (dX2_allPartsOf 23 rfl) 2 rfl ?_
      exact zi_lret K E (dX2_allPartsOf 24 rfl) (Nat.le_refl _) (Nat.le_refl _) rfl (fun _ h => h)
    · skip
      have hlt5 := zloop_in rfl (zL_b h6) hi5 h14_0
      refine zi_lload_n K (dX2_allPartsOf 9 rfl) 2 rfl ?_
      refine zi_aload_n K (dX2_allPartsOf 10 rfl) 0 rfl ?_
      refine zi_aload_n K (dX2_allPartsOf 11 rfl) 0 rfl ?_
      refine zg_FL_covers K hb w_134 (dX2_allPartsOf 12 rfl) ?_
      refine zi_iload K (dX2_allPartsOf 13 rfl) 3 rfl ?_
      refine zi_callV K (na := 1) [.ref (ad 11 b), .long (zsumL (fun y => v_partOf σ b (lx σ (6 + 4 * b) y % 8) i0) i)] [.ref (ad 7 (lx σ (6 + 4 * b) i)), .ref (ad 11 b), .long (zsumL (fun y => v_partOf σ b (lx σ (6 + 4 * b) y % 8) i0) i)] (c_getK (σ := σ) (6 + 4 * b) i (lx σ (6 + 4 * b) i) 7 (zeK6 hb) (zL_ok h6) hlt5 (zL_x h6 hlt5)) (dX2_allPartsOf 14 rfl) w_352 w_310 w_311 w_28 w_312 (by decide +kernel) rfl (fun H h => zrecv_LST K (zL_ok h6).1 h) (fun H h => h) ⟨Nat.le_of_ble_eq_true rfl, Nat.le_of_ble_eq_true rfl⟩ ⟨Nat.le_refl _, Nat.le_refl _⟩ (Nat.le_of_ble_eq_true rfl) rfl rfl ?_
      refine zi_cast K (fun H h => (zr_COV (σ := σ) (zL_lv h6 hlt5 (zeK6 hb)) H h).1) rfl w_364 (dX2_allPartsOf 15 rfl) ?_
      refine zg_COV_treaty K (zL_lv h6 hlt5 (zeK6 hb)) w_1162 (dX2_allPartsOf 16 rfl) ?_
      refine zi_iload_n K (dX2_allPartsOf 17 rfl) 1 rfl ?_
      refine zi_callV K (na := 2) [.long (zsumL (fun y => v_partOf σ b (lx σ (6 + 4 * b) y % 8) i0) i)] [.long (v_partOf σ b ((lx σ (6 + 4 * b) i) % 8) i0), .long (zsumL (fun y => v_partOf σ b (lx σ (6 + 4 * b) y % 8) i0) i)] (c_partOf (σ := σ) b ((lx σ (6 + 4 * b) i) % 8) i0 hb (hcv _ (zL_lv h6 hlt5 (zeK6 hb))) hi0 (Nat.mod_lt _ (by decide)) h5) (dX2_allPartsOf 18 rfl) w_560 w_561 w_562 w_29 w_563 (by decide +kernel) rfl (fun H h => zi_recv K (zr_FL (σ := σ) hb H h).1 rfl) (fun H h => h) ⟨Nat.le_of_ble_eq_true rfl, Nat.le_of_ble_eq_true rfl⟩ ⟨Nat.le_refl _, Nat.le_refl _⟩ (Nat.le_of_ble_eq_true rfl) rfl rfl ?_
      refine zi_ladd K (dX2_allPartsOf 19 rfl) ?_
      refine zi_lstore_n K [(2, .long ((zsumL (fun y => v_partOf σ b (lx σ (6 + 4 * b) y % 8) i0) i) + (v_partOf σ b ((lx σ (6 + 4 * b) i) % 8) i0))), (0, .ref (ad 11 b)), (1, .int (nI i0)), (4, .int (nI i))] (dX2_allPartsOf 20 rfl) (by decide) rfl ?_
      refine zi_iinc K (v := nI (i + 1)) [(4, .int (nI (i + 1))), (2, .long ((zsumL (fun y => v_partOf σ b (lx σ (6 + 4 * b) y % 8) i0) i) + (v_partOf σ b ((lx σ (6 + 4 * b) i) % 8) i0))), (0, .ref (ad 11 b)), (1, .int (nI i0))] (dX2_allPartsOf 21 rfl) 3 rfl (zk_inc _) (by decide) rfl ?_
      refine zi_goto K 5 (dX2_allPartsOf 22 rfl) rfl ?_
      refine zV.pick [2, 3, 1, 0] (lo' := [(0, .ref (ad 11 b)), (1, .int (nI i0)), (2, .long ((zsumL (fun y => v_partOf σ b (lx σ (6 + 4 * b) y % 8) i0) i) + (v_partOf σ b ((lx σ (6 + 4 * b) i) % 8) i0))), (4, .int (nI (i + 1)))]) rfl ?_
      refine zV.lov (lo' := [(0, .ref (ad 11 b)), (1, .int (nI i0)), (2, .long (zsumL (fun y => v_partOf σ b (lx σ (6 + 4 * b) y % 8) i0) (i + 1))), (4, .int (nI (i + 1)))]) (by first | rfl | (simp only [zsumL])) ?_
      exact ih5 (i + 1) (by omega) (by omega)
