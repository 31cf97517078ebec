/-! ArrayList.grow and add -/
def aaU (aa : Nat → Nat) (q a : Nat) : Nat → Nat := fun j => if j = q then a else aa j
/-- the picture with one new array of references beside it -/
def zPt (G : zG) (ad : Nat → Nat → Nat) (aa : Nat → Nat) (σ : zSt) (N : Nat) (f : Nat → Option Nat) (a : Nat) (H : Heap) : Prop := zP0 G ad aa σ H ∧ (va_at G.2.2.1 zCl (a, .inl (G.2.2.2.1 3, N, .inr (.inr (.inr (.inr f))))) H ∧ gA G a) ∧ ∀ kd ix, zlv σ kd ix → zadr ad aa kd ix ≠ a
section ZG1
variable {G : zG} {ad : Nat → Nat → Nat} {aa : Nat → Nat} {σ : zSt} {H H1 : Heap}
theorem zP0.kept (h : zP0 G ad aa σ H) (hq : ∀ q, q < H.size → H1[q]? = H[q]?) : zP0 G ad aa σ H1 := ⟨fun kd ix hl => ⟨(h.1 kd ix hl).1.kept (hq _ (h.1 kd ix hl).1.lt), (h.1 kd ix hl).2⟩, h.2⟩
theorem zP0.new (h : zP0 G ad aa σ H) {N a : Nat} (ha : a = H.size) (hA : gA G a) (hat : va_at G.2.2.1 zCl (a, .inl (G.2.2.2.1 3, N, .inr (.inr (.inr (.inr (fun _ => none)))))) H1) (hq : ∀ q, q < H.size → H1[q]? = H[q]?) : zPt G ad aa σ N (fun _ => none) a H1 := ⟨h.kept hq, ⟨hat, hA⟩, fun kd ix hl e => by
  have h1 := (h.1 kd ix hl).1.lt
  have h2 : zadr ad aa kd ix < H.size := h1
  omega⟩
theorem zPt.set {N a : Nat} {f : Nat → Option Nat} (h : zPt G ad aa σ N f a H) {g : Nat → Option Nat} (hat : va_at G.2.2.1 zCl (a, .inl (G.2.2.2.1 3, N, .inr (.inr (.inr (.inr g))))) H1) (oq : ∀ q, q ≠ a → H1[q]? = H[q]?) : zPt G ad aa σ N g a H1 := ⟨⟨fun kd ix hl => ⟨(h.1.1 kd ix hl).1.kept (oq _ (h.2.2 kd ix hl)), (h.1.1 kd ix hl).2⟩, h.1.2⟩, ⟨hat, h.2.1.2⟩, h.2.2⟩
theorem zP0.grow (h : zP0 G ad aa σ H) {q a N : Nat} (hq : q < 13) (hN : 0 < N) (ha : va_at G.2.2.1 zCl (a, .inl (G.2.2.2.1 3, N, .inr (.inr (.inr (.inr (fun j => (sE σ q j).map (ad (zeK q)))))))) H) (hA : gA G a) (hf : ∀ kd ix, zlv σ kd ix → zadr ad aa kd ix ≠ a) (hn : va_at G.2.2.1 zCl (ad 28 q, zqLST G (aaU aa q a) (uC σ q N) q) H1) (oq : ∀ x, x ≠ ad 28 q → H1[x]? = H[x]?) : zP0 G ad (aaU aa q a) (uC σ q N) H1 := by
  have hC : sC (uC σ q N) q = N := if_pos rfl
  have hne : ad 28 q ≠ a := hf 28 q hq
  have key : ∀ k x, ¬ (k = 29 ∧ x = q) → zlv (uC σ q N) k x → zlv σ k x ∧ zadr ad (aaU aa q a) k x = zadr ad aa k x ∧ (¬ (k = 28 ∧ x = q) → zct G ad (aaU aa q a) (uC σ q N) k x = zct G ad aa σ k x) := by
    intro k x hx hl
    rcases Nat.lt_or_ge k 28 with e | e
    · exact ⟨(zlv_lists (σ := σ) (σ' := uC σ q N) (kd := k) (ix := x) (by omega) rfl).mp hl, by unfold zadr; rw [if_neg (by omega), if_neg (by omega)], fun _ => by
        have h1 : zct G ad (aaU aa q a) (uC σ q N) k x = zct G ad aa (uC σ q N) k x := by
          match k, e with
          | 0, _ => rfl
          | 1, _ => rfl
          | 2, _ => rfl
          | 3, _ => rfl
          | 4, _ => rfl
          | 5, _ => rfl
          | 6, _ => rfl
          | 7, _ => rfl
          | 8, _ => rfl
          | 9, _ => rfl
          | 10, _ => rfl
          | 11, _ => rfl
          | 12, _ => rfl
          | 13, _ => rfl
          | 14, _ => rfl
          | 15, _ => rfl
          | 16, _ => rfl
          | 17, _ => rfl
          | 18, _ => rfl
          | 19, _ => rfl
          | 20, _ => rfl
          | 21, _ => rfl
          | 22, _ => rfl
          | 23, _ => rfl
          | 24, _ => rfl
          | 25, _ => rfl
          | 26, _ => rfl
          | 27, _ => rfl
          | y + 28, h => exact absurd h (by omega)
        rw [h1]
        exact zct_lists e rfl rfl rfl⟩
    · match k, e with
      | 28, _ =>
        refine ⟨hl, rfl, fun h28 => ?_⟩
        have hxq : ¬ x = q := fun z => h28 ⟨rfl, z⟩
        show zqLST G (aaU aa q a) (uC σ q N) x = zqLST G aa σ x
        unfold zqLST
        rw [show sC (uC σ q N) x = sC σ x from if_neg hxq, show aaU aa q a x = aa x from if_neg hxq]
        rfl
      | 29, _ =>
        have hxq : ¬ x = q := fun z => hx ⟨rfl, z⟩
        have hCx : sC (uC σ q N) x = sC σ x := if_neg hxq
        refine ⟨⟨hl.1, by have := hl.2; rw [hCx] at this; exact this⟩, if_neg hxq, fun _ => ?_⟩
        show zqLARR G ad (uC σ q N) x = zqLARR G ad σ x
        unfold zqLARR
        rw [hCx]
        rfl
      | y + 30, _ => exact absurd hl id
  have hl29 : zadr ad (aaU aa q a) 29 q = a := by unfold zadr aaU; simp
  refine ⟨fun k x hl => ?_, fun k x k' x' hl hl' he => ?_⟩
  · by_cases e : k = 29 ∧ x = q
    · obtain ⟨rfl, rfl⟩ := e
      rw [hl29]
      refine ⟨?_, hA⟩
      show va_at G.2.2.1 zCl (a, zqLARR G ad (uC σ x N) x) H1
      unfold zqLARR
      rw [hC]
      exact ha.kept (oq a (Ne.symm hne))
    · obtain ⟨g1, g2, g3⟩ := key k x e hl
      rw [g2]
      refine ⟨?_, (h.1 k x g1).2⟩
      by_cases e2 : k = 28 ∧ x = q
      · obtain ⟨rfl, rfl⟩ := e2
        exact hn
      · rw [g3 e2]
        exact (h.1 k x g1).1.kept (oq _ (fun z => e2 (h.2 k x 28 q g1 hq z)))
  · by_cases e : k = 29 ∧ x = q <;> by_cases e' : k' = 29 ∧ x' = q
    · exact ⟨e.1.trans e'.1.symm, e.2.trans e'.2.symm⟩
    · obtain ⟨g1, g2, -⟩ := key k' x' e' hl'
      rw [e.1, e.2, hl29, g2] at he
      exact absurd he.symm (hf k' x' g1)
    · obtain ⟨g1, g2, -⟩ := key k x e hl
      rw [e'.1, e'.2, hl29, g2] at he
      exact absurd he (hf k x g1)
    · obtain ⟨g1, g2, -⟩ := key k x e hl
      obtain ⟨g1', g2', -⟩ := key k' x' e' hl'
      rw [g2, g2'] at he
      exact h.2 k x k' x' g1 g1' he
/-- a list's elements are objects of ours -/
theorem zeK_obj (h : zP0 G ad aa σ H) {q x : Nat} (hl : zlv σ (zeK q) x) : ∃ (ci : Nat) (fs : List Value) (r : vw_C), va_at G.2.2.1 zCl (ad (zeK q) x, .inr (ci, fs)) H ∧ zCl[ci]? = some r ∧ r.1 ∈ zF := by
  have hk : zeK q = 1 ∨ zeK q = 5 ∨ zeK q = 9 ∨ zeK q = 7 ∨ zeK q = 2 := by
    unfold zeK
    split
    · exact Or.inl rfl
    · split
      · exact Or.inr (Or.inl rfl)
      · split
        · exact Or.inr (Or.inr (Or.inl rfl))
        · split
          · exact Or.inr (Or.inr (Or.inr (Or.inl rfl)))
          · exact Or.inr (Or.inr (Or.inr (Or.inr rfl)))
  rcases hk with e | e | e | e | e <;> rw [e] at hl ⊢
  · exact ⟨4, _, (RX4, TX4, 4), (h.1 1 x hl).1, rfl, by decide⟩
  · exact ⟨7, _, (RX7, TX7, 15), (h.1 5 x hl).1, rfl, by decide⟩
  · exact ⟨6, _, (RX6, TX6, 4), (h.1 9 x hl).1, rfl, by decide⟩
  · exact ⟨1, _, (RX1, TX1, 6), (h.1 7 x hl).1, rfl, by decide⟩
  · exact ⟨0, _, (RX0, TX0, 7), (h.1 2 x hl).1, rfl, by decide⟩
end ZG1
section ZG2
variable {G : zG} {X : zX} {cc : ByteArray} {nL : Nat} {ret : Option FieldType} {rm : Room} {k n pc : Nat} {lo : List (Nat × Value)} {st : List Value} {ad : Nat → Nat → Nat} {aa : Nat → Nat} {σ : zSt}
theorem zp0_data (K : zK G X cc RJx4a65c nL ret rm) {q idx N a : Nat} (hq : q < 13) (hN : 0 < N) (hw : Cond.fieldLink RJx4a65c idx RJx4a65c "elementData" "[Ljava/lang/Object;" ∈ zB) (hd : decode cc pc = .ok (.putfield idx, 3)) (kk : zV G X nL (zP0 G ad (aaU aa q a) (uC σ q N)) k n (pc + 3) lo st) : zV G X nL (zPt G ad aa σ N (fun j => (sE σ q j).map (ad (zeK q))) a) k n pc lo (.ref a :: .ref (ad 28 q) :: st) :=
  zi_put (ci := 9) (C := RJx4a65c) (T := TJx4a65c) (N := 3) (f := 1) (ty := .array (.object "java/lang/Object")) K rfl inJx4a65c tyJx4a65c tyJx4a65c_ok nmJx4a65c (fun H h => zr0_LST h.1 hq) (Nat.le_of_ble_eq_true rfl) hw (fun _ h => h) rfl (by decide +kernel) rfl rfl (Nat.le_of_ble_eq_true rfl) hd (fun H H1 h ha _ oq => h.1.grow hq hN h.2.1.1 h.2.1.2 h.2.2 (by
    unfold zqLST
    rw [show sC (uC σ q N) q = N from if_pos rfl, if_neg (by omega), show aaU aa q a q = a from if_pos rfl]
    exact ha) oq) kk
theorem zi_alenE {own : String} {P : Heap → Prop} (K : zK G X cc own nL ret rm) (hd : decode cc pc = .ok (.arraylength, 1)) (kk : zV G X nL P k n (pc + 1) lo (.int 0 :: st)) : zV G X nL P k n pc lo (.ref (G.2.2.2.2 0) :: st) := fun H locs ls hP hS hL => by
  have h6 := K.2.2.2.2.2.1
  have hc := h6.2.2.2.2.2.2.2.2.2.1
  have hnA := h6.2.2.2.2.2.2.2.2.2.2.1
  obtain ⟨cell, q1, q2, q3, q4, q5, q6, q7⟩ := hc
  have hc' : H[G.2.2.2.2 0]? = some cell := by rw [hS.2.1 _ (Array.getElem?_eq_some_iff.mp q1).1 hnA]; exact q1
  exact W.alen (ty := .object "java/lang/Object") K.1 K.2.1 hc' q2 q5 rfl rfl hd (kk H locs ls hP hS hL)
end ZG2
theorem zgr_max {c : Nat} (h : 2 ≤ c) (h2 : c < 1000) : nI c + zmx (nI 1) (nI (c / 2)) = nI (c + c / 2) := by
  unfold zmx
  by_cases e : 1 < c / 2
  · rw [if_pos (nI_lt e (by omega)), nI_add]
  · rw [if_neg (nI_nlt (by omega) (by decide)), nI_add, show c / 2 = 1 by omega]
theorem zgr_shr {c : Nat} (h : c < 1000) : nI c >>> ((1 : Int32) &&& 31) = nI (c / 2) := by
  have k := pk_shrN (n := c) (by omega) ((1 : Int32) &&& 31) 1 (by decide)
  rw [Nat.pow_one] at k
  exact k
theorem zgr_min {c : Nat} (h : c < 1000) : zmn (nI c) (nI (c + c / 2)) = nI c := if_neg (nI_nlt (by omega) (by omega))
set_option maxRecDepth 100000 in
set_option maxHeartbeats 4000000 in
theorem c_newLen {G : zG} {P : Heap → Prop} (c : Nat) (h : 2 ≤ c) (h2 : c < 1000) : zC G yJ8_newLength_cabcc cJ8_newLength_cabcc 4 (some FieldType.int) 1 16 0 0 [.int (nI c), .int (nI 1), .int (nI (c / 2))] (P) (some (.int (nI (c + c / 2)))) (P) := by
  refine zC_of (by decide) (Nat.le_of_ble_eq_true rfl) (fun X K E hnm => ?_)
  show zV G X 4 (P) 0 0 0 [(0, .int (nI c)), (1, .int (nI 1)), (2, .int (nI (c / 2)))] []
  refine zi_iload_n K (dJ8_newLength_cabcc 0 rfl) 0 rfl ?_
  refine zi_iload_n K (dJ8_newLength_cabcc 1 rfl) 1 rfl ?_
  refine zi_iload_n K (dJ8_newLength_cabcc 2 rfl) 2 rfl ?_
  refine zi_maxi K [.int (nI c)] (dJ8_newLength_cabcc 3 rfl) w_454 ⟨Nat.le_of_ble_eq_true rfl, Nat.le_of_ble_eq_true rfl⟩ ⟨Nat.le_refl _, Nat.le_refl _⟩ ?_
  refine zi_iadd K (dJ8_newLength_cabcc 4 rfl) ?_
  rw [zgr_max h h2]
  refine zi_istore_n K [(3, .int (nI (c + c / 2))), (0, .int (nI c)), (1, .int (nI 1)), (2, .int (nI (c / 2)))] (dJ8_newLength_cabcc 5 rfl) (by decide) rfl ?_
  refine zi_iconst K (dJ8_newLength_cabcc 6 rfl) zk_i0 ?_
  refine zi_iload_n K (dJ8_newLength_cabcc 7 rfl) 0 rfl ?_
  refine zi_icmp_ge K 21 (dJ8_newLength_cabcc 8 rfl) rfl (fun q => absurd q (nI_nle (by omega) (by omega))) (fun _ => ?_)
  refine zi_iload_n K (dJ8_newLength_cabcc 9 rfl) 0 rfl ?_
  refine zi_ldc K (dJ8_newLength_cabcc 10 rfl) w_455 ?_
  refine zi_icmp_gt K 21 (dJ8_newLength_cabcc 11 rfl) rfl (fun q => absurd q (show ¬ nI 2147483639 < nI (c + c / 2) from nI_nlt (by omega) (by decide))) (fun _ => ?_)
  refine zi_iload_n K (dJ8_newLength_cabcc 12 rfl) 0 rfl ?_
  exact zi_iret K E (dJ8_newLength_cabcc 13 rfl) (Nat.le_refl _) (Nat.le_refl _) rfl (fun _ h => h)
set_option maxRecDepth 100000 in
set_option maxHeartbeats 4000000 in
theorem c_copy3 {G : zG} {ad : Nat → Nat → Nat} {aa : Nat → Nat} {σ : zSt} (q : Nat) (hq : zLok σ q) (hf : sZ σ q = sC σ q) (h2 : 2 ≤ sC σ q) : zCa G yJ7_copyOf_6403c cJ7_copyOf_6403c 4 (some (FieldType.array (FieldType.object "java/lang/Object"))) 1 42 1 (sC σ q + sC σ q / 2) [.ref (aa q), .int (nI (sC σ q + sC σ q / 2)), .ref (G.2.2.2.2 1)] (zP0 G ad aa σ) (zPt G ad aa σ (sC σ q + sC σ q / 2) (fun j => (sE σ q j).map (ad (zeK q)))) := by
  refine zCa_of (by decide) (Nat.le_of_ble_eq_true rfl) (fun X K E => ?_)
  show zV G X 4 (zP0 G ad aa σ) 0 0 0 [(0, .ref (aa q)), (1, .int (nI (sC σ q + sC σ q / 2))), (2, .ref (G.2.2.2.2 1))] []
  have hc3 := hq.2.2.1
  refine zi_aload_n K (dJ7_copyOf_6403c 0 rfl) 2 rfl ?_
  refine zi_ldcM K w_488 (dJ7_copyOf_6403c 1 rfl) ?_
  refine zi_acmp_ne K 13 (dJ7_copyOf_6403c 2 rfl) rfl (fun h => absurd rfl h) (fun _ => ?_)
  refine zi_iload_n K (dJ7_copyOf_6403c 3 rfl) 1 rfl ?_
  refine zi_anew (N := sC σ q + sC σ q / 2) (P' := zPt G ad aa σ (sC σ q + sC σ q / 2) (fun _ => none)) K w_490 rfl (by omega) ⟨by show 0 + 1 ≤ 1; omega, by show 0 + (sC σ q + sC σ q / 2) ≤ sC σ q + sC σ q / 2; omega⟩ (dJ7_copyOf_6403c 4 rfl) (fun H H1 a h ha hA hat oq => h.new ha hA hat oq) (fun a => ?_)
  refine zi_goto K 24 (dJ7_copyOf_6403c 5 rfl) rfl ?_
  refine zi_astore_n K [(3, .ref a), (0, .ref (aa q)), (1, .int (nI (sC σ q + sC σ q / 2))), (2, .ref (G.2.2.2.2 1))] (dJ7_copyOf_6403c 11 rfl) (by decide) rfl ?_
  refine zi_aload_n K (dJ7_copyOf_6403c 12 rfl) 1 rfl ?_
  refine zi_iconst K (dJ7_copyOf_6403c 13 rfl) zk_i0 ?_
  refine zi_aload_n K (dJ7_copyOf_6403c 14 rfl) 0 rfl ?_
  refine zi_iconst K (dJ7_copyOf_6403c 15 rfl) zk_i0 ?_
  refine zi_aload_n K (dJ7_copyOf_6403c 16 rfl) 1 rfl ?_
  refine zi_alen (t0 := 3) (N := sC σ q) K rfl (fun H h => (zr0_LARR h.1 ⟨hq.1, by omega⟩).1) (dJ7_copyOf_6403c 17 rfl) ?_
  refine zi_iload_n K (dJ7_copyOf_6403c 18 rfl) 2 rfl ?_
  refine zi_mini K [.int 0, .ref a, .int 0, .ref (aa q)] (dJ7_copyOf_6403c 19 rfl) w_491 ⟨Nat.le_of_ble_eq_true rfl, Nat.le_of_ble_eq_true rfl⟩ ⟨Nat.le_refl _, by show 0 + (sC σ q + sC σ q / 2) ≤ sC σ q + sC σ q / 2; omega⟩ ?_
  rw [zgr_min hc3]
  refine zi_acopy (sp := 0) (dp := 0) (m := sC σ q) (n0 := sC σ q) (n1 := sC σ q + sC σ q / 2) (f := fun j => (sE σ q j).map (ad (zeK q))) (g := fun _ => none) (P' := zPt G ad aa σ (sC σ q + sC σ q / 2) (fun j => (sE σ q j).map (ad (zeK q))) a) K [] w_492 (fun H h => (zr0_LARR h.1 ⟨hq.1, by omega⟩).1) (fun H h => h.2.1) (by omega) (by omega) (by omega) (by omega) (fun H h i hi y hy => by
    rw [Nat.zero_add] at hy
    cases hx : sE σ q i with
    | none => rw [hx] at hy; cases hy
    | some x =>
      rw [hx] at hy
      cases hy
      exact zeK_obj h.1 (hq.2.2.2.2 i x hx)) ⟨Nat.le_of_ble_eq_true rfl, Nat.le_of_ble_eq_true rfl⟩ (dJ7_copyOf_6403c 20 rfl) (fun H H1 h ha _ oq => h.set (by
    rw [show (fun j => (sE σ q j).map (ad (zeK q))) = va_cpy (fun j => (sE σ q j).map (ad (zeK q))) (fun _ => none) 0 0 (sC σ q) from funext fun j => by
      unfold va_cpy
      by_cases e : j < sC σ q
      · rw [if_pos ⟨Nat.zero_le _, by omega⟩, show 0 + (j - 0) = j by omega]
      · rw [if_neg (fun z => e (by omega)), hq.2.2.2.1 j (by omega)]
        rfl]
    exact ha) oq) ?_
  refine zi_aload_n K (dJ7_copyOf_6403c 21 rfl) 0 rfl ?_
  exact zi_areta K E (dJ7_copyOf_6403c 22 rfl) (by omega) (by omega) (Or.inr ⟨_, rfl⟩) (fun _ h => h)
set_option maxRecDepth 100000 in
set_option maxHeartbeats 4000000 in
theorem c_copy2 {G : zG} {ad : Nat → Nat → Nat} {aa : Nat → Nat} {σ : zSt} (q : Nat) (hq : zLok σ q) (hf : sZ σ q = sC σ q) (h2 : 2 ≤ sC σ q) : zCa G yJ7_copyOf_1904c cJ7_copyOf_1904c 2 (some (FieldType.array (FieldType.object "java/lang/Object"))) 2 65 1 (sC σ q + sC σ q / 2) [.ref (aa q), .int (nI (sC σ q + sC σ q / 2))] (zP0 G ad aa σ) (zPt G ad aa σ (sC σ q + sC σ q / 2) (fun j => (sE σ q j).map (ad (zeK q)))) := by
  refine zCa_of (by decide) (Nat.le_of_ble_eq_true rfl) (fun X K E => ?_)
  show zV G X 2 (zP0 G ad aa σ) 0 0 0 [(0, .ref (aa q)), (1, .int (nI (sC σ q + sC σ q / 2)))] []
  have hc3 := hq.2.2.1
  refine zi_aload_n K (dJ7_copyOf_1904c 0 rfl) 0 rfl ?_
  refine zi_iload_n K (dJ7_copyOf_1904c 1 rfl) 1 rfl ?_
  refine zi_aload_n K (dJ7_copyOf_1904c 2 rfl) 0 rfl ?_
  refine zi_getC (N := sC σ q) K [.int (nI (sC σ q + sC σ q / 2)), .ref (aa q)] w_462 (fun H h => (zr0_LARR h ⟨hq.1, by omega⟩).1) ⟨Nat.le_of_ble_eq_true rfl, Nat.le_of_ble_eq_true rfl⟩ (dJ7_copyOf_1904c 3 rfl) ?_
  refine zi_callaS K (na := 3) (As := [.ref (aa q), .int (nI (sC σ q + sC σ q / 2)), .ref (G.2.2.2.2 1)]) [] (c_copy3 (ad := ad) (aa := aa) (σ := σ) q hq hf h2) (dJ7_copyOf_1904c 4 rfl) w_485 w_486 w_40 w_487 (by decide +kernel) rfl (fun H h => h) ⟨Nat.le_of_ble_eq_true rfl, Nat.le_of_ble_eq_true rfl⟩ ⟨by show 0 + 1 ≤ 1; omega, by show 0 + (sC σ q + sC σ q / 2) ≤ sC σ q + sC σ q / 2; omega⟩ (Nat.le_of_ble_eq_true rfl) rfl (fun a => ?_)
  exact zi_areta K E (dJ7_copyOf_1904c 5 rfl) (by omega) (by omega) (Or.inr ⟨_, rfl⟩) (fun _ h => h)
/-- the room behind a growth -/
def zgC (c : Nat) : Nat := if c = 0 then 10 else c + c / 2
/-- a list that is full grows -/
def zPg (G : zG) (ad : Nat → Nat → Nat) (aa : Nat → Nat) (σ : zSt) (q a : Nat) (H : Heap) : Prop := zP0 G ad (aaU aa q a) (uC σ q (zgC (sC σ q))) H
set_option maxRecDepth 100000 in
set_option maxHeartbeats 4000000 in
theorem c_growI {G : zG} {ad : Nat → Nat → Nat} {aa : Nat → Nat} {σ : zSt} (q : Nat) (hq : zLok σ q) (hf : sZ σ q = sC σ q) (h2 : sC σ q = 0 ∨ 2 ≤ sC σ q) : zCa G yJx4a65c_grow_92f84 cJx4a65c_grow_92f84 4 (some (FieldType.array (FieldType.object "java/lang/Object"))) 3 86 1 (zgC (sC σ q)) [.ref (ad 28 q), .int (nI (sZ σ q + 1))] (zP0 G ad aa σ) (zPg G ad aa σ q) := by
  refine zCa_of (by decide) (Nat.le_of_ble_eq_true rfl) (fun X K E => ?_)
  show zV G X 4 (zP0 G ad aa σ) 0 0 0 [(0, .ref (ad 28 q)), (1, .int (nI (sZ σ q + 1)))] []
  have hc3 := hq.2.2.1
  refine zi_aload_n K (dJx4a65c_grow_92f84 0 rfl) 0 rfl ?_
  refine zg0_data K hq.1 w_82 (dJx4a65c_grow_92f84 1 rfl) ?_
  rcases h2 with h0 | h2
  · have hg : zgC (sC σ q) = 10 := if_pos h0
    have hz : sZ σ q = 0 := by omega
    rw [if_pos h0]
    refine zi_alenE K (dJx4a65c_grow_92f84 2 rfl) ?_
    refine zi_istore_n K [(2, .int 0), (0, .ref (ad 28 q)), (1, .int (nI (sZ σ q + 1)))] (dJx4a65c_grow_92f84 3 rfl) (by decide) rfl ?_
    refine zi_iload_n K (dJx4a65c_grow_92f84 4 rfl) 0 rfl ?_
    refine zi_if_gt K 20 (dJx4a65c_grow_92f84 5 rfl) rfl (fun h => absurd h (by decide)) (fun _ => ?_)
    refine zi_aload_n K (dJx4a65c_grow_92f84 6 rfl) 1 rfl ?_
    refine zg0_data K hq.1 w_82 (dJx4a65c_grow_92f84 7 rfl) ?_
    rw [if_pos h0]
    refine zi_gets K w_80 (dJx4a65c_grow_92f84 8 rfl) ?_
    refine zi_acmp_eq K 45 (dJx4a65c_grow_92f84 9 rfl) rfl (fun _ => ?_) (fun h => absurd rfl h)
    refine zi_aload_n K (dJx4a65c_grow_92f84 27 rfl) 1 rfl ?_
    refine zi_bipush K (dJx4a65c_grow_92f84 28 rfl) zk_b10 ?_
    refine zi_iload_n K (dJx4a65c_grow_92f84 29 rfl) 2 rfl ?_
    refine zi_maxi K [.ref (ad 28 q)] (dJx4a65c_grow_92f84 30 rfl) w_495 ⟨Nat.le_of_ble_eq_true rfl, Nat.le_of_ble_eq_true rfl⟩ ⟨Nat.zero_le _, Nat.zero_le _⟩ ?_
    rw [show zmx 10 (nI (sZ σ q + 1)) = nI 10 by rw [hz]; decide]
    refine zi_anew (N := 10) (P' := zPt G ad aa σ 10 (fun _ => none)) K w_496 rfl (by omega) ⟨by show 0 + 1 ≤ 1; omega, by show 0 + 10 ≤ zgC (sC σ q); omega⟩ (dJx4a65c_grow_92f84 31 rfl) (fun H H1 a h ha hA hat oq => h.new ha hA hat oq) (fun a => ?_)
    refine zi_dup_x1 K (dJx4a65c_grow_92f84 32 rfl) rfl rfl ?_
    refine zV.imp (P' := zPt G ad aa σ 10 (fun j => (sE σ q j).map (ad (zeK q))) a) (fun H h => by
      rw [show (fun j => (sE σ q j).map (ad (zeK q))) = (fun _ => none) from funext fun j => by rw [hq.2.2.2.1 j (by omega)]; rfl]
      exact h) ?_
    refine zp0_data K hq.1 (by decide) w_82 (dJx4a65c_grow_92f84 33 rfl) ?_
    exact zi_areta K E (dJx4a65c_grow_92f84 34 rfl) (by omega) (by rw [hg]; omega) (Or.inr ⟨_, rfl⟩) (fun H h => by unfold zPg; rw [hg]; exact h)
  · have hg : zgC (sC σ q) = sC σ q + sC σ q / 2 := if_neg (by omega)
    rw [if_neg (show ¬ sC σ q = 0 by omega)]
    refine zi_alen (t0 := 3) (N := sC σ q) K rfl (fun H h => (zr0_LARR h ⟨hq.1, by omega⟩).1) (dJx4a65c_grow_92f84 2 rfl) ?_
    refine zi_istore_n K [(2, .int (nI (sC σ q))), (0, .ref (ad 28 q)), (1, .int (nI (sZ σ q + 1)))] (dJx4a65c_grow_92f84 3 rfl) (by decide) rfl ?_
    refine zi_iload_n K (dJx4a65c_grow_92f84 4 rfl) 0 rfl ?_
    refine zi_if_gt K 20 (dJx4a65c_grow_92f84 5 rfl) rfl (fun _ => ?_) (fun h => absurd (show nI 0 < nI (sC σ q) from nI_lt (by omega) (by omega)) h)
    refine zi_iload_n K (dJx4a65c_grow_92f84 10 rfl) 0 rfl ?_
    refine zi_iload_n K (dJx4a65c_grow_92f84 11 rfl) 2 rfl ?_
    refine zi_iload_n K (dJx4a65c_grow_92f84 12 rfl) 0 rfl ?_
    refine zi_isub K (dJx4a65c_grow_92f84 13 rfl) ?_
    refine zi_iload_n K (dJx4a65c_grow_92f84 14 rfl) 0 rfl ?_
    refine zi_iconst K (dJx4a65c_grow_92f84 15 rfl) zk_i1 ?_
    refine zi_ishr K (dJx4a65c_grow_92f84 16 rfl) ?_
    rw [show nI (sZ σ q + 1) - nI (sC σ q) = nI 1 by rw [pk_sub (by omega), show sZ σ q + 1 - sC σ q = 1 by omega], zgr_shr hc3]
    refine zi_callS K (na := 3) (As := [.int (nI (sC σ q)), .int (nI 1), .int (nI (sC σ q / 2))]) [] [.int (nI (sC σ q + sC σ q / 2))] (c_newLen (P := zP0 G ad aa σ) (sC σ q) h2 hc3) (dJx4a65c_grow_92f84 17 rfl) w_451 w_452 w_38 w_453 (by decide +kernel) rfl (fun H h => h) ⟨Nat.le_of_ble_eq_true rfl, Nat.le_of_ble_eq_true rfl⟩ ⟨Nat.zero_le _, Nat.zero_le _⟩ (Nat.le_of_ble_eq_true rfl) rfl rfl ?_
    refine zi_istore_n K [(3, .int (nI (sC σ q + sC σ q / 2))), (2, .int (nI (sC σ q))), (0, .ref (ad 28 q)), (1, .int (nI (sZ σ q + 1)))] (dJx4a65c_grow_92f84 18 rfl) (by decide) rfl ?_
    refine zi_aload_n K (dJx4a65c_grow_92f84 19 rfl) 2 rfl ?_
    refine zi_aload_n K (dJx4a65c_grow_92f84 20 rfl) 2 rfl ?_
    refine zg0_data K hq.1 w_82 (dJx4a65c_grow_92f84 21 rfl) ?_
    rw [if_neg (show ¬ sC σ q = 0 by omega)]
    refine zi_iload_n K (dJx4a65c_grow_92f84 22 rfl) 0 rfl ?_
    refine zi_callaS K (na := 2) (As := [.ref (aa q), .int (nI (sC σ q + sC σ q / 2))]) [.ref (ad 28 q)] (c_copy2 (ad := ad) (aa := aa) (σ := σ) q hq hf h2) (dJx4a65c_grow_92f84 23 rfl) w_459 w_460 w_40 w_461 (by decide +kernel) rfl (fun H h => h) ⟨Nat.le_of_ble_eq_true rfl, Nat.le_of_ble_eq_true rfl⟩ ⟨by show 0 + 0 + 1 ≤ 1; omega, by show 0 + 0 + (sC σ q + sC σ q / 2) ≤ zgC (sC σ q); omega⟩ (Nat.le_of_ble_eq_true rfl) rfl (fun a => ?_)
    refine zi_dup_x1 K (dJx4a65c_grow_92f84 24 rfl) rfl rfl ?_
    refine zp0_data K hq.1 (by omega) w_82 (dJx4a65c_grow_92f84 25 rfl) ?_
    exact zi_areta K E (dJx4a65c_grow_92f84 26 rfl) (by omega) (by rw [hg]; omega) (Or.inr ⟨_, rfl⟩) (fun H h => by unfold zPg; rw [hg]; exact h)
set_option maxRecDepth 100000 in
set_option maxHeartbeats 4000000 in
theorem c_grow {G : zG} {ad : Nat → Nat → Nat} {aa : Nat → Nat} {σ : zSt} (q : Nat) (hq : zLok σ q) (hf : sZ σ q = sC σ q) (h2 : sC σ q = 0 ∨ 2 ≤ sC σ q) : zCa G yJx4a65c_grow_d5877 cJx4a65c_grow_d5877 1 (some (FieldType.array (FieldType.object "java/lang/Object"))) 4 109 1 (zgC (sC σ q)) [.ref (ad 28 q)] (zP0 G ad aa σ) (zPg G ad aa σ q) := by
  refine zCa_of (by decide) (Nat.le_of_ble_eq_true rfl) (fun X K E => ?_)
  show zV G X 1 (zP0 G ad aa σ) 0 0 0 [(0, .ref (ad 28 q))] []
  refine zi_aload_n K (dJx4a65c_grow_d5877 0 rfl) 0 rfl ?_
  refine zi_aload_n K (dJx4a65c_grow_d5877 1 rfl) 0 rfl ?_
  refine zg0_size K hq.1 w_83 (dJx4a65c_grow_d5877 2 rfl) ?_
  refine zi_iconst K (dJx4a65c_grow_d5877 3 rfl) zk_i1 ?_
  refine zi_iadd K (dJx4a65c_grow_d5877 4 rfl) ?_
  rw [nI_1]
  refine zi_callaV K (na := 1) [] (c_growI (ad := ad) (aa := aa) (σ := σ) q hq hf h2) (dJx4a65c_grow_d5877 5 rfl) w_447 w_449 w_6 w_28 w_450 (by decide +kernel) rfl (fun H h => zi_recv K (zr0_LST h hq.1).1 rfl) (fun H h => h) ⟨Nat.le_of_ble_eq_true rfl, Nat.le_of_ble_eq_true rfl⟩ ⟨by show 0 + 1 ≤ 1; omega, by show 0 + zgC (sC σ q) ≤ zgC (sC σ q); omega⟩ (Nat.le_of_ble_eq_true rfl) rfl (fun a => ?_)
  exact zi_areta K E (dJx4a65c_grow_d5877 6 rfl) (by omega) (by omega) (Or.inr ⟨_, rfl⟩) (fun _ h => h)
