/-! ArrayList.add at the end -/
def s_addE (σ : zSt) (q x : Nat) : zSt := uZ (uE σ q (sZ σ q) (some x)) q (sZ σ q + 1)
def s_add (σ : zSt) (q x : Nat) : zSt := s_addE (if sZ σ q = sC σ q then uC (uM σ q (sM σ q + 1)) q (zgC (sC σ q)) else uM σ q (sM σ q + 1)) q x
section ZG3
variable {G : zG} {X : zX} {cc : ByteArray} {own : String} {nL : Nat} {ret : Option FieldType} {rm : Room} {k n pc : Nat} {lo : List (Nat × Value)} {st : List Value} {ad : Nat → Nat → Nat} {aa : Nat → Nat} {σ : zSt}
theorem zs0_arr (K : zK G X cc own nL ret rm) {q i x : Nat} (hq : q < 13 ∧ 0 < sC σ q) (hi : i < sC σ q) (hC : sC σ q < 2 ^ 31) (hx : zlv σ (zeK q) x) (hd : decode cc pc = .ok (.aastore, 1)) (kk : zV G X nL (zP0 G ad aa (uE σ q i (some x))) k n (pc + 1) lo st) : zV G X nL (zP0 G ad aa σ) k n pc lo (.ref (ad (zeK q) x) :: .int (nI i) :: .ref (aa q) :: st) :=
  zi_aast (N := sC σ q) (f := fun j => (sE σ q j).map (ad (zeK q))) K (fun H h => zr0_LARR h hq) (fun H h => zeK_obj h hx) i rfl hi hC hd (fun H H1 h ha _ oq => h.setE hq (by
    unfold zqLARR
    rw [show sC (uE σ q i (some x)) q = sC σ q from rfl]
    rw [show (fun j => (sE (uE σ q i (some x)) q j).map (ad (zeK q))) = va_up (fun j => (sE σ q j).map (ad (zeK q))) i (some (ad (zeK q) x)) from funext fun j => by
      by_cases hj : j = i
      · subst hj; unfold va_up; rw [if_pos rfl, show sE (uE σ q j (some x)) q j = some x from if_pos ⟨rfl, rfl⟩]; rfl
      · unfold va_up; rw [if_neg hj, show sE (uE σ q i (some x)) q j = sE σ q j from if_neg (fun z => hj z.2)]]
    exact ha) oq) kk
end ZG3
theorem zlv_u {σ σ' : zSt} (h : sN σ' = sN σ) {q x : Nat} (hx : zlv σ (zeK q) x) : zlv σ' (zeK q) x := (zlv_lists (by
  unfold zeK
  split
  · decide
  · split
    · decide
    · split
      · decide
      · split <;> decide) h).mpr hx
set_option maxRecDepth 100000 in
set_option maxHeartbeats 4000000 in
theorem c_addpR {G : zG} {ad : Nat → Nat → Nat} {aa : Nat → Nat} {σ : zSt} (q x : Nat) (hq : zLok σ q) (hf : sZ σ q < sC σ q) (hx : zlv σ (zeK q) x) : zC G yJx4a65c_add_72be8 cJx4a65c_add_72be8 4 none 0 0 0 0 [.ref (ad 28 q), .ref (ad (zeK q) x), .ref (aa q), .int (nI (sZ σ q))] (zP0 G ad aa σ) none (zP G ad (s_addE σ q x)) := by
  refine zC_of (by decide) (Nat.le_of_ble_eq_true rfl) (fun X K E hnm => ?_)
  show zV G X 4 (zP0 G ad aa σ) 0 0 0 [(0, .ref (ad 28 q)), (1, .ref (ad (zeK q) x)), (2, .ref (aa q)), (3, .int (nI (sZ σ q)))] []
  have hc3 := hq.2.2.1
  refine zi_iload_n K (dJx4a65c_add_72be8 0 rfl) 3 rfl ?_
  refine zi_aload_n K (dJx4a65c_add_72be8 1 rfl) 2 rfl ?_
  refine zi_alen (t0 := 3) (N := sC σ q) K rfl (fun H h => (zr0_LARR h ⟨hq.1, by omega⟩).1) (dJx4a65c_add_72be8 2 rfl) ?_
  refine zi_icmp_ne K 11 (dJx4a65c_add_72be8 3 rfl) rfl (fun _ => ?_) (fun h => absurd ((nI_eq (by omega) (by omega)).mp h) (by omega))
  refine zi_aload_n K (dJx4a65c_add_72be8 7 rfl) 2 rfl ?_
  refine zi_iload_n K (dJx4a65c_add_72be8 8 rfl) 3 rfl ?_
  refine zi_aload_n K (dJx4a65c_add_72be8 9 rfl) 1 rfl ?_
  refine zs0_arr K ⟨hq.1, by omega⟩ hf (by omega) hx (dJx4a65c_add_72be8 10 rfl) ?_
  refine zi_aload_n K (dJx4a65c_add_72be8 11 rfl) 0 rfl ?_
  refine zi_iload_n K (dJx4a65c_add_72be8 12 rfl) 3 rfl ?_
  refine zi_iconst K (dJx4a65c_add_72be8 13 rfl) zk_i1 ?_
  refine zi_iadd K (dJx4a65c_add_72be8 14 rfl) ?_
  refine zp0_size K (m := sZ σ q + 1) (nI_1 _) hq.1 w_83 (dJx4a65c_add_72be8 15 rfl) ?_
  exact zi_vret K E (dJx4a65c_add_72be8 16 rfl) (Nat.le_refl _) (Nat.le_refl _) rfl (fun H h => ⟨aa, h⟩)
set_option maxRecDepth 100000 in
set_option maxHeartbeats 4000000 in
theorem c_addpG {G : zG} {ad : Nat → Nat → Nat} {aa : Nat → Nat} {σ : zSt} (q x : Nat) (hq : zLok σ q) (hf : sZ σ q = sC σ q) (h2 : sC σ q = 0 ∨ 2 ≤ sC σ q) (hx : zlv σ (zeK q) x) : zC G yJx4a65c_add_72be8 cJx4a65c_add_72be8 4 none 5 129 1 (zgC (sC σ q)) [.ref (ad 28 q), .ref (ad (zeK q) x), .ref (if sC σ q = 0 then G.2.2.2.2 0 else aa q), .int (nI (sZ σ q))] (zP0 G ad aa σ) none (zP G ad (s_addE (uC σ q (zgC (sC σ q))) q x)) := by
  refine zC_of (by decide) (Nat.le_of_ble_eq_true rfl) (fun X K E hnm => ?_)
  show zV G X 4 (zP0 G ad aa σ) 0 0 0 [(0, .ref (ad 28 q)), (1, .ref (ad (zeK q) x)), (2, .ref (if sC σ q = 0 then G.2.2.2.2 0 else aa q)), (3, .int (nI (sZ σ q)))] []
  have hc3 := hq.2.2.1
  have hg : sZ σ q < zgC (sC σ q) := by unfold zgC; split <;> omega
  have hg2 : zgC (sC σ q) < 2000 := by unfold zgC; split <;> omega
  have hC : sC (uC σ q (zgC (sC σ q))) q = zgC (sC σ q) := if_pos rfl
  refine zi_iload_n K (dJx4a65c_add_72be8 0 rfl) 3 rfl ?_
  refine zi_aload_n K (dJx4a65c_add_72be8 1 rfl) 2 rfl ?_
  have key : zV G X 4 (zP0 G ad aa σ) 0 0 3 [(0, .ref (ad 28 q)), (1, .ref (ad (zeK q) x)), (2, .ref (if sC σ q = 0 then G.2.2.2.2 0 else aa q)), (3, .int (nI (sZ σ q)))] [.int (nI (sC σ q)), .int (nI (sZ σ q))] := by
    refine zi_icmp_ne K 11 (dJx4a65c_add_72be8 3 rfl) rfl (fun h => absurd (by rw [hf]) h) (fun _ => ?_)
    refine zi_aload_n K (dJx4a65c_add_72be8 4 rfl) 0 rfl ?_
    refine zi_callaV K (na := 0) [] (c_grow (ad := ad) (aa := aa) (σ := σ) q hq hf h2) (dJx4a65c_add_72be8 5 rfl) w_443 w_445 w_5 w_28 w_446 (by decide +kernel) rfl (fun H h => zi_recv K (zr0_LST h hq.1).1 rfl) (fun H h => h) ⟨Nat.le_of_ble_eq_true rfl, Nat.le_of_ble_eq_true rfl⟩ ⟨by show 0 + 1 ≤ 1; omega, by show 0 + zgC (sC σ q) ≤ zgC (sC σ q); omega⟩ (Nat.le_of_ble_eq_true rfl) rfl (fun a => ?_)
    show zV G X 4 (zP0 G ad (aaU aa q a) (uC σ q (zgC (sC σ q)))) _ _ _ _ _
    refine zi_astore_n K [(2, .ref a), (0, .ref (ad 28 q)), (1, .ref (ad (zeK q) x)), (3, .int (nI (sZ σ q)))] (dJx4a65c_add_72be8 6 rfl) (by decide) rfl ?_
    refine zi_aload_n K (dJx4a65c_add_72be8 7 rfl) 0 rfl ?_
    refine zi_iload_n K (dJx4a65c_add_72be8 8 rfl) 3 rfl ?_
    refine zi_aload_n K (dJx4a65c_add_72be8 9 rfl) 2 rfl ?_
    have hz : aaU aa q a q = a := if_pos rfl
    rw [show (Value.ref a) = .ref (aaU aa q a q) by rw [hz]]
    refine zs0_arr K ⟨hq.1, by rw [hC]; omega⟩ (by rw [hC]; omega) (by rw [hC]; omega) (zlv_u (σ := σ) (σ' := uC σ q (zgC (sC σ q))) rfl hx) (dJx4a65c_add_72be8 10 rfl) ?_
    refine zi_aload_n K (dJx4a65c_add_72be8 11 rfl) 1 rfl ?_
    refine zi_iload_n K (dJx4a65c_add_72be8 12 rfl) 3 rfl ?_
    refine zi_iconst K (dJx4a65c_add_72be8 13 rfl) zk_i1 ?_
    refine zi_iadd K (dJx4a65c_add_72be8 14 rfl) ?_
    refine zp0_size K (m := sZ σ q + 1) (nI_1 _) hq.1 w_83 (dJx4a65c_add_72be8 15 rfl) ?_
    exact zi_vret K E (dJx4a65c_add_72be8 16 rfl) (by omega) (by omega) rfl (fun H h => ⟨_, h⟩)
  by_cases h0 : sC σ q = 0
  · rw [if_pos h0] at key ⊢
    refine zi_alenE K (dJx4a65c_add_72be8 2 rfl) ?_
    rw [h0] at key
    exact key
  · rw [if_neg h0] at key ⊢
    refine zi_alen (t0 := 3) (N := sC σ q) K rfl (fun H h => (zr0_LARR h ⟨hq.1, by omega⟩).1) (dJx4a65c_add_72be8 2 rfl) ?_
    exact key
set_option maxRecDepth 100000 in
set_option maxHeartbeats 4000000 in
theorem c_addG {G : zG} {ad : Nat → Nat → Nat} {σ : zSt} (q x : Nat) (hq : zLok σ q) (hf : sZ σ q = sC σ q) (h2 : sC σ q = 0 ∨ 2 ≤ sC σ q) (hx : zlv σ (zeK q) x) : zC G yJx4a65c_add_9ea2d cJx4a65c_add_9ea2d 2 (some FieldType.boolean) 6 152 1 (zgC (sC σ q)) [.ref (ad 28 q), .ref (ad (zeK q) x)] (zP G ad σ) (some (.int 1)) (zP G ad (s_add σ q x)) := by
  refine zC_of (by decide) (Nat.le_of_ble_eq_true rfl) (fun X K E hnm => ?_)
  show zV G X 2 (zP G ad σ) 0 0 0 [(0, .ref (ad 28 q)), (1, .ref (ad (zeK q) x))] []
  have hz := hq.2.1
  refine zV.opn (fun aa => ?_)
  refine zi_aload_n K (dJx4a65c_add_9ea2d 0 rfl) 0 rfl ?_
  refine zi_dup K (dJx4a65c_add_9ea2d 1 rfl) rfl ?_
  refine zg0_mod K hq.1 w_85 (dJx4a65c_add_9ea2d 2 rfl) ?_
  refine zi_iconst K (dJx4a65c_add_9ea2d 3 rfl) zk_i1 ?_
  refine zi_iadd K (dJx4a65c_add_9ea2d 4 rfl) ?_
  refine zp0_mod K hq.1 w_85 (dJx4a65c_add_9ea2d 5 rfl) ?_
  refine zi_aload_n K (dJx4a65c_add_9ea2d 6 rfl) 0 rfl ?_
  refine zi_aload_n K (dJx4a65c_add_9ea2d 7 rfl) 1 rfl ?_
  refine zi_aload_n K (dJx4a65c_add_9ea2d 8 rfl) 0 rfl ?_
  refine zg0_data K hq.1 w_82 (dJx4a65c_add_9ea2d 9 rfl) ?_
  show zV G X 2 (zP0 G ad aa (uM σ q (sM σ q + 1))) 0 0 _ _ [.ref (if sC σ q = 0 then G.2.2.2.2 0 else aa q), _, _]
  refine zi_aload_n K (dJx4a65c_add_9ea2d 10 rfl) 0 rfl ?_
  refine zg0_size K hq.1 w_83 (dJx4a65c_add_9ea2d 11 rfl) ?_
  refine zi_callV K (na := 3) [] [] (c_addpG (ad := ad) (aa := aa) (σ := uM σ q (sM σ q + 1)) q x hq hf h2 hx) (dJx4a65c_add_9ea2d 12 rfl) w_439 w_441 w_4 w_28 w_442 (by decide +kernel) rfl (fun H h => zi_recv K (zr0_LST h hq.1).1 rfl) (fun H h => h) ⟨Nat.le_of_ble_eq_true rfl, Nat.le_of_ble_eq_true rfl⟩ ⟨by show 0 + 1 ≤ 1; omega, by show 0 + zgC (sC σ q) ≤ zgC (sC σ q); omega⟩ (Nat.le_of_ble_eq_true rfl) rfl rfl ?_
  refine zi_iconst K (dJx4a65c_add_9ea2d 13 rfl) zk_i1 ?_
  exact zi_zret K E (dJx4a65c_add_9ea2d 14 rfl) (by show 0 + 1 ≤ 1; omega) (by show 0 + zgC (sC σ q) ≤ zgC (sC σ q); omega) rfl rfl (fun H h => by unfold s_add; rw [if_pos hf]; exact h)
set_option maxRecDepth 100000 in
set_option maxHeartbeats 4000000 in
theorem c_addR {G : zG} {ad : Nat → Nat → Nat} {σ : zSt} (q x : Nat) (hq : zLok σ q) (hf : sZ σ q < sC σ q) (hx : zlv σ (zeK q) x) : zC G yJx4a65c_add_9ea2d cJx4a65c_add_9ea2d 2 (some FieldType.boolean) 1 23 0 0 [.ref (ad 28 q), .ref (ad (zeK q) x)] (zP G ad σ) (some (.int 1)) (zP G ad (s_add σ q x)) := by
  refine zC_of (by decide) (Nat.le_of_ble_eq_true rfl) (fun X K E hnm => ?_)
  show zV G X 2 (zP G ad σ) 0 0 0 [(0, .ref (ad 28 q)), (1, .ref (ad (zeK q) x))] []
  have hz := hq.2.1
  refine zV.opn (fun aa => ?_)
  refine zi_aload_n K (dJx4a65c_add_9ea2d 0 rfl) 0 rfl ?_
  refine zi_dup K (dJx4a65c_add_9ea2d 1 rfl) rfl ?_
  refine zg0_mod K hq.1 w_85 (dJx4a65c_add_9ea2d 2 rfl) ?_
  refine zi_iconst K (dJx4a65c_add_9ea2d 3 rfl) zk_i1 ?_
  refine zi_iadd K (dJx4a65c_add_9ea2d 4 rfl) ?_
  refine zp0_mod K hq.1 w_85 (dJx4a65c_add_9ea2d 5 rfl) ?_
  refine zi_aload_n K (dJx4a65c_add_9ea2d 6 rfl) 0 rfl ?_
  refine zi_aload_n K (dJx4a65c_add_9ea2d 7 rfl) 1 rfl ?_
  refine zi_aload_n K (dJx4a65c_add_9ea2d 8 rfl) 0 rfl ?_
  refine zg0_data K hq.1 w_82 (dJx4a65c_add_9ea2d 9 rfl) ?_
  show zV G X 2 (zP0 G ad aa (uM σ q (sM σ q + 1))) 0 0 _ _ [.ref (if sC σ q = 0 then G.2.2.2.2 0 else aa q), _, _]
  rw [if_neg (show ¬ sC σ q = 0 by omega)]
  refine zi_aload_n K (dJx4a65c_add_9ea2d 10 rfl) 0 rfl ?_
  refine zg0_size K hq.1 w_83 (dJx4a65c_add_9ea2d 11 rfl) ?_
  refine zi_callV K (na := 3) [] [] (c_addpR (ad := ad) (aa := aa) (σ := uM σ q (sM σ q + 1)) q x hq hf hx) (dJx4a65c_add_9ea2d 12 rfl) w_439 w_441 w_4 w_28 w_442 (by decide +kernel) rfl (fun H h => zi_recv K (zr0_LST h hq.1).1 rfl) (fun H h => h) ⟨Nat.le_of_ble_eq_true rfl, Nat.le_of_ble_eq_true rfl⟩ ⟨Nat.le_refl _, Nat.le_refl _⟩ (Nat.le_of_ble_eq_true rfl) rfl rfl ?_
  refine zi_iconst K (dJx4a65c_add_9ea2d 13 rfl) zk_i1 ?_
  exact zi_zret K E (dJx4a65c_add_9ea2d 14 rfl) (Nat.le_refl _) (Nat.le_refl _) rfl rfl (fun H h => by unfold s_add; rw [if_neg (by omega)]; exact h)
