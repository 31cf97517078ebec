/-! ArrayList.add in the midst -/
/-- list q's elements from place i on go up by one -/
def uSh (σ : zSt) (q i : Nat) : zSt := (σ.1, σ.2.1, (fun a j => if a = q ∧ i + 1 ≤ j ∧ j < i + 1 + (σ.2.2.2.1 q - i) then σ.2.2.1 q (i + (j - (i + 1))) else σ.2.2.1 a j), σ.2.2.2)
def s_insE (σ : zSt) (q i x : Nat) : zSt := uZ (uE (uSh σ q i) q i (some x)) q (sZ σ q + 1)
def s_ins (σ : zSt) (q i x : Nat) : zSt := s_insE (if sZ σ q = sC σ q then uC (uM σ q (sM σ q + 1)) q (zgC (sC σ q)) else uM σ q (sM σ q + 1)) q i x
theorem zP0.setSh {G : zG} {ad : Nat → Nat → Nat} {aa : Nat → Nat} {σ : zSt} {H H1 : Heap} (h : zP0 G ad aa σ H) {q i : Nat} (hq : q < 13 ∧ 0 < sC σ q) (hn : va_at G.2.2.1 zCl (aa q, .inl (G.2.2.2.1 3, sC σ q, .inr (.inr (.inr (.inr (va_cpy (fun j => (sE σ q j).map (ad (zeK q))) (fun j => (sE σ q j).map (ad (zeK q))) i (i + 1) (sZ σ q - i))))))) H1) (oq : ∀ x, x ≠ aa q → H1[x]? = H[x]?) : zP0 G ad aa (uSh σ q i) H1 := by
  refine h.upd (kd := 29) (ix := q) hq (fun k x => ?_) (fun k x hne _ => ?_) ?_ oq
  · by_cases e : k = 29
    · subst e; exact Iff.rfl
    · exact zlv_lists e rfl
  · rcases Nat.lt_or_ge k 28 with e | e
    · exact zct_lists e rfl rfl rfl
    · match k, e with
      | 28, _ => rfl
      | 29, _ =>
        have hx : ¬ x = q := fun z => hne ⟨rfl, z⟩
        show zqLARR G ad (uSh σ q i) x = zqLARR G ad σ x
        unfold zqLARR
        rw [show (fun j => (sE (uSh σ q i) x j).map (ad (zeK x))) = (fun j => (sE σ x j).map (ad (zeK x))) from funext fun j => by
          rw [show sE (uSh σ q i) x j = sE σ x j from if_neg (fun z => hx z.1)]]
        rfl
      | y + 30, _ => rfl
  · show va_at G.2.2.1 zCl (aa q, zqLARR G ad (uSh σ q i) q) H1
    unfold zqLARR
    rw [show sC (uSh σ q i) q = sC σ q from rfl]
    rw [show (fun j => (sE (uSh σ q i) q j).map (ad (zeK q))) = va_cpy (fun j => (sE σ q j).map (ad (zeK q))) (fun j => (sE σ q j).map (ad (zeK q))) i (i + 1) (sZ σ q - i) from funext fun j => by
      unfold va_cpy
      by_cases e : i + 1 ≤ j ∧ j < i + 1 + (sZ σ q - i)
      · rw [if_pos e, show sE (uSh σ q i) q j = sE σ q (i + (j - (i + 1))) from if_pos ⟨rfl, e.1, e.2⟩]
      · rw [if_neg e, show sE (uSh σ q i) q j = sE σ q j from if_neg (fun z => e z.2)]]
    exact hn
set_option maxRecDepth 100000 in
set_option maxHeartbeats 4000000 in
theorem c_rangeAdd {G : zG} {ad : Nat → Nat → Nat} {aa : Nat → Nat} {σ : zSt} (q i : Nat) (hq : zLok σ q) (hi : i ≤ sZ σ q) : zC G yJx4a65c_rangeCheckForAdd_d00df cJx4a65c_rangeCheckForAdd_d00df 2 none 0 0 0 0 [.ref (ad 28 q), .int (nI i)] (zP0 G ad aa σ) none (zP0 G ad aa σ) := by
  refine zC_of (by decide) (Nat.le_of_ble_eq_true rfl) (fun X K E hnm => ?_)
  show zV G X 2 (zP0 G ad aa σ) 0 0 0 [(0, .ref (ad 28 q)), (1, .int (nI i))] []
  have h1 := hq.2.1
  have h2 := hq.2.2.1
  refine zi_iload_n K (dJx4a65c_rangeCheckForAdd_d00df 0 rfl) 1 rfl ?_
  refine zi_aload_n K (dJx4a65c_rangeCheckForAdd_d00df 1 rfl) 0 rfl ?_
  refine zg0_size K hq.1 w_83 (dJx4a65c_rangeCheckForAdd_d00df 2 rfl) ?_
  refine zi_icmp_gt K 12 (dJx4a65c_rangeCheckForAdd_d00df 3 rfl) rfl (fun h => absurd h (nI_nlt hi (by omega))) (fun _ => ?_)
  refine zi_iload_n K (dJx4a65c_rangeCheckForAdd_d00df 4 rfl) 1 rfl ?_
  refine zi_if_ge K 25 (dJx4a65c_rangeCheckForAdd_d00df 5 rfl) rfl (fun _ => ?_) (fun h => absurd (nI_pos' (n := i) (by omega)) h)
  exact zi_vret K E (dJx4a65c_rangeCheckForAdd_d00df 13 rfl) (Nat.le_refl _) (Nat.le_refl _) rfl (fun _ h => h)
set_option maxRecDepth 100000 in
set_option maxHeartbeats 4000000 in
theorem c_insR {G : zG} {ad : Nat → Nat → Nat} {σ : zSt} (q i x : Nat) (hq : zLok σ q) (hi : i ≤ sZ σ q) (hf : sZ σ q < sC σ q) (hx : zlv σ (zeK q) x) : zC G yJx4a65c_add_7a177 cJx4a65c_add_7a177 5 none 1 56 0 0 [.ref (ad 28 q), .int (nI i), .ref (ad (zeK q) x)] (zP G ad σ) none (zP G ad (s_ins σ q i x)) := by
  refine zC_of (by decide) (Nat.le_of_ble_eq_true rfl) (fun X K E hnm => ?_)
  show zV G X 5 (zP G ad σ) 0 0 0 [(0, .ref (ad 28 q)), (1, .int (nI i)), (2, .ref (ad (zeK q) x))] []
  have hz := hq.2.1
  have hc3 := hq.2.2.1
  refine zV.opn (fun aa => ?_)
  refine zi_aload_n K (dJx4a65c_add_7a177 0 rfl) 0 rfl ?_
  refine zi_iload_n K (dJx4a65c_add_7a177 1 rfl) 1 rfl ?_
  refine zi_callV K (na := 1) [] [] (c_rangeAdd (ad := ad) (aa := aa) (σ := σ) q i hq hi) (dJx4a65c_add_7a177 2 rfl) w_820 w_822 w_18 w_28 w_823 (by decide +kernel) rfl (fun H h => zi_recv K (zr0_LST h hq.1).1 rfl) (fun H h => h) ⟨Nat.le_of_ble_eq_true rfl, Nat.le_of_ble_eq_true rfl⟩ ⟨Nat.zero_le _, Nat.zero_le _⟩ (Nat.le_of_ble_eq_true rfl) rfl rfl ?_
  refine zi_aload_n K (dJx4a65c_add_7a177 3 rfl) 0 rfl ?_
  refine zi_dup K (dJx4a65c_add_7a177 4 rfl) rfl ?_
  refine zg0_mod K hq.1 w_85 (dJx4a65c_add_7a177 5 rfl) ?_
  refine zi_iconst K (dJx4a65c_add_7a177 6 rfl) zk_i1 ?_
  refine zi_iadd K (dJx4a65c_add_7a177 7 rfl) ?_
  refine zp0_mod K hq.1 w_85 (dJx4a65c_add_7a177 8 rfl) ?_
  refine zi_aload_n K (dJx4a65c_add_7a177 9 rfl) 0 rfl ?_
  refine zg0_size K hq.1 w_83 (dJx4a65c_add_7a177 10 rfl) ?_
  refine zi_dup K (dJx4a65c_add_7a177 11 rfl) rfl ?_
  refine zi_istore_n K [(3, .int (nI (sZ σ q))), (0, .ref (ad 28 q)), (1, .int (nI i)), (2, .ref (ad (zeK q) x))] (dJx4a65c_add_7a177 12 rfl) (by decide) rfl ?_
  refine zi_aload_n K (dJx4a65c_add_7a177 13 rfl) 1 rfl ?_
  refine zg0_data K hq.1 w_82 (dJx4a65c_add_7a177 14 rfl) ?_
  show zV G X 5 (zP0 G ad aa (uM σ q (sM σ q + 1))) _ _ _ _ [.ref (if sC σ q = 0 then G.2.2.2.2 0 else aa q), _]
  rw [if_neg (show ¬ sC σ q = 0 by omega)]
  have hqS : q < 13 ∧ 0 < sC (uM σ q (sM σ q + 1)) q := ⟨hq.1, show 0 < sC σ q by omega⟩
  have hCS : sC (uM σ q (sM σ q + 1)) q = sC σ q := rfl
  refine zi_dup K (dJx4a65c_add_7a177 15 rfl) rfl ?_
  refine zi_astore K [(4, .ref (aa q)), (3, .int (nI (sZ σ q))), (0, .ref (ad 28 q)), (1, .int (nI i)), (2, .ref (ad (zeK q) x))] (dJx4a65c_add_7a177 16 rfl) (by decide) rfl ?_
  refine zi_alen (t0 := 3) (N := sC σ q) K rfl (fun H h => (zr0_LARR h hqS).1) (dJx4a65c_add_7a177 17 rfl) ?_
  refine zi_icmp_ne K 38 (dJx4a65c_add_7a177 18 rfl) rfl (fun _ => ?_) (fun h => absurd ((nI_eq (a := sZ σ q) (b := sC σ q) (by omega) (by omega)).mp h) (by omega))
  refine zi_aload K (dJx4a65c_add_7a177 22 rfl) 0 rfl ?_
  refine zi_iload_n K (dJx4a65c_add_7a177 23 rfl) 3 rfl ?_
  refine zi_aload K (dJx4a65c_add_7a177 24 rfl) 0 rfl ?_
  refine zi_iload_n K (dJx4a65c_add_7a177 25 rfl) 3 rfl ?_
  refine zi_iconst K (dJx4a65c_add_7a177 26 rfl) zk_i1 ?_
  refine zi_iadd K (dJx4a65c_add_7a177 27 rfl) ?_
  refine zi_iload_n K (dJx4a65c_add_7a177 28 rfl) 1 rfl ?_
  refine zi_iload_n K (dJx4a65c_add_7a177 29 rfl) 3 rfl ?_
  refine zi_isub K (dJx4a65c_add_7a177 30 rfl) ?_
  rw [nI_1, pk_sub hi]
  refine zi_acopy (sp := i) (dp := i + 1) (m := sZ σ q - i) (n0 := sC (uM σ q (sM σ q + 1)) q) (n1 := sC (uM σ q (sM σ q + 1)) q) (f := fun j => (sE σ q j).map (ad (zeK q))) (g := fun j => (sE σ q j).map (ad (zeK q))) (P' := zP0 G ad aa (uSh (uM σ q (sM σ q + 1)) q i)) K [] w_1056 (fun H h => (zr0_LARR h hqS).1) (fun H h => zr0_LARR h hqS) (by omega) (by omega) (by omega) (by omega) (fun H h y hy z hz => by
    cases hx0 : sE σ q (i + y) with
    | none => rw [hx0] at hz; cases hz
    | some x0 =>
      rw [hx0] at hz
      cases hz
      exact zeK_obj h (zlv_u (σ := σ) (σ' := (uM σ q (sM σ q + 1))) rfl (hq.2.2.2.2 (i + y) x0 hx0))) ⟨Nat.le_of_ble_eq_true rfl, Nat.le_of_ble_eq_true rfl⟩ (dJx4a65c_add_7a177 31 rfl) (fun H H1 h ha _ oq => h.setSh hqS ha oq) ?_
  refine zi_aload K (dJx4a65c_add_7a177 32 rfl) 0 rfl ?_
  refine zi_iload_n K (dJx4a65c_add_7a177 33 rfl) 3 rfl ?_
  refine zi_aload_n K (dJx4a65c_add_7a177 34 rfl) 4 rfl ?_
  refine zs0_arr (σ := uSh (uM σ q (sM σ q + 1)) q i) K hqS (show i < sC (uM σ q (sM σ q + 1)) q by omega) (show sC (uM σ q (sM σ q + 1)) q < 2 ^ 31 by omega) (zlv_u (σ := σ) (σ' := uSh (uM σ q (sM σ q + 1)) q i) rfl hx) (dJx4a65c_add_7a177 35 rfl) ?_
  refine zi_aload_n K (dJx4a65c_add_7a177 36 rfl) 2 rfl ?_
  refine zi_iload_n K (dJx4a65c_add_7a177 37 rfl) 1 rfl ?_
  refine zi_iconst K (dJx4a65c_add_7a177 38 rfl) zk_i1 ?_
  refine zi_iadd K (dJx4a65c_add_7a177 39 rfl) ?_
  refine zp0_size K (m := sZ σ q + 1) (nI_1 _) hq.1 w_83 (dJx4a65c_add_7a177 40 rfl) ?_
  exact zi_vret K E (dJx4a65c_add_7a177 41 rfl) (Nat.le_refl _) (Nat.le_refl _) rfl (fun H h => ⟨aa, by unfold s_ins; rw [if_neg (by omega)]; exact h⟩)
set_option maxRecDepth 100000 in
set_option maxHeartbeats 4000000 in
theorem c_insG {G : zG} {ad : Nat → Nat → Nat} {σ : zSt} (q i x : Nat) (hq : zLok σ q) (hi : i ≤ sZ σ q) (hf : sZ σ q = sC σ q) (h2 : sC σ q = 0 ∨ 2 ≤ sC σ q) (hx : zlv σ (zeK q) x) : zC G yJx4a65c_add_7a177 cJx4a65c_add_7a177 5 none 5 129 1 (zgC (sC σ q)) [.ref (ad 28 q), .int (nI i), .ref (ad (zeK q) x)] (zP G ad σ) none (zP G ad (s_ins σ q i x)) := by
  refine zC_of (by decide) (Nat.le_of_ble_eq_true rfl) (fun X K E hnm => ?_)
  show zV G X 5 (zP G ad σ) 0 0 0 [(0, .ref (ad 28 q)), (1, .int (nI i)), (2, .ref (ad (zeK q) x))] []
  have hz := hq.2.1
  have hc3 := hq.2.2.1
  refine zV.opn (fun aa => ?_)
  refine zi_aload_n K (dJx4a65c_add_7a177 0 rfl) 0 rfl ?_
  refine zi_iload_n K (dJx4a65c_add_7a177 1 rfl) 1 rfl ?_
  refine zi_callV K (na := 1) [] [] (c_rangeAdd (ad := ad) (aa := aa) (σ := σ) q i hq hi) (dJx4a65c_add_7a177 2 rfl) w_820 w_822 w_18 w_28 w_823 (by decide +kernel) rfl (fun H h => zi_recv K (zr0_LST h hq.1).1 rfl) (fun H h => h) ⟨Nat.le_of_ble_eq_true rfl, Nat.le_of_ble_eq_true rfl⟩ ⟨Nat.zero_le _, Nat.zero_le _⟩ (Nat.le_of_ble_eq_true rfl) rfl rfl ?_
  refine zi_aload_n K (dJx4a65c_add_7a177 3 rfl) 0 rfl ?_
  refine zi_dup K (dJx4a65c_add_7a177 4 rfl) rfl ?_
  refine zg0_mod K hq.1 w_85 (dJx4a65c_add_7a177 5 rfl) ?_
  refine zi_iconst K (dJx4a65c_add_7a177 6 rfl) zk_i1 ?_
  refine zi_iadd K (dJx4a65c_add_7a177 7 rfl) ?_
  refine zp0_mod K hq.1 w_85 (dJx4a65c_add_7a177 8 rfl) ?_
  refine zi_aload_n K (dJx4a65c_add_7a177 9 rfl) 0 rfl ?_
  refine zg0_size K hq.1 w_83 (dJx4a65c_add_7a177 10 rfl) ?_
  refine zi_dup K (dJx4a65c_add_7a177 11 rfl) rfl ?_
  refine zi_istore_n K [(3, .int (nI (sZ σ q))), (0, .ref (ad 28 q)), (1, .int (nI i)), (2, .ref (ad (zeK q) x))] (dJx4a65c_add_7a177 12 rfl) (by decide) rfl ?_
  refine zi_aload_n K (dJx4a65c_add_7a177 13 rfl) 1 rfl ?_
  refine zg0_data K hq.1 w_82 (dJx4a65c_add_7a177 14 rfl) ?_
  show zV G X 5 (zP0 G ad aa (uM σ q (sM σ q + 1))) _ _ _ _ [.ref (if sC σ q = 0 then G.2.2.2.2 0 else aa q), _]
  have hg : sZ σ q < zgC (sC σ q) := by unfold zgC; split <;> omega
  have hg2 : zgC (sC σ q) < 2000 := by unfold zgC; split <;> omega
  have hCS : sC (uC (uM σ q (sM σ q + 1)) q (zgC (sC σ q))) q = zgC (sC σ q) := if_pos rfl
  have hqS : q < 13 ∧ 0 < sC (uC (uM σ q (sM σ q + 1)) q (zgC (sC σ q))) q := ⟨hq.1, by rw [hCS]; omega⟩
  refine zi_dup K (dJx4a65c_add_7a177 15 rfl) rfl ?_
  refine zi_astore K [(4, .ref (if sC σ q = 0 then G.2.2.2.2 0 else aa q)), (3, .int (nI (sZ σ q))), (0, .ref (ad 28 q)), (1, .int (nI i)), (2, .ref (ad (zeK q) x))] (dJx4a65c_add_7a177 16 rfl) (by decide) rfl ?_
  have key : zV G X 5 (zP0 G ad aa (uM σ q (sM σ q + 1))) (0 + 0) (0 + 0) 29 [(4, .ref (if sC σ q = 0 then G.2.2.2.2 0 else aa q)), (3, .int (nI (sZ σ q))), (0, .ref (ad 28 q)), (1, .int (nI i)), (2, .ref (ad (zeK q) x))] [.int (nI (sC σ q)), .int (nI (sZ σ q))] := by
    refine zi_icmp_ne K 38 (dJx4a65c_add_7a177 18 rfl) rfl (fun h => absurd (by rw [hf]) h) (fun _ => ?_)
    refine zi_aload_n K (dJx4a65c_add_7a177 19 rfl) 2 rfl ?_
    refine zi_callaV K (na := 0) [] (c_grow (ad := ad) (aa := aa) (σ := (uM σ q (sM σ q + 1))) q hq hf h2) (dJx4a65c_add_7a177 20 rfl) w_443 w_445 w_5 w_28 w_446 (by decide +kernel) rfl (fun H h => zi_recv K (zr0_LST h hq.1).1 rfl) (fun H h => h) ⟨Nat.le_of_ble_eq_true rfl, Nat.le_of_ble_eq_true rfl⟩ ⟨by show 0 + 0 + 1 ≤ 1; omega, by show 0 + 0 + zgC (sC σ q) ≤ zgC (sC σ q); omega⟩ (Nat.le_of_ble_eq_true rfl) rfl (fun a => ?_)
    show zV G X 5 (zP0 G ad (aaU aa q a) (uC (uM σ q (sM σ q + 1)) q (zgC (sC σ q)))) _ _ _ _ _
    have hza : aaU aa q a q = a := if_pos rfl
    rw [show (Value.ref a) = .ref (aaU aa q a q) by rw [hza]]
    refine zi_astore K [(4, .ref (aaU aa q a q)), (3, .int (nI (sZ σ q))), (0, .ref (ad 28 q)), (1, .int (nI i)), (2, .ref (ad (zeK q) x))] (dJx4a65c_add_7a177 21 rfl) (by decide) rfl ?_
    refine zi_aload K (dJx4a65c_add_7a177 22 rfl) 0 rfl ?_
    refine zi_iload_n K (dJx4a65c_add_7a177 23 rfl) 3 rfl ?_
    refine zi_aload K (dJx4a65c_add_7a177 24 rfl) 0 rfl ?_
    refine zi_iload_n K (dJx4a65c_add_7a177 25 rfl) 3 rfl ?_
    refine zi_iconst K (dJx4a65c_add_7a177 26 rfl) zk_i1 ?_
    refine zi_iadd K (dJx4a65c_add_7a177 27 rfl) ?_
    refine zi_iload_n K (dJx4a65c_add_7a177 28 rfl) 1 rfl ?_
    refine zi_iload_n K (dJx4a65c_add_7a177 29 rfl) 3 rfl ?_
    refine zi_isub K (dJx4a65c_add_7a177 30 rfl) ?_
    rw [nI_1, pk_sub hi]
    refine zi_acopy (sp := i) (dp := i + 1) (m := sZ σ q - i) (n0 := sC (uC (uM σ q (sM σ q + 1)) q (zgC (sC σ q))) q) (n1 := sC (uC (uM σ q (sM σ q + 1)) q (zgC (sC σ q))) q) (f := fun j => (sE σ q j).map (ad (zeK q))) (g := fun j => (sE σ q j).map (ad (zeK q))) (P' := zP0 G ad (aaU aa q a) (uSh (uC (uM σ q (sM σ q + 1)) q (zgC (sC σ q))) q i)) K [] w_1056 (fun H h => (zr0_LARR h hqS).1) (fun H h => zr0_LARR h hqS) (by omega) (by omega) (by omega) (by omega) (fun H h y hy z hz => by
      cases hx0 : sE σ q (i + y) with
      | none => rw [hx0] at hz; cases hz
      | some x0 =>
        rw [hx0] at hz
        cases hz
        exact zeK_obj h (zlv_u (σ := σ) (σ' := (uC (uM σ q (sM σ q + 1)) q (zgC (sC σ q)))) rfl (hq.2.2.2.2 (i + y) x0 hx0))) ⟨Nat.le_of_ble_eq_true rfl, Nat.le_of_ble_eq_true rfl⟩ (dJx4a65c_add_7a177 31 rfl) (fun H H1 h ha _ oq => h.setSh hqS ha oq) ?_
    refine zi_aload K (dJx4a65c_add_7a177 32 rfl) 0 rfl ?_
    refine zi_iload_n K (dJx4a65c_add_7a177 33 rfl) 3 rfl ?_
    refine zi_aload_n K (dJx4a65c_add_7a177 34 rfl) 4 rfl ?_
    refine zs0_arr (σ := uSh (uC (uM σ q (sM σ q + 1)) q (zgC (sC σ q))) q i) K hqS (show i < sC (uC (uM σ q (sM σ q + 1)) q (zgC (sC σ q))) q by omega) (show sC (uC (uM σ q (sM σ q + 1)) q (zgC (sC σ q))) q < 2 ^ 31 by omega) (zlv_u (σ := σ) (σ' := uSh (uC (uM σ q (sM σ q + 1)) q (zgC (sC σ q))) q i) rfl hx) (dJx4a65c_add_7a177 35 rfl) ?_
    refine zi_aload_n K (dJx4a65c_add_7a177 36 rfl) 2 rfl ?_
    refine zi_iload_n K (dJx4a65c_add_7a177 37 rfl) 1 rfl ?_
    refine zi_iconst K (dJx4a65c_add_7a177 38 rfl) zk_i1 ?_
    refine zi_iadd K (dJx4a65c_add_7a177 39 rfl) ?_
    refine zp0_size K (m := sZ σ q + 1) (nI_1 _) hq.1 w_83 (dJx4a65c_add_7a177 40 rfl) ?_
    exact zi_vret K E (dJx4a65c_add_7a177 41 rfl) (by show 0 + 0 + 1 ≤ 1; omega) (by show 0 + 0 + zgC (sC σ q) ≤ zgC (sC σ q); omega) rfl (fun H h => ⟨_, by unfold s_ins; rw [if_pos hf]; exact h⟩)
  by_cases h0 : sC σ q = 0
  · rw [if_pos h0] at key ⊢
    refine zi_alenE K (dJx4a65c_add_7a177 17 rfl) ?_
    rw [h0] at key
    exact key
  · rw [if_neg h0] at key ⊢
    refine zi_alen (t0 := 3) (N := sC σ q) K rfl (fun H h => (zr0_LARR h ⟨hq.1, show 0 < sC σ q by omega⟩).1) (dJx4a65c_add_7a177 17 rfl) ?_
    exact key
