/-! the law's calls, one by one -/
section ZWM
variable {G : zG} {o a : Nat} {σ σ' : zSt} {y : MethodName} {cc : ByteArray} {maxL : Nat} {ret : Option FieldType} {hh : List (Nat × Nat × Nat × Nat)} {fr lc : Nat} {av : List Value} {rv : Option Value}
theorem zWS.mk (hle : sgc σ ≤ sgc σ' ∧ sgs σ ≤ sgs σ') (h : ∀ ad : Nat → Nat → Nat, ad 0 0 = a → zCW (zGo G o) y cc maxL ret hh fr lc (sgc σ' - sgc σ) (sgs σ' - sgs σ) av (zP (zGo G o) ad σ) rv (zP (zGo G o) ad σ')) : zWS G o a σ σ' y cc maxL ret hh fr lc 0 av rv := fun ad ha =>
  ⟨_, _, _, ⟨by omega, by omega⟩, h ad ha, fun H hH => ⟨ad, ha, hH⟩⟩
theorem zWS.mkE (hle : sgc σ ≤ sgc σ' ∧ sgs σ ≤ sgs σ') (h : ∀ ad : Nat → Nat → Nat, ad 0 0 = a → zCW (zGo G o) y cc maxL ret hh fr lc (sgc σ' - sgc σ) (sgs σ' - sgs σ) av (zP (zGo G o) ad σ) rv (fun H => ∃ ad2 : Nat → Nat → Nat, ad2 0 0 = ad 0 0 ∧ zP (zGo G o) ad2 σ' H)) : zWS G o a σ σ' y cc maxL ret hh fr lc 0 av rv := fun ad ha =>
  ⟨_, _, _, ⟨by omega, by omega⟩, h ad ha, fun H hH => by
    obtain ⟨ad2, h1, h2⟩ := hH
    exact ⟨ad2, h1.trans ha, h2⟩⟩
theorem zWS.mk0 (hle : sgc σ' = sgc σ ∧ sgs σ' = sgs σ) (h : ∀ ad : Nat → Nat → Nat, ad 0 0 = a → zCW (zGo G o) y cc maxL ret hh fr lc 0 0 av (zP (zGo G o) ad σ) rv (zP (zGo G o) ad σ')) : zWS G o a σ σ' y cc maxL ret hh fr lc 0 av rv := fun ad ha =>
  ⟨_, 0, 0, ⟨by omega, by omega⟩, h ad ha, fun H hH => ⟨ad, ha, hH⟩⟩
theorem zWS.mk1 (h : ∀ ad : Nat → Nat → Nat, ad 0 0 = a → zCW (zGo G o) y cc maxL ret hh fr lc 1 6 av (zP (zGo G o) ad σ) rv (zP (zGo G o) ad σ)) : zWS G o a σ σ y cc maxL ret hh fr lc 1 av rv := fun ad ha =>
  ⟨_, 1, 6, ⟨by omega, by omega⟩, h ad ha, fun H hH => ⟨ad, ha, hH⟩⟩
theorem zWV.mk (hle : sgc σ ≤ sgc σ' ∧ sgs σ ≤ sgs σ') (h : ∀ ad : Nat → Nat → Nat, ad 0 0 = a → zC (zGo G o) y cc maxL ret fr lc (sgc σ' - sgc σ) (sgs σ' - sgs σ) (.ref a :: av) (zP (zGo G o) ad σ) rv (zP (zGo G o) ad σ')) : zWV G o a σ σ' y cc maxL ret fr lc 0 av rv := fun ad ha =>
  ⟨_, _, _, ⟨by omega, by omega⟩, h ad ha, fun H hH => ⟨ad, ha, hH⟩⟩
end ZWM
theorem e_policy {G : zG} {o a : Nat} {σ : zSt} (v1 v2 v3 v4 : Int32) (hw : zW σ) (h12 : sN σ 0 < 12) (hv1 : v_isOut σ v1 1 1000000 = 0) (hv2 : v_isOut σ v2 0 3 = 0) (hv3 : ¬ v_isSpan σ v3 v4 = 0) (hle : sgc σ ≤ sgc (s_policy σ v1 v2 v3 v4) ∧ sgs σ ≤ sgs (s_policy σ v1 v2 v3 v4)) : zWS G o a σ (s_policy σ v1 v2 v3 v4) yL_policy cL_policy 6 (some FieldType.int) [(0, 9, 10, 19), (0, 9, 15, 22)] 21 325 0 ([.ref a, .int v1, .int v2, .int v3, .int v4] : List Value) (some (.int (v_policy σ v1 v2 v3 v4))) := by
  unfold s_policy at hle ⊢
  refine zWS.mkE (hle) (fun ad ha => ?_)
  subst ha
  have h := l_policy (c_policy (G := zGo G o) (ad := ad) v1 v2 v3 v4 hw h12 hv1 hv2 hv3)
  exact h
theorem e_policyF {G : zG} {o a : Nat} {σ : zSt} (v1 v2 v3 v4 : Int32) (hw : zW σ) (h12 : sN σ 0 = 12) (hv1 : v_isOut σ v1 1 1000000 = 0) (hv2 : v_isOut σ v2 0 3 = 0) (hv3 : ¬ v_isSpan σ v3 v4 = 0) : zWS G o a σ σ yL_policy cL_policy 6 (some FieldType.int) [(0, 9, 10, 19), (0, 9, 15, 22)] 21 325 1 ([.ref a, .int v1, .int v2, .int v3, .int v4] : List Value) (some (.int (-1000000))) := by
  refine zWS.mk1 (fun ad ha => ?_)
  subst ha
  have h := l_policy_ISE (t_policy (G := zGo G o) (ad := ad) v1 v2 v3 v4 hw h12 hv1 hv2 hv3)
  exact h
theorem e_scenario {G : zG} {o a : Nat} {σ : zSt} (v1 v2 : Int32) (hw : zW σ) (h12 : sN σ 3 < 12) (hv1 : v_isOut σ v1 0 999 = 0) (hv2 : v_isOut σ v2 1 9 = 0) (hle : sgc σ ≤ sgc (s_scenario σ v1 v2) ∧ sgs σ ≤ sgs (s_scenario σ v1 v2)) : zWS G o a σ (s_scenario σ v1 v2) yL_scenario cL_scenario 4 (some FieldType.int) [(0, 6, 7, 19), (0, 6, 11, 22)] 21 322 0 ([.ref a, .int v1, .int v2] : List Value) (some (.int (v_scenario σ v1 v2))) := by
  unfold s_scenario at hle ⊢
  refine zWS.mkE (hle) (fun ad ha => ?_)
  subst ha
  have h := l_scenario (c_scenario (G := zGo G o) (ad := ad) v1 v2 hw h12 hv1 hv2)
  exact h
theorem e_scenarioF {G : zG} {o a : Nat} {σ : zSt} (v1 v2 : Int32) (hw : zW σ) (h12 : sN σ 3 = 12) (hv1 : v_isOut σ v1 0 999 = 0) (hv2 : v_isOut σ v2 1 9 = 0) : zWS G o a σ σ yL_scenario cL_scenario 4 (some FieldType.int) [(0, 6, 7, 19), (0, 6, 11, 22)] 21 322 1 ([.ref a, .int v1, .int v2] : List Value) (some (.int (-1000000))) := by
  refine zWS.mk1 (fun ad ha => ?_)
  subst ha
  have h := l_scenario_ISE (t_scenario (G := zGo G o) (ad := ad) v1 v2 hw h12 hv1 hv2)
  exact h
theorem e_loss {G : zG} {o a : Nat} {σ : zSt} (p : Nat) (v2 v3 v4 : Int32) (hw : zW σ) (hp : p < sN σ 0) (hs : ¬ v_isSpan σ v2 v3 = 0) (hv4 : v_isOut σ v4 0 1000000 = 0) (hf : ¬ v_inForce σ p v2 = 0) (h30 : sN σ 1 < 30) (hle : sgc σ ≤ sgc (s_loss σ p v2 v3 v4) ∧ sgs σ ≤ sgs (s_loss σ p v2 v3 v4)) : zWS G o a σ (s_loss σ p v2 v3 v4) yL_loss cL_loss 6 (some FieldType.int) [(0, 9, 10, 28), (0, 9, 15, 19), (0, 9, 20, 31), (0, 9, 25, 22)] 21 326 0 ([.ref a, .int (nI p), .int v2, .int v3, .int v4] : List Value) (some (.int (v_loss σ p v2 v3 v4))) := by
  unfold s_loss at hle ⊢
  refine zWS.mkE (hle) (fun ad ha => ?_)
  subst ha
  have h := l_loss (c_loss (G := zGo G o) (ad := ad) p v2 v3 v4 hw hp h30 hs hv4 hf)
  exact h
theorem e_lossU {G : zG} {o a : Nat} {σ : zSt} (p : Nat) (v2 v3 v4 : Int32) (hw : zW σ) (hp : p < sN σ 0) (hs : ¬ v_isSpan σ v2 v3 = 0) (hv4 : v_isOut σ v4 0 1000000 = 0) (hf : v_inForce σ p v2 = 0) : zWS G o a σ σ yL_loss cL_loss 6 (some FieldType.int) [(0, 9, 10, 28), (0, 9, 15, 19), (0, 9, 20, 31), (0, 9, 25, 22)] 21 326 1 ([.ref a, .int (nI p), .int v2, .int v3, .int v4] : List Value) (some (.int (-1500000))) := by
  refine zWS.mk1 (fun ad ha => ?_)
  subst ha
  have h := l_loss_UOE (t_lossU (G := zGo G o) (ad := ad) p v2 v3 v4 hw hp hs hv4 hf)
  exact h
theorem e_lossF {G : zG} {o a : Nat} {σ : zSt} (p : Nat) (v2 v3 v4 : Int32) (hw : zW σ) (hp : p < sN σ 0) (hs : ¬ v_isSpan σ v2 v3 = 0) (hv4 : v_isOut σ v4 0 1000000 = 0) (hf : ¬ v_inForce σ p v2 = 0) (h30 : sN σ 1 = 30) : zWS G o a σ σ yL_loss cL_loss 6 (some FieldType.int) [(0, 9, 10, 28), (0, 9, 15, 19), (0, 9, 20, 31), (0, 9, 25, 22)] 21 326 1 ([.ref a, .int (nI p), .int v2, .int v3, .int v4] : List Value) (some (.int (-1000000))) := by
  refine zWS.mk1 (fun ad ha => ?_)
  subst ha
  have h := l_loss_ISE (t_lossS (G := zGo G o) (ad := ad) p v2 v3 v4 hw hp hs hv4 hf h30)
  exact h
theorem e_treaty {G : zG} {o a : Nat} {σ : zSt} (v2 v3 v4 v5 v6 v7 : Int32) (hw : zW σ) (h1 : ¬ v_isSpan σ v4 v5 = 0) (h2 : ¬ v_isBasis σ v3 = 0) (h3 : ¬ v_fitsKind σ v2 v6 v7 = 0) (h8 : sN σ 2 < 8) (hk : (narrow .char (.int v2) = .int v2 ∧ fits .char (.int v2) = true)) (hs : (narrow .char (.int v3) = .int v3 ∧ fits .char (.int v3) = true)) (hle : sgc σ ≤ sgc (s_treaty σ v2 v3 v4 v5 v6 v7) ∧ sgs σ ≤ sgs (s_treaty σ v2 v3 v4 v5 v6 v7)) : zWS G o a σ (s_treaty σ v2 v3 v4 v5 v6 v7) yL_treaty cL_treaty 8 (some FieldType.int) [(0, 13, 14, 19), (0, 13, 19, 22)] 21 327 0 ([.ref a, .int v2, .int v3, .int v4, .int v5, .int v6, .int v7] : List Value) (some (.int (v_treaty σ v2 v3 v4 v5 v6 v7))) := by
  unfold s_treaty at hle ⊢
  refine zWS.mkE (hle) (fun ad ha => ?_)
  subst ha
  have h := l_treaty (c_treaty (G := zGo G o) (ad := ad) v2 v3 v4 v5 v6 v7 hw h8 hk hs h1 h2 h3)
  exact h
theorem e_treatyF {G : zG} {o a : Nat} {σ : zSt} (v2 v3 v4 v5 v6 v7 : Int32) (hw : zW σ) (h1 : ¬ v_isSpan σ v4 v5 = 0) (h2 : ¬ v_isBasis σ v3 = 0) (h3 : ¬ v_fitsKind σ v2 v6 v7 = 0) (h8 : sN σ 2 = 8) : zWS G o a σ σ yL_treaty cL_treaty 8 (some FieldType.int) [(0, 13, 14, 19), (0, 13, 19, 22)] 21 327 1 ([.ref a, .int v2, .int v3, .int v4, .int v5, .int v6, .int v7] : List Value) (some (.int (-1000000))) := by
  refine zWS.mk1 (fun ad ha => ?_)
  subst ha
  have h := l_treaty_ISE (t_treaty (G := zGo G o) (ad := ad) v2 v3 v4 v5 v6 v7 hw h8 h1 h2 h3)
  exact h
theorem e_share {G : zG} {o a : Nat} {σ : zSt} (t r : Nat) (s : Int32) (hw : zW σ) (ht : t < sN σ 2) (hr : r < 5) (hs : v_isOut σ s 0 100 = 0) (ha : v_allShares σ t - sI σ 21 t r + s ≤ 100) : zWS G o a σ (s_share σ t r s) yL_share cL_share 5 (some FieldType.int) [(0, 7, 8, 28), (0, 7, 13, 19), (0, 7, 18, 31)] 21 325 0 ([.ref a, .int (nI t), .int (nI r), .int s] : List Value) (some (.int (v_share σ t r s))) := by
  refine zWS.mk0 (⟨rfl, rfl⟩) (fun ad ha => ?_)
  subst ha
  have h := l_share (c_share (G := zGo G o) (ad := ad) t r s (hw.1.1 2 (by omega)).1 (by rw [hw.1.2.2.2.1.1]; exact ht) hr hs (by rw [hw.2.1.2.2.1 t ht]; exact ha))
  exact h
theorem e_shareF {G : zG} {o a : Nat} {σ : zSt} (t r : Nat) (s : Int32) (hw : zW σ) (ht : t < sN σ 2) (hr : r < 5) (hs : v_isOut σ s 0 100 = 0) (ha : ¬ v_allShares σ t - sI σ 21 t r + s ≤ 100) : zWS G o a σ σ yL_share cL_share 5 (some FieldType.int) [(0, 7, 8, 28), (0, 7, 13, 19), (0, 7, 18, 31)] 21 325 1 ([.ref a, .int (nI t), .int (nI r), .int s] : List Value) (some (.int (-1500000))) := by
  refine zWS.mk1 (fun ad ha => ?_)
  subst ha
  have h := l_share_UOE (t_share (G := zGo G o) (ad := ad) t r s hw ht hr hs ha)
  exact h
theorem e_reinstate {G : zG} {o a : Nat} {σ : zSt} (t : Nat) (m p z : Int32) (hw : zW σ) (ht : t < sN σ 2) (hm : v_isOut σ m 0 5 = 0) (hp : v_isOut σ p 0 200 = 0) (hz : (narrow .boolean (.int z) = .int z ∧ fits .boolean (.int z) = true)) (hl : ¬ v_isLimited σ t = 0) : zWS G o a σ (s_reinstate σ t m p z) yL_reinstate cL_reinstate 6 (some FieldType.int) [(0, 9, 10, 28), (0, 9, 15, 19), (0, 9, 20, 31)] 21 326 0 ([.ref a, .int (nI t), .int m, .int p, .int z] : List Value) (some (.int (v_reinstate σ t m p z))) := by
  refine zWS.mk0 (⟨rfl, rfl⟩) (fun ad ha => ?_)
  subst ha
  have h := l_reinstate (c_reinstate (G := zGo G o) (ad := ad) t m p z (hw.1.1 2 (by omega)).1 (by rw [hw.1.2.2.2.1.1]; exact ht) hm hp hz (by rw [hw.2.1.2.2.1 t ht]; exact hl))
  exact h
theorem e_reinstateF {G : zG} {o a : Nat} {σ : zSt} (t : Nat) (m p z : Int32) (hw : zW σ) (ht : t < sN σ 2) (hm : v_isOut σ m 0 5 = 0) (hp : v_isOut σ p 0 200 = 0) (hz : (narrow .boolean (.int z) = .int z ∧ fits .boolean (.int z) = true)) (hl : v_isLimited σ t = 0) : zWS G o a σ σ yL_reinstate cL_reinstate 6 (some FieldType.int) [(0, 9, 10, 28), (0, 9, 15, 19), (0, 9, 20, 31)] 21 326 1 ([.ref a, .int (nI t), .int m, .int p, .int z] : List Value) (some (.int (-1500000))) := by
  refine zWS.mk1 (fun ad ha => ?_)
  subst ha
  have h := l_reinstate_UOE (t_reinstate (G := zGo G o) (ad := ad) t m p z hw ht hm hp hz hl)
  exact h
theorem e_setPremium {G : zG} {o a : Nat} {σ : zSt} (t : Nat) (v : Int32) (hw : zW σ) (ht : t < sN σ 2) (hv : v_isOut σ v 0 1000000 = 0) : zWS G o a σ (s_setPremium σ t v) yL_setPremium cL_setPremium 4 (some FieldType.int) [(0, 6, 7, 28), (0, 6, 11, 19)] 5 109 0 ([.ref a, .int (nI t), .int v] : List Value) (some (.int (v_setPremium σ t v))) := by
  refine zWS.mk0 (⟨rfl, rfl⟩) (fun ad ha => ?_)
  subst ha
  have h := l_setPremium (c_setPremium (G := zGo G o) (ad := ad) t v (hw.1.1 2 (by omega)).1 (by rw [hw.1.2.2.2.1.1]; exact ht) hv)
  exact h
theorem e_setDays {G : zG} {o a : Nat} {σ : zSt} (t : Nat) (v : Int32) (hw : zW σ) (ht : t < sN σ 2) (hv : v_isOut σ v 1 9 = 0) : zWS G o a σ (s_setDays σ t v) yL_setDays cL_setDays 4 (some FieldType.int) [(0, 6, 7, 28), (0, 6, 11, 19)] 5 109 0 ([.ref a, .int (nI t), .int v] : List Value) (some (.int (v_setDays σ t v))) := by
  refine zWS.mk0 (⟨rfl, rfl⟩) (fun ad ha => ?_)
  subst ha
  have h := l_setDays (c_setDays (G := zGo G o) (ad := ad) t v (hw.1.1 2 (by omega)).1 (by rw [hw.1.2.2.2.1.1]; exact ht) hv)
  exact h
theorem e_setAmount {G : zG} {o a : Nat} {σ : zSt} (k : Nat) (v : Int32) (hw : zW σ) (hk : k < sN σ 1) (hv : v_isOut σ v 0 1000000 = 0) : zWS G o a σ (s_setAmount σ k v) yL_setAmount cL_setAmount 4 (some FieldType.int) [(0, 6, 7, 28), (0, 6, 11, 19)] 5 109 0 ([.ref a, .int (nI k), .int v] : List Value) (some (.int (v_setAmount σ k v))) := by
  refine zWS.mk0 (⟨rfl, rfl⟩) (fun ad ha => ?_)
  subst ha
  have h := l_setAmount (c_setAmount (G := zGo G o) (ad := ad) k v (hw.1.1 1 (by omega)).1 (by rw [hw.1.2.2.1.1]; exact hk) hv)
  exact h
theorem e_damage {G : zG} {o a : Nat} {σ : zSt} (c z : Nat) (v : Int32) (hw : zW σ) (hc : c < sN σ 3) (hz4 : z < 4) (hz : v_isOut σ (nI z) 0 3 = 0) (hv : v_isOut σ v 0 100 = 0) : zWS G o a σ (s_damage σ c z v) yL_damage cL_damage 5 (some FieldType.int) [(0, 7, 8, 28), (0, 7, 13, 19)] 5 110 0 ([.ref a, .int (nI c), .int (nI z), .int v] : List Value) (some (.int (v_damage σ c z v))) := by
  refine zWS.mk0 (⟨rfl, rfl⟩) (fun ad ha => ?_)
  subst ha
  have h := l_damage (c_damage (G := zGo G o) (ad := ad) c z v (hw.1.1 3 (by omega)).1 (by rw [hw.1.2.2.2.2.1.1]; exact hc) hz4 hz hv)
  exact h
theorem e_handOn {G : zG} {o a : Nat} {σ : zSt} (i j : Nat) (x y : Int32) (hi : i < 5) (hj : j < 5) (hne : ¬ nI i = nI j) (hx : v_isOut σ x 0 1000000 = 0) (hy : v_isOut σ y 0 1000000 = 0) : zWS G o a σ (s_handOn σ i j x y) yL_handOn cL_handOn 6 (some FieldType.int) [(0, 17, 18, 28), (0, 17, 23, 19)] 3 67 0 ([.ref a, .int (nI i), .int (nI j), .int x, .int y] : List Value) (some (.int (if v_handOn σ i j x y = 0 then 0 else 1))) := by
  refine zWS.mk0 (by unfold s_handOn; split <;> exact ⟨rfl, rfl⟩) (fun ad ha => ?_)
  subst ha
  have h := l_handOn (c_handOn (G := zGo G o) (ad := ad) i j x y hi hj hne hx hy)
  exact h
theorem e_fail {G : zG} {o a : Nat} {σ : zSt} (r : Nat) (z : Int32) (hw : zW σ) (hr : r < 5) (hz : (narrow .boolean (.int z) = .int z ∧ fits .boolean (.int z) = true)) : zWS G o a σ (s_fail σ r z) yL_fail cL_fail 4 (some FieldType.int) [(0, 14, 15, 28)] 3 65 0 ([.ref a, .int (nI r), .int z] : List Value) (some (.int (if v_fail σ r z = 0 then 0 else 1))) := by
  refine zWS.mk0 (⟨rfl, rfl⟩) (fun ad ha => ?_)
  subst ha
  have h := l_fail (c_fail (G := zGo G o) (ad := ad) r z hr hz (hw.2.2.1.2.2.2.2 r hr).ok)
  exact h
theorem e_left {G : zG} {o a : Nat} {σ : zSt} (k : Nat) (hw : zW σ) (hk : k < sN σ 1) : zWS G o a σ (s_settle σ) yL_left cL_left 3 (some FieldType.long) [(0, 5, 6, 28)] 15 425 0 ([.ref a, .int (nI k)] : List Value) (some (.long (v_left σ k))) := by
  refine zWS.mk ((settle_W hw).2.2.1) (fun ad ha => ?_)
  subst ha
  have h := l_left (c_left (G := zGo G o) (ad := ad) k hw hk)
  exact h
theorem e_taken {G : zG} {o a : Nat} {σ : zSt} (t : Nat) (hw : zW σ) (ht : t < sN σ 2) : zWS G o a σ (s_settle σ) yL_taken cL_taken 3 (some FieldType.long) [(0, 5, 6, 28)] 15 424 0 ([.ref a, .int (nI t)] : List Value) (some (.long (v_taken σ t))) := by
  refine zWS.mk ((settle_W hw).2.2.1) (fun ad ha => ?_)
  subst ha
  have h := l_taken (c_taken (G := zGo G o) (ad := ad) t hw ht)
  exact h
theorem e_owed {G : zG} {o a : Nat} {σ : zSt} (t : Nat) (hw : zW σ) (ht : t < sN σ 2) : zWS G o a σ (s_settle σ) yL_owed cL_owed 3 (some FieldType.long) [(0, 5, 6, 28)] 15 424 0 ([.ref a, .int (nI t)] : List Value) (some (.long (v_owed σ t))) := by
  refine zWS.mk ((settle_W hw).2.2.1) (fun ad ha => ?_)
  subst ha
  have h := l_owed (c_owed (G := zGo G o) (ad := ad) t hw ht)
  exact h
theorem e_lost {G : zG} {o a : Nat} {σ : zSt} (r : Nat) (hw : zW σ) (hr : r < 5) : zWS G o a σ (s_settle σ) yL_lost cL_lost 3 (some FieldType.long) [(0, 5, 6, 28)] 15 424 0 ([.ref a, .int (nI r)] : List Value) (some (.long (v_lost σ r))) := by
  refine zWS.mk ((settle_W hw).2.2.1) (fun ad ha => ?_)
  subst ha
  have h := l_lost (c_lost (G := zGo G o) (ad := ad) r hw hr)
  exact h
theorem e_comes {G : zG} {o a : Nat} {σ : zSt} (r : Nat) (hw : zW σ) (hr : r < 5) : zWS G o a σ (s_settlePool σ) yL_comes cL_comes 3 (some FieldType.long) [(0, 5, 6, 28)] 18 502 0 ([.ref a, .int (nI r)] : List Value) (some (.long (v_comes σ r))) := by
  refine zWS.mk ((settlePool_W hw).2.2.1) (fun ad ha => ?_)
  subst ha
  have h := l_comes (c_comes (G := zGo G o) (ad := ad) r hw hr)
  exact h
theorem e_stays {G : zG} {o a : Nat} {σ : zSt} (r : Nat) (hw : zW σ) (hr : r < 5) : zWS G o a σ (s_settlePool σ) yL_stays cL_stays 3 (some FieldType.long) [(0, 5, 6, 28)] 18 502 0 ([.ref a, .int (nI r)] : List Value) (some (.long (v_stays σ r))) := by
  refine zWS.mk ((settlePool_W hw).2.2.1) (fun ad ha => ?_)
  subst ha
  have h := l_stays (c_stays (G := zGo G o) (ad := ad) r hw hr)
  exact h
theorem e_events {G : zG} {o a : Nat} {σ : zSt} (t z : Nat) (hw : zW σ) (ht : t < sN σ 2) (hz4 : z < 4) (hz : v_isOut σ (nI z) 0 3 = 0) (he : sI σ 8 (t % 8) 0 = 101) : zWS G o a σ (s_settle σ) yL_events cL_events 4 (some FieldType.int) [(0, 6, 7, 28), (0, 6, 11, 19), (0, 6, 15, 31)] 15 426 0 ([.ref a, .int (nI t), .int (nI z)] : List Value) (some (.int (v_events σ t z))) := by
  refine zWS.mk ((settle_W hw).2.2.1) (fun ad ha => ?_)
  subst ha
  have h := l_events (c_events (G := zGo G o) (ad := ad) t z hw ht hz4 hz he)
  exact h
theorem e_eventsF {G : zG} {o a : Nat} {σ : zSt} (t z : Nat) (hw : zW σ) (ht : t < sN σ 2) (hz : v_isOut σ (nI z) 0 3 = 0) (he : ¬ sI σ 8 (t % 8) 0 = 101) : zWS G o a σ σ yL_events cL_events 4 (some FieldType.int) [(0, 6, 7, 28), (0, 6, 11, 19), (0, 6, 15, 31)] 15 426 1 ([.ref a, .int (nI t), .int (nI z)] : List Value) (some (.int (-1500000))) := by
  refine zWS.mk1 (fun ad ha => ?_)
  subst ha
  have h := l_events_UOE (t_events (G := zGo G o) (ad := ad) t z hw ht hz he)
  exact h
theorem e_scenarioNet {G : zG} {o a : Nat} {σ : zSt} (c : Nat) (hw : zW σ) (hc : c < sN σ 3) : zWS G o a σ (s_play σ c) yL_scenarioNet cL_scenarioNet 3 (some FieldType.long) [(0, 5, 6, 28)] 18 526 0 ([.ref a, .int (nI c)] : List Value) (some (.long (v_scNet σ c))) := by
  refine zWS.mk ((play_W (c := c) hw).2.2.1) (fun ad ha => ?_)
  subst ha
  have h := l_scenarioNet (c_scNet (G := zGo G o) (ad := ad) c hw hc)
  exact h
theorem e_tail {G : zG} {o a : Nat} {σ : zSt} (h9 : Int32) (hw : zW σ) (hh : v_isOut σ h9 0 99 = 0) (hne : v_isEmpty σ 3 = 0) : zWS G o a σ (s_playAll σ) yL_tail cL_tail 3 (some FieldType.long) [(0, 5, 6, 19), (0, 5, 11, 93)] 21 587 0 ([.ref a, .int h9] : List Value) (some (.long (v_tail σ h9))) := by
  refine zWS.mk ((playAll_W hw).2.2.1) (fun ad ha => ?_)
  subst ha
  have h := l_tail (c_tail (G := zGo G o) (ad := ad) h9 hw hh hne)
  exact h
theorem e_commuteF {G : zG} {o a : Nat} {σ : zSt} (t : Nat) (p : Int32) (hw : zW σ) (ht : t < sN σ 2) (hp : v_isOut σ p 0 1000000 = 0) (hcm : ¬ sI σ 19 (t % 8) 0 = 0) : zWS G o a σ σ yL_commute cL_commute 4 (some FieldType.long) [(0, 6, 7, 28), (0, 6, 12, 19), (0, 6, 17, 31)] 15 426 1 ([.ref a, .int (nI t), .int p] : List Value) (some (.long (-1500000))) := by
  refine zWS.mk1 (fun ad ha => ?_)
  subst ha
  have h := l_commute_UOE (t_commute (G := zGo G o) (ad := ad) t p hw ht hp hcm)
  exact h
