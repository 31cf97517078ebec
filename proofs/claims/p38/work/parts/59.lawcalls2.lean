/-! the law's calls: commute, the object's own answers; rooms of what is made -/
theorem policy_le (σ : zSt) (v1 v2 v3 v4 : Int32) : sgc σ ≤ sgc (s_policy σ v1 v2 v3 v4) ∧ sgs σ ≤ sgs (s_policy σ v1 v2 v3 v4) := by
  unfold s_policy
  exact zLeT (aPOL_le σ v1 v2 v3 v4) (zLeT (s_add_mono (aPOL σ v1 v2 v3 v4) 0 (sN σ 0)) (zLeT (aCLd_le (s_add (aPOL σ v1 v2 v3 v4) 0 (sN σ 0)) (sN σ 0)) (s_add_mono (aCLd (s_add (aPOL σ v1 v2 v3 v4) 0 (sN σ 0)) (sN σ 0)) 4 (30 + sN σ 4))))
theorem scenario_le (σ : zSt) (v1 v2 : Int32) : sgc σ ≤ sgc (s_scenario σ v1 v2) ∧ sgs σ ≤ sgs (s_scenario σ v1 v2) := by
  unfold s_scenario
  exact zLeT (aSC_le σ v1 v2) (s_add_mono (aSC σ v1 v2) 3 (sN σ 3))
theorem loss_le (σ : zSt) (p : Nat) (v2 v3 v4 : Int32) : sgc σ ≤ sgc (s_loss σ p v2 v3 v4) ∧ sgs σ ≤ sgs (s_loss σ p v2 v3 v4) := by
  unfold s_loss
  exact zLeT (aCLr_le σ p) (zLeT (zGle (zG_22 (s_happen_22 (aCLr σ p) (sN σ 1) v2 v3 v4))) (zLeT (s_add_mono (s_happen (aCLr σ p) (sN σ 1) v2 v3 v4) 1 (sN σ 1)) (zLeT (ins_mono (s_add (s_happen (aCLr σ p) (sN σ 1) v2 v3 v4) 1 (sN σ 1)) (5 + 4 * 0) (abI (s_add (s_happen (aCLr σ p) (sN σ 1) v2 v3 v4) 1 (sN σ 1)) 0 (sN σ 1) (sZ (s_add (s_happen (aCLr σ p) (sN σ 1) v2 v3 v4) 1 (sN σ 1)) (5 + 4 * 0) + 1) (sZ (s_add (s_happen (aCLr σ p) (sN σ 1) v2 v3 v4) 1 (sN σ 1)) (5 + 4 * 0))) (sN σ 1)) (zGle (zG_22 (uI_22 (s_ins (s_add (s_happen (aCLr σ p) (sN σ 1) v2 v3 v4) 1 (sN σ 1)) (5 + 4 * 0) (abI (s_add (s_happen (aCLr σ p) (sN σ 1) v2 v3 v4) 1 (sN σ 1)) 0 (sN σ 1) (sZ (s_add (s_happen (aCLr σ p) (sN σ 1) v2 v3 v4) 1 (sN σ 1)) (5 + 4 * 0) + 1) (sZ (s_add (s_happen (aCLr σ p) (sN σ 1) v2 v3 v4) 1 (sN σ 1)) (5 + 4 * 0))) (sN σ 1)) 35 0 0 0))))))
theorem treaty_le (σ : zSt) (v2 v3 v4 v5 v6 v7 : Int32) : sgc σ ≤ sgc (s_treaty σ v2 v3 v4 v5 v6 v7) ∧ sgs σ ≤ sgs (s_treaty σ v2 v3 v4 v5 v6 v7) := by
  unfold s_treaty
  exact zLeT (aTR_le σ v2 v3 v4 v5 v6 v7) (zLeT (s_add_mono (aTR σ v2 v3 v4 v5 v6 v7) 2 (sN σ 2)) (zLeT (aCOVr_le (s_add (aTR σ v2 v3 v4 v5 v6 v7) 2 (sN σ 2))) (zLeT (s_add_mono (aCOVr (s_add (aTR σ v2 v3 v4 v5 v6 v7) 2 (sN σ 2))) 6 (sN σ 5)) (zLeT (aCOVt_le (s_add (aCOVr (s_add (aTR σ v2 v3 v4 v5 v6 v7) 2 (sN σ 2))) 6 (sN σ 5))) (zLeT (s_add_mono (aCOVt (s_add (aCOVr (s_add (aTR σ v2 v3 v4 v5 v6 v7) 2 (sN σ 2))) 6 (sN σ 5))) 10 (8 + sN σ 6)) (zGle (zG_22 (uI_22 (s_add (aCOVt (s_add (aCOVr (s_add (aTR σ v2 v3 v4 v5 v6 v7) 2 (sN σ 2))) 6 (sN σ 5))) 10 (8 + sN σ 6)) 35 0 0 0))))))))
/-- a treaty commuted -/
def s_comm (σ : zSt) (t : Nat) (p : Int32) : zSt := (uI (uI (uI (s_settle σ) 19 (t % 8) 0 1) 20 (t % 8) 0 p) 35 0 0 0)
theorem comm_gc (σ : zSt) (t : Nat) (p : Int32) : sgc (s_comm σ t p) = sgc (s_settle σ) ∧ sgs (s_comm σ t p) = sgs (s_settle σ) := by
  unfold s_comm
  exact zG_22 ((uI_22 _ _ _ _ _).trans ((uI_22 _ _ _ _ _).trans (uI_22 _ _ _ _ _)))
theorem e_commute {G : zG} {o a : Nat} {σ : zSt} (t : Nat) (p : Int32) (hw : zW σ) (ht : t < sN σ 2) (hp : v_isOut σ p 0 1000000 = 0) (hcm : sI σ 19 (t % 8) 0 = 0) : zWS G o a σ (s_comm σ t p) yL_commute cL_commute 4 (some FieldType.long) [(0, 6, 7, 28), (0, 6, 12, 19), (0, 6, 17, 31)] 15 426 0 ([.ref a, .int (nI t), .int p] : List Value) (some (.long (v_commute σ t p))) := fun ad ha => by
  have h := l_commute (c_commute (G := zGo G o) (ad := ad) t p hw ht hp hcm)
  have hle := (settle_W hw).2.2.1
  have hg := comm_gc σ t p
  subst ha
  exact ⟨_, _, _, ⟨by omega, by omega⟩, h, fun H hH => ⟨ad, rfl, hH⟩⟩
theorem e_net {G : zG} {o a : Nat} {σ : zSt}  (hw : zW σ) : zWV G o a σ (s_settle σ) yX8_net cX8_net 5 (some FieldType.long) 16 480 0 ([] : List Value) (some (.long (v_net σ))) := by
  refine zWV.mk ((settle_W hw).2.2.1) (fun ad ha => ?_)
  subst ha
  exact c_net (G := zGo G o) (ad := ad) hw
theorem e_isSame {G : zG} {o a : Nat} {σ : zSt} (t : Nat) (hw : zW σ) (ht : t < sN σ 2) (he : sI σ 8 t 0 = 101) : zWV G o a σ (s_run σ 0 (nI t)) yX8_isSame cX8_isSame 3 (some FieldType.boolean) 14 404 0 ([.int (nI t)] : List Value) (some (.int (v_isSame σ t))) := by
  refine zWV.mk ((run0_W (tr := nI t) hw).2.2.1) (fun ad ha => ?_)
  subst ha
  exact c_isSame (G := zGo G o) (ad := ad) t hw ht he
theorem e_meanNet {G : zG} {o a : Nat} {σ : zSt}  (hw : zW σ) (hne : v_isEmpty σ 3 = 0) (hn : vf_n64 (FP.ddiv (FP.l2d (mnS (s_playAll σ) (sZ (s_playAll σ) 3))) (FP.l2d (mnW (s_playAll σ) (sZ (s_playAll σ) 3))))) : zWV G o a σ (s_playAll σ) yX8_meanNet cX8_meanNet 7 (some FieldType.double) 20 560 0 ([] : List Value) (some (.double (v_meanNet σ))) := by
  refine zWV.mk ((playAll_W hw).2.2.1) (fun ad ha => ?_)
  subst ha
  exact c_meanNet (G := zGo G o) (ad := ad) hw hne hn
theorem e_isSound {G : zG} {o a : Nat} {σ : zSt}  (hw : zW σ) : zWV G o a σ (s_isSound σ) yX8_isSound cX8_isSound 1 (some FieldType.boolean) 17 481 0 ([] : List Value) (some (.int (v_isSound σ))) := by
  refine zWV.mk ((isSound_W hw).1.2.2.1) (fun ad ha => ?_)
  subst ha
  exact c_isSound (G := zGo G o) (ad := ad) hw
theorem e_losses {G : zG} {o a : Nat} {σ : zSt} (hw : zW σ) : zWV G o a σ σ yX8_losses cX8_losses 1 (some FieldType.int) 1 20 0 ([] : List Value) (some (.int (nI (sN σ 1)))) := fun ad ha => by
  have h := c_losses (G := zGo G o) (ad := ad) (σ := σ) (hw.1.1 1 (by omega)).1
  unfold v_losses at h
  rw [hw.1.2.2.1.1] at h
  subst ha
  exact ⟨_, 0, 0, ⟨by omega, by omega⟩, h, fun H hH => ⟨ad, rfl, hH⟩⟩
