/-! the law's turns over an invariant of the state (J), whatever it is -/
theorem zPo.sN {x y : zSt} (h : zPo x y) : sN x = sN y := congrArg (fun z => z.2.2.2.2.1) h.2.1
theorem zVf.B {G : zG} {X : zX} {nL pc : Nat} {lo : List (Nat × Value)} {st : List Value} {o a : Nat} {σ : zSt} {f : Nat → Int32} {B B' : Nat} (e : B = B') (kk : zVf G X nL (zLw G o a σ f B') pc lo st) : zVf G X nL (zLw G o a σ f B) pc lo st := e ▸ kk
section ZLT
variable {G : zG} {X : zX} {bs Ls o a : Nat} {ys : Nat → Int32} {rm : Room} {J : zSt → (Nat → Int32) → Int64 → Prop}
def zhJ0 (rm : Room) (J : zSt → (Nat → Int32) → Int64 → Prop) : Prop := ∀ σ f c, J σ f c → zW σ ∧ sgc σ + 5000 ≤ rm.cells ∧ sgs σ + 40000 ≤ rm.slots
def zhJp (J : zSt → (Nat → Int32) → Int64 → Prop) : Prop := ∀ σ τ f c, J τ f c → zW σ → zPo σ τ → J σ f c
def zhJs (J : zSt → (Nat → Int32) → Int64 → Prop) : Prop := ∀ σ f c, J σ f c → J (s_settle σ) f c
def zhJk (J : zSt → (Nat → Int32) → Int64 → Prop) : Prop := ∀ σ f c, J σ f c → zKM (s_settle σ) (sN σ 1) (sN σ 2) c
def zhJt (J : zSt → (Nat → Int32) → Int64 → Prop) : Prop := ∀ σ f c, J σ f c → 0 < sN σ 3 → ∃ (E : zSt → Prop) (tl nn : Nat → Int64), E σ ∧ (∀ ρ, E ρ → J ρ f c ∧ sN ρ = sN σ ∧ v_isEmpty ρ 3 = 0) ∧ (∀ ρ, E ρ → E (s_playAll ρ)) ∧ (∀ ρ, E ρ → ∀ z, z < sN σ 3 → E (s_play ρ z)) ∧ (∀ ρ, E ρ → ∀ h, h < 100 → v_tail ρ (nI h) = tl h) ∧ (∀ ρ, E ρ → ∀ z, z < sN σ 3 → v_scNet ρ z = nn z) ∧
      (∃ z, z < sN σ 3 ∧ nn z = tl 0) ∧ (∀ z, 9 + 10 * z < 100 → ¬ tl (zpv z) < tl (9 + 10 * z)) ∧ (∀ ρ, E ρ → vf_n64 (FP.ddiv (FP.l2d (mnS (s_playAll ρ) (sZ (s_playAll ρ) 3))) (FP.l2d (mnW (s_playAll ρ) (sZ (s_playAll ρ) 3)))) ∧ Op.cmpValue (FP.dcmp (v_meanNet ρ) (FP.l2d (tl 0))) .l ≤ 0)
def zhP (J : zSt → (Nat → Int32) → Int64 → Prop) : Prop := ∀ σ f c, J σ f c → sN σ 0 < 12 → ∀ v1 v2 v3 v4 : Nat, 1 ≤ v1 → v1 ≤ 3000 → v2 < 4 → v3 < 20 → 20 ≤ v4 → v4 < 50 → J (s_policy σ (nI v1) (nI v2) (nI v3) (nI v4)) f c ∧ sN (s_policy σ (nI v1) (nI v2) (nI v3) (nI v4)) = fun q => if q = 0 ∨ q = 4 then sN σ q + 1 else sN σ q
def zhL (J : zSt → (Nat → Int32) → Int64 → Prop) : Prop := ∀ σ f c, J σ f c → sN σ 1 < 30 → ∀ p d t v : Nat, p < sN σ 0 → d < 30 → d ≤ t → t < 40 → v < 900 → ¬ v_inForce σ p (nI d) = 0 → J (s_loss σ p (nI d) (nI t) (nI v)) f c ∧ sN (s_loss σ p (nI d) (nI t) (nI v)) = fun q => if q = 1 then sN σ q + 1 else sN σ q
def zhTr (J : zSt → (Nat → Int32) → Int64 → Prop) : Prop := ∀ σ f c, J σ f c → sN σ 2 < 8 → ∀ v2 v3 v4 v5 v6 v7 : Int32, (sgc (s_treaty σ v2 v3 v4 v5 v6 v7) ≤ sgc σ + 100 ∧ sgs (s_treaty σ v2 v3 v4 v5 v6 v7) ≤ sgs σ + 1000) ∧ (¬ v_isSpan σ v4 v5 = 0 → ¬ v_isBasis σ v3 = 0 → ¬ v_fitsKind σ v2 v6 v7 = 0 → v_isOut σ v7 1 1000000 = 0 → J (s_treaty σ v2 v3 v4 v5 v6 v7) f c ∧ sN (s_treaty σ v2 v3 v4 v5 v6 v7) = fun q => if q = 2 ∨ q = 5 ∨ q = 6 then sN σ q + 1 else sN σ q)
def zhSh (J : zSt → (Nat → Int32) → Int64 → Prop) : Prop := ∀ σ f c, J σ f c → ∀ t r s : Nat, t < sN σ 2 → r < 5 → s ≤ 100 → 0 ≤ v_share σ t r (nI s) ∧ (v_allShares σ t - sI σ 21 t r + nI s ≤ 100 → J (s_share σ t r (nI s)) f c)
def zhHo (J : zSt → (Nat → Int32) → Int64 → Prop) : Prop := ∀ σ f c, J σ f c → ∀ r j x y : Nat, r < 5 → j < 5 → r ≠ j → x < 500 → y < 900 → J (s_handOn σ r j (nI x) (nI y)) f c
def zhF (J : zSt → (Nat → Int32) → Int64 → Prop) : Prop := ∀ σ f c, J σ f c → ∀ r, r < 5 → ∃ (vN vC vS vL : Int32 → Int64) (E : Int32 → zSt → Prop) (z0 : Int32), zB01 z0 ∧ E z0 σ ∧ (∀ z ρ, E z ρ → J ρ f c ∧ sN ρ = sN σ) ∧ (∀ z ρ, E z ρ → sI ρ 31 0 r = z) ∧ (∀ z ρ, E z ρ → E z (s_settle ρ)) ∧ (∀ z ρ, E z ρ → E z (s_settlePool ρ)) ∧ (∀ z ρ, E z ρ → (∃ τ, zPo ρ (s_settle τ)) → ∀ z2, zB01 z2 → E z2 (s_fail ρ r z2)) ∧ (∀ τ ρ, E 1 τ → zW ρ → zPo ρ (s_settle τ) → E 1 ρ) ∧
      (∀ z ρ, E z ρ → v_net ρ = vN z) ∧ (∀ z ρ, E z ρ → v_comes ρ r = vC z) ∧ (∀ z ρ, E z ρ → v_stays ρ r = vS z) ∧ (∀ z ρ, E z ρ → v_lost ρ r = vL z) ∧ ¬ vN 1 < vN 0 ∧ vL 1 = vN 1 - vN 0 ∧ vS 1 = vC 1
def zhC (J : zSt → (Nat → Int32) → Int64 → Prop) : Prop := ∀ σ f c, J σ f c → ∀ t p : Nat, t < sN σ 2 → p < 300 → (f t = 0 ↔ sI (s_settle σ) 19 (t % 8) 0 = 0) ∧ (sI (s_settle σ) 19 (t % 8) 0 = 0 → J (s_settle (s_comm (s_settle σ) t (nI p))) (upd f t 1) (c + (sL (s_settle σ) 3 t 0 + (nI p).toInt64)) ∧ zW (s_comm (s_settle σ) t (nI p)) ∧ sN (s_comm (s_settle σ) t (nI p)) = sN σ ∧ v_taken (s_comm (s_settle σ) t (nI p)) t = sL (s_settle σ) 3 t 0 ∧ sL (s_settle (s_comm (s_settle σ) t (nI p))) 5 t 0 = sL (s_settle σ) 5 t 0) ∧ (¬ sI (s_settle σ) 19 (t % 8) 0 = 0 → J (s_settle σ) (upd f t 1) (c + 0))
def zhR (J : zSt → (Nat → Int32) → Int64 → Prop) : Prop := ∀ σ f c, J σ f c → ∀ t m p : Nat, ∀ z : Int32, t < sN σ 2 → m ≤ 5 → p ≤ 200 → 0 ≤ v_reinstate σ t (nI m) (nI p) z ∧ (¬ v_isLimited σ t = 0 → z = 0 ∨ z = 1 → J (s_reinstate σ t (nI m) (nI p) z) f c)
def zhSP (J : zSt → (Nat → Int32) → Int64 → Prop) : Prop := ∀ σ f c, J σ f c → ∀ t p : Nat, t < sN σ 2 → p < 5000 → ¬ v_setPremium σ t (nI p) < 0 ∧ J (s_setPremium σ t (nI p)) f c
def zhSD (J : zSt → (Nat → Int32) → Int64 → Prop) : Prop := ∀ σ f c, J σ f c → ∀ t d : Nat, t < sN σ 2 → 1 ≤ d → d ≤ 9 → 1 ≤ v_setDays σ t (nI d) ∧ J (s_setDays σ t (nI d)) f c
def zhSA (J : zSt → (Nat → Int32) → Int64 → Prop) : Prop := ∀ σ f c, J σ f c → ∀ k : Nat, k < sN σ 1 → ∀ v, v_isOut σ v 0 1000000 = 0 → (¬ v_setAmount σ k v < 0 ∧ v_isOut σ (v_setAmount σ k v) 0 1000000 = 0) ∧ J (s_setAmount σ k v) f c ∧ ∀ w, v_setAmount (s_setAmount σ k v) k w = v
def zhSc (J : zSt → (Nat → Int32) → Int64 → Prop) : Prop := ∀ σ f c, J σ f c → sN σ 3 < 12 → ∀ d w z x : Nat, d < 40 → 1 ≤ w → w ≤ 9 → z < 4 → x ≤ 100 → ∃ Q R D : zSt, Q = s_scenario σ (nI d) (nI w) ∧ R = s_play Q (sN σ 3) ∧ D = s_damage R (sN σ 3) z (nI x) ∧ J Q f c ∧ J R f c ∧ J D f c ∧ J (s_play D (sN σ 3)) f c ∧ (sN Q = fun q => if q = 3 then sN σ q + 1 else sN σ q) ∧ sN R = sN Q ∧ sN D = sN Q ∧ sN (s_play D (sN σ 3)) = sN Q ∧ v_scNet Q (sN σ 3) = 0 ∧ v_damage R (sN σ 3) z (nI x) = 0 ∧ ¬ v_scNet D (sN σ 3) < 0
def zhE (J : zSt → (Nat → Int32) → Int64 → Prop) : Prop := ∀ σ f c, J σ f c → ∀ t, t < sN σ 2 → ∃ E : zSt → Prop, E σ ∧ (∀ ρ, E ρ → J ρ f c ∧ sN ρ = sN σ) ∧ (∀ ρ, E ρ → E (s_settle ρ)) ∧ (∀ ρ, E ρ → E (s_run ρ 0 (nI t))) ∧ (∀ ρ, E ρ → sI σ 8 t 0 = 101 → ∀ z, z < 4 → v_events ρ t z ≤ nI (sN σ 1) ∧ ¬ v_isSame (s_settle ρ) t = 0) ∧ (∀ ρ, E ρ → (sI ρ 8 t 0 = 101 ↔ sI σ 8 t 0 = 101))
def zhEnd (J : zSt → (Nat → Int32) → Int64 → Prop) : Prop := ∀ σ f c, J σ f c → ∀ ρ, zW ρ → zPo ρ (s_settle σ) → ¬ v_isSound ρ = 0 ∧ J (s_isSound ρ) f c ∧ sN (s_isSound ρ) = sN σ
set_option maxHeartbeats 4000000 in
theorem l_join {i : Nat} (K : zK G X cL_law "LayertreatyLaw" 21 (some .boolean) rm) (Y : zY G bs Ls ys (xs X)) (hL9 : Ls ≤ 260) (hR9 : 60 ≤ rm.frames ∧ 2000 ≤ rm.locals) (hi9 : i < 50) (hJ0 : zhJ0 rm J) (hJp : zhJp J) (hJs : zhJs J) (hJk : zhJk J) (hJt : zhJt J) (hT : ∀ σ f c B, J σ f c → 0 < sN σ 0 → (8 ≤ i → 0 < sN σ 2) → B ≤ 60 * (i + 1) → zVf G X 21 (zLw G o a σ f B) 30 [(0, .ref bs), (1, .ref a), (2, .int (nI (sN σ 0))), (3, .int (nI (sN σ 1))), (4, .int (nI (sN σ 2))), (5, .int (nI (sN σ 3))), (6, .long c), (8, .ref o), (9, .int (nI (i + 1)))] []) {σ : zSt} {f : Nat → Int32} {c : Int64} {B : Nat} (h : J σ f c) (h0 : 0 < sN σ 0) (h2 : 8 ≤ i → 0 < sN σ 2) (hB : B ≤ 60 * i + 30) : zVf G X 21 (zLw G o a σ f B) 1296 [(0, .ref bs), (1, .ref a), (2, .int (nI (sN σ 0))), (3, .int (nI (sN σ 1))), (4, .int (nI (sN σ 2))), (5, .int (nI (sN σ 3))), (6, .long c), (8, .ref o), (9, .int (nI i))] [] := by
  have h9 := hJ0 σ f c h
  have hs := hJs σ f c h
  have hs9 := hJ0 _ f c hs
  refine b_join K Y hL9 hi9 hR9 h9.1 (fun _ => hJk σ f c h) ⟨by omega, by omega⟩ (fun ρ hρ => ?_)
  have hJρ : J ρ f c ∧ sN ρ = sN σ := by
    rcases hρ with rfl | ⟨hw, hp⟩
    · exact ⟨h, rfl⟩
    · exact ⟨hJp ρ _ f c hs hw hp, (zPo.sN hp).trans (settle_W h9.1).2.1.1⟩
  obtain ⟨hJρ, hN⟩ := hJρ
  rw [← hN] at h0 h2 ⊢
  clear hρ
  have hnext : ∀ ρ', J ρ' f c → sN ρ' = sN ρ → zVf G X 21 (zLw G o a ρ' f (B + 24)) 1438 [(0, .ref bs), (1, .ref a), (2, .int (nI (sN ρ 0))), (3, .int (nI (sN ρ 1))), (4, .int (nI (sN ρ 2))), (5, .int (nI (sN ρ 3))), (6, .long c), (8, .ref o), (9, .int (nI i))] [] := fun ρ' hJ' hN' => by
    rw [← hN']
    exact b_next K Y hL9 hi9 hR9 (hJ0 _ f c hJ').1 (hT ρ' f c _ hJ' (by rw [hN']; exact h0) (by rw [hN']; exact h2) (by omega))
  refine b_tests K Y hL9 hi9 hR9 (hJ0 _ f c hJρ).1 (fun h3 => ?_) (hnext ρ hJρ rfl)
  obtain ⟨E, tl, nn, hEσ, hE1, hEa, hEp, hTt, hNn, ⟨z0, hz0, hz1⟩, hmo, hM⟩ := hJt ρ f c hJρ h3
  have h12 : sN ρ 3 ≤ 12 := (hJ0 _ f c hJρ).1.1.2.2.2.2.1.2
  have g1 : ∀ ρ2, E ρ2 → zW ρ2 ∧ sgc ρ2 + ((B + 24) + 0) ≤ rm.cells ∧ sgs ρ2 + 6 * ((B + 24) + 0) ≤ rm.slots ∧ sN ρ2 3 = sN ρ 3 ∧ v_isEmpty ρ2 3 = 0 := fun ρ2 h => by
    obtain ⟨a1, a2, a3⟩ := hE1 ρ2 h
    have := hJ0 _ f c a1
    exact ⟨this.1, by omega, by omega, by rw [a2], a3⟩
  refine b_tailA K Y hL9 hi9 hR9 (hJ0 _ f c hJρ).1 E tl nn hEσ h12 g1 hEa hEp hTt hNn (fun ρ2 hE2 => ?_)
  have e2 := (hE1 ρ2 hE2).2.1
  have e3 : sN ρ 3 = sN ρ2 3 := by rw [e2]
  rw [← e2]
  refine b_tailB (σ := ρ2) K Y hL9 hi9 hR9 (g1 _ hE2).1 E tl nn hE2 (by rw [← e3]; exact h12) (fun ρ3 h => by rw [← e3]; exact g1 ρ3 h) hEa (by rw [← e3]; exact hEp) hTt (by rw [← e3]; exact hNn) (w9 := zis nn (tl 0) (sN ρ2 3)) (zis_ne (by rw [← e3]; exact hz0) hz1) hmo hM (fun ρ3 hE3 => ?_)
  rw [e2]
  exact hnext ρ3 (hE1 ρ3 hE3).1 (hE1 ρ3 hE3).2.1
theorem lo_eq {i p l t s : Nat} {σ : zSt} {f : Nat → Int32} {c : Int64} {B pc : Nat} (e0 : p = sN σ 0) (e1 : l = sN σ 1) (e2 : t = sN σ 2) (e3 : s = sN σ 3) (h : zVf G X 21 (zLw G o a σ f B) pc [(0, .ref bs), (1, .ref a), (2, .int (nI (sN σ 0))), (3, .int (nI (sN σ 1))), (4, .int (nI (sN σ 2))), (5, .int (nI (sN σ 3))), (6, .long c), (8, .ref o), (9, .int (nI i))] []) : zVf G X 21 (zLw G o a σ f B) pc [(0, .ref bs), (1, .ref a), (2, .int (nI p)), (3, .int (nI l)), (4, .int (nI t)), (5, .int (nI s)), (6, .long c), (8, .ref o), (9, .int (nI i))] [] := by
  subst e0
  subst e1
  subst e2
  subst e3
  exact h
theorem m_policy {i : Nat} (K : zK G X cL_law "LayertreatyLaw" 21 (some .boolean) rm) (Y : zY G bs Ls ys (xs X)) (hL9 : Ls ≤ 260) (hR9 : 60 ≤ rm.frames ∧ 2000 ≤ rm.locals) (hi9 : i < 50) {σ : zSt} {f : Nat → Int32} {c : Int64} {B : Nat} (h : J σ f c) (hB : B ≤ 60 * i) (hJ0 : zhJ0 rm J) (hP : zhP J) (hj : ∀ σ f c B, J σ f c → 0 < sN σ 0 → (8 ≤ i → 0 < sN σ 2) → B ≤ 60 * i + 30 → zVf G X 21 (zLw G o a σ f B) 1296 [(0, .ref bs), (1, .ref a), (2, .int (nI (sN σ 0))), (3, .int (nI (sN σ 1))), (4, .int (nI (sN σ 2))), (5, .int (nI (sN σ 3))), (6, .long c), (8, .ref o), (9, .int (nI i))] []) (h2 : 8 ≤ i → 0 < sN σ 2) : zVf G X 21 (zLw G o a σ f B) 123 [(0, .ref bs), (1, .ref a), (2, .int (nI (sN σ 0))), (3, .int (nI (sN σ 1))), (4, .int (nI (sN σ 2))), (5, .int (nI (sN σ 3))), (6, .long c), (8, .ref o), (9, .int (nI i)), (10, .int (nI (8 * i)))] [] := by
  have h9 := hJ0 σ f c h
  have q1 := (zsm_lt (Ls := Ls) (ys := ys) (i := 8 * i + 1) (m := 3000) (by omega))
  have q2 := (zsm_lt (Ls := Ls) (ys := ys) (i := 8 * i + 2) (m := 4) (by omega))
  have q3 := (zsm_lt (Ls := Ls) (ys := ys) (i := 8 * i + 3) (m := 20) (by omega))
  have q4 := (zsm_lt (Ls := Ls) (ys := ys) (i := 8 * i + 4) (m := 30) (by omega))
  have hp := fun h12 => hP σ f c h h12 (1 + zsm Ls ys (8 * i + 1) 3000) (zsm Ls ys (8 * i + 2) 4) (zsm Ls ys (8 * i + 3) 20) (20 + zsm Ls ys (8 * i + 4) 30) (by omega) (by omega) q2 q3 (by omega) (by omega)
  refine b_policy K Y hL9 hi9 hR9 h9.1 (fun h12 => ?_) ⟨by omega, by omega⟩ (fun h12 => ?_) (fun h12 => ?_)
  · have := hJ0 _ f c (hp h12).1
    exact ⟨by omega, by omega⟩
  · have e := (hp h12).2
    refine lo_eq (by rw [e]; rfl) (by rw [e]; rfl) (by rw [e]; rfl) (by rw [e]; rfl) (hj _ f c _ (hp h12).1 ?_ ?_ (by omega))
    · rw [e]
      exact Nat.succ_pos _
    · rw [e]
      exact h2
  · exact hj σ f c _ h (by omega) h2 (by omega)
theorem m_loss {i : Nat} (K : zK G X cL_law "LayertreatyLaw" 21 (some .boolean) rm) (Y : zY G bs Ls ys (xs X)) (hL9 : Ls ≤ 260) (hR9 : 60 ≤ rm.frames ∧ 2000 ≤ rm.locals) (hi9 : i < 50) {σ : zSt} {f : Nat → Int32} {c : Int64} {B : Nat} (h : J σ f c) (hB : B ≤ 60 * i) (hJ0 : zhJ0 rm J) (hL : zhL J) (hj : ∀ σ f c B, J σ f c → 0 < sN σ 0 → (8 ≤ i → 0 < sN σ 2) → B ≤ 60 * i + 30 → zVf G X 21 (zLw G o a σ f B) 1296 [(0, .ref bs), (1, .ref a), (2, .int (nI (sN σ 0))), (3, .int (nI (sN σ 1))), (4, .int (nI (sN σ 2))), (5, .int (nI (sN σ 3))), (6, .long c), (8, .ref o), (9, .int (nI i))] []) (h0 : 0 < sN σ 0) (h2 : 8 ≤ i → 0 < sN σ 2) : zVf G X 21 (zLw G o a σ f B) 215 [(0, .ref bs), (1, .ref a), (2, .int (nI (sN σ 0))), (3, .int (nI (sN σ 1))), (4, .int (nI (sN σ 2))), (5, .int (nI (sN σ 3))), (6, .long c), (8, .ref o), (9, .int (nI i)), (10, .int (nI (8 * i)))] [] := by
  have h9 := hJ0 σ f c h
  have q1 := (zsm_lt (Ls := Ls) (ys := ys) (i := 8 * i + 1) (m := sN σ 0) (by omega))
  have q2 := (zsm_lt (Ls := Ls) (ys := ys) (i := 8 * i + 2) (m := 30) (by omega))
  have q3 := (zsm_lt (Ls := Ls) (ys := ys) (i := 8 * i + 3) (m := 9) (by omega))
  have q4 := (zsm_lt (Ls := Ls) (ys := ys) (i := 8 * i + 4) (m := 900) (by omega))
  have hp := fun hf h30 => hL σ f c h h30 (zsm Ls ys (8 * i + 1) (sN σ 0)) (zsm Ls ys (8 * i + 2) 30) (zsm Ls ys (8 * i + 2) 30 + zsm Ls ys (8 * i + 3) 9) (zsm Ls ys (8 * i + 4) 900) q1 q2 (by omega) (by omega) q4 hf
  refine b_loss K Y hL9 hi9 hR9 h9.1 h0 h9.1.1.2.1.2 h9.1.1.2.2.1.2 (fun hf h30 => ?_) ⟨by omega, by omega⟩ (fun hf h30 => ?_) ?_
  · have := hJ0 _ f c (hp hf h30).1
    exact ⟨by omega, by omega⟩
  · have e := (hp hf h30).2
    refine lo_eq (by rw [e]; rfl) (by rw [e]; rfl) (by rw [e]; rfl) (by rw [e]; rfl) (hj _ f c _ (hp hf h30).1 ?_ ?_ (by omega))
    · rw [e]
      exact h0
    · rw [e]
      exact h2
  · exact hj σ f c _ h h0 h2 (by omega)
theorem m_treaty {i : Nat} (K : zK G X cL_law "LayertreatyLaw" 21 (some .boolean) rm) (Y : zY G bs Ls ys (xs X)) (hL9 : Ls ≤ 260) (hR9 : 60 ≤ rm.frames ∧ 2000 ≤ rm.locals) (hi9 : i < 50) {σ : zSt} {f : Nat → Int32} {c : Int64} {B : Nat} (h : J σ f c) (hB : B ≤ 60 * i) (hJ0 : zhJ0 rm J) (hTr : zhTr J) (hj : ∀ σ f c B, J σ f c → 0 < sN σ 0 → (8 ≤ i → 0 < sN σ 2) → B ≤ 60 * i + 30 → zVf G X 21 (zLw G o a σ f B) 1296 [(0, .ref bs), (1, .ref a), (2, .int (nI (sN σ 0))), (3, .int (nI (sN σ 1))), (4, .int (nI (sN σ 2))), (5, .int (nI (sN σ 3))), (6, .long c), (8, .ref o), (9, .int (nI i))] []) (h0 : 0 < sN σ 0) {adK adV : Nat → Nat} {fm : Nat} (T9 : zTxt G adK adV fm (xs X)) (hs172 : vk_R "LayertreatyLaw" 172 "qsrea" (adK 0) (xs X)) (hs180 : vk_R "LayertreatyLaw" 180 "oac" (adK 1) (xs X)) : zVf G X 21 (zLw G o a σ f B) 312 [(0, .ref bs), (1, .ref a), (2, .int (nI (sN σ 0))), (3, .int (nI (sN σ 1))), (4, .int (nI (sN σ 2))), (5, .int (nI (sN σ 3))), (6, .long c), (8, .ref o), (9, .int (nI i)), (10, .int (nI (8 * i)))] [] := by
  have h9 := hJ0 σ f c h
  refine b_treaty K Y hL9 hi9 hR9 h9.1 T9 hs172 hs180 ⟨by omega, by omega⟩ (fun v2 v3 v4 v5 v6 v7 h8 => ?_) ⟨by omega, by omega⟩ (fun v2 v3 v4 v5 v6 v7 h8 g1 g2 g3 g4 => ?_) (fun h8 => ?_)
  · have := (hTr σ f c h h8 v2 v3 v4 v5 v6 v7).1
    exact ⟨by omega, by omega⟩
  · obtain ⟨hJ', e⟩ := (hTr σ f c h h8 v2 v3 v4 v5 v6 v7).2 g1 g2 g3 g4
    refine lo_eq (by rw [e]; rfl) (by rw [e]; rfl) (by rw [e]; rfl) (by rw [e]; rfl) (hj _ f c _ hJ' ?_ ?_ (by omega))
    · rw [e]
      exact h0
    · rw [e]
      exact fun _ => Nat.succ_pos _
  · exact hj σ f c _ h h0 (fun _ => by omega) (by omega)
theorem m_share {i : Nat} (K : zK G X cL_law "LayertreatyLaw" 21 (some .boolean) rm) (Y : zY G bs Ls ys (xs X)) (hL9 : Ls ≤ 260) (hR9 : 60 ≤ rm.frames ∧ 2000 ≤ rm.locals) (hi9 : i < 50) {σ : zSt} {f : Nat → Int32} {c : Int64} {B : Nat} (h : J σ f c) (hB : B ≤ 60 * i) (hJ0 : zhJ0 rm J) (hSh : zhSh J) (hj : ∀ σ f c B, J σ f c → 0 < sN σ 0 → (8 ≤ i → 0 < sN σ 2) → B ≤ 60 * i + 30 → zVf G X 21 (zLw G o a σ f B) 1296 [(0, .ref bs), (1, .ref a), (2, .int (nI (sN σ 0))), (3, .int (nI (sN σ 1))), (4, .int (nI (sN σ 2))), (5, .int (nI (sN σ 3))), (6, .long c), (8, .ref o), (9, .int (nI i))] []) (h0 : 0 < sN σ 0) (h2 : 8 ≤ i → 0 < sN σ 2) {t r : Nat} (ht : t < sN σ 2) (hr : r < 5) : zVf G X 21 (zLw G o a σ f B) 493 [(0, .ref bs), (1, .ref a), (2, .int (nI (sN σ 0))), (3, .int (nI (sN σ 1))), (4, .int (nI (sN σ 2))), (5, .int (nI (sN σ 3))), (6, .long c), (8, .ref o), (9, .int (nI i)), (10, .int (nI (8 * i))), (12, .int (nI t)), (13, .int (nI r))] [] := by
  have h9 := hJ0 σ f c h
  have q3 := (zsm_lt (Ls := Ls) (ys := ys) (i := 8 * i + 3) (m := 70) (by omega))
  have hp := hSh σ f c h t r (zsm Ls ys (8 * i + 3) 70) ht hr (by omega)
  refine b_share K Y hL9 hi9 hR9 h9.1 ht hr hp.1 ⟨show sgc σ + (B + 0) ≤ _ by omega, show sgs σ + 6 * (B + 0) ≤ _ by omega⟩ ⟨by omega, by omega⟩ (fun ha => ?_) ?_
  · exact hj _ f c _ (hp.2 ha) h0 h2 (by omega)
  · exact hj σ f c _ h h0 h2 (by omega)
theorem m_handOn {i : Nat} (K : zK G X cL_law "LayertreatyLaw" 21 (some .boolean) rm) (Y : zY G bs Ls ys (xs X)) (hL9 : Ls ≤ 260) (hR9 : 60 ≤ rm.frames ∧ 2000 ≤ rm.locals) (hi9 : i < 50) {σ : zSt} {f : Nat → Int32} {c : Int64} {B : Nat} (h : J σ f c) (hB : B ≤ 60 * i) (hJ0 : zhJ0 rm J) (hHo : zhHo J) (hj : ∀ σ f c B, J σ f c → 0 < sN σ 0 → (8 ≤ i → 0 < sN σ 2) → B ≤ 60 * i + 30 → zVf G X 21 (zLw G o a σ f B) 1296 [(0, .ref bs), (1, .ref a), (2, .int (nI (sN σ 0))), (3, .int (nI (sN σ 1))), (4, .int (nI (sN σ 2))), (5, .int (nI (sN σ 3))), (6, .long c), (8, .ref o), (9, .int (nI i))] []) (h0 : 0 < sN σ 0) (h2 : 8 ≤ i → 0 < sN σ 2) {r : Nat} (hr : r < 5) : zVf G X 21 (zLw G o a σ f B) 536 [(0, .ref bs), (1, .ref a), (2, .int (nI (sN σ 0))), (3, .int (nI (sN σ 1))), (4, .int (nI (sN σ 2))), (5, .int (nI (sN σ 3))), (6, .long c), (8, .ref o), (9, .int (nI i)), (10, .int (nI (8 * i))), (13, .int (nI r))] [] := by
  have h9 := hJ0 σ f c h
  have q3 := (zsm_lt (Ls := Ls) (ys := ys) (i := 8 * i + 3) (m := 4) (by omega))
  have q4 := (zsm_lt (Ls := Ls) (ys := ys) (i := 8 * i + 4) (m := 500) (by omega))
  have q5 := (zsm_lt (Ls := Ls) (ys := ys) (i := 8 * i + 5) (m := 900) (by omega))
  have hp := hHo σ f c h r ((r + 1 + zsm Ls ys (8 * i + 3) 4) % 5) (zsm Ls ys (8 * i + 4) 500) (zsm Ls ys (8 * i + 5) 900) hr (by omega) (by omega) q4 q5
  have e : (s_handOn σ r ((r + 1 + zsm Ls ys (8 * i + 3) 4) % 5) (nI (zsm Ls ys (8 * i + 4) 500)) (nI (zsm Ls ys (8 * i + 5) 900))).2.2 = σ.2.2 := by
    unfold s_handOn
    split <;> rfl
  have eN : sN (s_handOn σ r ((r + 1 + zsm Ls ys (8 * i + 3) 4) % 5) (nI (zsm Ls ys (8 * i + 4) 500)) (nI (zsm Ls ys (8 * i + 5) 900))) = sN σ := congrArg (fun z => z.2.2.2.2.1) e
  have g := hJ0 _ f c hp
  refine b_handOn K Y hL9 hi9 hR9 h9.1 hr ⟨by omega, by omega⟩ ⟨by omega, by omega⟩ ?_
  exact lo_eq (by rw [eN]) (by rw [eN]) (by rw [eN]) (by rw [eN]) (hj _ f c _ hp (by rw [eN]; exact h0) (by rw [eN]; exact h2) (by omega))
theorem m_fail {i : Nat} (K : zK G X cL_law "LayertreatyLaw" 21 (some .boolean) rm) (Y : zY G bs Ls ys (xs X)) (hL9 : Ls ≤ 260) (hR9 : 60 ≤ rm.frames ∧ 2000 ≤ rm.locals) (hi9 : i < 50) {σ : zSt} {f : Nat → Int32} {c : Int64} {B : Nat} (h : J σ f c) (hB : B ≤ 60 * i) (hJ0 : zhJ0 rm J) (hJk : zhJk J) (hF : zhF J) (hj : ∀ σ f c B, J σ f c → 0 < sN σ 0 → (8 ≤ i → 0 < sN σ 2) → B ≤ 60 * i + 30 → zVf G X 21 (zLw G o a σ f B) 1296 [(0, .ref bs), (1, .ref a), (2, .int (nI (sN σ 0))), (3, .int (nI (sN σ 1))), (4, .int (nI (sN σ 2))), (5, .int (nI (sN σ 3))), (6, .long c), (8, .ref o), (9, .int (nI i))] []) (h0 : 0 < sN σ 0) (h2 : 8 ≤ i → 0 < sN σ 2) {r : Nat} (hr : r < 5) : zVf G X 21 (zLw G o a σ f B) 592 [(0, .ref bs), (1, .ref a), (2, .int (nI (sN σ 0))), (3, .int (nI (sN σ 1))), (4, .int (nI (sN σ 2))), (5, .int (nI (sN σ 3))), (6, .long c), (8, .ref o), (9, .int (nI i)), (10, .int (nI (8 * i))), (13, .int (nI r))] [] := by
  have h9 := hJ0 σ f c h
  obtain ⟨vN, vC, vS, vL, E, z0, hz0, hEσ, hE1, hEv, hEs, hEp, hEf, hEk, x1, x2, x3, x4, x5, x6, x7⟩ := hF σ f c h r hr
  refine b_fail K Y hL9 hi9 hR9 h9.1 vN vC vS vL E hz0 hEσ hr (fun z ρ hE => ?_) hEv hEs hEp hEf hEk x1 x2 x3 x4 (fun ρ hE => ?_) x5 x6 x7 (fun z ρ hE => ?_)
  · have := hJ0 _ f c (hE1 z ρ hE).1
    exact ⟨this.1, by omega, by omega⟩
  · have := hJk ρ f c (hE1 1 ρ hE).1
    rw [(hE1 1 ρ hE).2] at this
    exact this
  · have e := (hE1 z ρ hE).2
    exact lo_eq (by rw [e]) (by rw [e]) (by rw [e]) (by rw [e]) (hj _ f c _ (hE1 z ρ hE).1 (by rw [e]; exact h0) (by rw [e]; exact h2) (by omega))
theorem m_commute {i : Nat} (K : zK G X cL_law "LayertreatyLaw" 21 (some .boolean) rm) (Y : zY G bs Ls ys (xs X)) (hL9 : Ls ≤ 260) (hR9 : 60 ≤ rm.frames ∧ 2000 ≤ rm.locals) (hi9 : i < 50) {σ : zSt} {f : Nat → Int32} {c : Int64} {B : Nat} (h : J σ f c) (hB : B ≤ 60 * i) (hJ0 : zhJ0 rm J) (hJs : zhJs J) (hC : zhC J) (hj : ∀ σ f c B, J σ f c → 0 < sN σ 0 → (8 ≤ i → 0 < sN σ 2) → B ≤ 60 * i + 30 → zVf G X 21 (zLw G o a σ f B) 1296 [(0, .ref bs), (1, .ref a), (2, .int (nI (sN σ 0))), (3, .int (nI (sN σ 1))), (4, .int (nI (sN σ 2))), (5, .int (nI (sN σ 3))), (6, .long c), (8, .ref o), (9, .int (nI i))] []) (h0 : 0 < sN σ 0) (h2 : 8 ≤ i → 0 < sN σ 2) {t : Nat} (ht : t < sN σ 2) : zVf G X 21 (zLw G o a σ f B) 797 [(0, .ref bs), (1, .ref a), (2, .int (nI (sN σ 0))), (3, .int (nI (sN σ 1))), (4, .int (nI (sN σ 2))), (5, .int (nI (sN σ 3))), (6, .long c), (8, .ref o), (9, .int (nI i)), (10, .int (nI (8 * i))), (12, .int (nI t))] [] := by
  have h9 := hJ0 σ f c h
  have q4 := (zsm_lt (Ls := Ls) (ys := ys) (i := 8 * i + 4) (m := 300) (by omega))
  have hs := hJs σ f c h
  have g := hJ0 _ f c hs
  have eτ : sN (s_settle σ) = sN σ := (settle_W h9.1).2.1.1
  have h8 : sN σ 2 ≤ 8 := h9.1.1.2.2.2.1.2
  obtain ⟨hov, hA, hB'⟩ := hC σ f c h t (zsm Ls ys (8 * i + 4) 300) ht q4
  have gA9 := fun hc => hJ0 _ _ _ (hA hc).1
  refine b_commute K Y hL9 hi9 hR9 h9.1 ht (by omega) g.1 (by rw [eτ]; exact ht) hov (fun hc => (hA hc).2.1) (fun hc => by rw [(hA hc).2.2.1]; exact ht) (fun hc => by rw [(settle_W (hA hc).2.1).2.1.1, (hA hc).2.2.1]; exact ht) (fun hc => (hA hc).2.2.2) ⟨by omega, by omega⟩ ⟨by omega, by omega⟩ ⟨by omega, by omega⟩ (fun hc => ?_) (fun hc => ?_) (fun hc => ?_) (fun hc => ?_)
  · have k1 := gA9 hc
    have k2 := (settle_W (hA hc).2.1).2.2.1
    exact ⟨by omega, by omega⟩
  · have k1 := gA9 hc
    exact ⟨by omega, by omega⟩
  · have e : sN (s_settle (s_comm (s_settle σ) t (nI (zsm Ls ys (8 * i + 4) 300)))) = sN σ := ((settle_W (hA hc).2.1).2.1.1).trans (hA hc).2.2.1
    exact lo_eq (by rw [e]) (by rw [e]) (by rw [e]) (by rw [e]) (hj _ _ _ _ (hA hc).1 (by rw [e]; exact h0) (by rw [e]; exact h2) (by omega))
  · exact lo_eq (by rw [eτ]) (by rw [eτ]) (by rw [eτ]) (by rw [eτ]) (hj _ _ _ _ (hB' hc) (by rw [eτ]; exact h0) (by rw [eτ]; exact h2) (by omega))
theorem m_setPD {i : Nat} (K : zK G X cL_law "LayertreatyLaw" 21 (some .boolean) rm) (Y : zY G bs Ls ys (xs X)) (hL9 : Ls ≤ 260) (hR9 : 60 ≤ rm.frames ∧ 2000 ≤ rm.locals) (hi9 : i < 50) {σ : zSt} {f : Nat → Int32} {c : Int64} {B : Nat} (h : J σ f c) (hB : B ≤ 60 * i + 1) (hJ0 : zhJ0 rm J) (hSP : zhSP J) (hSD : zhSD J) (hj : ∀ σ f c B, J σ f c → 0 < sN σ 0 → (8 ≤ i → 0 < sN σ 2) → B ≤ 60 * i + 30 → zVf G X 21 (zLw G o a σ f B) 1296 [(0, .ref bs), (1, .ref a), (2, .int (nI (sN σ 0))), (3, .int (nI (sN σ 1))), (4, .int (nI (sN σ 2))), (5, .int (nI (sN σ 3))), (6, .long c), (8, .ref o), (9, .int (nI i))] []) (h0 : 0 < sN σ 0) (h2 : 8 ≤ i → 0 < sN σ 2) {t : Nat} (ht : t < sN σ 2) : zVf G X 21 (zLw G o a σ f B) 986 [(0, .ref bs), (1, .ref a), (2, .int (nI (sN σ 0))), (3, .int (nI (sN σ 1))), (4, .int (nI (sN σ 2))), (5, .int (nI (sN σ 3))), (6, .long c), (8, .ref o), (9, .int (nI i)), (10, .int (nI (8 * i))), (12, .int (nI t))] [] := by
  have h9 := hJ0 σ f c h
  have q6 := (zsm_lt (Ls := Ls) (ys := ys) (i := 8 * i + 6) (m := 5000) (by omega))
  have q7 := (zsm_lt (Ls := Ls) (ys := ys) (i := 8 * i + 7) (m := 9) (by omega))
  have k1 := hSP σ f c h t (zsm Ls ys (8 * i + 6) 5000) ht q6
  have k2 := hSD _ f c k1.2 t (1 + zsm Ls ys (8 * i + 7) 9) ht (by omega) (by omega)
  refine b_setPD K Y hL9 hi9 hR9 h9.1 ht (hJ0 _ f c k1.2).1 ht k1.1 k2.1 ⟨by omega, by omega⟩ ⟨show sgc σ + (B + 0) ≤ _ by omega, show sgs σ + 6 * (B + 0) ≤ _ by omega⟩ ⟨show sgc σ + (B + 0) ≤ _ by omega, show sgs σ + 6 * (B + 0) ≤ _ by omega⟩ ?_
  exact hj _ f c _ k2.2 h0 h2 (by omega)
theorem m_reinstate {i : Nat} (K : zK G X cL_law "LayertreatyLaw" 21 (some .boolean) rm) (Y : zY G bs Ls ys (xs X)) (hL9 : Ls ≤ 260) (hR9 : 60 ≤ rm.frames ∧ 2000 ≤ rm.locals) (hi9 : i < 50) {σ : zSt} {f : Nat → Int32} {c : Int64} {B : Nat} (h : J σ f c) (hB : B ≤ 60 * i) (hJ0 : zhJ0 rm J) (hSP : zhSP J) (hSD : zhSD J) (hR : zhR J) (hj : ∀ σ f c B, J σ f c → 0 < sN σ 0 → (8 ≤ i → 0 < sN σ 2) → B ≤ 60 * i + 30 → zVf G X 21 (zLw G o a σ f B) 1296 [(0, .ref bs), (1, .ref a), (2, .int (nI (sN σ 0))), (3, .int (nI (sN σ 1))), (4, .int (nI (sN σ 2))), (5, .int (nI (sN σ 3))), (6, .long c), (8, .ref o), (9, .int (nI i))] []) (h0 : 0 < sN σ 0) (h2 : 8 ≤ i → 0 < sN σ 2) {t : Nat} (ht : t < sN σ 2) : zVf G X 21 (zLw G o a σ f B) 928 [(0, .ref bs), (1, .ref a), (2, .int (nI (sN σ 0))), (3, .int (nI (sN σ 1))), (4, .int (nI (sN σ 2))), (5, .int (nI (sN σ 3))), (6, .long c), (8, .ref o), (9, .int (nI i)), (10, .int (nI (8 * i))), (12, .int (nI t))] [] := by
  have h9 := hJ0 σ f c h
  have q3 := (zsm_lt (Ls := Ls) (ys := ys) (i := 8 * i + 3) (m := 6) (by omega))
  have q4 := (zsm_lt (Ls := Ls) (ys := ys) (i := 8 * i + 4) (m := 201) (by omega))
  have hp := fun z9 => hR σ f c h t (zsm Ls ys (8 * i + 3) 6) (zsm Ls ys (8 * i + 4) 201) z9 ht (by omega) (by omega)
  refine b_reinstate K Y hL9 hi9 hR9 h9.1 ht (fun z9 => (hp z9).1) ⟨by omega, by omega⟩ (fun z9 => ⟨show sgc σ + (B + 0) ≤ _ by omega, show sgs σ + 6 * (B + 0) ≤ _ by omega⟩) ⟨by omega, by omega⟩ (fun hl z9 hz => ?_) (fun hl => ?_)
  · exact m_setPD K Y hL9 hR9 hi9 ((hp z9).2 hl hz) (by omega) hJ0 hSP hSD hj h0 h2 ht
  · exact m_setPD K Y hL9 hR9 hi9 h (by omega) hJ0 hSP hSD hj h0 h2 ht
theorem m_setAmount {i : Nat} (K : zK G X cL_law "LayertreatyLaw" 21 (some .boolean) rm) (Y : zY G bs Ls ys (xs X)) (hL9 : Ls ≤ 260) (hR9 : 60 ≤ rm.frames ∧ 2000 ≤ rm.locals) (hi9 : i < 50) {σ : zSt} {f : Nat → Int32} {c : Int64} {B : Nat} (h : J σ f c) (hB : B ≤ 60 * i) (hJ0 : zhJ0 rm J) (hSA : zhSA J) (hj : ∀ σ f c B, J σ f c → 0 < sN σ 0 → (8 ≤ i → 0 < sN σ 2) → B ≤ 60 * i + 30 → zVf G X 21 (zLw G o a σ f B) 1296 [(0, .ref bs), (1, .ref a), (2, .int (nI (sN σ 0))), (3, .int (nI (sN σ 1))), (4, .int (nI (sN σ 2))), (5, .int (nI (sN σ 3))), (6, .long c), (8, .ref o), (9, .int (nI i))] []) (h0 : 0 < sN σ 0) (h2 : 8 ≤ i → 0 < sN σ 2) (h1 : 0 < sN σ 1) : zVf G X 21 (zLw G o a σ f B) 1046 [(0, .ref bs), (1, .ref a), (2, .int (nI (sN σ 0))), (3, .int (nI (sN σ 1))), (4, .int (nI (sN σ 2))), (5, .int (nI (sN σ 3))), (6, .long c), (8, .ref o), (9, .int (nI i)), (10, .int (nI (8 * i)))] [] := by
  have h9 := hJ0 σ f c h
  have q1 := (zsm_lt (Ls := Ls) (ys := ys) (i := 8 * i + 1) (m := sN σ 1) (by omega))
  have q2 := (zsm_lt (Ls := Ls) (ys := ys) (i := 8 * i + 2) (m := 900) (by omega))
  have a1 := hSA σ f c h (zsm Ls ys (8 * i + 1) (sN σ 1)) q1 (nI (zsm Ls ys (8 * i + 2) 900)) (isOut_nI (lo := 0) (hi := 1000000) (by omega) (by omega) (by omega))
  have a2 := hSA _ f c a1.2.1 (zsm Ls ys (8 * i + 1) (sN σ 1)) q1 _ a1.1.2
  refine b_setAmount K Y hL9 hi9 hR9 h9.1 ⟨by omega, by omega⟩ h1 h9.1.1.2.2.1.2 a1.1.1 a1.1.2 (hJ0 _ f c a1.2.1).1 q1 (a1.2.2 _) ⟨show sgc σ + (B + 0) ≤ _ by omega, show sgs σ + 6 * (B + 0) ≤ _ by omega⟩ ⟨show sgc σ + (B + 0) ≤ _ by omega, show sgs σ + 6 * (B + 0) ≤ _ by omega⟩ ?_
  exact hj _ f c _ a2.2.1 h0 h2 (by omega)
theorem m_scenario {i : Nat} (K : zK G X cL_law "LayertreatyLaw" 21 (some .boolean) rm) (Y : zY G bs Ls ys (xs X)) (hL9 : Ls ≤ 260) (hR9 : 60 ≤ rm.frames ∧ 2000 ≤ rm.locals) (hi9 : i < 50) {σ : zSt} {f : Nat → Int32} {c : Int64} {B : Nat} (h : J σ f c) (hB : B ≤ 60 * i) (hJ0 : zhJ0 rm J) (hSc : zhSc J) (hj : ∀ σ f c B, J σ f c → 0 < sN σ 0 → (8 ≤ i → 0 < sN σ 2) → B ≤ 60 * i + 30 → zVf G X 21 (zLw G o a σ f B) 1296 [(0, .ref bs), (1, .ref a), (2, .int (nI (sN σ 0))), (3, .int (nI (sN σ 1))), (4, .int (nI (sN σ 2))), (5, .int (nI (sN σ 3))), (6, .long c), (8, .ref o), (9, .int (nI i))] []) (h0 : 0 < sN σ 0) (h2 : 8 ≤ i → 0 < sN σ 2) : zVf G X 21 (zLw G o a σ f B) 1115 [(0, .ref bs), (1, .ref a), (2, .int (nI (sN σ 0))), (3, .int (nI (sN σ 1))), (4, .int (nI (sN σ 2))), (5, .int (nI (sN σ 3))), (6, .long c), (8, .ref o), (9, .int (nI i)), (10, .int (nI (8 * i)))] [] := by
  have h9 := hJ0 σ f c h
  have q1 := (zsm_lt (Ls := Ls) (ys := ys) (i := 8 * i + 1) (m := 40) (by omega))
  have q2 := (zsm_lt (Ls := Ls) (ys := ys) (i := 8 * i + 2) (m := 9) (by omega))
  have q3 := (zsm_lt (Ls := Ls) (ys := ys) (i := 8 * i + 3) (m := 4) (by omega))
  have q4 := (zsm_lt (Ls := Ls) (ys := ys) (i := 8 * i + 4) (m := 101) (by omega))
  have hp := fun h12 => hSc σ f c h h12 (zsm Ls ys (8 * i + 1) 40) (1 + zsm Ls ys (8 * i + 2) 9) (zsm Ls ys (8 * i + 3) 4) (zsm Ls ys (8 * i + 4) 101) q1 (by omega) (by omega) q3 (by omega)
  refine b_scenario K Y hL9 hi9 hR9 h9.1 ⟨by omega, by omega⟩ ⟨by omega, by omega⟩ (fun h12 => ?_) (fun h12 => ?_) ?_
  · obtain ⟨Q, R, D, rfl, rfl, rfl, j1, j2, j3, j4, n1, n2, n3, n4, x1, x2, x3⟩ := hp h12
    have k1 := hJ0 _ f c j1
    have k2 := hJ0 _ f c j2
    have k3 := hJ0 _ f c j3
    have k4 := hJ0 _ f c j4
    refine ⟨k1.1, ?_, k2.1, ?_, k3.1, ?_, x1, x2, x3, ⟨by omega, by omega⟩, ⟨by omega, by omega⟩, ⟨by omega, by omega⟩, ⟨by omega, by omega⟩⟩
    · rw [n1]
      exact Nat.lt_succ_self _
    · rw [n2, n1]
      exact Nat.lt_succ_self _
    · rw [n3, n1]
      exact Nat.lt_succ_self _
  · obtain ⟨Q, R, D, rfl, rfl, rfl, j1, j2, j3, j4, n1, n2, n3, n4, x1, x2, x3⟩ := hp h12
    have e := n4.trans n1
    refine lo_eq (by rw [e]; rfl) (by rw [e]; rfl) (by rw [e]; rfl) (by rw [e]; rfl) (hj _ f c _ j4 ?_ ?_ (by omega))
    · rw [e]
      exact h0
    · rw [e]
      exact h2
  · exact hj σ f c _ h h0 h2 (by omega)
theorem m_events {i : Nat} (K : zK G X cL_law "LayertreatyLaw" 21 (some .boolean) rm) (Y : zY G bs Ls ys (xs X)) (hL9 : Ls ≤ 260) (hR9 : 60 ≤ rm.frames ∧ 2000 ≤ rm.locals) (hi9 : i < 50) {σ : zSt} {f : Nat → Int32} {c : Int64} {B : Nat} (h : J σ f c) (hB : B ≤ 60 * i) (hJ0 : zhJ0 rm J) (hE : zhE J) (hj : ∀ σ f c B, J σ f c → 0 < sN σ 0 → (8 ≤ i → 0 < sN σ 2) → B ≤ 60 * i + 30 → zVf G X 21 (zLw G o a σ f B) 1296 [(0, .ref bs), (1, .ref a), (2, .int (nI (sN σ 0))), (3, .int (nI (sN σ 1))), (4, .int (nI (sN σ 2))), (5, .int (nI (sN σ 3))), (6, .long c), (8, .ref o), (9, .int (nI i))] []) (h0 : 0 < sN σ 0) (h2 : 8 ≤ i → 0 < sN σ 2) {t : Nat} (ht : t < sN σ 2) : zVf G X 21 (zLw G o a σ f B) 1239 [(0, .ref bs), (1, .ref a), (2, .int (nI (sN σ 0))), (3, .int (nI (sN σ 1))), (4, .int (nI (sN σ 2))), (5, .int (nI (sN σ 3))), (6, .long c), (8, .ref o), (9, .int (nI i)), (10, .int (nI (8 * i))), (12, .int (nI t))] [] := by
  have h9 := hJ0 σ f c h
  obtain ⟨E, hEσ, hE1, hE2, hE3, hE4, hE6⟩ := hE σ f c h t ht
  have h8 : sN σ 2 ≤ 8 := h9.1.1.2.2.2.1.2
  refine b_events K Y hL9 hi9 hR9 h9.1 (by omega) E hEσ (fun ρ hρ => ?_) hE2 hE3 hE4 hE6 (fun ρ hρ => ?_)
  · obtain ⟨j1, n1⟩ := hE1 ρ hρ
    have k1 := hJ0 _ f c j1
    exact ⟨k1.1, by rw [n1]; exact ht, by omega, by omega⟩
  · obtain ⟨j1, n1⟩ := hE1 ρ hρ
    exact lo_eq (by rw [n1]) (by rw [n1]) (by rw [n1]) (by rw [n1]) (hj _ f c _ j1 (by rw [n1]; exact h0) (by rw [n1]; exact h2) (by omega))
set_option maxHeartbeats 4000000 in
theorem m_turn {i : Nat} (K : zK G X cL_law "LayertreatyLaw" 21 (some .boolean) rm) (Y : zY G bs Ls ys (xs X)) (hL9 : Ls ≤ 260) (hR9 : 60 ≤ rm.frames ∧ 2000 ≤ rm.locals) (hi9 : i < 50) (hJ0 : zhJ0 rm J) (hJp : zhJp J) (hJs : zhJs J) (hJk : zhJk J) (hJt : zhJt J) (hP : zhP J) (hL : zhL J) (hTr : zhTr J) (hSh : zhSh J) (hHo : zhHo J) (hF : zhF J) (hC : zhC J) (hR : zhR J) (hSP : zhSP J) (hSD : zhSD J) (hSA : zhSA J) (hSc : zhSc J) (hE : zhE J) {adK adV : Nat → Nat} {fm : Nat} (T9 : zTxt G adK adV fm (xs X)) (hs172 : vk_R "LayertreatyLaw" 172 "qsrea" (adK 0) (xs X)) (hs180 : vk_R "LayertreatyLaw" 180 "oac" (adK 1) (xs X)) (hT : ∀ σ f c B, J σ f c → 0 < sN σ 0 → (8 ≤ i → 0 < sN σ 2) → B ≤ 60 * (i + 1) → zVf G X 21 (zLw G o a σ f B) 30 [(0, .ref bs), (1, .ref a), (2, .int (nI (sN σ 0))), (3, .int (nI (sN σ 1))), (4, .int (nI (sN σ 2))), (5, .int (nI (sN σ 3))), (6, .long c), (8, .ref o), (9, .int (nI (i + 1)))] []) : ∀ σ f c B, J σ f c → (1 ≤ i → 0 < sN σ 0) → (9 ≤ i → 0 < sN σ 2) → B ≤ 60 * i → zVf G X 21 (zLw G o a σ f B) 30 [(0, .ref bs), (1, .ref a), (2, .int (nI (sN σ 0))), (3, .int (nI (sN σ 1))), (4, .int (nI (sN σ 2))), (5, .int (nI (sN σ 3))), (6, .long c), (8, .ref o), (9, .int (nI i))] [] := by
  intro σ f c B h hi0 hi2 hB
  have h9 := hJ0 σ f c h
  have h8 : sN σ 2 ≤ 8 := h9.1.1.2.2.2.1.2
  have h30 : sN σ 1 ≤ 30 := h9.1.1.2.2.1.2
  have hj : ∀ σ f c B, J σ f c → 0 < sN σ 0 → (8 ≤ i → 0 < sN σ 2) → B ≤ 60 * i + 30 → zVf G X 21 (zLw G o a σ f B) 1296 [(0, .ref bs), (1, .ref a), (2, .int (nI (sN σ 0))), (3, .int (nI (sN σ 1))), (4, .int (nI (sN σ 2))), (5, .int (nI (sN σ 3))), (6, .long c), (8, .ref o), (9, .int (nI i))] [] := fun σ f c B h h0 h2 hB => l_join K Y hL9 hR9 hi9 hJ0 hJp hJs hJk hJt hT h h0 h2 hB
  refine b_head K Y hL9 hi9 hR9 h9.1 h8 ⟨by omega, by omega⟩ (fun w t r hw ht8 hr5 htT hw0 hw1 hw2 => ?_)
  have h0 : ¬ w = 0 → 0 < sN σ 0 := fun q => hi0 (by omega)
  have h2 : 3 ≤ w → (8 ≤ i → 0 < sN σ 2) := fun q _ => hi2 (by omega)
  have hp2 : 3 ≤ w → 0 < sN σ 2 := fun q => hi2 (by omega)
  have h2' : ¬ (w = 2) → (8 ≤ i → 0 < sN σ 2) := fun q q8 => by
    have h4 : 9 ≤ i := by omega
    exact hi2 h4
  refine b_disp K Y hL9 hi9 hR9 h9.1 hw ⟨by omega, by omega⟩ (fun e => ?_) (fun e => ?_) (fun e => ?_) (fun e => ?_) (fun e => ?_) (fun e => ?_) (fun e => ?_) (fun e => ?_) (fun e e1 => ?_) (fun e => ?_) (fun e => ?_)
  · exact m_policy K Y hL9 hR9 hi9 h hB hJ0 hP hj (h2' (by omega))
  · exact m_loss K Y hL9 hR9 hi9 h hB hJ0 hL hj (h0 (by omega)) (h2' (by omega))
  · exact m_treaty K Y hL9 hR9 hi9 h hB hJ0 hTr hj (h0 (by omega)) T9 hs172 hs180
  · exact m_share K Y hL9 hR9 hi9 h hB hJ0 hSh hj (h0 (by omega)) (h2 (by omega)) (htT (hp2 (by omega))) hr5
  · exact m_handOn K Y hL9 hR9 hi9 h hB hJ0 hHo hj (h0 (by omega)) (h2 (by omega)) hr5
  · exact m_fail K Y hL9 hR9 hi9 h hB hJ0 hJk hF hj (h0 (by omega)) (h2 (by omega)) hr5
  · exact m_commute K Y hL9 hR9 hi9 h hB hJ0 hJs hC hj (h0 (by omega)) (h2 (by omega)) (htT (hp2 (by omega)))
  · exact m_reinstate K Y hL9 hR9 hi9 h hB hJ0 hSP hSD hR hj (h0 (by omega)) (h2 (by omega)) (htT (hp2 (by omega)))
  · exact m_setAmount K Y hL9 hR9 hi9 h hB hJ0 hSA hj (h0 (by omega)) (h2 (by omega)) e1
  · exact m_scenario K Y hL9 hR9 hi9 h hB hJ0 hSc hj (h0 (by omega)) (h2 (by omega))
  · exact m_events K Y hL9 hR9 hi9 h hB hJ0 hE hj (h0 (by omega)) (h2 (by omega)) (htT (hp2 (by omega)))
theorem m_end (K : zK G X cL_law "LayertreatyLaw" 21 (some .boolean) rm) (Y : zY G bs Ls ys (xs X)) (hL9 : Ls ≤ 260) (hR9 : 60 ≤ rm.frames ∧ 2000 ≤ rm.locals) (hJ0 : zhJ0 rm J) (hJs : zhJs J) (hJk : zhJk J) (hEnd : zhEnd J) {σ : zSt} {f : Nat → Int32} {c : Int64} {B : Nat} (h : J σ f c) (hB : B ≤ 3000) (kk : ∀ ρ B, sgc ρ + B ≤ rm.cells ∧ sgs ρ + 6 * B ≤ rm.slots → zVf G X 21 (zLw G o a ρ f B) 1501 [] [.int 1]) : zVf G X 21 (zLw G o a σ f B) 30 [(0, .ref bs), (1, .ref a), (2, .int (nI (sN σ 0))), (3, .int (nI (sN σ 1))), (4, .int (nI (sN σ 2))), (5, .int (nI (sN σ 3))), (6, .long c), (8, .ref o), (9, .int (nI 50))] [] := by
  have h9 := hJ0 σ f c h
  have hs := hJ0 _ f c (hJs σ f c h)
  have hx : zVf G X 21 (zLw G o a σ f B) 1444 [(0, .ref bs), (1, .ref a), (2, .int (nI (sN σ 0))), (3, .int (nI (sN σ 1))), (4, .int (nI (sN σ 2))), (5, .int (nI (sN σ 3))), (6, .long c), (8, .ref o), (9, .int (nI 50))] [] := by
    refine b_end (i := 50) K Y hL9 (by decide) hR9 h9.1 (hJk σ f c h) ⟨by omega, by omega⟩ (fun ρ hw hp => ?_) (fun ρ hw hp => ?_)
    · obtain ⟨x1, x2, x3⟩ := hEnd σ f c h ρ hw hp
      have k1 := hJ0 _ f c x2
      have k2 := hJ0 _ f c (hJs _ f c x2)
      exact ⟨x1, k1.1, by rw [x3], by rw [x3], ⟨by omega, by omega⟩, ⟨by omega, by omega⟩⟩
    · obtain ⟨x1, x2, x3⟩ := hEnd σ f c h ρ hw hp
      have k2 := hJ0 _ f c (hJs _ f c x2)
      exact kk _ _ ⟨by omega, by omega⟩
  exact b_exit K Y hL9 hR9 h9.1 hx
set_option maxHeartbeats 4000000 in
theorem m_all (K : zK G X cL_law "LayertreatyLaw" 21 (some .boolean) rm) (Y : zY G bs Ls ys (xs X)) (hL9 : Ls ≤ 260) (hR9 : 60 ≤ rm.frames ∧ 2000 ≤ rm.locals) (hJ0 : zhJ0 rm J) (hJp : zhJp J) (hJs : zhJs J) (hJk : zhJk J) (hJt : zhJt J) (hP : zhP J) (hL : zhL J) (hTr : zhTr J) (hSh : zhSh J) (hHo : zhHo J) (hF : zhF J) (hC : zhC J) (hR : zhR J) (hSP : zhSP J) (hSD : zhSD J) (hSA : zhSA J) (hSc : zhSc J) (hE : zhE J) (hEnd : zhEnd J) {adK adV : Nat → Nat} {fm : Nat} (T9 : zTxt G adK adV fm (xs X)) (hs172 : vk_R "LayertreatyLaw" 172 "qsrea" (adK 0) (xs X)) (hs180 : vk_R "LayertreatyLaw" 180 "oac" (adK 1) (xs X)) (hC9 : 100 ≤ rm.cells ∧ 1000 ≤ rm.slots) (hJi : J zS0 (fun _ => 0) 0) (kk : ∀ a o ρ f B, sgc ρ + B ≤ rm.cells ∧ sgs ρ + 6 * B ≤ rm.slots → zVf G X 21 (zLw G o a ρ f B) 1501 [] [.int 1]) : zV G X 21 (fun _ => True) 0 0 0 [(0, .ref bs)] [] := by
  refine b_init K hR9 hC9 (fun a o => ?_)
  have hall : ∀ d i, d + i = 50 → ∀ σ f c B, J σ f c → (1 ≤ i → 0 < sN σ 0) → (9 ≤ i → 0 < sN σ 2) → B ≤ 60 * i → zVf G X 21 (zLw G o a σ f B) 30 [(0, .ref bs), (1, .ref a), (2, .int (nI (sN σ 0))), (3, .int (nI (sN σ 1))), (4, .int (nI (sN σ 2))), (5, .int (nI (sN σ 3))), (6, .long c), (8, .ref o), (9, .int (nI i))] [] := by
    intro d
    induction d with
    | zero =>
      intro i hi σ f c B h hi0 hi2 hB
      have e : i = 50 := by omega
      subst e
      exact m_end K Y hL9 hR9 hJ0 hJs hJk hEnd h (by omega) (fun ρ B => kk a o ρ f B)
    | succ d ih =>
      intro i hi
      refine m_turn K Y hL9 (by exact hR9) (by omega) hJ0 hJp hJs hJk hJt hP hL hTr hSh hHo hF hC hR hSP hSD hSA hSc hE T9 hs172 hs180 (fun σ f c B h h0 h2 hB => ?_)
      exact ih (i + 1) (by omega) σ f c B h (fun _ => h0) (fun q => h2 (by omega)) hB
  exact hall 50 0 rfl zS0 (fun _ => 0) 0 0 hJi (fun q => absurd q (by decide)) (fun q => absurd q (by decide)) (Nat.le_refl _)
end ZLT
