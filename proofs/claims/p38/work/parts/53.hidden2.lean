/-! the hidden state: limits, sums, net, a failed one that fails again -/
theorem zKr.wk {ρ ρ' τ : zSt} {s s' dB mc ms : Nat} (h : zKr ρ ρ' τ s 1 0 mc ms) : zKr ρ ρ' τ s s' dB mc ms := ⟨h.1, h.2.1, fun _ => h.2.2.1 (by omega), by have := h.2.2.2.1; omega, by have := h.2.2.2.2; omega⟩
/-- a limit, or what stands for it -/
def zlm (τ : zSt) (t : Nat) : Int64 := if v_isLimited τ (t % 8) = 0 then -1500000 else if sI τ 19 (t % 8) 0 = 0 then sL τ 2 t 0 else -1000000
theorem k_limit {G : zG} {a : Nat} {τ : zSt} {s : Nat} (t : Nat) (ht : t < sN τ 2) : zKS G a τ s s yL_limit cL_limit 3 (some FieldType.long) [(0, 5, 6, 28), (0, 5, 11, 31), (0, 5, 16, 22)] 15 425 1 ([.ref a, .int (nI t)] : List Value) (some (.long (zlm τ t))) := by
  intro ad ρ ha hw he h0
  subst ha
  have ht' : t < sN ρ 2 := by rw [← zT_N hw he]; exact ht
  have hlim : v_isLimited ρ (t % 8) = v_isLimited τ (t % 8) := by
    unfold v_isLimited
    rw [zT_I hw he (t := 8) (by unfold zsT; omega)]
  have hcm := zT_I hw he (t := 19) (by unfold zsT; omega) (t % 8) 0
  unfold zlm
  by_cases h1 : v_isLimited τ (t % 8) = 0
  · rw [if_pos h1]
    have h := l_limit_UOE (t_limitU (G := G) (ad := ad) t hw ht' (hlim.trans h1))
    exact ⟨ρ, 1, 6, zKr.same hw he h0 (by decide) (by decide), h⟩
  · rw [if_neg h1]
    by_cases h2 : sI τ 19 (t % 8) 0 = 0
    · rw [if_pos h2]
      refine ⟨s_settle ρ, _, _, (zKr.settle s hw he).wk, ?_⟩
      have h := l_limit (c_limit (G := G) (ad := ad) t hw ht' (by rw [hlim]; exact h1) (by rw [← hcm]; exact h2))
      rw [show v_limit ρ t = _ from congrFun (congrFun (zT_L he (t := 2) (zPool_n (by omega))) _) _] at h
      exact h
    · rw [if_neg h2]
      have h := l_limit_ISE (t_limitS (G := G) (ad := ad) t hw ht' (by rw [hlim]; exact h1) (by rw [← hcm]; exact h2))
      exact ⟨ρ, 1, 6, zKr.same hw he h0 (by decide) (by decide), h⟩
theorem zsumL_cg {f g : Nat → Int64} {m : Nat} (h : ∀ y, y < m → f y = g y) : zsumL f m = zsumL g m := by
  induction m with
  | zero => rfl
  | succ m ih =>
    show zsumL f m + f m = zsumL g m + g m
    rw [ih (fun y hy => h y (by omega)), h m (by omega)]
theorem allLosses_eq {ρ τ : zSt} (hw : zW ρ) (he : zPo (s_settle ρ) τ) : v_allLosses ρ = v_allLosses τ := by
  have hs := (settle_W hw).2
  have e1 : lx τ 1 = lx ρ 1 := by
    have a1 : lx (s_settle ρ) 1 = lx τ 1 := funext fun i => (cg_22 he 1 i).1
    rw [← a1]
    exact funext fun i => zSx_lx hs.1 (by unfold zQd; omega) i
  have e2 : sZ τ 1 = sZ ρ 1 := by
    rw [← (cg_22 he 1 0).2]
    exact zSx_Z hs.1 (by unfold zQd; omega)
  unfold v_allLosses
  rw [e1, e2]
  refine zsumL_cg fun y hy => ?_
  have hy2 : y < sN ρ 1 := by rw [← hw.1.2.2.1.1]; exact hy
  rw [hw.2.1.2.1 y hy2]
  have h30 := hw.1.2.2.1.2
  have e3 : sI (s_settle ρ) 6 y 0 = sI ρ 6 y 0 := hs.2.2.2 6 (by omega) y (by omega) 0
  rw [← e3, show sI (s_settle ρ) = sI τ from he.1]
theorem k_allLosses {G : zG} {a : Nat} {τ : zSt} {s : Nat} : zKV G a τ s s yX8_allLosses cX8_allLosses 4 (some FieldType.long) 3 64 0 ([] : List Value) (some (.long (v_allLosses τ))) := by
  intro ad ρ ha hw he h0
  subst ha
  refine ⟨ρ, 0, 0, zKr.same hw he h0 (Nat.le_refl _) (Nat.le_refl _), ?_⟩
  have h := c_allLosses (G := G) (ad := ad) (σ := ρ) (hw.1.1 1 (by omega)).1
  rw [allLosses_eq hw he] at h
  exact h
def znet (τ : zSt) : Int64 := nrI τ (ntI τ (v_allLeft τ 0) (sZ τ 6)) 5
theorem cg_nt {A : Nat → Prop} {x y : zSt} (h : zPr A x y) (v : Int64) (i : Nat) : ntI x v i = ntI y v i := by
  induction i with
  | zero => rfl
  | succ i ih =>
    unfold ntI
    rw [ih, (cg_22 h 6 i).1, show sI x = sI y from h.1, show sL x 5 = sL y 5 from h.2.2.1 5 (zPool_n (by omega)), show sL x 3 = sL y 3 from h.2.2.1 3 (zPool_n (by omega))]
theorem cg_nr {A : Nat → Prop} {x y : zSt} (h : zPr A x y) (v : Int64) (i : Nat) : nrI x v i = nrI y v i := by
  induction i with
  | zero => rfl
  | succ i ih =>
    unfold nrI
    rw [ih, show sI x = sI y from h.1, cg_allPartsOf h]
theorem net_eq {ρ τ : zSt} (he : zPo (s_settle ρ) τ) : v_net ρ = znet τ := by
  unfold v_net znet
  rw [cg_nr he, cg_allLeft he, cg_nt he, (cg_22 he 6 0).2]
theorem k_net {G : zG} {a : Nat} {τ : zSt} {s : Nat} : zKV G a τ s 1 yX8_net cX8_net 5 (some FieldType.long) 16 480 0 ([] : List Value) (some (.long (znet τ))) := by
  intro ad ρ ha hw he h0
  subst ha
  refine ⟨s_settle ρ, _, _, zKr.settle s hw he, ?_⟩
  have h := c_net (G := G) (ad := ad) hw
  rw [net_eq he] at h
  exact h
theorem fail_self {ρ : zSt} {r : Nat} (h : sI ρ 31 0 r = 1) : s_fail ρ r 1 = ρ := by
  unfold s_fail uI
  have e : u3 ρ.1 31 0 r 1 = ρ.1 := funext fun t => funext fun o => funext fun e => by
    unfold u3
    by_cases q : t = 31 ∧ o = 0 ∧ e = r
    · rw [if_pos q, q.1, q.2.1, q.2.2]
      exact h.symm
    · rw [if_neg q]
  rw [e]
theorem k_fail1 {G : zG} {a : Nat} {τ : zSt} {s : Nat} (r : Nat) (hr : r < 5) (hf : ¬ sI τ 31 0 r = 0) : zKS G a τ s s yL_fail cL_fail 4 (some FieldType.int) [(0, 14, 15, 28)] 3 65 0 ([.ref a, .int (nI r), .int 1] : List Value) (some (.int 1)) := by
  intro ad ρ ha hw he h0
  subst ha
  have e := zT_I hw he (t := 31) (by unfold zsT; omega) 0 r
  have hb := hw.2.2.1.2.2.2.2 r hr
  have h1 : sI ρ 31 0 r = 1 := hb.resolve_left (by rw [← e]; exact hf)
  refine ⟨ρ, 0, 0, zKr.same hw he h0 (Nat.le_refl _) (Nat.le_refl _), ?_⟩
  have h := l_fail (c_fail (G := G) (ad := ad) r 1 hr ⟨rfl, rfl⟩ hb.ok)
  rw [fail_self h1, if_neg (show ¬ v_fail ρ r 1 = 0 from by unfold v_fail; rw [h1]; decide)] at h
  exact h
