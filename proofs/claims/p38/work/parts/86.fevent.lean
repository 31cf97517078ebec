/-! events served by time -/
theorem sgI_o {σ : zSt} {b j : Nat} {am rs sm : Int64} : ∀ (i q o e : Nat), 2 ≤ q → (q ≠ 2 ∧ q ≠ 3 ∨ o ≠ j) → sL (sgI σ b j am rs sm i) q o e = sL σ q o e
  | 0, _, _, _, _, _ => rfl
  | i + 1, q, o, e, h, h2 => by
    have ih := sgI_o (σ := σ) (b := b) (j := j) (am := am) (rs := rs) (sm := sm) i q o e h h2
    have g : ∀ k x, sL (s_takeFrom (sgI σ b j am rs sm i) j k x) q o e = sL σ q o e := fun k x => by
      rw [take_L, if_neg (fun z => by omega), if_neg (fun z => by omega), if_neg (fun z => by omega), if_neg (fun z => by omega)]
      exact ih
    simp only [sgI]
    split
    · exact g _ _
    · exact g _ _
theorem serveG_o {σ : zSt} {b j : Nat} (q o e : Nat) (h : 2 ≤ q) (h2 : q ≠ 2 ∧ q ≠ 3 ∨ o ≠ j) : sL (s_serveGroup σ b j) q o e = sL σ q o e := by
  unfold s_serveGroup
  split
  · exact sgI_o _ q o e h h2
  · rfl
theorem refill_o {σ : zSt} {j : Nat} {x : Int64} {d : Int32} (q o e : Nat) (h2 : q ≠ 4 ∧ q ≠ 5 ∨ o ≠ j) : sL (s_refill σ j x d) q o e = sL σ q o e := by
  rw [refill_L]
  split
  · rfl
  · rw [if_neg (fun z => by omega), if_neg (fun z => by omega)]
theorem evI_L (σ : zSt) (b j z : Nat) : ∀ i, (evI σ b j z i).2.1 = σ.2.1
  | 0 => rfl
  | i + 1 => evI_L σ b j z i
theorem zSb.mv {σ' σ : zSt} {q p i : Nat} {P : Nat → Prop} (hZ : sZ σ' q = sZ σ q) (hq : ∀ y, lx σ' q y = lx σ q y) (hp : ∀ y, lx σ' p y = lx σ p y) (h : zSb σ q p i P) : zSb σ' q p i P := by
  obtain ⟨g, h1, h2⟩ := h
  refine ⟨g, fun y hy => ?_, fun y y' a c => h2 y y' a (by rw [← hZ]; exact c)⟩
  rw [hq, hp]
  exact h1 y (by rw [← hZ]; exact hy)
/-- the zone of a loss -/
def zzn (σ : zSt) (k : Nat) : Int := (sI σ 1 (sP σ k) 0).toInt
theorem zzn_eq {σ : zSt} {k z : Nat} (hz : z < 4) (h : sI σ 1 (sP σ k) 0 = nI z) : zzn σ k = z := by
  unfold zzn
  rw [h, nI_toInt (by omega)]
/-- one event -/
theorem zbody_v {b t z i e' : Nat} {S : zSt} {F : Int} {P7 : Nat → Prop} (hw : zWF b S) (hq : zQf b S) (hf : zFi b S) (ht : t < sN S 2) (hz : z < 4) (hc : sI S 19 t 0 = 0) (h7 : zSb S (7 + 4 * b) (5 + 4 * b) (sZ S (5 + 4 * b)) P7)
    (hD : 0 ≤ (sI S 28 b i).toInt ∧ (sI S 28 b i).toInt ≤ 999) (hF : F < (sI S 28 b i).toInt) (hl : ∀ y, y < sZ S (7 + 4 * b) → (z : Int) < zzn S (lx S (7 + 4 * b) y) ∨ (zzn S (lx S (7 + 4 * b) y) = z ∧ F < (sI S 4 (lx S (7 + 4 * b) y) 0).toInt) → 0 < (sL S 0 (lx S (7 + 4 * b) y) 0).toInt) :
    zFi b (s_zoneBody S b (8 * b + t) z i e') ∧
    (∀ y, y < sZ S (7 + 4 * b) → (z : Int) < zzn S (lx S (7 + 4 * b) y) ∨ (zzn S (lx S (7 + 4 * b) y) = z ∧ (sI S 28 b e').toInt < (sI S 4 (lx S (7 + 4 * b) y) 0).toInt) → sL (s_zoneBody S b (8 * b + t) z i e') 0 (lx S (7 + 4 * b) y) 0 = sL S 0 (lx S (7 + 4 * b) y) 0) ∧
    (∀ o e, sI (s_zoneBody S b (8 * b + t) z i e') 22 o e = if o = 8 * b + t ∧ e = z then sI S 22 o e + 1 else sI S 22 o e) ∧
    ∀ q o e, 2 ≤ q → q ≤ 5 → o ≠ 8 * b + t → sL (s_zoneBody S b (8 * b + t) z i e') q o e = sL S q o e := by
  have hb := hq.1.1
  obtain ⟨g1, g2, g3, g4⟩ := (gaI_ok (z := nI z) (f := sI S 28 b i) (l := sI S 28 b e') hb hw.2.2.2.2.2.2.2.2.1.1 hw.2.2.2.2.2.2.2.2.2.2 hw.2.2.2.2.2.2.2.2.2.1 _ (Nat.le_refl _))
  have f3 : zFr b (uI (s_zoneEv (s_gather S b (nI z) (sI S 28 b i) (sI S 28 b e')) b (8 * b + t) z) 22 (8 * b + t) z ((sI (s_zoneEv (s_gather S b (nI z) (sI S 28 b i) (sI S 28 b e')) b (8 * b + t) z) 22 (8 * b + t) z) + 1)) S := ((zFr.uI (by unfold zst; omega)).trans (zoneEv_fr _ b (8 * b + t) z)).trans g1
  have gIL := gaI_IL S b (nI z) (sI S 28 b i) (sI S 28 b e') (sZ S (7 + 4 * b))
  have gok := ga_ok (σ := S) (b := b) (z := nI z) (f := sI S 28 b i) (l := sI S 28 b e') (sZ S (7 + 4 * b))
  have gsx := gaI_sx (σ := S) (b := b) (z := nI z) (f := sI S 28 b i) (l := sI S 28 b e') (sZ S (7 + 4 * b))
  have hdef : s_zoneBody S b (8 * b + t) z i e' = s_refill (s_serveGroup (uI (s_zoneEv (s_gather S b (nI z) (sI S 28 b i) (sI S 28 b e')) b (8 * b + t) z) 22 (8 * b + t) z ((sI (s_zoneEv (s_gather S b (nI z) (sI S 28 b i) (sI S 28 b e')) b (8 * b + t) z) 22 (8 * b + t) z) + 1)) b (8 * b + t)) (8 * b + t) (v_serveGroup (uI (s_zoneEv (s_gather S b (nI z) (sI S 28 b i) (sI S 28 b e')) b (8 * b + t) z) 22 (8 * b + t) z ((sI (s_zoneEv (s_gather S b (nI z) (sI S 28 b i) (sI S 28 b e')) b (8 * b + t) z) 22 (8 * b + t) z) + 1)) b (8 * b + t)) (sI (s_serveGroup (uI (s_zoneEv (s_gather S b (nI z) (sI S 28 b i) (sI S 28 b e')) b (8 * b + t) z) 22 (8 * b + t) z ((sI (s_zoneEv (s_gather S b (nI z) (sI S 28 b i) (sI S 28 b e')) b (8 * b + t) z) 22 (8 * b + t) z) + 1)) b (8 * b + t)) 28 b i) := rfl
  have i22 : ∀ o e, sI (uI (s_zoneEv (s_gather S b (nI z) (sI S 28 b i) (sI S 28 b e')) b (8 * b + t) z) 22 (8 * b + t) z ((sI (s_zoneEv (s_gather S b (nI z) (sI S 28 b i) (sI S 28 b e')) b (8 * b + t) z) 22 (8 * b + t) z) + 1)) 22 o e = if o = 8 * b + t ∧ e = z then sI S 22 o e + 1 else sI S 22 o e := fun o e => by
    have r : ∀ o e, sI (s_zoneEv (s_gather S b (nI z) (sI S 28 b i) (sI S 28 b e')) b (8 * b + t) z) 22 o e = sI S 22 o e := fun o e => (evI_I _ _ _ _ _ (by decide) o e).trans (by
      show (gaI S b (nI z) (sI S 28 b i) (sI S 28 b e') (sZ S (7 + 4 * b))).1 22 o e = S.1 22 o e
      rw [gIL.1])
    rw [qI_r, r]
    by_cases c : o = 8 * b + t ∧ e = z
    · rw [if_pos ⟨rfl, c.1, c.2⟩, if_pos c, c.1, c.2]
    · rw [if_neg (fun q => c q.2), if_neg c, r]
  have i28 : ∀ e, sI (uI (s_zoneEv (s_gather S b (nI z) (sI S 28 b i) (sI S 28 b e')) b (8 * b + t) z) 22 (8 * b + t) z ((sI (s_zoneEv (s_gather S b (nI z) (sI S 28 b i) (sI S 28 b e')) b (8 * b + t) z) 22 (8 * b + t) z) + 1)) 28 b e = sI S 28 b e := fun e => by
    rw [qI_r, if_neg (fun q => by omega)]
    refine (evI_I _ _ _ _ _ (by decide) b e).trans ?_
    show (gaI S b (nI z) (sI S 28 b i) (sI S 28 b e') (sZ S (7 + 4 * b))).1 28 b e = S.1 28 b e
    rw [gIL.1]
  have l2 : (uI (s_zoneEv (s_gather S b (nI z) (sI S 28 b i) (sI S 28 b e')) b (8 * b + t) z) 22 (8 * b + t) z ((sI (s_zoneEv (s_gather S b (nI z) (sI S 28 b i) (sI S 28 b e')) b (8 * b + t) z) 22 (8 * b + t) z) + 1)).2.1 = S.2.1 := (evI_L _ _ _ _ _).trans gIL.2
  have e22 : (uI (s_zoneEv (s_gather S b (nI z) (sI S 28 b i) (sI S 28 b e')) b (8 * b + t) z) 22 (8 * b + t) z ((sI (s_zoneEv (s_gather S b (nI z) (sI S 28 b i) (sI S 28 b e')) b (8 * b + t) z) 22 (8 * b + t) z) + 1)).2.2 = (gaI S b (nI z) (sI S 28 b i) (sI S 28 b e') (sZ S (7 + 4 * b))).2.2 := evI_22 _ _ _ _ _
  rw [hdef]
  clear hdef
  generalize uI (s_zoneEv (s_gather S b (nI z) (sI S 28 b i) (sI S 28 b e')) b (8 * b + t) z) 22 (8 * b + t) z ((sI (s_zoneEv (s_gather S b (nI z) (sI S 28 b i) (sI S 28 b e')) b (8 * b + t) z) 22 (8 * b + t) z) + 1) = T3 at *
  generalize gaI S b (nI z) (sI S 28 b i) (sI S 28 b e') (sZ S (7 + 4 * b)) = GA at *
  have eE : sE T3 = sE GA := congrArg (fun z => z.1) e22
  have eZ : sZ T3 = sZ GA := congrArg (fun z => z.2.1) e22
  have xl : ∀ q y, lx T3 q y = lx GA q y := fun q y => by unfold lx; rw [eE]
  have xg : ∀ q y, q ≠ 8 + 4 * b → lx GA q y = lx S q y := fun q y h => zSx_lx gsx h y
  have zg : ∀ q, q ≠ 8 + 4 * b → sZ GA q = sZ S q := fun q h => zSx_Z gsx h
  have z5 : sZ T3 (5 + 4 * b) = sZ S (5 + 4 * b) := by rw [eZ, zg _ (by omega)]
  have z7 : sZ T3 (7 + 4 * b) = sZ S (7 + 4 * b) := by rw [eZ, zg _ (by omega)]
  have x5 : ∀ y, lx T3 (5 + 4 * b) y = lx S (5 + 4 * b) y := fun y => by rw [xl, xg _ _ (by omega)]
  have x7 : ∀ y, lx T3 (7 + 4 * b) y = lx S (7 + 4 * b) y := fun y => by rw [xl, xg _ _ (by omega)]
  have sLT : ∀ q o e, sL T3 q o e = sL S q o e := fun q o e => by
    show T3.2.1 q o e = S.2.1 q o e
    rw [l2]
  have h7' : zSb T3 (7 + 4 * b) (5 + 4 * b) (sZ T3 (5 + 4 * b)) P7 := by
    rw [z5]
    exact h7.mv z7 x7 x5
  have h8' := gok.mv (σ' := T3) (by rw [eZ]) (fun y => xl _ y) (fun y => xl _ y)
  obtain ⟨gr, gm⟩ := zSb.gr h7' h8' (by rw [z7]; exact Nat.le_refl _)
  have tq := hq.fr f3
  have tf := hf.fr f3 (fun q _ o x => sLT q o x)
  have tN : t < sN T3 2 := by rw [f3.1.1]; exact ht
  have tc : sI T3 19 t 0 = 0 := by rw [f3.2.2.1 19 (by unfold zst; omega)]; exact hc
  -- the group's losses still have something left
  have mem : ∀ y, y < sZ T3 (8 + 4 * b) → ∃ y', y' < sZ S (7 + 4 * b) ∧ lx T3 (8 + 4 * b) y = lx S (7 + 4 * b) y' ∧ zzn S (lx S (7 + 4 * b) y') = z ∧ (sI S 28 b i).toInt ≤ (sI S 4 (lx S (7 + 4 * b) y') 0).toInt ∧ (sI S 4 (lx S (7 + 4 * b) y') 0).toInt ≤ (sI S 28 b e').toInt := fun y hy => by
    obtain ⟨-, ⟨m1, m2, m3⟩, y', m4, m5⟩ := gm y hy
    rw [x7] at m5
    rw [m5] at m1 m2 m3
    refine ⟨y', by rw [← z7]; exact m4, m5, ?_, ?_, ?_⟩
    · refine zzn_eq hz (m1.resolve_left (fun q => ?_))
      have : (nI z).toInt = (-1 : Int32).toInt := by rw [q]
      rw [nI_toInt (by omega)] at this
      have o : (-1 : Int32).toInt = -1 := rfl
      omega
    · have : ¬ (sI S 4 (lx S (7 + 4 * b) y') 0).toInt < (sI S 28 b i).toInt := fun q => m2 (w_lt.mpr q)
      omega
    · have : ¬ (sI S 28 b e').toInt < (sI S 4 (lx S (7 + 4 * b) y') 0).toInt := fun q => m3 (w_lt.mpr q)
      omega
  obtain ⟨k1, k2, k3, k4, k5, k6⟩ := grp_ok tq tf gr (fun y hy => by
    obtain ⟨y', m1, m2, m3, m4, m5⟩ := mem y hy
    rw [sLT, m2]
    exact hl y' m1 (Or.inr ⟨m3, by omega⟩)) tN tc
  have I4 : (s_serveGroup T3 b (8 * b + t)).1 = T3.1 := serveGroup_1 _ _ _
  have N4 : t < sN (s_serveGroup T3 b (8 * b + t)) 2 := by
    rw [show sN (s_serveGroup T3 b (8 * b + t)) = sN T3 from congrArg (fun z => z.2.2.2.2.1) (serveGroup_2 _ _ _)]
    exact tN
  have d4 : sI (s_serveGroup T3 b (8 * b + t)) 28 b i = sI S 28 b i := by
    rw [show sI (s_serveGroup T3 b (8 * b + t)) = sI T3 from I4]
    exact i28 i
  refine ⟨refill_ok k1 k2 N4 (by rw [show sI (s_serveGroup T3 b (8 * b + t)) = sI T3 from I4]; exact tc) k4 k5 (by rw [d4]; exact hD), fun y hy hy2 => ?_, fun o e => ?_, fun q o e h1 h2 h3 => ?_⟩
  · rw [refill_o 0 _ _ (Or.inl ⟨by decide, by decide⟩), k3 _ (fun y2 hy2' q => ?_), sLT]
    obtain ⟨y', m1, m2, m3, m4, m5⟩ := mem y2 hy2'
    rw [m2] at q
    rw [q] at hy2
    omega
  · rw [show sI (s_refill (s_serveGroup T3 b (8 * b + t)) (8 * b + t) (v_serveGroup T3 b (8 * b + t)) (sI (s_serveGroup T3 b (8 * b + t)) 28 b i)) = sI T3 from (refill_I _ _ _ _).trans I4]
    exact i22 o e
  · rw [refill_o q o e (Or.inr h3), serveG_o q o e h1 (Or.inr h3), sLT]
