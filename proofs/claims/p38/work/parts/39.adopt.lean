/-! new objects join the picture -/
def zref (σ : zSt) : Prop := (∀ k, zlC σ k → sP σ k < sN σ 0) ∧ (∀ j, zlV σ j → j % 8 < sN σ 2) ∧ ∀ q j x, q < 13 → sE σ q j = some x → zlv σ (zeK q) x
def bZ (G : zG) (ad : Nat → Nat → Nat) (σ : zSt) : zBs := (fun aa q => ∃ kd ix, zlv σ kd ix ∧ zadr ad aa kd ix = q, fun aa H => zP0 G ad aa σ H)
theorem bZ_ok {G : zG} {ad : Nat → Nat → Nat} {σ : zSt} : zBo (bZ G ad σ) := by
  refine ⟨fun aa H q h hq => ?_, fun aa H H1 h hq => ?_⟩
  · obtain ⟨kd, ix, hl, rfl⟩ := hq
    exact (h.1 kd ix hl).1.lt
  · exact ⟨fun kd ix hl => ⟨(h.1 kd ix hl).1.kept (hq _ ⟨kd, ix, hl, rfl⟩), (h.1 kd ix hl).2⟩, h.2⟩
theorem zP.px {G : zG} {ad : Nat → Nat → Nat} {σ : zSt} {H : Heap} (h : zP G ad σ H) : zPx G (bZ G ad σ) [] H := by
  obtain ⟨aa, h⟩ := h
  exact ⟨aa, h, fun w hw => absurd hw List.not_mem_nil, fun w hw => absurd hw List.not_mem_nil, List.Pairwise.nil⟩
theorem zP.adopt {G : zG} {ad ad' : Nat → Nat → Nat} {σ σ' : zSt} {ws : List (Nat × va_E)} {H : Heap} (new : Nat → Nat → Prop) (h : zPx G (bZ G ad σ) ws H) (hlv : ∀ kd ix, zlv σ' kd ix → zlv σ kd ix ∨ new kd ix) (h29 : ∀ kd ix, new kd ix → kd ≠ 29)
    (had : ∀ kd ix, zlv σ kd ix → kd ≠ 29 → ad' kd ix = ad kd ix) (hct : ∀ aa kd ix, zlv σ kd ix → zct G ad' aa σ' kd ix = zct G ad aa σ kd ix) (hnew : ∀ aa kd ix, new kd ix → (ad' kd ix, zct G ad' aa σ' kd ix) ∈ ws) (hinj : ∀ kd ix kd' ix', new kd ix → new kd' ix' → ad' kd ix = ad' kd' ix' → kd = kd' ∧ ix = ix') : zP G ad' σ' H := by
  obtain ⟨aa, h1, h2, h3, h4⟩ := h
  have ho : ∀ kd ix, zlv σ kd ix → zadr ad' aa kd ix = zadr ad aa kd ix := fun kd ix hl => by
    unfold zadr
    split
    · rfl
    · rename_i e
      exact had kd ix hl e
  have hn : ∀ kd ix, new kd ix → zadr ad' aa kd ix = ad' kd ix := fun kd ix hl => if_neg (h29 kd ix hl)
  refine ⟨aa, fun kd ix hl => ?_, fun kd ix kd' ix' hl hl' he => ?_⟩
  · rcases hlv kd ix hl with h | h
    · rw [ho kd ix h, hct aa kd ix h]
      exact h1.1 kd ix h
    · rw [hn kd ix h]
      exact h2 _ (hnew aa kd ix h)
  · rcases hlv kd ix hl with h | h
    · rcases hlv kd' ix' hl' with g | g
      · rw [ho kd ix h, ho kd' ix' g] at he
        exact h1.2 kd ix kd' ix' h g he
      · rw [ho kd ix h, hn kd' ix' g] at he
        exact absurd ⟨kd, ix, h, he⟩ (h3 _ (hnew aa kd' ix' g))
    · rcases hlv kd' ix' hl' with g | g
      · rw [hn kd ix h, ho kd' ix' g] at he
        exact absurd ⟨kd', ix', g, he.symm⟩ (h3 _ (hnew aa kd ix h))
      · rw [hn kd ix h, hn kd' ix' g] at he
        exact hinj kd ix kd' ix' h g he
theorem zeK_ne (q : Nat) : zeK q ≠ 29 := by
  unfold zeK
  repeat' split
  all_goals decide
/-- the old objects' contents, where addresses and numbers of the live ones stay -/
theorem zct_ext {G : zG} {ad ad' : Nat → Nat → Nat} {aa : Nat → Nat} {σ σ' : zSt} (hr : zref σ) (had : ∀ kd ix, zlv σ kd ix → kd ≠ 29 → ad' kd ix = ad kd ix) (hI : ∀ t o e, zlv σ (zoI t) o → sI σ' t o e = sI σ t o e) (hL : ∀ t o e, zlv σ (zoL t) o → sL σ' t o e = sL σ t o e) (hP : ∀ k, zlC σ k → sP σ' k = sP σ k)
    (hE : sE σ' = sE σ) (hZ : sZ σ' = sZ σ) (hC : sC σ' = sC σ) (hM : sM σ' = sM σ) : ∀ kd ix, zlv σ kd ix → zct G ad' aa σ' kd ix = zct G ad aa σ kd ix := by
  intro kd ix hl
  match kd, hl with
  | 0, hl =>
    show zqO ad' σ' ix = zqO ad σ ix
    unfold zqO
    rw [had 28 0 (show (0 : Nat) < 13 by decide) (by decide), had 28 1 (show (1 : Nat) < 13 by decide) (by decide), had 28 2 (show (2 : Nat) < 13 by decide) (by decide), had 28 3 (show (3 : Nat) < 13 by decide) (by decide), had 28 4 (show (4 : Nat) < 13 by decide) (by decide), had 11 0 (show (0 : Nat) < 2 by decide) (by decide), had 11 1 (show (1 : Nat) < 2 by decide) (by decide), had 18 0 rfl (by decide), hI 35 ix 0 hl]
  | 1, hl =>
    show zqPOL σ' ix = zqPOL σ ix
    unfold zqPOL
    rw [hI 0 ix 0 hl, hI 1 ix 0 hl, hI 2 ix 0 hl, hI 3 ix 0 hl]
  | 2, hl =>
    show zqCL ad' σ' ix = zqCL ad σ ix
    unfold zqCL
    rw [hP ix hl, had 1 (sP σ ix) (hr.1 ix hl) (by decide), had 3 ix hl (by decide), had 4 ix hl (by decide), hI 4 ix 0 hl, hI 5 ix 0 hl, hI 6 ix 0 hl, hL 0 ix 0 hl]
  | 3, hl =>
    have e : (fun j => sL σ' 1 ix j) = (fun j => sL σ 1 ix j) := funext fun j => hL 1 ix j hl
    show zqTOOK G σ' ix = zqTOOK G σ ix
    unfold zqTOOK
    rw [e]
  | 4, hl =>
    have e : (fun j => sI σ' 7 ix j) = (fun j => sI σ 7 ix j) := funext fun j => hI 7 ix j hl
    show zqEVS G σ' ix = zqEVS G σ ix
    unfold zqEVS
    rw [e]
  | 5, hl =>
    show zqTR ad' σ' ix = zqTR ad σ ix
    unfold zqTR
    rw [had 6 ix hl (by decide), hI 8 ix 0 hl, hI 9 ix 0 hl, hI 10 ix 0 hl, hI 11 ix 0 hl, hI 12 ix 0 hl, hI 13 ix 0 hl, hI 14 ix 0 hl, hI 15 ix 0 hl, hI 16 ix 0 hl, hI 17 ix 0 hl, hI 18 ix 0 hl, hI 19 ix 0 hl, hI 20 ix 0 hl]
  | 6, hl =>
    have e : (fun j => sI σ' 21 ix j) = (fun j => sI σ 21 ix j) := funext fun j => hI 21 ix j hl
    show zqSHR G σ' ix = zqSHR G σ ix
    unfold zqSHR
    rw [e]
  | 7, hl =>
    show zqCOV ad' σ' ix = zqCOV ad σ ix
    unfold zqCOV
    rw [had 5 (ix % 8) (hr.2.1 ix hl) (by decide), had 8 ix hl (by decide), hL 2 ix 0 hl, hL 3 ix 0 hl, hL 4 ix 0 hl, hL 5 ix 0 hl]
  | 8, hl =>
    have e : (fun j => sI σ' 22 ix j) = (fun j => sI σ 22 ix j) := funext fun j => hI 22 ix j hl
    show zqCEV G σ' ix = zqCEV G σ ix
    unfold zqCEV
    rw [e]
  | 9, hl =>
    show zqSC ad' σ' ix = zqSC ad σ ix
    unfold zqSC
    rw [had 10 ix hl (by decide), hI 23 ix 0 hl, hI 24 ix 0 hl, hL 6 ix 0 hl]
  | 10, hl =>
    have e : (fun j => sI σ' 25 ix j) = (fun j => sI σ 25 ix j) := funext fun j => hI 25 ix j hl
    show zqDMG G σ' ix = zqDMG G σ ix
    unfold zqDMG
    rw [e]
  | 11, hl =>
    show zqFL ad' σ' ix = zqFL ad σ ix
    unfold zqFL
    rw [had 28 (5 + 4 * ix) (show (5 + 4 * ix) < 13 by have hl2 : ix < 2 := hl; omega) (by decide), had 28 (6 + 4 * ix) (show (6 + 4 * ix) < 13 by have hl2 : ix < 2 := hl; omega) (by decide), had 28 (7 + 4 * ix) (show (7 + 4 * ix) < 13 by have hl2 : ix < 2 := hl; omega) (by decide), had 28 (8 + 4 * ix) (show (8 + 4 * ix) < 13 by have hl2 : ix < 2 := hl; omega) (by decide), had 12 ix hl (by decide), hI 26 ix 0 hl]
  | 12, hl =>
    show zqLAY ad' σ' ix = zqLAY ad σ ix
    unfold zqLAY
    rw [had 13 ix hl (by decide), had 14 ix hl (by decide), had 15 ix hl (by decide), had 16 ix hl (by decide), had 17 ix hl (by decide), hI 27 ix 0 hl]
  | 13, hl =>
    have e : (fun j => sI σ' 28 ix j) = (fun j => sI σ 28 ix j) := funext fun j => hI 28 ix j hl
    show zqLDAYS G σ' ix = zqLDAYS G σ ix
    unfold zqLDAYS
    rw [e]
  | 14, hl =>
    have e : (fun j => sL σ' 7 ix j) = (fun j => sL σ 7 ix j) := funext fun j => hL 7 ix j hl
    show zqLSUMS G σ' ix = zqLSUMS G σ ix
    unfold zqLSUMS
    rw [e]
  | 15, hl =>
    have e : (fun j => sI σ' 29 ix j) = (fun j => sI σ 29 ix j) := funext fun j => hI 29 ix j hl
    show zqLENDS G σ' ix = zqLENDS G σ ix
    unfold zqLENDS
    rw [e]
  | 16, hl =>
    have e : (fun j => sL σ' 8 ix j) = (fun j => sL σ 8 ix j) := funext fun j => hL 8 ix j hl
    show zqLBR G σ' ix = zqLBR G σ ix
    unfold zqLBR
    rw [e]
  | 17, hl =>
    have e : (fun j => sI σ' 30 ix j) = (fun j => sI σ 30 ix j) := funext fun j => hI 30 ix j hl
    show zqLCN G σ' ix = zqLCN G σ ix
    unfold zqLCN
    rw [e]
  | 18, hl =>
    show zqPOOL ad' ix = zqPOOL ad ix
    unfold zqPOOL
    rw [had 19 ix hl (by decide), had 20 ix hl (by decide), had 21 ix hl (by decide), had 22 ix hl (by decide), had 23 ix hl (by decide), had 24 ix hl (by decide), had 25 ix hl (by decide), had 26 ix hl (by decide), had 27 ix hl (by decide)]
  | 19, hl =>
    have e : (fun j => sI σ' 31 ix j) = (fun j => sI σ 31 ix j) := funext fun j => hI 31 ix j hl
    show zqPFAIL G σ' ix = zqPFAIL G σ ix
    unfold zqPFAIL
    rw [e]
  | 20, hl =>
    have e : (fun j => sI σ' 32 ix j) = (fun j => sI σ 32 ix j) := funext fun j => hI 32 ix j hl
    show zqPREC G σ' ix = zqPREC G σ ix
    unfold zqPREC
    rw [e]
  | 21, hl =>
    have e : (fun j => sI σ' 33 ix j) = (fun j => sI σ 33 ix j) := funext fun j => hI 33 ix j hl
    show zqPBND G σ' ix = zqPBND G σ ix
    unfold zqPBND
    rw [e]
  | 22, hl =>
    have e : (fun j => sI σ' 34 ix j) = (fun j => sI σ 34 ix j) := funext fun j => hI 34 ix j hl
    show zqPLIM G σ' ix = zqPLIM G σ ix
    unfold zqPLIM
    rw [e]
  | 23, hl =>
    have e : (fun j => sL σ' 9 ix j) = (fun j => sL σ 9 ix j) := funext fun j => hL 9 ix j hl
    show zqPOWN G σ' ix = zqPOWN G σ ix
    unfold zqPOWN
    rw [e]
  | 24, hl =>
    have e : (fun j => sL σ' 10 ix j) = (fun j => sL σ 10 ix j) := funext fun j => hL 10 ix j hl
    show zqPCOM G σ' ix = zqPCOM G σ ix
    unfold zqPCOM
    rw [e]
  | 25, hl =>
    have e : (fun j => sL σ' 11 ix j) = (fun j => sL σ 11 ix j) := funext fun j => hL 11 ix j hl
    show zqPEAR G σ' ix = zqPEAR G σ ix
    unfold zqPEAR
    rw [e]
  | 26, hl =>
    have e : (fun j => sL σ' 12 ix j) = (fun j => sL σ 12 ix j) := funext fun j => hL 12 ix j hl
    show zqPABV G σ' ix = zqPABV G σ ix
    unfold zqPABV
    rw [e]
  | 27, hl =>
    have e : (fun j => sL σ' 13 ix j) = (fun j => sL σ 13 ix j) := funext fun j => hL 13 ix j hl
    show zqPBEF G σ' ix = zqPBEF G σ ix
    unfold zqPBEF
    rw [e]
  | 28, hl =>
    show zqLST G aa σ' ix = zqLST G aa σ ix
    unfold zqLST
    rw [hM, hC, hZ]
  | 29, hl =>
    have e : (fun j => (sE σ' ix j).map (ad' (zeK ix))) = (fun j => (sE σ ix j).map (ad (zeK ix))) := funext fun j => by
      rw [hE]
      cases hx : sE σ ix j with
      | none => rfl
      | some x => exact congrArg some (had (zeK ix) x (hr.2.2 ix j x hl.1 hx) (zeK_ne ix))
    show zqLARR G ad' σ' ix = zqLARR G ad σ ix
    unfold zqLARR
    rw [hC, e]
/-- one more of a kind: counts, cells -/
def uN (σ : zSt) (q c s : Nat) : zSt := (σ.1, σ.2.1, σ.2.2.1, σ.2.2.2.1, σ.2.2.2.2.1, σ.2.2.2.2.2.1, (fun j => if j = q then σ.2.2.2.2.2.2.1 q + 1 else σ.2.2.2.2.2.2.1 j), σ.2.2.2.2.2.2.2.1, σ.2.2.2.2.2.2.2.2.1 + c, σ.2.2.2.2.2.2.2.2.2 + s)
def wI (σ : zSt) (p : Nat → Nat → Nat → Bool) (f : Nat → Nat → Nat → Int32) : zSt := ((fun t o e => if p t o e = true then f t o e else σ.1 t o e), σ.2)
def wL (σ : zSt) (p : Nat → Nat → Nat → Bool) : zSt := (σ.1, (fun t o e => if p t o e = true then 0 else σ.2.1 t o e), σ.2.2)
def uP (σ : zSt) (k p : Nat) : zSt := (σ.1, σ.2.1, σ.2.2.1, σ.2.2.2.1, σ.2.2.2.2.1, σ.2.2.2.2.2.1, σ.2.2.2.2.2.2.1, (fun j => if j = k then p else σ.2.2.2.2.2.2.2.1 j), σ.2.2.2.2.2.2.2.2)
theorem zlv_cases {P : Nat → Prop} {kd : Nat} (h : kd < 30) (hp : P 0 ∧ P 1 ∧ P 2 ∧ P 3 ∧ P 4 ∧ P 5 ∧ P 6 ∧ P 7 ∧ P 8 ∧ P 9 ∧ P 10 ∧ P 11 ∧ P 12 ∧ P 13 ∧ P 14 ∧ P 15 ∧ P 16 ∧ P 17 ∧ P 18 ∧ P 19 ∧ P 20 ∧ P 21 ∧ P 22 ∧ P 23 ∧ P 24 ∧ P 25 ∧ P 26 ∧ P 27 ∧ P 28 ∧ P 29) : P kd := by
  obtain ⟨h0, h1, h2, h3, h4, h5, h6, h7, h8, h9, h10, h11, h12, h13, h14, h15, h16, h17, h18, h19, h20, h21, h22, h23, h24, h25, h26, h27, h28, h29⟩ := hp
  match kd, h with
  | 0, _ => exact h0
  | 1, _ => exact h1
  | 2, _ => exact h2
  | 3, _ => exact h3
  | 4, _ => exact h4
  | 5, _ => exact h5
  | 6, _ => exact h6
  | 7, _ => exact h7
  | 8, _ => exact h8
  | 9, _ => exact h9
  | 10, _ => exact h10
  | 11, _ => exact h11
  | 12, _ => exact h12
  | 13, _ => exact h13
  | 14, _ => exact h14
  | 15, _ => exact h15
  | 16, _ => exact h16
  | 17, _ => exact h17
  | 18, _ => exact h18
  | 19, _ => exact h19
  | 20, _ => exact h20
  | 21, _ => exact h21
  | 22, _ => exact h22
  | 23, _ => exact h23
  | 24, _ => exact h24
  | 25, _ => exact h25
  | 26, _ => exact h26
  | 27, _ => exact h27
  | 28, _ => exact h28
  | 29, _ => exact h29
  | m + 30, h => exact absurd h (by omega)
theorem zlv_lt {σ : zSt} {kd ix : Nat} (h : zlv σ kd ix) : kd < 30 := by
  rcases Nat.lt_or_ge kd 30 with q | q
  · exact q
  · obtain ⟨m, rfl⟩ : ∃ m, kd = m + 30 := ⟨kd - 30, by omega⟩
    exact h.elim
def aPOL (σ : zSt) (v1 v2 v3 v4 : Int32) : zSt := wI (uN σ 0 1 4) (fun t o _ => (t == 0 || t == 1 || t == 2 || t == 3) && o == (sN σ 0)) (fun t _ _ => if t = 0 then v1 else if t = 1 then v2 else if t = 2 then v3 else if t = 3 then v4 else 0)
theorem aPOL_I (σ : zSt) (v1 v2 v3 v4 : Int32) (t o e : Nat) (h : ¬ ((t = 0 ∨ t = 1 ∨ t = 2 ∨ t = 3) ∧ o = (sN σ 0))) : sI (aPOL σ v1 v2 v3 v4) t o e = sI σ t o e := if_neg (by simpa [or_assoc] using h)
theorem aPOL_I0 (σ : zSt) (v1 v2 v3 v4 : Int32) (e : Nat) : sI (aPOL σ v1 v2 v3 v4) 0 (sN σ 0) e = v1 := by simp [aPOL, uN, wI, wL, uP, sI, sL, sN]
theorem aPOL_I1 (σ : zSt) (v1 v2 v3 v4 : Int32) (e : Nat) : sI (aPOL σ v1 v2 v3 v4) 1 (sN σ 0) e = v2 := by simp [aPOL, uN, wI, wL, uP, sI, sL, sN]
theorem aPOL_I2 (σ : zSt) (v1 v2 v3 v4 : Int32) (e : Nat) : sI (aPOL σ v1 v2 v3 v4) 2 (sN σ 0) e = v3 := by simp [aPOL, uN, wI, wL, uP, sI, sL, sN]
theorem aPOL_I3 (σ : zSt) (v1 v2 v3 v4 : Int32) (e : Nat) : sI (aPOL σ v1 v2 v3 v4) 3 (sN σ 0) e = v4 := by simp [aPOL, uN, wI, wL, uP, sI, sL, sN]
theorem aPOL_l1 {σ : zSt} (v1 v2 v3 v4 : Int32) {ix : Nat} (g : zlv (aPOL σ v1 v2 v3 v4) 1 ix) : zlv σ 1 ix ∨ ix = (sN σ 0) := by
  have g : ix < sN σ 0 + 1 := g
  rcases Nat.lt_or_ge ix (sN σ 0) with q | q
  · exact Or.inl q
  · exact Or.inr (by omega)
set_option maxHeartbeats 4000000 in
theorem zx_adPOL {G : zG} {X : zX} {nL k n pc : Nat} {lo : List (Nat × Value)} {st : List Value} {ad : Nat → Nat → Nat} {σ : zSt} (v1 v2 v3 v4 : Int32) (x0 : Nat) (hr : zref σ) 
    (kk : ∀ ad' : Nat → Nat → Nat, (∀ kd ix, zlv σ kd ix → kd ≠ 29 → ad' kd ix = ad kd ix) → ad' 1 (sN σ 0) = x0 → zV G X nL (zP G ad' (aPOL σ v1 v2 v3 v4)) k n pc lo st) : zV G X nL (zPx G (bZ G ad σ) [(x0, .inr (4, [.int v1, .int v2, .int v3, .int v4]))]) k n pc lo st := by
  have hdead : ∀ kd ix, zlv σ kd ix → ¬ ((kd = 1) ∧ ix = (sN σ 0)) := fun kd ix hl z => by
    obtain ⟨z1, z2⟩ := z
    subst z2
    rcases z1 with rfl
    · exact absurd hl (Nat.lt_irrefl _)
  generalize hadp : (fun kd ix => if kd = 1 ∧ ix = (sN σ 0) then x0 else ad kd ix : Nat → Nat → Nat) = ad'
  have hag : ∀ kd ix, zlv σ kd ix → kd ≠ 29 → ad' kd ix = ad kd ix := fun kd ix hl _ => by
    have hd := hdead kd ix hl
    rw [← hadp]
    dsimp only
    rw [if_neg (fun z => hd ⟨by omega, z.2⟩)]
  have e1 : ad' 1 (sN σ 0) = x0 := by rw [← hadp]; simp
  refine zV.imp (P' := zP G ad' (aPOL σ v1 v2 v3 v4)) (fun H h => ?_) (kk ad' hag e1)
  refine zP.adopt (fun kd ix => (kd = 1) ∧ ix = (sN σ 0)) h (fun kd ix hl => ?_) (fun kd ix z => by rcases z.1 with rfl <;> decide) hag (fun aa kd ix hl => zct_ext hr hag (fun t o e hl2 => aPOL_I σ v1 v2 v3 v4 t o e (fun z => ?_)) (fun t o e hl2 => rfl) (fun q hq => rfl) rfl rfl rfl rfl kd ix hl) (fun aa kd ix z => ?_) (fun kd ix kd' ix' z z' he => ?_)
  · refine zlv_cases (P := fun kd => zlv (aPOL σ v1 v2 v3 v4) kd ix → zlv σ kd ix ∨ ((kd = 1) ∧ ix = (sN σ 0))) (zlv_lt hl) ⟨?_, ?_, ?_, ?_, ?_, ?_, ?_, ?_, ?_, ?_, ?_, ?_, ?_, ?_, ?_, ?_, ?_, ?_, ?_, ?_, ?_, ?_, ?_, ?_, ?_, ?_, ?_, ?_, ?_, ?_⟩ hl
    · exact Or.inl
    · exact (fun g => (aPOL_l1 (σ := σ) v1 v2 v3 v4 g).elim Or.inl (fun e => Or.inr ⟨by simp, e⟩))
    · exact Or.inl
    · exact Or.inl
    · exact Or.inl
    · exact Or.inl
    · exact Or.inl
    · exact Or.inl
    · exact Or.inl
    · exact Or.inl
    · exact Or.inl
    · exact Or.inl
    · exact Or.inl
    · exact Or.inl
    · exact Or.inl
    · exact Or.inl
    · exact Or.inl
    · exact Or.inl
    · exact Or.inl
    · exact Or.inl
    · exact Or.inl
    · exact Or.inl
    · exact Or.inl
    · exact Or.inl
    · exact Or.inl
    · exact Or.inl
    · exact Or.inl
    · exact Or.inl
    · exact Or.inl
    · exact Or.inl
  · obtain ⟨z1, rfl⟩ := z
    rcases z1 with rfl | rfl | rfl | rfl
    · exact absurd hl2 (Nat.lt_irrefl _)
    · exact absurd hl2 (Nat.lt_irrefl _)
    · exact absurd hl2 (Nat.lt_irrefl _)
    · exact absurd hl2 (Nat.lt_irrefl _)
  · obtain ⟨z1, rfl⟩ := z
    rcases z1 with rfl
    · have ec : zct G ad' aa (aPOL σ v1 v2 v3 v4) 1 (sN σ 0) = .inr (4, [.int v1, .int v2, .int v3, .int v4]) := by
        show zqPOL (aPOL σ v1 v2 v3 v4) (sN σ 0) = _
        unfold zqPOL
        rw [aPOL_I0, aPOL_I1, aPOL_I2, aPOL_I3]
        all_goals rfl
      rw [e1, ec]
      simp
  · obtain ⟨z1, rfl⟩ := z
    obtain ⟨z2, rfl⟩ := z'
    obtain ⟨_, _, _, _, hpw⟩ := h
    simp at hpw
    refine ⟨?_, rfl⟩
    rcases z1 with rfl <;> rcases z2 with rfl
    · rfl
