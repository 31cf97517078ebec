/-! a run doesn't touch the scenarios' nets -/
def z6 (S σ : zSt) : Prop := S.2.1 6 = σ.2.1 6
theorem z6.rf {σ : zSt} : z6 σ σ := rfl
theorem z6.trans {x y z : zSt} (h : z6 x y) (k : z6 y z) : z6 x z := Eq.trans h k
theorem z6_uL {σ : zSt} {t o e : Nat} {v : Int64} (h : t ≠ 6) : z6 (uL σ t o e v) σ := pL_o (fun q => h q.symm)
theorem z6_of {S σ : zSt} (h : S.2.1 = σ.2.1) : z6 S σ := congrFun h 6
theorem z6_ofL {S σ : zSt} (h : ∀ o e, sL S 6 o e = sL σ 6 o e) : z6 S σ := funext fun o => funext fun e => h o e
theorem z6_cl (σ : zSt) (k : Nat) : z6 (s_clBegin σ k) σ := z6_ofL (fun o e => by rw [clB_L, if_neg (fun q => by have := q.1; omega), if_neg (fun q => by have := q.1; omega)])
theorem z6_cv (σ : zSt) (j : Nat) : z6 (s_cvBegin σ j) σ := z6_ofL (fun o e => by
  rw [cvB_L]
  split
  · rw [if_neg (fun q => by have := q.1; omega), if_neg (fun q => by have := q.1; omega), if_neg (fun q => by have := q.1; omega), if_neg (fun q => by have := q.1; omega)]
  · rfl)
theorem z6_take (σ : zSt) (j k : Nat) (x : Int64) : z6 (s_takeFrom σ j k x) σ := z6_ofL (fun o e => by rw [take_L, if_neg (fun q => by have := q.1; omega), if_neg (fun q => by have := q.1; omega), if_neg (fun q => by have := q.1; omega), if_neg (fun q => by have := q.1; omega)])
theorem z6_refill (σ : zSt) (j : Nat) (x : Int64) (d : Int32) : z6 (s_refill σ j x d) σ := z6_ofL (fun o e => by
  rw [refill_L]
  split
  · rfl
  · rw [if_neg (fun q => by have := q.1; omega), if_neg (fun q => by have := q.1; omega)])
theorem z6_sl (σ : zSt) (b k : Nat) : ∀ i, z6 (slI σ b k i) σ
  | 0 => z6.rf
  | i + 1 => by
    have h := z6_sl σ b k i
    unfold slI
    split
    · exact h
    · split
      · exact h
      · exact (z6_refill _ _ _ _).trans ((z6_take _ _ _ _).trans h)
theorem z6_rnA (σ : zSt) (b : Nat) : ∀ i, z6 (rnA σ b i) σ
  | 0 => z6.rf
  | i + 1 => (z6_cl _ _).trans (z6_rnA σ b i)
theorem z6_rnB (σ : zSt) (b : Nat) : ∀ i, z6 (rnB σ b i) σ
  | 0 => z6.rf
  | i + 1 => (z6_cv _ _).trans (z6_rnB σ b i)
theorem z6_rnC (σ : zSt) (b : Nat) : ∀ i, z6 (rnC σ b i) σ
  | 0 => z6.rf
  | i + 1 => (z6_sl _ _ _ _).trans (z6_rnC σ b i)
theorem z6_sg (σ : zSt) (b j : Nat) (am rs sm : Int64) : ∀ i, z6 (sgI σ b j am rs sm i) σ
  | 0 => z6.rf
  | i + 1 => by
    have h := z6_sg σ b j am rs sm i
    unfold sgI
    split
    · exact (z6_take _ _ _ _).trans h
    · exact (z6_take _ _ _ _).trans h
theorem z6_group (σ : zSt) (b j : Nat) : z6 (s_serveGroup σ b j) σ := by
  unfold s_serveGroup
  split
  · exact z6_sg _ _ _ _ _ _ _
  · exact z6.rf
theorem z6_ev (σ : zSt) (b j z : Nat) : ∀ i, z6 (evI σ b j z i) σ
  | 0 => z6.rf
  | i + 1 => z6_ev σ b j z i
theorem z6_lyAdd (σ : zSt) (b k n : Nat) : z6 (s_lyAdd σ b k n) σ := by
  unfold s_lyAdd
  split
  · split
    · exact z6.rf
    · exact z6_uL (σ := uI σ 28 b n (sI σ 4 k 0)) (by decide)
  · split
    · exact z6_uL (by decide)
    · split
      · exact z6.rf
      · exact z6_uL (σ := uI σ 28 b n (sI σ 4 k 0)) (by decide)
theorem z6_sz (σ : zSt) (b z : Nat) : ∀ i, z6 (szA σ b z i) σ
  | 0 => z6.rf
  | i + 1 => by
    have h := z6_sz σ b z i
    unfold szA
    split
    · exact (z6_lyAdd _ _ _ _).trans h
    · exact h
theorem z6_lyU (S : zSt) (b f e : Nat) (m : Int64) (c : Int32) : z6 (lyU S b f e m c) S := z6_uL (σ := S) (by decide)
theorem z6_lyA (S : zSt) (b t f e : Nat) (w : Int64) : z6 (lyA S b t f e w) S := by
  unfold lyA
  split
  · exact z6_lyU _ _ _ _ _ _
  · split
    · exact z6_lyU _ _ _ _ _ _
    · split
      · split
        · exact z6.rf
        · exact z6_lyU _ _ _ _ _ _
      · exact z6.rf
theorem z6_lyP (S : zSt) (b t f : Nat) : ∀ k, z6 (lyP S b t f k).1 S
  | 0 => z6.rf
  | k + 1 => (z6_lyA _ _ _ _ _ _).trans (z6_lyP S b t f k)
theorem z6_lyO (σ : zSt) (b t n : Nat) : ∀ i, z6 (lyO σ b t n i) σ
  | 0 => z6_uL (σ := σ) (by decide)
  | i + 1 => (z6_lyP _ _ _ _ _).trans (z6_lyO σ b t n i)
theorem z6_body (σ : zSt) (b j z i e : Nat) : z6 (s_zoneBody σ b j z i e) σ := by
  unfold s_zoneBody
  refine (z6_refill _ _ _ _).trans ((z6_group _ _ _).trans ?_)
  exact (z6_ev (s_gather σ b (nI z) (sI σ 28 b i) (sI σ 28 b e)) b j z _).trans (z6_of (gaI_IL _ _ _ _ _ _).2)
theorem z6_zn (σ : zSt) (b j z i : Nat) : z6 (znI σ b j z i).1 σ := by
  induction i with
  | zero => exact z6.rf
  | succ i ih =>
    simp only [znI]
    split
    · exact ih
    · dsimp only
      have g := z6_body (znI σ b j z i).1 b j z i (sI (znI σ b j z i).1 29 b i).toNatClampNeg
      exact z6.trans g ih
theorem z6_zone (σ : zSt) (b j z : Nat) (c : Int32) : z6 (s_serveZone σ b j z c) σ := by
  have h : z6 (s_lay (s_zoneFill (uI σ 27 b 0 0) b z) b (j % 8) (szN (s_zoneFill (uI σ 27 b 0 0) b z) b)) σ := (z6_lyO _ _ _ _ _).trans (z6_sz (uI σ 27 b 0 0) b z _)
  unfold s_serveZone
  split
  · exact (z6_zn _ _ _ _ _).trans h
  · split
    · exact (z6_zn (uI (s_lay (s_zoneFill (uI σ 27 b 0 0) b z) b (j % 8) (szN (s_zoneFill (uI σ 27 b 0 0) b z) b)) 26 b 0 0) _ _ _ _).trans h
    · exact (z6_zn _ _ _ _ _).trans h
theorem z6_zo (σ : zSt) (b i : Nat) (tr : Int32) : ∀ z, z6 (zoZ σ b i tr z) σ
  | 0 => z6.rf
  | z + 1 => by
    have h := z6_zo σ b i tr z
    unfold zoZ
    split
    · exact (z6_zone _ _ _ _ _).trans h
    · exact (z6_zone _ _ _ _ _).trans h
theorem z6_rnE (σ : zSt) (b : Nat) (tr : Int32) : ∀ i, z6 (rnE σ b tr i) σ
  | 0 => z6.rf
  | i + 1 => by
    have h := z6_rnE σ b tr i
    unfold rnE
    split
    · exact (z6_zo _ _ _ _ _).trans ((z6_of (foI_IL _ _ _ _).2).trans h)
    · exact h
theorem z6_rnG (σ : zSt) (b : Nat) : ∀ i, z6 (rnG σ b i) σ
  | 0 => z6.rf
  | i + 1 => by
    have h := z6_rnG σ b i
    unfold rnG
    split
    · exact (z6_group _ _ _).trans ((z6_of (gaI_IL _ _ _ _ _ _).2).trans ((z6_of (foI_IL _ _ _ _).2).trans h))
    · exact h
theorem z6_run (σ : zSt) (b : Nat) (tr : Int32) : z6 (s_run σ b tr) σ := (z6_rnG _ _ _).trans ((z6_rnE _ _ _ _).trans ((z6_rnC _ _ _).trans ((z6_rnB _ _ _).trans (z6_rnA (uI σ 26 b 0 1) b _))))
