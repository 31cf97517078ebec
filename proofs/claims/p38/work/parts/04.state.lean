/-! the state of the system as one value, and the picture of it in the heap -/
/-- ints, longs, elements of lists, sizes of lists, their rooms, their counts of changes, how many objects of a kind, the policy of a loss, cells made, slots made -/
abbrev zSt : Type := (Nat → Nat → Nat → Int32) × (Nat → Nat → Nat → Int64) × (Nat → Nat → Option Nat) × (Nat → Nat) × (Nat → Nat) × (Nat → Int32) × (Nat → Nat) × (Nat → Nat) × Nat × Nat
abbrev sI (σ : zSt) := σ.1
abbrev sL (σ : zSt) := σ.2.1
abbrev sE (σ : zSt) := σ.2.2.1
abbrev sZ (σ : zSt) := σ.2.2.2.1
abbrev sC (σ : zSt) := σ.2.2.2.2.1
abbrev sM (σ : zSt) := σ.2.2.2.2.2.1
abbrev sN (σ : zSt) := σ.2.2.2.2.2.2.1
abbrev sP (σ : zSt) := σ.2.2.2.2.2.2.2.1
abbrev sgc (σ : zSt) := σ.2.2.2.2.2.2.2.2.1
abbrev sgs (σ : zSt) := σ.2.2.2.2.2.2.2.2.2
def u3 {α : Type} (f : Nat → Nat → Nat → α) (t o e : Nat) (v : α) : Nat → Nat → Nat → α := fun t' o' e' => if t' = t ∧ o' = o ∧ e' = e then v else f t' o' e'
theorem u3_s {α : Type} (f : Nat → Nat → Nat → α) (t o e : Nat) (v : α) : u3 f t o e v t o e = v := if_pos ⟨rfl, rfl, rfl⟩
theorem u3_n {α : Type} (f : Nat → Nat → Nat → α) {t o e t' o' e' : Nat} (v : α) (h : ¬ (t' = t ∧ o' = o ∧ e' = e)) : u3 f t o e v t' o' e' = f t' o' e' := if_neg h
def uI (σ : zSt) (t o e : Nat) (v : Int32) : zSt := (u3 σ.1 t o e v, σ.2)
def uL (σ : zSt) (t o e : Nat) (v : Int64) : zSt := (σ.1, u3 σ.2.1 t o e v, σ.2.2)
def zlC (σ : zSt) (k : Nat) : Prop := k < sN σ 1 ∨ (30 ≤ k ∧ k < 30 + sN σ 4)
def zlV (σ : zSt) (j : Nat) : Prop := j < sN σ 5 ∨ (8 ≤ j ∧ j < 8 + sN σ 6)
/-- the kind of a list's elements -/
def zeK (i : Nat) : Nat := if i = 0 then 1 else if i = 2 then 5 else if i = 3 then 9 else if i = 6 ∨ i = 10 then 7 else 2
section ZS
variable (G : zG) (ad : Nat → Nat → Nat) (aa : Nat → Nat) (σ : zSt)
def zqO (ix : Nat) : va_E := .inr (8, [.ref (ad 28 0), .ref (ad 28 1), .ref (ad 28 2), .ref (ad 28 3), .ref (ad 28 4), .ref (ad 11 0), .ref (ad 11 1), .ref (ad 18 0), .int (sI σ 35 ix 0)])
def zqPOL (ix : Nat) : va_E := .inr (4, [.int (sI σ 0 ix 0), .int (sI σ 1 ix 0), .int (sI σ 2 ix 0), .int (sI σ 3 ix 0)])
def zqCL (ix : Nat) : va_E := .inr (0, [.ref (ad 1 (sP σ ix)), .ref (ad 3 ix), .ref (ad 4 ix), .int (sI σ 4 ix 0), .int (sI σ 5 ix 0), .int (sI σ 6 ix 0), .long (sL σ 0 ix 0)])
def zqTOOK (ix : Nat) : va_E := .inl (G.2.2.2.1 1, 8, .inr (.inl (fun j => sL σ 1 ix j)))
def zqEVS (ix : Nat) : va_E := .inl (G.2.2.2.1 0, 8, .inl (fun j => sI σ 7 ix j))
def zqTR (ix : Nat) : va_E := .inr (7, [.int (nI ix), .int (sI σ 8 ix 0), .int (sI σ 9 ix 0), .int (sI σ 10 ix 0), .int (sI σ 11 ix 0), .int (sI σ 12 ix 0), .int (sI σ 13 ix 0), .ref (ad 6 ix), .int (sI σ 14 ix 0), .int (sI σ 15 ix 0), .int (sI σ 16 ix 0), .int (sI σ 17 ix 0), .int (sI σ 18 ix 0), .int (sI σ 19 ix 0), .int (sI σ 20 ix 0)])
def zqSHR (ix : Nat) : va_E := .inl (G.2.2.2.1 0, 5, .inl (fun j => sI σ 21 ix j))
def zqCOV (ix : Nat) : va_E := .inr (1, [.ref (ad 5 (ix % 8)), .ref (ad 8 ix), .long (sL σ 2 ix 0), .long (sL σ 3 ix 0), .long (sL σ 4 ix 0), .long (sL σ 5 ix 0)])
def zqCEV (ix : Nat) : va_E := .inl (G.2.2.2.1 0, 4, .inl (fun j => sI σ 22 ix j))
def zqSC (ix : Nat) : va_E := .inr (6, [.int (sI σ 23 ix 0), .int (sI σ 24 ix 0), .ref (ad 10 ix), .long (sL σ 6 ix 0)])
def zqDMG (ix : Nat) : va_E := .inl (G.2.2.2.1 0, 4, .inl (fun j => sI σ 25 ix j))
def zqFL (ix : Nat) : va_E := .inr (2, [.ref (ad 28 (5 + 4 * ix)), .ref (ad 28 (6 + 4 * ix)), .ref (ad 28 (7 + 4 * ix)), .ref (ad 28 (8 + 4 * ix)), .ref (ad 12 ix), .int (sI σ 26 ix 0)])
def zqLAY (ix : Nat) : va_E := .inr (3, [.ref (ad 13 ix), .ref (ad 14 ix), .ref (ad 15 ix), .ref (ad 16 ix), .ref (ad 17 ix), .int (sI σ 27 ix 0)])
def zqLDAYS (ix : Nat) : va_E := .inl (G.2.2.2.1 0, 30, .inl (fun j => sI σ 28 ix j))
def zqLSUMS (ix : Nat) : va_E := .inl (G.2.2.2.1 1, 30, .inr (.inl (fun j => sL σ 7 ix j)))
def zqLENDS (ix : Nat) : va_E := .inl (G.2.2.2.1 0, 30, .inl (fun j => sI σ 29 ix j))
def zqLBR (ix : Nat) : va_E := .inl (G.2.2.2.1 1, 31, .inr (.inl (fun j => sL σ 8 ix j)))
def zqLCN (ix : Nat) : va_E := .inl (G.2.2.2.1 0, 31, .inl (fun j => sI σ 30 ix j))
def zqPOOL (ix : Nat) : va_E := .inr (5, [.ref (ad 19 ix), .ref (ad 20 ix), .ref (ad 21 ix), .ref (ad 22 ix), .ref (ad 23 ix), .ref (ad 24 ix), .ref (ad 25 ix), .ref (ad 26 ix), .ref (ad 27 ix)])
def zqPFAIL (ix : Nat) : va_E := .inl (G.2.2.2.1 2, 5, .inl (fun j => sI σ 31 ix j))
def zqPREC (ix : Nat) : va_E := .inl (G.2.2.2.1 0, 5, .inl (fun j => sI σ 32 ix j))
def zqPBND (ix : Nat) : va_E := .inl (G.2.2.2.1 0, 5, .inl (fun j => sI σ 33 ix j))
def zqPLIM (ix : Nat) : va_E := .inl (G.2.2.2.1 0, 5, .inl (fun j => sI σ 34 ix j))
def zqPOWN (ix : Nat) : va_E := .inl (G.2.2.2.1 1, 5, .inr (.inl (fun j => sL σ 9 ix j)))
def zqPCOM (ix : Nat) : va_E := .inl (G.2.2.2.1 1, 5, .inr (.inl (fun j => sL σ 10 ix j)))
def zqPEAR (ix : Nat) : va_E := .inl (G.2.2.2.1 1, 5, .inr (.inl (fun j => sL σ 11 ix j)))
def zqPABV (ix : Nat) : va_E := .inl (G.2.2.2.1 1, 5, .inr (.inl (fun j => sL σ 12 ix j)))
def zqPBEF (ix : Nat) : va_E := .inl (G.2.2.2.1 1, 5, .inr (.inl (fun j => sL σ 13 ix j)))
def zqLST (ix : Nat) : va_E := .inr (9, [.int (sM σ ix), .ref (if sC σ ix = 0 then G.2.2.2.2 0 else aa ix), .int (nI (sZ σ ix))])
def zqLARR (ix : Nat) : va_E := .inl (G.2.2.2.1 3, sC σ ix, .inr (.inr (.inr (.inr (fun j => (sE σ ix j).map (ad (zeK ix)))))))
def zlv (kd ix : Nat) : Prop := match kd with
  | 0 => ix = 0
  | 1 => ix < sN σ 0
  | 2 => zlC σ ix
  | 3 => zlC σ ix
  | 4 => zlC σ ix
  | 5 => ix < sN σ 2
  | 6 => ix < sN σ 2
  | 7 => zlV σ ix
  | 8 => zlV σ ix
  | 9 => ix < sN σ 3
  | 10 => ix < sN σ 3
  | 11 => ix < 2
  | 12 => ix < 2
  | 13 => ix < 2
  | 14 => ix < 2
  | 15 => ix < 2
  | 16 => ix < 2
  | 17 => ix < 2
  | 18 => ix = 0
  | 19 => ix = 0
  | 20 => ix = 0
  | 21 => ix = 0
  | 22 => ix = 0
  | 23 => ix = 0
  | 24 => ix = 0
  | 25 => ix = 0
  | 26 => ix = 0
  | 27 => ix = 0
  | 28 => ix < 13
  | 29 => ix < 13 ∧ 0 < sC σ ix
  | _ => False
def zct (kd ix : Nat) : va_E := match kd with
  | 0 => zqO ad σ ix
  | 1 => zqPOL σ ix
  | 2 => zqCL ad σ ix
  | 3 => zqTOOK G σ ix
  | 4 => zqEVS G σ ix
  | 5 => zqTR ad σ ix
  | 6 => zqSHR G σ ix
  | 7 => zqCOV ad σ ix
  | 8 => zqCEV G σ ix
  | 9 => zqSC ad σ ix
  | 10 => zqDMG G σ ix
  | 11 => zqFL ad σ ix
  | 12 => zqLAY ad σ ix
  | 13 => zqLDAYS G σ ix
  | 14 => zqLSUMS G σ ix
  | 15 => zqLENDS G σ ix
  | 16 => zqLBR G σ ix
  | 17 => zqLCN G σ ix
  | 18 => zqPOOL ad ix
  | 19 => zqPFAIL G σ ix
  | 20 => zqPREC G σ ix
  | 21 => zqPBND G σ ix
  | 22 => zqPLIM G σ ix
  | 23 => zqPOWN G σ ix
  | 24 => zqPCOM G σ ix
  | 25 => zqPEAR G σ ix
  | 26 => zqPABV G σ ix
  | 27 => zqPBEF G σ ix
  | 28 => zqLST G aa σ ix
  | 29 => zqLARR G ad σ ix
  | _ => .inr (0, [])
def zadr (kd ix : Nat) : Nat := if kd = 29 then aa ix else ad kd ix
/-- every live object lies at its address with its content; the addresses are apart and ours -/
def zP0 (H : Heap) : Prop := (∀ kd ix, zlv σ kd ix → va_at G.2.2.1 zCl (zadr ad aa kd ix, zct G ad aa σ kd ix) H ∧ gA G (zadr ad aa kd ix)) ∧ ∀ kd ix kd' ix', zlv σ kd ix → zlv σ kd' ix' → zadr ad aa kd ix = zadr ad aa kd' ix' → kd = kd' ∧ ix = ix'
def zP (H : Heap) : Prop := ∃ aa : Nat → Nat, zP0 G ad aa σ H
end ZS
/-- the kind of object that holds the int field t, the long field t -/
def zoI : Nat → Nat := fun t => if t = 0 then 1 else if t = 1 then 1 else if t = 2 then 1 else if t = 3 then 1 else if t = 4 then 2 else if t = 5 then 2 else if t = 6 then 2 else if t = 7 then 4 else if t = 8 then 5 else if t = 9 then 5 else if t = 10 then 5 else if t = 11 then 5 else if t = 12 then 5 else if t = 13 then 5 else if t = 14 then 5 else if t = 15 then 5 else if t = 16 then 5 else if t = 17 then 5 else if t = 18 then 5 else if t = 19 then 5 else if t = 20 then 5 else if t = 21 then 6 else if t = 22 then 8 else if t = 23 then 9 else if t = 24 then 9 else if t = 25 then 10 else if t = 26 then 11 else if t = 27 then 12 else if t = 28 then 13 else if t = 29 then 15 else if t = 30 then 17 else if t = 31 then 19 else if t = 32 then 20 else if t = 33 then 21 else if t = 34 then 22 else if t = 35 then 0 else 99
def zoL : Nat → Nat := fun t => if t = 0 then 2 else if t = 1 then 3 else if t = 2 then 7 else if t = 3 then 7 else if t = 4 then 7 else if t = 5 then 7 else if t = 6 then 9 else if t = 7 then 14 else if t = 8 then 16 else if t = 9 then 23 else if t = 10 then 24 else if t = 11 then 25 else if t = 12 then 26 else if t = 13 then 27 else 99
section ZS2
variable {G : zG} {ad : Nat → Nat → Nat} {aa : Nat → Nat} {σ σ' : zSt} {H H1 : Heap}
theorem zct_congr {kd ix : Nat} (h0 : σ'.2.2 = σ.2.2) (hI : ∀ t e, zoI t = kd → sI σ' t ix e = sI σ t ix e) (hL : ∀ t e, zoL t = kd → sL σ' t ix e = sL σ t ix e) : zct G ad aa σ' kd ix = zct G ad aa σ kd ix := by
  obtain ⟨a, b, c⟩ := σ
  obtain ⟨a', b', c'⟩ := σ'
  cases h0
  match kd, hI, hL with
  | 0, hI, hL =>
    show zqO ad (a', b', c) ix = zqO ad (a, b, c) ix
    unfold zqO
    rw [hI 35 _ rfl]
  | 1, hI, hL =>
    show zqPOL  (a', b', c) ix = zqPOL  (a, b, c) ix
    unfold zqPOL
    rw [hI 0 _ rfl, hI 1 _ rfl, hI 2 _ rfl, hI 3 _ rfl]
  | 2, hI, hL =>
    show zqCL ad (a', b', c) ix = zqCL ad (a, b, c) ix
    unfold zqCL
    rw [hI 4 _ rfl, hI 5 _ rfl, hI 6 _ rfl, hL 0 _ rfl]
  | 3, hI, hL =>
    have e : (fun j => sL (a', b', c) 1 ix j) = (fun j => sL (a, b, c) 1 ix j) := funext fun j => hL 1 j rfl
    show zqTOOK G (a', b', c) ix = zqTOOK G (a, b, c) ix
    unfold zqTOOK
    rw [e]
  | 4, hI, hL =>
    have e : (fun j => sI (a', b', c) 7 ix j) = (fun j => sI (a, b, c) 7 ix j) := funext fun j => hI 7 j rfl
    show zqEVS G (a', b', c) ix = zqEVS G (a, b, c) ix
    unfold zqEVS
    rw [e]
  | 5, hI, hL =>
    show zqTR ad (a', b', c) ix = zqTR ad (a, b, c) ix
    unfold zqTR
    rw [hI 8 _ rfl, hI 9 _ rfl, hI 10 _ rfl, hI 11 _ rfl, hI 12 _ rfl, hI 13 _ rfl, hI 14 _ rfl, hI 15 _ rfl, hI 16 _ rfl, hI 17 _ rfl, hI 18 _ rfl, hI 19 _ rfl, hI 20 _ rfl]
  | 6, hI, hL =>
    have e : (fun j => sI (a', b', c) 21 ix j) = (fun j => sI (a, b, c) 21 ix j) := funext fun j => hI 21 j rfl
    show zqSHR G (a', b', c) ix = zqSHR G (a, b, c) ix
    unfold zqSHR
    rw [e]
  | 7, hI, hL =>
    show zqCOV ad (a', b', c) ix = zqCOV ad (a, b, c) ix
    unfold zqCOV
    rw [hL 2 _ rfl, hL 3 _ rfl, hL 4 _ rfl, hL 5 _ rfl]
  | 8, hI, hL =>
    have e : (fun j => sI (a', b', c) 22 ix j) = (fun j => sI (a, b, c) 22 ix j) := funext fun j => hI 22 j rfl
    show zqCEV G (a', b', c) ix = zqCEV G (a, b, c) ix
    unfold zqCEV
    rw [e]
  | 9, hI, hL =>
    show zqSC ad (a', b', c) ix = zqSC ad (a, b, c) ix
    unfold zqSC
    rw [hI 23 _ rfl, hI 24 _ rfl, hL 6 _ rfl]
  | 10, hI, hL =>
    have e : (fun j => sI (a', b', c) 25 ix j) = (fun j => sI (a, b, c) 25 ix j) := funext fun j => hI 25 j rfl
    show zqDMG G (a', b', c) ix = zqDMG G (a, b, c) ix
    unfold zqDMG
    rw [e]
  | 11, hI, hL =>
    show zqFL ad (a', b', c) ix = zqFL ad (a, b, c) ix
    unfold zqFL
    rw [hI 26 _ rfl]
  | 12, hI, hL =>
    show zqLAY ad (a', b', c) ix = zqLAY ad (a, b, c) ix
    unfold zqLAY
    rw [hI 27 _ rfl]
  | 13, hI, hL =>
    have e : (fun j => sI (a', b', c) 28 ix j) = (fun j => sI (a, b, c) 28 ix j) := funext fun j => hI 28 j rfl
    show zqLDAYS G (a', b', c) ix = zqLDAYS G (a, b, c) ix
    unfold zqLDAYS
    rw [e]
  | 14, hI, hL =>
    have e : (fun j => sL (a', b', c) 7 ix j) = (fun j => sL (a, b, c) 7 ix j) := funext fun j => hL 7 j rfl
    show zqLSUMS G (a', b', c) ix = zqLSUMS G (a, b, c) ix
    unfold zqLSUMS
    rw [e]
  | 15, hI, hL =>
    have e : (fun j => sI (a', b', c) 29 ix j) = (fun j => sI (a, b, c) 29 ix j) := funext fun j => hI 29 j rfl
    show zqLENDS G (a', b', c) ix = zqLENDS G (a, b, c) ix
    unfold zqLENDS
    rw [e]
  | 16, hI, hL =>
    have e : (fun j => sL (a', b', c) 8 ix j) = (fun j => sL (a, b, c) 8 ix j) := funext fun j => hL 8 j rfl
    show zqLBR G (a', b', c) ix = zqLBR G (a, b, c) ix
    unfold zqLBR
    rw [e]
  | 17, hI, hL =>
    have e : (fun j => sI (a', b', c) 30 ix j) = (fun j => sI (a, b, c) 30 ix j) := funext fun j => hI 30 j rfl
    show zqLCN G (a', b', c) ix = zqLCN G (a, b, c) ix
    unfold zqLCN
    rw [e]
  | 18, hI, hL => rfl
  | 19, hI, hL =>
    have e : (fun j => sI (a', b', c) 31 ix j) = (fun j => sI (a, b, c) 31 ix j) := funext fun j => hI 31 j rfl
    show zqPFAIL G (a', b', c) ix = zqPFAIL G (a, b, c) ix
    unfold zqPFAIL
    rw [e]
  | 20, hI, hL =>
    have e : (fun j => sI (a', b', c) 32 ix j) = (fun j => sI (a, b, c) 32 ix j) := funext fun j => hI 32 j rfl
    show zqPREC G (a', b', c) ix = zqPREC G (a, b, c) ix
    unfold zqPREC
    rw [e]
  | 21, hI, hL =>
    have e : (fun j => sI (a', b', c) 33 ix j) = (fun j => sI (a, b, c) 33 ix j) := funext fun j => hI 33 j rfl
    show zqPBND G (a', b', c) ix = zqPBND G (a, b, c) ix
    unfold zqPBND
    rw [e]
  | 22, hI, hL =>
    have e : (fun j => sI (a', b', c) 34 ix j) = (fun j => sI (a, b, c) 34 ix j) := funext fun j => hI 34 j rfl
    show zqPLIM G (a', b', c) ix = zqPLIM G (a, b, c) ix
    unfold zqPLIM
    rw [e]
  | 23, hI, hL =>
    have e : (fun j => sL (a', b', c) 9 ix j) = (fun j => sL (a, b, c) 9 ix j) := funext fun j => hL 9 j rfl
    show zqPOWN G (a', b', c) ix = zqPOWN G (a, b, c) ix
    unfold zqPOWN
    rw [e]
  | 24, hI, hL =>
    have e : (fun j => sL (a', b', c) 10 ix j) = (fun j => sL (a, b, c) 10 ix j) := funext fun j => hL 10 j rfl
    show zqPCOM G (a', b', c) ix = zqPCOM G (a, b, c) ix
    unfold zqPCOM
    rw [e]
  | 25, hI, hL =>
    have e : (fun j => sL (a', b', c) 11 ix j) = (fun j => sL (a, b, c) 11 ix j) := funext fun j => hL 11 j rfl
    show zqPEAR G (a', b', c) ix = zqPEAR G (a, b, c) ix
    unfold zqPEAR
    rw [e]
  | 26, hI, hL =>
    have e : (fun j => sL (a', b', c) 12 ix j) = (fun j => sL (a, b, c) 12 ix j) := funext fun j => hL 12 j rfl
    show zqPABV G (a', b', c) ix = zqPABV G (a, b, c) ix
    unfold zqPABV
    rw [e]
  | 27, hI, hL =>
    have e : (fun j => sL (a', b', c) 13 ix j) = (fun j => sL (a, b, c) 13 ix j) := funext fun j => hL 13 j rfl
    show zqPBEF G (a', b', c) ix = zqPBEF G (a, b, c) ix
    unfold zqPBEF
    rw [e]
  | 28, hI, hL => rfl
  | 29, hI, hL => rfl
  | n + 30, hI, hL => rfl
theorem zlv_congr {kd ix : Nat} (h0 : σ'.2.2 = σ.2.2) : zlv σ' kd ix = zlv σ kd ix := by
  obtain ⟨a, b, c⟩ := σ
  obtain ⟨a', b', c'⟩ := σ'
  cases h0
  rfl
theorem zP0.at (h : zP0 G ad aa σ H) (kd ix : Nat) (hl : zlv σ kd ix) : va_at G.2.2.1 zCl (zadr ad aa kd ix, zct G ad aa σ kd ix) H := (h.1 kd ix hl).1
/-- one object's content is changed, the rest stays -/
theorem zP0.upd (h : zP0 G ad aa σ H) {kd ix : Nat} (hl : zlv σ kd ix) (hlv : ∀ k x, zlv σ' k x ↔ zlv σ k x) (hc : ∀ k x, ¬ (k = kd ∧ x = ix) → zlv σ k x → zct G ad aa σ' k x = zct G ad aa σ k x)
    (hn : va_at G.2.2.1 zCl (zadr ad aa kd ix, zct G ad aa σ' kd ix) H1) (oq : ∀ q, q ≠ zadr ad aa kd ix → H1[q]? = H[q]?) : zP0 G ad aa σ' H1 := by
  refine ⟨fun k x hx => ?_, fun k x k' x' h1 h2 => h.2 k x k' x' ((hlv _ _).mp h1) ((hlv _ _).mp h2)⟩
  have hx := (hlv _ _).mp hx
  obtain ⟨g1, g2⟩ := h.1 k x hx
  refine ⟨?_, g2⟩
  by_cases e : k = kd ∧ x = ix
  · obtain ⟨rfl, rfl⟩ := e
    exact hn
  · rw [hc k x e hx]
    exact g1.kept (oq _ (fun z => e (h.2 k x kd ix hx hl z)))
theorem zP0.setI (h : zP0 G ad aa σ H) {kd ix t e : Nat} {v : Int32} (ht : zoI t = kd) (hl : zlv σ kd ix) (hn : va_at G.2.2.1 zCl (zadr ad aa kd ix, zct G ad aa (uI σ t ix e v) kd ix) H1) (oq : ∀ q, q ≠ zadr ad aa kd ix → H1[q]? = H[q]?) : zP0 G ad aa (uI σ t ix e v) H1 := by
  subst ht
  refine h.upd hl (fun k x => by rw [zlv_congr (σ' := uI σ t ix e v) (σ := σ) rfl]) (fun k x hne _ => zct_congr rfl (fun t' e' h' => ?_) (fun _ _ _ => rfl)) hn oq
  exact u3_n _ _ (fun q => hne ⟨by rw [← h', q.1], q.2.1⟩)
theorem zP0.setL (h : zP0 G ad aa σ H) {kd ix t e : Nat} {v : Int64} (ht : zoL t = kd) (hl : zlv σ kd ix) (hn : va_at G.2.2.1 zCl (zadr ad aa kd ix, zct G ad aa (uL σ t ix e v) kd ix) H1) (oq : ∀ q, q ≠ zadr ad aa kd ix → H1[q]? = H[q]?) : zP0 G ad aa (uL σ t ix e v) H1 := by
  subst ht
  refine h.upd hl (fun k x => by rw [zlv_congr (σ' := uL σ t ix e v) (σ := σ) rfl]) (fun k x hne _ => zct_congr rfl (fun _ _ _ => rfl) (fun t' e' h' => ?_)) hn oq
  exact u3_n _ _ (fun q => hne ⟨by rw [← h', q.1], q.2.1⟩)
end ZS2
