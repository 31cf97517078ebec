/-! agreement: events, zones, treaties, the whole run -/
section ZAI
variable {b : Nat} {K U : Nat → Prop} {F : Nat → Nat → Nat → Int64}
theorem zAq.mv {q : Nat} {S T σ τ : zSt} (h1 : S.2.2 = σ.2.2) (h2 : T.2.2 = τ.2.2) (h : zAq q σ τ) : zAq q S T := by
  obtain ⟨a, x, c⟩ := S
  obtain ⟨a', x', c'⟩ := σ
  obtain ⟨d, y, e⟩ := T
  obtain ⟨d', y', e'⟩ := τ
  cases h1
  cases h2
  exact h
/-- one event -/
theorem body_d {S T : zSt} {t z i e' : Nat} (hb : b < 2) (ht8 : t < 8) (hwS : zWF b S) (hwT : zWF b T) (hs : zAs b K S T) (h : zAd K U F (sL S) (sL T)) (h7 : zAq (7 + 4 * b) S T) (hK : ∀ y, y < sZ S (7 + 4 * b) → K (lx S (7 + 4 * b) y)) (hU : U (8 * b + t)) (d1 : sI S 28 b i = sI T 28 b i) (d2 : sI S 28 b e' = sI T 28 b e') :
    zAd K U F (sL (s_zoneBody S b (8 * b + t) z i e')) (sL (s_zoneBody T b (8 * b + t) z i e')) := by
  have facts : ∀ S : zSt, zWF b S → ∀ f l : Int32, ∃ T3 : zSt, T3 = uI (s_zoneEv (s_gather S b (nI z) f l) b (8 * b + t) z) 22 (8 * b + t) z ((sI (s_zoneEv (s_gather S b (nI z) f l) b (8 * b + t) z) 22 (8 * b + t) z) + 1) ∧ zFr b T3 S ∧ sL T3 = sL S ∧ T3.2.2 = (gaI S b (nI z) f l (sZ S (7 + 4 * b))).2.2 ∧ sI T3 28 b i = sI S 28 b i := fun S hw f l => by
    obtain ⟨g1, g2, g3, g4⟩ := gaI_ok (z := nI z) (f := f) (l := l) hb hw.2.2.2.2.2.2.2.2.1.1 hw.2.2.2.2.2.2.2.2.2.2 hw.2.2.2.2.2.2.2.2.2.1 _ (Nat.le_refl _)
    have gIL := gaI_IL S b (nI z) f l (sZ S (7 + 4 * b))
    refine ⟨_, rfl, ((zFr.uI (by unfold zst; omega)).trans (zoneEv_fr _ b (8 * b + t) z)).trans g1, (evI_L _ _ _ _ _).trans gIL.2, evI_22 _ _ _ _ _, ?_⟩
    rw [qI_r, if_neg (fun q => by omega)]
    refine (evI_I _ _ _ _ _ (by decide) b i).trans ?_
    show (gaI S b (nI z) f l (sZ S (7 + 4 * b))).1 28 b i = S.1 28 b i
    rw [gIL.1]
  have hdef : ∀ S : zSt, s_zoneBody S b (8 * b + t) z i e' = s_refill (s_serveGroup (uI (s_zoneEv (s_gather S b (nI z) (sI S 28 b i) (sI S 28 b e')) b (8 * b + t) z) 22 (8 * b + t) z ((sI (s_zoneEv (s_gather S b (nI z) (sI S 28 b i) (sI S 28 b e')) b (8 * b + t) z) 22 (8 * b + t) z) + 1)) b (8 * b + t)) (8 * b + t) (v_serveGroup (uI (s_zoneEv (s_gather S b (nI z) (sI S 28 b i) (sI S 28 b e')) b (8 * b + t) z) 22 (8 * b + t) z ((sI (s_zoneEv (s_gather S b (nI z) (sI S 28 b i) (sI S 28 b e')) b (8 * b + t) z) 22 (8 * b + t) z) + 1)) b (8 * b + t)) (sI (s_serveGroup (uI (s_zoneEv (s_gather S b (nI z) (sI S 28 b i) (sI S 28 b e')) b (8 * b + t) z) 22 (8 * b + t) z ((sI (s_zoneEv (s_gather S b (nI z) (sI S 28 b i) (sI S 28 b e')) b (8 * b + t) z) 22 (8 * b + t) z) + 1)) b (8 * b + t)) 28 b i) := fun _ => rfl
  obtain ⟨A, a0, a1, a2, a3, a4⟩ := facts S hwS (sI S 28 b i) (sI S 28 b e')
  obtain ⟨B, b0, b1, b2, b3, b4⟩ := facts T hwT (sI S 28 b i) (sI S 28 b e')
  have eS := hdef S
  have eT := hdef T
  rw [← a0] at eS
  rw [← d1, ← d2, ← b0] at eT
  rw [eS, eT]
  clear eS eT a0 b0 hdef facts
  have q8 : zAq (8 + 4 * b) A B := by
    refine zAq.mv a3 b3 ?_
    rw [← h7.1]
    exact ga_a hs h7 hK (nI z) (sI S 28 b i) (sI S 28 b e') (sZ S (7 + 4 * b)) (Nat.le_refl _)
  have gsx := gaI_sx (σ := S) (b := b) (z := nI z) (f := sI S 28 b i) (l := sI S 28 b e') (sZ S (7 + 4 * b))
  have gok := ga_ok (σ := S) (b := b) (z := nI z) (f := sI S 28 b i) (l := sI S 28 b e') (sZ S (7 + 4 * b))
  have K8 : ∀ y, y < sZ A (8 + 4 * b) → K (lx A (8 + 4 * b) y) := fun y hy => by
    have eE : sE A = sE (gaI S b (nI z) (sI S 28 b i) (sI S 28 b e') (sZ S (7 + 4 * b))) := congrArg (fun z => z.1) a3
    have eZ : sZ A = sZ (gaI S b (nI z) (sI S 28 b i) (sI S 28 b e') (sZ S (7 + 4 * b))) := congrArg (fun z => z.2.1) a3
    obtain ⟨g, g1, -⟩ := gok
    rw [eZ] at hy
    have := g1 y hy
    have e1 : lx A (8 + 4 * b) y = lx S (7 + 4 * b) (g y) := by
      unfold lx at this ⊢
      rw [eE, this.2.1]
      show lx _ _ _ = lx _ _ _
      exact zSx_lx gsx (by omega) _
    rw [e1]
    exact hK _ this.1
  have hsAB := hs.fr a1 b1
  have hAB : zAd K U F (sL A) (sL B) := by rw [a2, b2]; exact h
  obtain ⟨k1, k2⟩ := group_d hsAB q8 K8 (fun _ => hU) hAB
  have i1 : sI (s_serveGroup A b (8 * b + t)) 28 b i = sI (s_serveGroup B b (8 * b + t)) 28 b i := by
    rw [show sI (s_serveGroup A b (8 * b + t)) = sI A from serveGroup_1 _ _ _, show sI (s_serveGroup B b (8 * b + t)) = sI B from serveGroup_1 _ _ _, a4, b4, d1]
  rw [k2 hU, i1]
  exact refill_d (hsAB.fr (fr_1 (serveGroup_1 _ _ _) (serveGroup_2 _ _ _)) (fr_1 (serveGroup_1 _ _ _) (serveGroup_2 _ _ _))) k1 _ _ hU
/-- the events of a zone -/
theorem zn_d {σ τ : zSt} {t z n : Nat} (hb : b < 2) (ht8 : t < 8) (hwS : zWF b σ) (hwT : zWF b τ) (hs : zAs b K σ τ) (h : zAd K U F (sL σ) (sL τ)) (h7 : zAq (7 + 4 * b) σ τ) (hK : ∀ y, y < sZ σ (7 + 4 * b) → K (lx σ (7 + 4 * b) y)) (hU : 0 < n → U (8 * b + t)) (hn : n ≤ 30)
    (hD : ∀ e, e < n → sI σ 28 b e = sI τ 28 b e) (hE : ∀ e, e < n → sI σ 29 b e = sI τ 29 b e) (he : ∀ g, g < n → ∃ e, g ≤ e ∧ e < n ∧ sI σ 29 b g = nI e) : ∀ i, i ≤ n → (znI σ b (8 * b + t) z i).2 = (znI τ b (8 * b + t) z i).2 ∧ zAd K U F (sL (znI σ b (8 * b + t) z i).1) (sL (znI τ b (8 * b + t) z i).1)
  | 0, _ => ⟨rfl, h⟩
  | i + 1, hi => by
    obtain ⟨e1, ih⟩ := zn_d hb ht8 hwS hwT hs h h7 hK hU hn hD hE he i (by omega)
    obtain ⟨a1, a2, a3, a4, a5⟩ := znI_ok (j := 8 * b + t) (z := z) hb hwS i
    obtain ⟨b1, b2, b3, b4, b5⟩ := znI_ok (j := 8 * b + t) (z := z) hb hwT i
    simp only [znI]
    rw [e1]
    by_cases c : nI i ≤ (znI τ b (8 * b + t) z i).2
    · rw [if_pos c, if_pos c]
      exact ⟨e1, ih⟩
    · rw [if_neg c, if_neg c]
      dsimp only
      obtain ⟨e', p1, p2, p3⟩ := he i (by omega)
      have s29 : sI (znI σ b (8 * b + t) z i).1 29 b i = nI e' := (a3 29 (by decide) (by decide) b i).trans p3
      have t29 : sI (znI τ b (8 * b + t) z i).1 29 b i = nI e' := (b3 29 (by decide) (by decide) b i).trans ((hE i (by omega)).symm.trans p3)
      rw [s29, t29]
      refine ⟨rfl, ?_⟩
      rw [nI_clamp (by omega)]
      have xa : ∀ y, lx (znI σ b (8 * b + t) z i).1 (7 + 4 * b) y = lx σ (7 + 4 * b) y := fun y => by unfold lx; rw [a4]
      have xb : ∀ y, lx (znI τ b (8 * b + t) z i).1 (7 + 4 * b) y = lx τ (7 + 4 * b) y := fun y => by unfold lx; rw [b4]
      refine body_d hb ht8 a1 b1 (hs.fr a2 b2) ih ⟨by rw [a5, b5]; exact h7.1, fun y hy => by rw [xa, xb]; exact h7.2 y (by rw [← a5]; exact hy)⟩ (fun y hy => by rw [xa]; exact hK y (by rw [← a5]; exact hy)) (hU (by omega)) ?_ ?_
      · rw [a3 28 (by decide) (by decide), b3 28 (by decide) (by decide)]
        exact hD i (by omega)
      · rw [a3 28 (by decide) (by decide), b3 28 (by decide) (by decide)]
        exact hD e' p2
/-- a zone -/
theorem zone_d {σ τ : zSt} {t z : Nat} (c c' : Int32) (hb : b < 2) (ht8 : t < 8) (ht : t < sN σ 2) (hj : zlV σ (8 * b + t)) (hj' : zlV τ (8 * b + t)) (hwS : zWF b σ) (hwT : zWF b τ) (hs : zAs b K σ τ) (h : zAd K U F (sL σ) (sL τ)) (h7 : zAq (7 + 4 * b) σ τ) (hK : ∀ y, y < sZ σ (7 + 4 * b) → K (lx σ (7 + 4 * b) y)) (hU : 0 < sZ σ (7 + 4 * b) → U (8 * b + t)) :
    zAd K U F (sL (s_serveZone σ b (8 * b + t) z c)) (sL (s_serveZone τ b (8 * b + t) z c')) := by
  have hm8 : (8 * b + t) % 8 = t := by omega
  have hN30 : sZ σ (7 + 4 * b) ≤ 30 := hwS.2.2.2.2.2.2.2.2.2.2
  obtain ⟨⟨-, -⟩, ⟨p3, p4, p5⟩, -, -⟩ := zone_pre (z := z) hb hwS hj
  obtain ⟨⟨-, -⟩, ⟨q3, q4, q5⟩, -, -⟩ := zone_pre (z := z) hb hwT hj'
  have f0 : ∀ Z : zSt, zFr b (uI Z 27 b 0 0) Z := fun Z => zFr.uI (by unfold zst; omega)
  obtain ⟨n, n1, n2, n3, n4⟩ := zf_a (hs.fr (f0 σ) (f0 τ)) h (σ := uI σ 27 b 0 0) (τ := uI τ 27 b 0 0) h7 hK z (u3_s _ _ _ _ _) (u3_s _ _ _ _ _) hN30 (sZ σ (7 + 4 * b)) (Nat.le_refl _)
  have n2 : sI (s_zoneFill (uI σ 27 b 0 0) b z) 27 b 0 = nI n := n2
  have n3 : sI (s_zoneFill (uI τ 27 b 0 0) b z) 27 b 0 = nI n := by
    show sI (szA (uI τ 27 b 0 0) b z (sZ τ (7 + 4 * b))) 27 b 0 = nI n
    rw [← h7.1]
    exact n3
  have n4 : zAr b n (s_zoneFill (uI σ 27 b 0 0) b z) (s_zoneFill (uI τ 27 b 0 0) b z) := by
    show zAr b n (szA (uI σ 27 b 0 0) b z (sZ σ (7 + 4 * b))) (szA (uI τ 27 b 0 0) b z (sZ τ (7 + 4 * b)))
    rw [← h7.1]
    exact n4
  have eS := szN_eq n2 (by omega)
  have eT := szN_eq n3 (by omega)
  have hfS : zFr b (s_zoneFill (uI σ 27 b 0 0) b z) σ := (zFr.of (b := b) (szA_22 (uI σ 27 b 0 0) b z _) (fun t ht o x => szA_I (uI σ 27 b 0 0) b z _ ht.2.2.2.1 ht.2.2.2.2.1 o x)).trans (f0 σ)
  have hfT : zFr b (s_zoneFill (uI τ 27 b 0 0) b z) τ := (zFr.of (b := b) (szA_22 (uI τ 27 b 0 0) b z _) (fun t ht o x => szA_I (uI τ 27 b 0 0) b z _ ht.2.2.2.1 ht.2.2.2.2.1 o x)).trans (f0 τ)
  have hdy : ¬ sI (s_zoneFill (uI σ 27 b 0 0) b z) 14 t 0 ≤ 0 := by
    rw [hfS.2.2.1 14 (by unfold zst; omega)]
    exact (hwS.2.2.1 t ht).2
  have hend := lay_end (s_zoneFill (uI σ 27 b 0 0) b z) b t n (by omega) hdy
  have hsf := hs.fr hfS hfT
  have hlay : zAl b 0 n (s_lay (s_zoneFill (uI σ 27 b 0 0) b z) b t n) (s_lay (s_zoneFill (uI τ 27 b 0 0) b z) b t n) := by
    have := lyO_a (b := b) (t := t) (n := n) (by omega) hsf.2.2.1 hdy n4 n (Nat.le_refl _)
    rw [Nat.sub_self] at this
    exact this
  unfold s_serveZone
  rw [hm8, eS, eT]
  rw [hm8, eS] at p3 p4 p5
  rw [hm8, eT] at q3 q4 q5
  have lI : ∀ Z : zSt, ∀ q, q ≠ 29 → q ≠ 30 → ∀ o x, sI (s_lay Z b t n) q o x = sI Z q o x := fun Z q h1 h2 o x => lyO_I _ _ _ _ _ h1 h2 o x
  have lL : ∀ q, q ≠ 7 → q ≠ 8 → ∀ (Z : zSt), ∀ o x, sL (s_lay (s_zoneFill (uI Z 27 b 0 0) b z) b t n) q o x = sL Z q o x := fun q h1 h2 Z o x => (lyO_L _ _ _ _ _ h2 o x).trans (szA_L (uI Z 27 b 0 0) b z _ q h1 o x)
  have dl : zAd K U F (sL (s_lay (s_zoneFill (uI σ 27 b 0 0) b z) b t n)) (sL (s_lay (s_zoneFill (uI τ 27 b 0 0) b z) b t n)) := by
    refine ⟨fun o ho => ⟨?_, fun e he => ?_⟩, fun j' hj' q q1 q2 => ?_, fun o ho q hq e => ?_⟩
    · rw [lL 0 (by decide) (by decide), lL 0 (by decide) (by decide)]
      exact (h.1 o ho).1
    · rw [lL 1 (by decide) (by decide), lL 1 (by decide) (by decide)]
      exact (h.1 o ho).2 e he
    · rw [lL q (by omega) (by omega), lL q (by omega) (by omega)]
      exact h.2.1 j' hj' q q1 q2
    · rw [lL q (by omega) (by omega)]
      exact h.2.2 o ho q hq e
  have both : ∀ X Y, (X = s_lay (s_zoneFill (uI σ 27 b 0 0) b z) b t n ∨ X = uI (s_lay (s_zoneFill (uI σ 27 b 0 0) b z) b t n) 26 b 0 0) → (Y = s_lay (s_zoneFill (uI τ 27 b 0 0) b z) b t n ∨ Y = uI (s_lay (s_zoneFill (uI τ 27 b 0 0) b z) b t n) 26 b 0 0) → zAd K U F (sL (s_zoneLoop X b (8 * b + t) z n)) (sL (s_zoneLoop Y b (8 * b + t) z n)) := by
    intro X Y hX hY
    have X22 : X.2.2 = σ.2.2 := by
      rcases hX with rfl | rfl
      · exact p5
      · exact p5
    have Y22 : Y.2.2 = τ.2.2 := by
      rcases hY with rfl | rfl
      · exact q5
      · exact q5
    have Xfr : zFr b X σ := by
      rcases hX with rfl | rfl
      · exact p4
      · exact (zFr.uI (by unfold zst; omega)).trans p4
    have Yfr : zFr b Y τ := by
      rcases hY with rfl | rfl
      · exact q4
      · exact (zFr.uI (by unfold zst; omega)).trans q4
    have Xw : zWF b X := by
      rcases hX with rfl | rfl
      · exact p3
      · exact p3.mv (uI_22 _ _ _ _ _) (zFr.uI (by unfold zst; omega))
    have Yw : zWF b Y := by
      rcases hY with rfl | rfl
      · exact q3
      · exact q3.mv (uI_22 _ _ _ _ _) (zFr.uI (by unfold zst; omega))
    have X1 : ∀ q, q ≠ 26 → ∀ o x, sI X q o x = sI (s_lay (s_zoneFill (uI σ 27 b 0 0) b z) b t n) q o x := fun q hq o x => by
      rcases hX with rfl | rfl
      · rfl
      · rw [qI_r, if_neg (fun z => hq z.1)]
    have Y1 : ∀ q, q ≠ 26 → ∀ o x, sI Y q o x = sI (s_lay (s_zoneFill (uI τ 27 b 0 0) b z) b t n) q o x := fun q hq o x => by
      rcases hY with rfl | rfl
      · rfl
      · rw [qI_r, if_neg (fun z => hq z.1)]
    have XL : sL X = sL (s_lay (s_zoneFill (uI σ 27 b 0 0) b z) b t n) := by
      rcases hX with rfl | rfl
      · rfl
      · rfl
    have YL : sL Y = sL (s_lay (s_zoneFill (uI τ 27 b 0 0) b z) b t n) := by
      rcases hY with rfl | rfl
      · rfl
      · rfl
    have xX : ∀ y, lx X (7 + 4 * b) y = lx σ (7 + 4 * b) y := fun y => by unfold lx; rw [show sE X = sE σ from congrArg (fun z => z.1) X22]
    have zX : sZ X = sZ σ := congrArg (fun z => z.2.1) X22
    exact (zn_d (z := z) (n := n) hb ht8 Xw Yw (hs.fr Xfr Yfr) (by rw [XL, YL]; exact dl) (h7.mv X22 Y22) (fun y hy => by rw [xX]; exact hK y (by rw [← zX]; exact hy)) (fun w => hU (by omega)) (by omega) (fun e he => by
      rw [X1 28 (by decide), Y1 28 (by decide), lI _ 28 (by decide) (by decide), lI _ 28 (by decide) (by decide)]
      exact (n4 e he).1) (fun e he => by
      rw [X1 29 (by decide), Y1 29 (by decide)]
      exact hlay.2 e (Nat.zero_le _) he) (fun g hg => by
      rw [X1 29 (by decide)]
      exact hend g hg) n (Nat.le_refl _)).2
  (repeat' split) <;> exact both _ _ (by first | exact Or.inl rfl | exact Or.inr rfl) (by first | exact Or.inl rfl | exact Or.inr rfl)
end ZAI
