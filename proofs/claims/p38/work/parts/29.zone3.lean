/-! where the events end; Flow.serveZone, whole -/
theorem uI_t {σ : zSt} {t o e : Nat} {v : Int32} {t' : Nat} (h : t' ≠ t) (o' e' : Nat) : sI (uI σ t o e v) t' o' e' = sI σ t' o' e' := u3_n _ _ (fun q => h q.1)
theorem uI_o {σ : zSt} {t o e : Nat} {v : Int32} {o' : Nat} (h : o' ≠ o) (t' e' : Nat) : sI (uI σ t o e v) t' o' e' = sI σ t' o' e' := u3_n _ _ (fun q => h q.2.1)
theorem uI_x {σ : zSt} {t o e : Nat} {v : Int32} {e' : Nat} (h : e' ≠ e) (t' o' : Nat) : sI (uI σ t o e v) t' o' e' = sI σ t' o' e' := u3_n _ _ (fun q => h q.2.2)
theorem uI_s {σ : zSt} {t o e : Nat} {v : Int32} : sI (uI σ t o e v) t o e = v := u3_s _ _ _ _ _
theorem uL_t {σ : zSt} {t o e : Nat} {v : Int64} {t' : Nat} (h : t' ≠ t) (o' e' : Nat) : sL (uL σ t o e v) t' o' e' = sL σ t' o' e' := u3_n _ _ (fun q => h q.1)
theorem uL_o {σ : zSt} {t o e : Nat} {v : Int64} {o' : Nat} (h : o' ≠ o) (t' e' : Nat) : sL (uL σ t o e v) t' o' e' = sL σ t' o' e' := u3_n _ _ (fun q => h q.2.1)
theorem uL_x {σ : zSt} {t o e : Nat} {v : Int64} {e' : Nat} (h : e' ≠ e) (t' o' : Nat) : sL (uL σ t o e v) t' o' e' = sL σ t' o' e' := u3_n _ _ (fun q => h q.2.2)
theorem uL_s {σ : zSt} {t o e : Nat} {v : Int64} : sL (uL σ t o e v) t o e = v := u3_s _ _ _ _ _
theorem lyA_end (S : zSt) (b t f e : Nat) (w : Int64) : sI (lyA S b t f e w) 29 b f = sI S 29 b f ∨ sI (lyA S b t f e w) 29 b f = nI e := by
  unfold lyA
  repeat' split
  all_goals first | exact Or.inl rfl | exact Or.inr (u3_s _ _ _ _ _)
theorem lyA_end0 (S : zSt) (b t f : Nat) (w : Int64) : sI (lyA S b t f f w) 29 b f = nI f := by
  unfold lyA
  rw [if_pos rfl]
  exact u3_s _ _ _ _ _
theorem lyA_ne (S : zSt) (b t f e : Nat) (w : Int64) {g : Nat} (hg : g ≠ f) : sI (lyA S b t f e w) 29 b g = sI S 29 b g := by
  unfold lyA lyU
  repeat' split
  all_goals first | rfl | exact (uI_x hg _ _).trans (uI_t (by decide) _ _)
theorem lyP_end (S : zSt) (b t f : Nat) (k : Nat) : ∃ e, f ≤ e ∧ e < f + (k + 1) ∧ sI (lyP S b t f (k + 1)).1 29 b f = nI e := by
  induction k with
  | zero => exact ⟨f, Nat.le_refl _, by omega, lyA_end0 _ _ _ _ _⟩
  | succ k ih =>
    obtain ⟨e, h1, h2, h3⟩ := ih
    rcases lyA_end (lyP S b t f (k + 1)).1 b t f (f + (k + 1)) ((lyP S b t f (k + 1)).2 + sL (lyP S b t f (k + 1)).1 7 b (f + (k + 1))) with h | h
    · exact ⟨e, h1, by omega, h.trans h3⟩
    · exact ⟨f + (k + 1), by omega, by omega, h⟩
theorem lyP_ne (S : zSt) (b t f k : Nat) {g : Nat} (hg : g ≠ f) : sI (lyP S b t f k).1 29 b g = sI S 29 b g := by
  induction k with
  | zero => rfl
  | succ k ih => exact (lyA_ne _ _ _ _ _ _ hg).trans ih
theorem lyK_in (S : zSt) (b t f n r : Nat) (hn : n ≤ 30) : ∀ k, f + k ≤ n → k ≤ lyK S b t f n r k ∧ f + lyK S b t f n r k ≤ n := by
  induction r with
  | zero => intro k hk; exact ⟨Nat.le_refl _, hk⟩
  | succ r ih =>
    intro k hk
    unfold lyK
    split
    · exact ⟨Nat.le_refl _, hk⟩
    · rename_i h
      split
      · exact ⟨Nat.le_refl _, hk⟩
      · have hlt : f + k < n := zloop_in (i := f + k) (N := n) rfl (by omega) hk h
        have := ih (k + 1) (by omega)
        omega
theorem lyK_pos (S : zSt) (b t f n r : Nat) (hf : f < n) (hn : n ≤ 30) (hd : ¬ sI S 14 t 0 ≤ 0) : 1 ≤ lyK S b t f n (r + 1) 0 := by
  unfold lyK
  rw [if_neg (nI_ge (show f + 0 < n by omega) (by omega))]
  have e : sI (lyP S b t f 0).1 28 b (f + 0) - sI (lyP S b t f 0).1 28 b f = 0 := by
    show sI S 28 b f - sI S 28 b f = 0
    exact Int32.sub_self _
  rw [e, if_neg (show ¬ sI (lyP S b t f 0).1 14 t 0 ≤ 0 from hd)]
  exact (lyK_in S b t f n r hn 1 (by omega)).1
theorem lyO_end (σ : zSt) (b t n : Nat) (hn : n ≤ 30) (hd : ¬ sI σ 14 t 0 ≤ 0) : ∀ i, i ≤ n → ∀ g, n - i ≤ g → g < n → ∃ e, g ≤ e ∧ e < n ∧ sI (lyO σ b t n i) 29 b g = nI e := by
  intro i
  induction i with
  | zero => intro _ g h1 h2; omega
  | succ i ih =>
    intro hi g h1 h2
    have hS : ¬ sI (lyO σ b t n i) 14 t 0 ≤ 0 := by rw [lyO_I σ b t n i (by decide) (by decide)]; exact hd
    show ∃ e, g ≤ e ∧ e < n ∧ sI (lyP (lyO σ b t n i) b t (n - (i + 1)) (lyK (lyO σ b t n i) b t (n - (i + 1)) n (n + 1) 0)).1 29 b g = nI e
    by_cases hg : g = n - (i + 1)
    · have hp := lyK_pos (lyO σ b t n i) b t (n - (i + 1)) n n (by omega) hn hS
      have hq := (lyK_in (lyO σ b t n i) b t (n - (i + 1)) n (n + 1) hn 0 (by omega)).2
      obtain ⟨k, hk⟩ : ∃ k, lyK (lyO σ b t n i) b t (n - (i + 1)) n (n + 1) 0 = k + 1 := ⟨lyK (lyO σ b t n i) b t (n - (i + 1)) n (n + 1) 0 - 1, by omega⟩
      rw [hk] at hq ⊢
      obtain ⟨e, a1, a2, a3⟩ := lyP_end (lyO σ b t n i) b t (n - (i + 1)) k
      subst hg
      exact ⟨e, a1, by omega, a3⟩
    · obtain ⟨e, a1, a2, a3⟩ := ih (by omega) g (by omega) h2
      exact ⟨e, a1, a2, (lyP_ne _ _ _ _ _ hg).trans a3⟩
theorem lay_end (σ : zSt) (b t n : Nat) (hn : n ≤ 30) (hd : ¬ sI σ 14 t 0 ≤ 0) (g : Nat) (hg : g < n) : ∃ e, g ≤ e ∧ e < n ∧ sI (s_lay σ b t n) 29 b g = nI e := lyO_end σ b t n hn hd n (Nat.le_refl _) g (by omega) hg
def v_bestA (σ : zSt) (b n t : Nat) : Int32 := if n = 0 then 1 else if 12 < n then 1 else v_bestOfAll σ b (n - 1) t
def v_best0 (σ : zSt) (b t : Nat) : Int32 := 1
set_option maxRecDepth 100000 in
set_option maxHeartbeats 4000000 in
theorem c_best0 {G : zG} {ad : Nat → Nat → Nat} {σ : zSt} (b t : Nat) (hb : b < 2) (ht : t < sN σ 2) (hn : sI σ 27 b 0 = 0) : zC G yX3_isBestOfAll cX3_isBestOfAll 11 (some FieldType.boolean) 3 67 0 0 [.ref (ad 12 b), .ref (ad 5 t)] (zP G ad σ) (some (.int (v_best0 σ b t))) (zP G ad σ) := by
  refine zC_of (by decide) (Nat.le_of_ble_eq_true rfl) (fun X K E hnm => ?_)
  show zV G X 11 (zP G ad σ) 0 0 0 [(0, .ref (ad 12 b)), (1, .ref (ad 5 t))] []
  refine zi_aload_n K (dX3_isBestOfAll_p0 0 rfl) 0 rfl ?_
  refine zg_LAY_size K hb w_115 (dX3_isBestOfAll_p0 1 rfl) ?_
  refine zi_if_eq K 16 (dX3_isBestOfAll_p0 2 rfl) rfl (fun h4_0 => ?_) (fun h4_0 => ?_)
  rotate_left
  · exact absurd hn h4_0
  refine zi_iconst K (dX3_isBestOfAll_p0 7 rfl) zk_i1 ?_
  exact zi_zret K E (dX3_isBestOfAll_p0 8 rfl) (Nat.le_refl _) (Nat.le_refl _) rfl rfl (fun _ h => h)
def v_bestX (σ : zSt) (b t n : Nat) : Int32 := 1
set_option maxRecDepth 100000 in
set_option maxHeartbeats 4000000 in
theorem c_bestX {G : zG} {ad : Nat → Nat → Nat} {σ : zSt} (b t n : Nat) (hb : b < 2) (ht : t < sN σ 2) (hn : sI σ 27 b 0 = nI n) (h12 : 12 < n) (hn30 : n ≤ 30) : zC G yX3_isBestOfAll cX3_isBestOfAll 11 (some FieldType.boolean) 3 67 0 0 [.ref (ad 12 b), .ref (ad 5 t)] (zP G ad σ) (some (.int (v_bestX σ b t n))) (zP G ad σ) := by
  refine zC_of (by decide) (Nat.le_of_ble_eq_true rfl) (fun X K E hnm => ?_)
  show zV G X 11 (zP G ad σ) 0 0 0 [(0, .ref (ad 12 b)), (1, .ref (ad 5 t))] []
  refine zi_aload_n K (dX3_isBestOfAll_p0 0 rfl) 0 rfl ?_
  refine zg_LAY_size K hb w_115 (dX3_isBestOfAll_p0 1 rfl) ?_
  rw [show sI σ 27 b 0 = nI n from hn]
  refine zi_if_eq K 16 (dX3_isBestOfAll_p0 2 rfl) rfl (fun h4_0 => ?_) (fun h4_0 => ?_)
  · exact absurd h4_0 (nI_ne0 (by omega) (by omega))
  refine zi_aload_n K (dX3_isBestOfAll_p0 3 rfl) 0 rfl ?_
  refine zg_LAY_size K hb w_115 (dX3_isBestOfAll_p0 4 rfl) ?_
  rw [show sI σ 27 b 0 = nI n from hn]
  refine zi_bipush K (dX3_isBestOfAll_p0 5 rfl) zk_b12 ?_
  refine zi_icmp_le K 18 (dX3_isBestOfAll_p0 6 rfl) rfl (fun h13_0 => ?_) (fun h13_0 => ?_)
  · exact absurd ((nI_leI (a := n) (b := 12) (by omega) (by omega)).mp h13_0) (by omega)
  refine zi_iconst K (dX3_isBestOfAll_p0 7 rfl) zk_i1 ?_
  exact zi_zret K E (dX3_isBestOfAll_p0 8 rfl) (Nat.le_refl _) (Nat.le_refl _) rfl rfl (fun _ h => h)
theorem c_bestA {G : zG} {ad : Nat → Nat → Nat} {σ : zSt} (b n t : Nat) (hb : b < 2) (ht : t < sN σ 2) (hn : sI σ 27 b 0 = nI n) (hn30 : n ≤ 30) : zC G yX3_isBestOfAll cX3_isBestOfAll 11 (some FieldType.boolean) 3 67 0 0 [.ref (ad 12 b), .ref (ad 5 t)] (zP G ad σ) (some (.int (v_bestA σ b n t))) (zP G ad σ) := by
  unfold v_bestA
  by_cases h0 : n = 0
  · subst h0
    rw [if_pos rfl]
    exact c_best0 b t hb ht hn
  · rw [if_neg h0]
    by_cases h1 : 12 < n
    · rw [if_pos h1]
      exact c_bestX b t n hb ht hn h1 hn30
    · rw [if_neg h1]
      exact c_bestOfAll b (n - 1) t hb ht (by rw [hn]; congr 1; omega) (by omega)
def s_serveZone (σ : zSt) (b j z : Nat) (c : Int32) : zSt := if c = 0 then (s_zoneLoop (s_lay (s_zoneFill (uI σ 27 b 0 0) b z) b (j % 8) (szN (s_zoneFill (uI σ 27 b 0 0) b z) b)) b j z (szN (s_zoneFill (uI σ 27 b 0 0) b z) b)) else if v_bestA (s_lay (s_zoneFill (uI σ 27 b 0 0) b z) b (j % 8) (szN (s_zoneFill (uI σ 27 b 0 0) b z) b)) b (szN (s_zoneFill (uI σ 27 b 0 0) b z) b) (j % 8) = 0 then (s_zoneLoop (uI (s_lay (s_zoneFill (uI σ 27 b 0 0) b z) b (j % 8) (szN (s_zoneFill (uI σ 27 b 0 0) b z) b)) 26 b 0 0) b j z (szN (s_zoneFill (uI σ 27 b 0 0) b z) b)) else (s_zoneLoop (s_lay (s_zoneFill (uI σ 27 b 0 0) b z) b (j % 8) (szN (s_zoneFill (uI σ 27 b 0 0) b z) b)) b j z (szN (s_zoneFill (uI σ 27 b 0 0) b z) b))
theorem zone_pre {σ : zSt} {b j z : Nat} (hb : b < 2) (hw : zWF b σ) (hj : zlV σ j) : (sI (s_zoneFill (uI σ 27 b 0 0) b z) 27 b 0 = nI (szN (s_zoneFill (uI σ 27 b 0 0) b z) b) ∧ (szN (s_zoneFill (uI σ 27 b 0 0) b z) b) ≤ 30) ∧ (zWF b (s_lay (s_zoneFill (uI σ 27 b 0 0) b z) b (j % 8) (szN (s_zoneFill (uI σ 27 b 0 0) b z) b)) ∧ zFr b (s_lay (s_zoneFill (uI σ 27 b 0 0) b z) b (j % 8) (szN (s_zoneFill (uI σ 27 b 0 0) b z) b)) σ ∧ (s_lay (s_zoneFill (uI σ 27 b 0 0) b z) b (j % 8) (szN (s_zoneFill (uI σ 27 b 0 0) b z) b)).2.2 = σ.2.2) ∧ sI (s_lay (s_zoneFill (uI σ 27 b 0 0) b z) b (j % 8) (szN (s_zoneFill (uI σ 27 b 0 0) b z) b)) 27 b 0 = nI (szN (s_zoneFill (uI σ 27 b 0 0) b z) b) ∧ ∀ i, i < (szN (s_zoneFill (uI σ 27 b 0 0) b z) b) → sI (s_lay (s_zoneFill (uI σ 27 b 0 0) b z) b (j % 8) (szN (s_zoneFill (uI σ 27 b 0 0) b z) b)) 29 b i = nI (sI (s_lay (s_zoneFill (uI σ 27 b 0 0) b z) b (j % 8) (szN (s_zoneFill (uI σ 27 b 0 0) b z) b)) 29 b i).toNatClampNeg ∧ (sI (s_lay (s_zoneFill (uI σ 27 b 0 0) b z) b (j % 8) (szN (s_zoneFill (uI σ 27 b 0 0) b z) b)) 29 b i).toNatClampNeg < 30 := by
  have hz7 : sZ (uI σ 27 b 0 0) (7 + 4 * b) ≤ 30 := hw.2.2.2.2.2.2.2.2.2.2
  have hn := szA_n (uI σ 27 b 0 0) b z (u3_s _ _ _ _ _) (sZ (uI σ 27 b 0 0) (7 + 4 * b)) hz7
  have hn1 : sI (s_zoneFill (uI σ 27 b 0 0) b z) 27 b 0 = nI (szN (s_zoneFill (uI σ 27 b 0 0) b z) b) ∧ (szN (s_zoneFill (uI σ 27 b 0 0) b z) b) ≤ sZ (uI σ 27 b 0 0) (7 + 4 * b) := hn
  have hn2 : (szN (s_zoneFill (uI σ 27 b 0 0) b z) b) ≤ 30 := Nat.le_trans hn1.2 hz7
  have e1 : (s_zoneFill (uI σ 27 b 0 0) b z).2.2 = σ.2.2 := (szA_22 (uI σ 27 b 0 0) b z (sZ (uI σ 27 b 0 0) (7 + 4 * b))).trans (uI_22 σ 27 b 0 0)
  have e2 : (s_lay (s_zoneFill (uI σ 27 b 0 0) b z) b (j % 8) (szN (s_zoneFill (uI σ 27 b 0 0) b z) b)).2.2 = σ.2.2 := (s_lay_22 _ _ _ _).trans e1
  have f1 : zFr b (s_zoneFill (uI σ 27 b 0 0) b z) σ := (zFr.of (b := b) (szA_22 (uI σ 27 b 0 0) b z (sZ (uI σ 27 b 0 0) (7 + 4 * b))) (fun t ht o x => szA_I (uI σ 27 b 0 0) b z (sZ (uI σ 27 b 0 0) (7 + 4 * b)) ht.2.2.2.1 ht.2.2.2.2.1 o x)).trans (zFr.uI (by unfold zst; omega))
  have f2 : zFr b (s_lay (s_zoneFill (uI σ 27 b 0 0) b z) b (j % 8) (szN (s_zoneFill (uI σ 27 b 0 0) b z) b)) σ := (zFr.of (b := b) (s_lay_22 _ _ _ _) (fun t ht o x => lyO_I (s_zoneFill (uI σ 27 b 0 0) b z) b (j % 8) (szN (s_zoneFill (uI σ 27 b 0 0) b z) b) (szN (s_zoneFill (uI σ 27 b 0 0) b z) b) ht.2.2.2.2.2.1 ht.2.2.2.2.2.2 o x)).trans f1
  have hd : ¬ sI (s_zoneFill (uI σ 27 b 0 0) b z) 14 (j % 8) 0 ≤ 0 := by
    rw [f1.2.2.1 14 (by unfold zst; omega)]
    exact (hw.2.2.1 _ (hw.2.2.2.1 _ hj)).2
  refine ⟨⟨hn1.1, hn2⟩, ⟨hw.mv e2 f2, f2, e2⟩, (lyO_I (s_zoneFill (uI σ 27 b 0 0) b z) b (j % 8) (szN (s_zoneFill (uI σ 27 b 0 0) b z) b) (szN (s_zoneFill (uI σ 27 b 0 0) b z) b) (by decide) (by decide) b 0).trans hn1.1, fun i hi => ?_⟩
  obtain ⟨e, a1, a2, a3⟩ := lay_end (s_zoneFill (uI σ 27 b 0 0) b z) b (j % 8) (szN (s_zoneFill (uI σ 27 b 0 0) b z) b) hn2 hd i hi
  rw [a3, nI_clamp (by omega)]
  exact ⟨rfl, by omega⟩
theorem serveZone_ok {σ : zSt} {b j z : Nat} {c : Int32} (hb : b < 2) (hw : zWF b σ) (hj : zlV σ j) : zWF b (s_serveZone σ b j z c) ∧ zFr b (s_serveZone σ b j z c) σ ∧ (sE (s_serveZone σ b j z c) (7 + 4 * b) = sE σ (7 + 4 * b) ∧ sZ (s_serveZone σ b j z c) (7 + 4 * b) = sZ σ (7 + 4 * b)) := by
  obtain ⟨-, ⟨h1, h2, h3⟩, -⟩ := zone_pre (z := z) hb hw hj
  have a1 := znI_ok (j := j) (z := z) hb h1 (szN (s_zoneFill (uI σ 27 b 0 0) b z) b)
  have h1' : zWF b (uI (s_lay (s_zoneFill (uI σ 27 b 0 0) b z) b (j % 8) (szN (s_zoneFill (uI σ 27 b 0 0) b z) b)) 26 b 0 0) := h1.mv (uI_22 _ _ _ _ _) (zFr.uI (by unfold zst; omega))
  have a2 := znI_ok (j := j) (z := z) hb h1' (szN (s_zoneFill (uI σ 27 b 0 0) b z) b)
  have q1 := congrArg (fun q => q.1 (7 + 4 * b)) h3
  have q2 := congrArg (fun q => q.2.1 (7 + 4 * b)) h3
  have r1 : zWF b (s_zoneLoop (s_lay (s_zoneFill (uI σ 27 b 0 0) b z) b (j % 8) (szN (s_zoneFill (uI σ 27 b 0 0) b z) b)) b j z (szN (s_zoneFill (uI σ 27 b 0 0) b z) b)) ∧ zFr b (s_zoneLoop (s_lay (s_zoneFill (uI σ 27 b 0 0) b z) b (j % 8) (szN (s_zoneFill (uI σ 27 b 0 0) b z) b)) b j z (szN (s_zoneFill (uI σ 27 b 0 0) b z) b)) σ ∧ (sE (s_zoneLoop (s_lay (s_zoneFill (uI σ 27 b 0 0) b z) b (j % 8) (szN (s_zoneFill (uI σ 27 b 0 0) b z) b)) b j z (szN (s_zoneFill (uI σ 27 b 0 0) b z) b)) (7 + 4 * b) = sE σ (7 + 4 * b) ∧ sZ (s_zoneLoop (s_lay (s_zoneFill (uI σ 27 b 0 0) b z) b (j % 8) (szN (s_zoneFill (uI σ 27 b 0 0) b z) b)) b j z (szN (s_zoneFill (uI σ 27 b 0 0) b z) b)) (7 + 4 * b) = sZ σ (7 + 4 * b)) := ⟨a1.1, a1.2.1.trans h2, a1.2.2.2.1.trans q1, a1.2.2.2.2.trans q2⟩
  have r2 : zWF b (s_zoneLoop (uI (s_lay (s_zoneFill (uI σ 27 b 0 0) b z) b (j % 8) (szN (s_zoneFill (uI σ 27 b 0 0) b z) b)) 26 b 0 0) b j z (szN (s_zoneFill (uI σ 27 b 0 0) b z) b)) ∧ zFr b (s_zoneLoop (uI (s_lay (s_zoneFill (uI σ 27 b 0 0) b z) b (j % 8) (szN (s_zoneFill (uI σ 27 b 0 0) b z) b)) 26 b 0 0) b j z (szN (s_zoneFill (uI σ 27 b 0 0) b z) b)) σ ∧ (sE (s_zoneLoop (uI (s_lay (s_zoneFill (uI σ 27 b 0 0) b z) b (j % 8) (szN (s_zoneFill (uI σ 27 b 0 0) b z) b)) 26 b 0 0) b j z (szN (s_zoneFill (uI σ 27 b 0 0) b z) b)) (7 + 4 * b) = sE σ (7 + 4 * b) ∧ sZ (s_zoneLoop (uI (s_lay (s_zoneFill (uI σ 27 b 0 0) b z) b (j % 8) (szN (s_zoneFill (uI σ 27 b 0 0) b z) b)) 26 b 0 0) b j z (szN (s_zoneFill (uI σ 27 b 0 0) b z) b)) (7 + 4 * b) = sZ σ (7 + 4 * b)) := ⟨a2.1, a2.2.1.trans ((zFr.uI (by unfold zst; omega)).trans h2), a2.2.2.2.1.trans q1, a2.2.2.2.2.trans q2⟩
  unfold s_serveZone
  split
  · exact r1
  · split
    · exact r2
    · exact r1
theorem zLeQ {x y : zSt} (h : y = x) : sgc x ≤ sgc y ∧ sgs x ≤ sgs y := by
  subst h
  exact ⟨Nat.le_refl _, Nat.le_refl _⟩
set_option maxRecDepth 100000 in
set_option maxHeartbeats 4000000 in
theorem c_serveZone {G : zG} {ad : Nat → Nat → Nat} {σ : zSt} (b j z : Nat) (c : Int32) (hb : b < 2) (hw : zWF b σ) (hj : zlV σ j) (hz4 : z < 4) : zC G yX2_serveZone cX2_serveZone 7 none 10 300 (sgc (s_serveZone σ b j z c) - sgc σ) (sgs (s_serveZone σ b j z c) - sgs σ) [.ref (ad 11 b), .ref (ad 7 j), .int (nI z), .int c] (zP G ad σ) none (zP G ad (s_serveZone σ b j z c)) := by
  refine zC_of (by decide) (Nat.le_of_ble_eq_true rfl) (fun X K E hnm => ?_)
  show zV G X 7 (zP G ad σ) 0 0 0 [(0, .ref (ad 11 b)), (1, .ref (ad 7 j)), (2, .int (nI z)), (3, .int c)] []
  have hpre := zone_pre (z := z) hb hw hj
  have hend := (serveZone_ok (z := z) (c := c) hb hw hj).2.1.2.1
  refine zV.wd (k' := sgc σ - sgc σ) (n' := sgs σ - sgs σ) (Nat.zero_le _) (Nat.zero_le _) ?_
  refine zi_aload_n K (dX2_serveZone_p0 0 rfl) 0 rfl ?_
  refine zg_FL_laying K hb w_138 (dX2_serveZone_p0 1 rfl) ?_
  refine zi_iconst K (dX2_serveZone_p0 2 rfl) zk_i0 ?_
  refine zp_LAY_size K hb w_116 (dX2_serveZone_p0 3 rfl) ?_
  refine zi_iconst K (dX2_serveZone_p0 4 rfl) zk_i0 ?_
  refine zi_istore K [(4, .int 0), (0, .ref (ad 11 b)), (1, .ref (ad 7 j)), (2, .int (nI z)), (3, .int c)] (dX2_serveZone_p0 5 rfl) (by decide) rfl ?_
  refine zV.pick [1, 2, 3, 4, 0] (lo' := [(0, .ref (ad 11 b)), (1, .ref (ad 7 j)), (2, .int (nI z)), (3, .int c), (4, .int 0)]) rfl ?_
  refine zV.lov (lo' := [(0, .ref (ad 11 b)), (1, .ref (ad 7 j)), (2, .int (nI z)), (3, .int c), (4, .int (nI 0))]) rfl ?_
  refine f_zoneFill (σ := (uI σ 27 b 0 0)) b z j c hb hw.2.2.2.2.2.2.2.2.1.1 hw.2.2.2.2.2.2.2.2.2.2 (u3_s _ _ _ _ _) hw.1 ⟨(zq3 hend.1), (zq3 hend.2)⟩ K ?_
  have e1 : (s_zoneFill (uI σ 27 b 0 0) b z).2.2 = σ.2.2 := (s_zoneFill_22 (uI σ 27 b 0 0) b z).trans rfl
  refine zi_aload_n K (dX2_serveZone_p0 30 rfl) 0 rfl ?_
  refine zg_FL_laying K hb w_138 (dX2_serveZone_p0 31 rfl) ?_
  refine zi_aload_n K (dX2_serveZone_p0 32 rfl) 1 rfl ?_
  refine zg_COV_treaty K (zlCV_V e1 hj) w_1162 (dX2_serveZone_p0 33 rfl) ?_
  refine zi_callV K (na := 1) [] [] (c_lay (σ := (s_zoneFill (uI σ 27 b 0 0) b z)) b (j % 8) (szN (s_zoneFill (uI σ 27 b 0 0) b z) b) hb (zlCV_N e1 (hw.2.2.2.1 _ hj)) hpre.1.1 hpre.1.2) (dX2_serveZone_p0 34 rfl) w_505 w_506 w_507 w_30 w_508 (by decide +kernel) rfl (fun H h => zi_recv K (zr_LAY (σ := (s_zoneFill (uI σ 27 b 0 0) b z)) hb H h).1 rfl) (fun H h => h) ⟨Nat.le_of_ble_eq_true rfl, Nat.le_of_ble_eq_true rfl⟩ ⟨(zq3 hend.1), (zq3 hend.2)⟩ (Nat.le_of_ble_eq_true rfl) rfl rfl ?_
  have e2 : (s_lay (s_zoneFill (uI σ 27 b 0 0) b z) b (j % 8) (szN (s_zoneFill (uI σ 27 b 0 0) b z) b)).2.2 = σ.2.2 := (s_lay_22 (s_zoneFill (uI σ 27 b 0 0) b z) b (j % 8) (szN (s_zoneFill (uI σ 27 b 0 0) b z) b)).trans e1
  refine zi_iload_n K (dX2_serveZone_p0 35 rfl) 3 rfl ?_
  refine zi_if_eq K 104 (dX2_serveZone_p0 36 rfl) rfl (fun h82_0 => ?_) (fun h82_0 => ?_)
  · skip
    have hE : s_serveZone σ b j z c = (s_zoneLoop (s_lay (s_zoneFill (uI σ 27 b 0 0) b z) b (j % 8) (szN (s_zoneFill (uI σ 27 b 0 0) b z) b)) b j z (szN (s_zoneFill (uI σ 27 b 0 0) b z) b)) := by unfold s_serveZone; rw [if_pos h82_0]
    refine zV.pick [0, 1, 2] (lo' := [(0, .ref (ad 11 b)), (1, .ref (ad 7 j)), (2, .int (nI z))]) rfl ?_
    refine zV.wd (k' := sgc (s_lay (s_zoneFill (uI σ 27 b 0 0) b z) b (j % 8) (szN (s_zoneFill (uI σ 27 b 0 0) b z) b)) - sgc σ) (n' := sgs (s_lay (s_zoneFill (uI σ 27 b 0 0) b z) b (j % 8) (szN (s_zoneFill (uI σ 27 b 0 0) b z) b)) - sgs σ) (zq4 (zG_22 (σ' := (s_lay (s_zoneFill (uI σ 27 b 0 0) b z) b (j % 8) (szN (s_zoneFill (uI σ 27 b 0 0) b z) b))) (σ := σ) ((s_lay_22 (s_zoneFill (uI σ 27 b 0 0) b z) b (j % 8) (szN (s_zoneFill (uI σ 27 b 0 0) b z) b)).trans ((s_zoneFill_22 (uI σ 27 b 0 0) b z).trans ((uI_22 σ 27 b 0 0).trans rfl)))).1) (zq4 (zG_22 (σ' := (s_lay (s_zoneFill (uI σ 27 b 0 0) b z) b (j % 8) (szN (s_zoneFill (uI σ 27 b 0 0) b z) b))) (σ := σ) ((s_lay_22 (s_zoneFill (uI σ 27 b 0 0) b z) b (j % 8) (szN (s_zoneFill (uI σ 27 b 0 0) b z) b)).trans ((s_zoneFill_22 (uI σ 27 b 0 0) b z).trans ((uI_22 σ 27 b 0 0).trans rfl)))).2) ?_
    refine f_zoneLoop (σ := (s_lay (s_zoneFill (uI σ 27 b 0 0) b z) b (j % 8) (szN (s_zoneFill (uI σ 27 b 0 0) b z) b))) b j z (szN (s_zoneFill (uI σ 27 b 0 0) b z) b) hb hpre.2.1.1 (zlCV_V e2 hj) hz4 hpre.2.2.1 hpre.1.2 hpre.2.2.2 ⟨(zq1 hpre.2.1.2.1.2.1.1 (znI_ok (j := j) (z := z) hb hpre.2.1.1 (szN (s_zoneFill (uI σ 27 b 0 0) b z) b)).2.1.2.1.1 (zLeQ hE).1), (zq1 hpre.2.1.2.1.2.1.2 (znI_ok (j := j) (z := z) hb hpre.2.1.1 (szN (s_zoneFill (uI σ 27 b 0 0) b z) b)).2.1.2.1.2 (zLeQ hE).2)⟩ K ?_
    have e3 : zSx (zQb b) (s_zoneLoop (s_lay (s_zoneFill (uI σ 27 b 0 0) b z) b (j % 8) (szN (s_zoneFill (uI σ 27 b 0 0) b z) b)) b j z (szN (s_zoneFill (uI σ 27 b 0 0) b z) b)) σ := ((znI_ok (j := j) (z := z) hb hpre.2.1.1 (szN (s_zoneFill (uI σ 27 b 0 0) b z) b)).2.1.1).trans (zSx.of e2)
    refine zV.wd (k' := sgc (s_zoneLoop (s_lay (s_zoneFill (uI σ 27 b 0 0) b z) b (j % 8) (szN (s_zoneFill (uI σ 27 b 0 0) b z) b)) b j z (szN (s_zoneFill (uI σ 27 b 0 0) b z) b)) - sgc σ) (n' := sgs (s_zoneLoop (s_lay (s_zoneFill (uI σ 27 b 0 0) b z) b (j % 8) (szN (s_zoneFill (uI σ 27 b 0 0) b z) b)) b j z (szN (s_zoneFill (uI σ 27 b 0 0) b z) b)) - sgs σ) (zq2 hpre.2.1.2.1.2.1.1 (znI_ok (j := j) (z := z) hb hpre.2.1.1 (szN (s_zoneFill (uI σ 27 b 0 0) b z) b)).2.1.2.1.1) (zq2 hpre.2.1.2.1.2.1.2 (znI_ok (j := j) (z := z) hb hpre.2.1.1 (szN (s_zoneFill (uI σ 27 b 0 0) b z) b)).2.1.2.1.2) ?_
    exact zi_vret K E (dX2_serveZone_p2 20 rfl) (by unfold s_serveZone; rw [if_pos h82_0]; exact Nat.le_refl _) (by unfold s_serveZone; rw [if_pos h82_0]; exact Nat.le_refl _) rfl (fun H h => by unfold s_serveZone; rw [if_pos h82_0]; exact h)
  · skip
    refine zi_aload_n K (dX2_serveZone_p0 37 rfl) 0 rfl ?_
    refine zg_FL_laying K hb w_138 (dX2_serveZone_p0 38 rfl) ?_
    refine zi_aload_n K (dX2_serveZone_p0 39 rfl) 1 rfl ?_
    refine zg_COV_treaty K (zlCV_V e2 hj) w_1162 (dX2_serveZone_p0 40 rfl) ?_
    refine zi_callV K (na := 1) [] [.int (v_bestA (s_lay (s_zoneFill (uI σ 27 b 0 0) b z) b (j % 8) (szN (s_zoneFill (uI σ 27 b 0 0) b z) b)) b (szN (s_zoneFill (uI σ 27 b 0 0) b z) b) (j % 8))] (c_bestA (σ := (s_lay (s_zoneFill (uI σ 27 b 0 0) b z) b (j % 8) (szN (s_zoneFill (uI σ 27 b 0 0) b z) b))) b (szN (s_zoneFill (uI σ 27 b 0 0) b z) b) (j % 8) hb (zlCV_N e2 (hw.2.2.2.1 _ hj)) hpre.2.2.1 hpre.1.2) (dX2_serveZone_p0 41 rfl) w_510 w_511 w_512 w_30 w_513 (by decide +kernel) rfl (fun H h => zi_recv K (zr_LAY (σ := (s_lay (s_zoneFill (uI σ 27 b 0 0) b z) b (j % 8) (szN (s_zoneFill (uI σ 27 b 0 0) b z) b))) hb H h).1 rfl) (fun H h => h) ⟨Nat.le_of_ble_eq_true rfl, Nat.le_of_ble_eq_true rfl⟩ ⟨(zq3 hend.1), (zq3 hend.2)⟩ (Nat.le_of_ble_eq_true rfl) rfl rfl ?_
    refine zi_if_ne K 104 (dX2_serveZone_p0 42 rfl) rfl (fun h96_1 => ?_) (fun h96_1 => ?_)
    · skip
      have hE : s_serveZone σ b j z c = (s_zoneLoop (s_lay (s_zoneFill (uI σ 27 b 0 0) b z) b (j % 8) (szN (s_zoneFill (uI σ 27 b 0 0) b z) b)) b j z (szN (s_zoneFill (uI σ 27 b 0 0) b z) b)) := by unfold s_serveZone; rw [if_neg h82_0, if_neg h96_1]
      refine zV.pick [0, 1, 2] (lo' := [(0, .ref (ad 11 b)), (1, .ref (ad 7 j)), (2, .int (nI z))]) rfl ?_
      refine zV.wd (k' := sgc (s_lay (s_zoneFill (uI σ 27 b 0 0) b z) b (j % 8) (szN (s_zoneFill (uI σ 27 b 0 0) b z) b)) - sgc σ) (n' := sgs (s_lay (s_zoneFill (uI σ 27 b 0 0) b z) b (j % 8) (szN (s_zoneFill (uI σ 27 b 0 0) b z) b)) - sgs σ) (zq4 (zG_22 (σ' := (s_lay (s_zoneFill (uI σ 27 b 0 0) b z) b (j % 8) (szN (s_zoneFill (uI σ 27 b 0 0) b z) b))) (σ := σ) ((s_lay_22 (s_zoneFill (uI σ 27 b 0 0) b z) b (j % 8) (szN (s_zoneFill (uI σ 27 b 0 0) b z) b)).trans ((s_zoneFill_22 (uI σ 27 b 0 0) b z).trans ((uI_22 σ 27 b 0 0).trans rfl)))).1) (zq4 (zG_22 (σ' := (s_lay (s_zoneFill (uI σ 27 b 0 0) b z) b (j % 8) (szN (s_zoneFill (uI σ 27 b 0 0) b z) b))) (σ := σ) ((s_lay_22 (s_zoneFill (uI σ 27 b 0 0) b z) b (j % 8) (szN (s_zoneFill (uI σ 27 b 0 0) b z) b)).trans ((s_zoneFill_22 (uI σ 27 b 0 0) b z).trans ((uI_22 σ 27 b 0 0).trans rfl)))).2) ?_
      refine f_zoneLoop (σ := (s_lay (s_zoneFill (uI σ 27 b 0 0) b z) b (j % 8) (szN (s_zoneFill (uI σ 27 b 0 0) b z) b))) b j z (szN (s_zoneFill (uI σ 27 b 0 0) b z) b) hb hpre.2.1.1 (zlCV_V e2 hj) hz4 hpre.2.2.1 hpre.1.2 hpre.2.2.2 ⟨(zq1 hpre.2.1.2.1.2.1.1 (znI_ok (j := j) (z := z) hb hpre.2.1.1 (szN (s_zoneFill (uI σ 27 b 0 0) b z) b)).2.1.2.1.1 (zLeQ hE).1), (zq1 hpre.2.1.2.1.2.1.2 (znI_ok (j := j) (z := z) hb hpre.2.1.1 (szN (s_zoneFill (uI σ 27 b 0 0) b z) b)).2.1.2.1.2 (zLeQ hE).2)⟩ K ?_
      have e4 : zSx (zQb b) (s_zoneLoop (s_lay (s_zoneFill (uI σ 27 b 0 0) b z) b (j % 8) (szN (s_zoneFill (uI σ 27 b 0 0) b z) b)) b j z (szN (s_zoneFill (uI σ 27 b 0 0) b z) b)) σ := ((znI_ok (j := j) (z := z) hb hpre.2.1.1 (szN (s_zoneFill (uI σ 27 b 0 0) b z) b)).2.1.1).trans (zSx.of e2)
      refine zV.wd (k' := sgc (s_zoneLoop (s_lay (s_zoneFill (uI σ 27 b 0 0) b z) b (j % 8) (szN (s_zoneFill (uI σ 27 b 0 0) b z) b)) b j z (szN (s_zoneFill (uI σ 27 b 0 0) b z) b)) - sgc σ) (n' := sgs (s_zoneLoop (s_lay (s_zoneFill (uI σ 27 b 0 0) b z) b (j % 8) (szN (s_zoneFill (uI σ 27 b 0 0) b z) b)) b j z (szN (s_zoneFill (uI σ 27 b 0 0) b z) b)) - sgs σ) (zq2 hpre.2.1.2.1.2.1.1 (znI_ok (j := j) (z := z) hb hpre.2.1.1 (szN (s_zoneFill (uI σ 27 b 0 0) b z) b)).2.1.2.1.1) (zq2 hpre.2.1.2.1.2.1.2 (znI_ok (j := j) (z := z) hb hpre.2.1.1 (szN (s_zoneFill (uI σ 27 b 0 0) b z) b)).2.1.2.1.2) ?_
      exact zi_vret K E (dX2_serveZone_p2 20 rfl) (by unfold s_serveZone; rw [if_neg h82_0, if_neg h96_1]; exact Nat.le_refl _) (by unfold s_serveZone; rw [if_neg h82_0, if_neg h96_1]; exact Nat.le_refl _) rfl (fun H h => by unfold s_serveZone; rw [if_neg h82_0, if_neg h96_1]; exact h)
    · skip
      refine zi_aload_n K (dX2_serveZone_p0 43 rfl) 0 rfl ?_
      refine zi_iconst K (dX2_serveZone_p0 44 rfl) zk_i0 ?_
      refine zp_FL_isBest K hb w_139 ⟨rfl, rfl⟩ (dX2_serveZone_p0 45 rfl) ?_
      have e5 : (uI (s_lay (s_zoneFill (uI σ 27 b 0 0) b z) b (j % 8) (szN (s_zoneFill (uI σ 27 b 0 0) b z) b)) 26 b 0 0).2.2 = σ.2.2 := (uI_22 (s_lay (s_zoneFill (uI σ 27 b 0 0) b z) b (j % 8) (szN (s_zoneFill (uI σ 27 b 0 0) b z) b)) 26 b 0 0).trans e2
      have hE : s_serveZone σ b j z c = (s_zoneLoop (uI (s_lay (s_zoneFill (uI σ 27 b 0 0) b z) b (j % 8) (szN (s_zoneFill (uI σ 27 b 0 0) b z) b)) 26 b 0 0) b j z (szN (s_zoneFill (uI σ 27 b 0 0) b z) b)) := by unfold s_serveZone; rw [if_neg h82_0, if_pos h96_1]
      refine zV.pick [0, 1, 2] (lo' := [(0, .ref (ad 11 b)), (1, .ref (ad 7 j)), (2, .int (nI z))]) rfl ?_
      refine zV.wd (k' := sgc (uI (s_lay (s_zoneFill (uI σ 27 b 0 0) b z) b (j % 8) (szN (s_zoneFill (uI σ 27 b 0 0) b z) b)) 26 b 0 0) - sgc σ) (n' := sgs (uI (s_lay (s_zoneFill (uI σ 27 b 0 0) b z) b (j % 8) (szN (s_zoneFill (uI σ 27 b 0 0) b z) b)) 26 b 0 0) - sgs σ) (zq4 (zG_22 (σ' := (uI (s_lay (s_zoneFill (uI σ 27 b 0 0) b z) b (j % 8) (szN (s_zoneFill (uI σ 27 b 0 0) b z) b)) 26 b 0 0)) (σ := σ) ((uI_22 (s_lay (s_zoneFill (uI σ 27 b 0 0) b z) b (j % 8) (szN (s_zoneFill (uI σ 27 b 0 0) b z) b)) 26 b 0 0).trans ((s_lay_22 (s_zoneFill (uI σ 27 b 0 0) b z) b (j % 8) (szN (s_zoneFill (uI σ 27 b 0 0) b z) b)).trans ((s_zoneFill_22 (uI σ 27 b 0 0) b z).trans ((uI_22 σ 27 b 0 0).trans rfl))))).1) (zq4 (zG_22 (σ' := (uI (s_lay (s_zoneFill (uI σ 27 b 0 0) b z) b (j % 8) (szN (s_zoneFill (uI σ 27 b 0 0) b z) b)) 26 b 0 0)) (σ := σ) ((uI_22 (s_lay (s_zoneFill (uI σ 27 b 0 0) b z) b (j % 8) (szN (s_zoneFill (uI σ 27 b 0 0) b z) b)) 26 b 0 0).trans ((s_lay_22 (s_zoneFill (uI σ 27 b 0 0) b z) b (j % 8) (szN (s_zoneFill (uI σ 27 b 0 0) b z) b)).trans ((s_zoneFill_22 (uI σ 27 b 0 0) b z).trans ((uI_22 σ 27 b 0 0).trans rfl))))).2) ?_
      refine f_zoneLoop (σ := (uI (s_lay (s_zoneFill (uI σ 27 b 0 0) b z) b (j % 8) (szN (s_zoneFill (uI σ 27 b 0 0) b z) b)) 26 b 0 0)) b j z (szN (s_zoneFill (uI σ 27 b 0 0) b z) b) hb (zWF.mv (σ' := (uI (s_lay (s_zoneFill (uI σ 27 b 0 0) b z) b (j % 8) (szN (s_zoneFill (uI σ 27 b 0 0) b z) b)) 26 b 0 0)) (uI_22 _ _ _ _ _) (zFr.uI (by unfold zst; omega)) hpre.2.1.1) (zlCV_V e5 hj) hz4 hpre.2.2.1 hpre.1.2 hpre.2.2.2 ⟨(zq1 ((zFr.uI (b := b) (by unfold zst; omega)).trans hpre.2.1.2.1).2.1.1 (znI_ok (j := j) (z := z) hb (zWF.mv (σ' := (uI (s_lay (s_zoneFill (uI σ 27 b 0 0) b z) b (j % 8) (szN (s_zoneFill (uI σ 27 b 0 0) b z) b)) 26 b 0 0)) (uI_22 _ _ _ _ _) (zFr.uI (by unfold zst; omega)) hpre.2.1.1) (szN (s_zoneFill (uI σ 27 b 0 0) b z) b)).2.1.2.1.1 (zLeQ hE).1), (zq1 ((zFr.uI (b := b) (by unfold zst; omega)).trans hpre.2.1.2.1).2.1.2 (znI_ok (j := j) (z := z) hb (zWF.mv (σ' := (uI (s_lay (s_zoneFill (uI σ 27 b 0 0) b z) b (j % 8) (szN (s_zoneFill (uI σ 27 b 0 0) b z) b)) 26 b 0 0)) (uI_22 _ _ _ _ _) (zFr.uI (by unfold zst; omega)) hpre.2.1.1) (szN (s_zoneFill (uI σ 27 b 0 0) b z) b)).2.1.2.1.2 (zLeQ hE).2)⟩ K ?_
      have e6 : zSx (zQb b) (s_zoneLoop (uI (s_lay (s_zoneFill (uI σ 27 b 0 0) b z) b (j % 8) (szN (s_zoneFill (uI σ 27 b 0 0) b z) b)) 26 b 0 0) b j z (szN (s_zoneFill (uI σ 27 b 0 0) b z) b)) σ := ((znI_ok (j := j) (z := z) hb (zWF.mv (σ' := (uI (s_lay (s_zoneFill (uI σ 27 b 0 0) b z) b (j % 8) (szN (s_zoneFill (uI σ 27 b 0 0) b z) b)) 26 b 0 0)) (uI_22 _ _ _ _ _) (zFr.uI (by unfold zst; omega)) hpre.2.1.1) (szN (s_zoneFill (uI σ 27 b 0 0) b z) b)).2.1.1).trans (zSx.of e5)
      refine zV.wd (k' := sgc (s_zoneLoop (uI (s_lay (s_zoneFill (uI σ 27 b 0 0) b z) b (j % 8) (szN (s_zoneFill (uI σ 27 b 0 0) b z) b)) 26 b 0 0) b j z (szN (s_zoneFill (uI σ 27 b 0 0) b z) b)) - sgc σ) (n' := sgs (s_zoneLoop (uI (s_lay (s_zoneFill (uI σ 27 b 0 0) b z) b (j % 8) (szN (s_zoneFill (uI σ 27 b 0 0) b z) b)) 26 b 0 0) b j z (szN (s_zoneFill (uI σ 27 b 0 0) b z) b)) - sgs σ) (zq2 ((zFr.uI (b := b) (by unfold zst; omega)).trans hpre.2.1.2.1).2.1.1 (znI_ok (j := j) (z := z) hb (zWF.mv (σ' := (uI (s_lay (s_zoneFill (uI σ 27 b 0 0) b z) b (j % 8) (szN (s_zoneFill (uI σ 27 b 0 0) b z) b)) 26 b 0 0)) (uI_22 _ _ _ _ _) (zFr.uI (by unfold zst; omega)) hpre.2.1.1) (szN (s_zoneFill (uI σ 27 b 0 0) b z) b)).2.1.2.1.1) (zq2 ((zFr.uI (b := b) (by unfold zst; omega)).trans hpre.2.1.2.1).2.1.2 (znI_ok (j := j) (z := z) hb (zWF.mv (σ' := (uI (s_lay (s_zoneFill (uI σ 27 b 0 0) b z) b (j % 8) (szN (s_zoneFill (uI σ 27 b 0 0) b z) b)) 26 b 0 0)) (uI_22 _ _ _ _ _) (zFr.uI (by unfold zst; omega)) hpre.2.1.1) (szN (s_zoneFill (uI σ 27 b 0 0) b z) b)).2.1.2.1.2) ?_
      exact zi_vret K E (dX2_serveZone_p2 20 rfl) (by unfold s_serveZone; rw [if_neg h82_0, if_pos h96_1]; exact Nat.le_refl _) (by unfold s_serveZone; rw [if_neg h82_0, if_pos h96_1]; exact Nat.le_refl _) rfl (fun H h => by unfold s_serveZone; rw [if_neg h82_0, if_pos h96_1]; exact h)
