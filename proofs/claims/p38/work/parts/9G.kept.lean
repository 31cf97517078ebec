/-! what the law finds kept holds of every settled state -/
section ZKP
variable {τ : zSt} {f : Nat → Int32} {c : Int64}
theorem sp_r (τ : zSt) : ∀ n, (spI τ n).1 = τ.1 ∧ (spI τ n).2.2 = τ.2.2 ∧ (∀ t, t ≠ 9 → ∀ o e, sL (spI τ n) t o e = sL τ t o e) ∧ ∀ i, i < n → sL (spI τ n) 9 0 i = if sI τ 31 0 i = 0 then v_allPartsOf τ 0 i else 0
  | 0 => ⟨rfl, rfl, fun _ _ _ _ => rfl, fun _ h => absurd h (Nat.not_lt_zero _)⟩
  | n + 1 => by
    obtain ⟨h1, h2, h3, h4⟩ := sp_r τ n
    have ep : v_allPartsOf (spI τ n) 0 n = v_allPartsOf τ 0 n := by
      have eE : sE (spI τ n) = sE τ := congrArg (fun z => z.1) h2
      have eZ : sZ (spI τ n) = sZ τ := congrArg (fun z => z.2.1) h2
      have eI : sI (spI τ n) = sI τ := h1
      unfold v_allPartsOf v_partOf lx
      simp only [eE, eZ, eI, h3 1 (by decide)]
    have ei : sI (spI τ n) 31 0 n = sI τ 31 0 n := sI_1 h1 _ _ _
    have key : ∀ v : Int64, v = (if sI τ 31 0 n = 0 then v_allPartsOf τ 0 n else 0) → (uL (spI τ n) 9 0 n v).1 = τ.1 ∧ (uL (spI τ n) 9 0 n v).2.2 = τ.2.2 ∧ (∀ t, t ≠ 9 → ∀ o e, sL (uL (spI τ n) 9 0 n v) t o e = sL τ t o e) ∧ ∀ i, i < n + 1 → sL (uL (spI τ n) 9 0 n v) 9 0 i = if sI τ 31 0 i = 0 then v_allPartsOf τ 0 i else 0 := fun v hv => by
      refine ⟨h1, h2, fun t ht o e => ?_, fun i hi => ?_⟩
      · rw [qL_r, if_neg (fun z => ht z.1)]
        exact h3 t ht o e
      · rw [qL_r]
        by_cases q : i = n
        · rw [if_pos ⟨rfl, rfl, q⟩, q]
          exact hv
        · rw [if_neg (fun z => q z.2.2)]
          exact h4 i (by omega)
    show (if sI (spI τ n) 31 0 n = 0 then uL (spI τ n) 9 0 n (v_allPartsOf (spI τ n) 0 n) else uL (spI τ n) 9 0 n 0).1 = τ.1 ∧ (if sI (spI τ n) 31 0 n = 0 then uL (spI τ n) 9 0 n (v_allPartsOf (spI τ n) 0 n) else uL (spI τ n) 9 0 n 0).2.2 = τ.2.2 ∧ (∀ t, t ≠ 9 → ∀ o e, sL (if sI (spI τ n) 31 0 n = 0 then uL (spI τ n) 9 0 n (v_allPartsOf (spI τ n) 0 n) else uL (spI τ n) 9 0 n 0) t o e = sL τ t o e) ∧ ∀ i, i < n + 1 → sL (if sI (spI τ n) 31 0 n = 0 then uL (spI τ n) 9 0 n (v_allPartsOf (spI τ n) 0 n) else uL (spI τ n) 9 0 n 0) 9 0 i = _
    rw [ei, ep]
    by_cases q : sI τ 31 0 n = 0
    · rw [if_pos q]
      exact key _ (if_pos q).symm
    · rw [if_neg q]
      exact key _ (if_neg q).symm
/-- what each has to pay by itself -/
def ownQ (τ : zSt) (r : Nat) : Int := if sI τ 31 0 r = 0 then (v_allPartsOf τ 0 r).toInt else 0
theorem rH_le {bd li : Nat → Int} {fl : Nat → Bool} {r : Nat} {v : Int} (h0 : 0 ≤ v) (hb : 0 ≤ bd r) (hl : 0 ≤ li r) : 0 ≤ rH bd li fl r v ∧ rH bd li fl r v ≤ v := by
  unfold rH rC
  (repeat' split) <;> omega
theorem sub_le {a b : Int64} {x : Int} (h0 : 0 ≤ a.toInt) (h1 : a.toInt ≤ 1000000000000) (hb : b.toInt = x) (hx : 0 ≤ x ∧ x ≤ a.toInt) : (a - b).toInt = a.toInt - x := by
  rw [l_sub (by rw [hb]; omega) (by rw [hb]; omega), hb]
theorem sub_in {a x : Int} (h : 0 ≤ x ∧ x ≤ a) : 0 ≤ a - x ∧ a - x ≤ a := by omega
theorem pool_ok (h : zJ τ f c) (hs : sI τ 35 0 0 ≠ 0) : (∀ r, r < 5 → (0 ≤ (zcm τ r).toInt ∧ (zcm τ r).toInt ≤ 1000000000000) ∧ (0 ≤ (zsy τ r).toInt ∧ (zsy τ r).toInt ≤ (zcm τ r).toInt)) ∧ zSm (fun r => (zsy τ r).toInt) 5 = zSm (ownQ τ) 5 ∧ zVo (s_spLoop τ) ∧ zVp (s_spLoop τ) := by
  obtain ⟨p1, p2, p3, p4⟩ := sp_r τ 5
  have es : s_spLoop τ = spI τ 5 := by unfold s_spLoop; rfl
  rw [← es] at p1 p4
  clear p2 p3 es
  have e1 : (s_spLoop τ).1 = τ.1 := p1
  have hvp : zVp (s_spLoop τ) := h.2.1.2.2.2.1.mv e1
  have ow : ∀ i, i < 5 → (sL (s_spLoop τ) 9 0 i).toInt = ownQ τ i ∧ 0 ≤ ownQ τ i ∧ ownQ τ i ≤ 240000000 := fun i hi => by
    have g := ap_int h hs hi
    have e : sL (s_spLoop τ) 9 0 i = if sI τ 31 0 i = 0 then v_allPartsOf τ 0 i else 0 := p4 i hi
    unfold ownQ
    rw [e]
    by_cases q : sI τ 31 0 i = 0
    · rw [if_pos q, if_pos q]
      exact ⟨rfl, g.2.1, g.2.2⟩
    · rw [if_neg q, if_neg q, l_0]
      exact ⟨rfl, by decide, by decide⟩
  have hvo : zVo (s_spLoop τ) := fun i hi => by
    have := ow i hi
    rw [this.1]
    omega
  obtain ⟨k1, k2, k3, k4⟩ := kk_i e1
  have ro : ∀ r, r < 5 → rF (kR (s_spLoop τ)) (kW (s_spLoop τ)) (kB (s_spLoop τ)) (kM (s_spLoop τ)) (kF (s_spLoop τ)) (fun e => (zcm τ e).toInt) r = (zcm τ r).toInt ∧ 0 ≤ (zcm τ r).toInt ∧ (zcm τ r).toInt ≤ 1000000000000 := fun r hr => by
    have g := rings_ok hvp hvo r hr
    unfold zcm zpo
    exact g
  have hvt := h.2.1.2.2.2.1
  have hand : ∀ r, r < 5 → (v_handedOn τ r (zcm τ r)).toInt = rH (kB τ) (kM τ) (kF τ) r (zcm τ r).toInt := fun r hr => handed_int hvt hr (ro r hr).2.1 (ro r hr).2.2
  have hb : ∀ r, r < 5 → 0 ≤ rH (kB τ) (kM τ) (kF τ) r (zcm τ r).toInt ∧ rH (kB τ) (kM τ) (kF τ) r (zcm τ r).toInt ≤ (zcm τ r).toInt := fun r hr => rH_le (ro r hr).2.1 (hvt.2.1 r hr).1 (by
    unfold kM
    rw [if_pos hr]
    exact (hvt.2.2 r hr).1)
  have sy : ∀ r, r < 5 → (zsy τ r).toInt = (zcm τ r).toInt - rH (kB τ) (kM τ) (kF τ) r (zcm τ r).toInt := fun r hr => sub_le (ro r hr).2.1 (ro r hr).2.2 (hand r hr) (hb r hr)
  refine ⟨fun r hr => ⟨(ro r hr).2, ?_⟩, ?_, hvo, hvp⟩
  · rw [sy r hr]
    exact sub_in (hb r hr)
  · rw [zSm_congr (g := fun i => (zcm τ i).toInt - rH (kB τ) (kM τ) (kF τ) i (zcm τ i).toInt) (fun i hi => sy i hi)]
    have hr5 : ∀ j, j < 5 → kR (s_spLoop τ) j < 5 := hvp.1
    have g := rings_sum (ow := kW (s_spLoop τ)) (bd := kB (s_spLoop τ)) (li := kM (s_spLoop τ)) (fl := kF (s_spLoop τ)) hr5 (Z := fun e => (zcm τ e).toInt) (fun i hi => (ro i hi).1)
    rw [k2, k3, k4] at g
    have e2 : zSm (kW (s_spLoop τ)) 5 = zSm (ownQ τ) 5 := zSm_congr (fun i hi => by
      unfold kW
      rw [if_pos hi]
      exact (ow i hi).1)
    rw [← e2]
    exact g
/-- the parts of one loss are at most the loss -/
theorem part_le {a : Int} {s : Nat → Int} (ha : 0 ≤ a) (h0 : ∀ r, r < 5 → 0 ≤ s r) (h1 : zSm s 5 ≤ 100) : zSm (fun r => a * s r / 100) 5 ≤ a := by
  have m : ∀ r, r < 5 → a * s r / 100 * 100 ≤ a * s r := fun r _ => Int.ediv_mul_le _ (by decide)
  have g0 := m 0 (by decide)
  have g1 := m 1 (by decide)
  have g2 := m 2 (by decide)
  have g3 := m 3 (by decide)
  have g4 := m 4 (by decide)
  have e1 : a * zSm s 5 = a * s 0 + a * s 1 + a * s 2 + a * s 3 + a * s 4 := by
    show a * (0 + s 0 + s 1 + s 2 + s 3 + s 4) = _
    rw [Int.mul_add, Int.mul_add, Int.mul_add, Int.mul_add, Int.zero_add]
  have e2 : a * zSm s 5 ≤ a * 100 := Int.mul_le_mul_of_nonneg_left h1 ha
  show 0 + a * s 0 / 100 + a * s 1 / 100 + a * s 2 / 100 + a * s 3 / 100 + a * s 4 / 100 ≤ a
  omega
/-- what is taken of all losses by one treaty -/
theorem kU_int (h : zJ τ f c) (hs : sI τ 35 0 0 ≠ 0) {t : Nat} (ht : t < sN τ 2) : (kU τ t (sN τ 1)).toInt = zSm (fun k => (sL τ 1 k t).toInt) (sN τ 1) ∧ (0 ≤ (kU τ t (sN τ 1)).toInt ∧ (kU τ t (sN τ 1)).toInt ≤ 30000000) ∧ (sI τ 19 t 0 = 0 → (sL τ 3 t 0).toInt = (kU τ t (sN τ 1)).toInt) ∧ (sI τ 19 t 0 ≠ 0 → (kU τ t (sN τ 1)).toInt = 0) := by
  obtain ⟨hin, hd, hZ, h30, h8⟩ := h.in
  have g := zsumL_nn (f := fun k => sL τ 1 k t) (n := sN τ 1) (M := 1000000) (by decide) (fun k hk => (h.one hs hk).2.1 t (by omega)) (by omega)
  rw [kU_z]
  refine ⟨g.1, ⟨g.2.1, by have := g.2.2; omega⟩, fun hc => ?_, fun hc => ?_⟩
  · have e := ((h.2.2.2.2.1 hs).1.2.1 t ht hc).2
    rw [show 8 * 0 + t = t by omega, hZ] at e
    rw [e, g.1]
    exact h.2.2.1.1 (fun k => (sL τ 1 k t).toInt)
  · rw [g.1]
    exact zSm0 (fun k hk => by
      show (sL τ 1 k t).toInt = 0
      rw [(h.one hs hk).2.2.2 t ht hc, l_0])
theorem own_int (h : zJ τ f c) (hs : sI τ 35 0 0 ≠ 0) : (kP τ (sN τ 2)).toInt = zSm (ownQ τ) 5 ∧ 0 ≤ (kP τ (sN τ 2)).toInt ∧ (kP τ (sN τ 2)).toInt ≤ 1200000000 := by
  obtain ⟨hin, hd, hZ, h30, h8⟩ := h.in
  have pd : ∀ t r, t < sN τ 2 → r < 5 → (zpd τ t r).toInt = (if sI τ 31 0 r = 0 then (v_partOf τ 0 t r).toInt else 0) ∧ 0 ≤ (zpd τ t r).toInt ∧ (zpd τ t r).toInt ≤ 30000000 := fun t r ht hr => by
    have g := pt_int h hs ht hr
    unfold zpd
    split
    · exact ⟨rfl, g.2⟩
    · rw [l_0]
      exact ⟨rfl, by decide, by decide⟩
  have p5 : ∀ t, t < sN τ 2 → (zsumL (zpd τ t) 5).toInt = zSm (fun r => (zpd τ t r).toInt) 5 ∧ 0 ≤ (zsumL (zpd τ t) 5).toInt ∧ (zsumL (zpd τ t) 5).toInt ≤ ((5 : Nat) : Int) * 30000000 := fun t ht => zsumL_nn (f := zpd τ t) (n := 5) (M := 30000000) (by decide) (fun r hr => (pd t r ht hr).2) (by decide)
  have g := zsumL_nn (f := fun t => zsumL (zpd τ t) 5) (n := sN τ 2) (M := 150000000) (by decide) (fun t ht => by have := p5 t ht; exact ⟨this.2.1, by have := this.2.2; omega⟩) (by omega)
  rw [kP_z]
  refine ⟨?_, g.2.1, by have := g.2.2; omega⟩
  rw [g.1, zSm_congr (g := fun t => zSm (fun r => (zpd τ t r).toInt) 5) (fun t ht => (p5 t ht).1), zSm_swap (fun t r => (zpd τ t r).toInt) 5]
  refine zSm_congr (fun r hr => ?_)
  unfold ownQ
  by_cases q : sI τ 31 0 r = 0
  · rw [if_pos q, (ap_int h hs hr).1]
    exact zSm_congr (fun t ht => by rw [(pd t r ht hr).1, if_pos q])
  · rw [if_neg q]
    exact zSm0 (fun t ht => by rw [(pd t r ht hr).1, if_neg q])
end ZKP
