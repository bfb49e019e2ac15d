/-! a month: heat is led, in step; houses heat -/
theorem deg_fill (μ : Sg) : ∀ n, n ≤ 125 → ((∀ k, k ≠ 12 → (lp m_heat_b2 n μ).1 k = μ.1 k) ∧ (lp m_heat_b2 n μ).2 = μ.2) ∧ ∀ j, j < n → (lp m_heat_b2 n μ).1 12 j = m_degreesOf μ (nI j) := fun n => by
  induction n with
  | zero => exact fun _ => ⟨⟨fun _ _ => rfl, rfl⟩, fun j hj => absurd hj (Nat.not_lt_zero _)⟩
  | succ n ih =>
    intro hn
    obtain ⟨⟨h1, h2⟩, h3⟩ := ih (by omega)
    have e : lp m_heat_b2 (n + 1) μ = m_heat_b2 n (lp m_heat_b2 n μ) := rfl
    rw [e]
    generalize lp m_heat_b2 n μ = w at h1 h2 h3 ⊢
    have ed : m_degreesOf w (nI n) = m_degreesOf μ (nI n) := by
      unfold m_degreesOf m_degreesOf_j62
      rw [h1 8 (by decide), h1 9 (by decide), h1 10 (by decide)]
    have ew : m_heat_b2 n w = si w 12 n (m_degreesOf μ (nI n)) := by
      unfold m_heat_b2 m_heat_k19
      rw [ed]
    rw [ew]
    refine ⟨⟨fun k hk => ?_, h2⟩, fun j hj => ?_⟩
    · rw [si_ne hk]
      exact h1 k hk
    · by_cases q : j = n
      · subst q
        rw [si_eq]
      · rw [si_pj _ q]
        exact h3 j (by omega)
/-- the state of the land while heat is led, cell by cell -/
def HI (s s' : Sg) (nh nb nc : Nat) (T : Int) (i : Nat) (z ζ : Sg) : Prop := AG nh nb nc z ζ ∧ ((∀ k, k ≠ 10 → z.1 k = s.1 k) ∧ ∀ k, k ≠ 10 → ζ.1 k = s'.1 k) ∧ (∀ j, 5 * i ≤ j → z.1 10 j = s.1 10 j) ∧ ∀ j, j < 5 * i → j < 125 → -5099 ≤ (z.1 10 j).toInt ∧ (z.1 10 j).toInt ≤ 1000 * ((s.1 8 j).toInt + (s.1 9 j).toInt) + 100 * (T + 1) + 99
theorem cl_xs (σ : Sg) (i : Nat) (fa fb : Int32) (z : Int32 × Sg) : c_leadDown_x5_s σ i fa fb z = z.2 := rfl
theorem cl_s (z : Sg) (i : Nat) (fa fb : Int32) (n : Nat) (hn : n = 5) : c_leadDown_s z i fa fb = (lp (c_leadDown_b5 i fb) n (fa, z)).2 := by
  have e : c_leadDown_s z i fa fb = c_leadDown_x5_s z i fa fb (lp (c_leadDown_b5 i fb) n (fa, z)) := by
    subst hn
    rfl
  exact e.trans (cl_xs _ _ _ _ _)
theorem HI_step {s s' : Sg} {nh nb nc : Nat} {T C : Int} (hB : BL T C s) (h0 : 300 ≤ T) (hT : T ≤ 20000) (hsn : ∀ c, c < 25 → vp_in (s.1 4 c) 10 ∧ vp_in (s.1 5 c) 4) (hD : ∀ j, j < 125 → s'.1 12 j = l_temperature s j) {air : Int32} (a0 : -50 ≤ air.toInt) (a1 : air.toInt ≤ 30) {i : Nat} (hi : i < 25) {z ζ : Sg} (h : HI s s' nh nb nc T i z ζ) : HI s s' nh nb nc T (i + 1) (k_leadHeat_b2 air i z) (m_heat_b27 air i ζ) := by
  obtain ⟨hA, ⟨hz, hζ⟩, he, hb⟩ := h
  have eT : ∀ l, l < 5 → l_temperature z (5 * i + l) = l_temperature s (5 * i + l) := fun l hl => temp_cg (by rw [hz 8 (by decide)]) (by rw [hz 9 (by decide)]) (he _ (by omega))
  have eD : ∀ l, l < 5 → ζ.1 12 (5 * i + l) = l_temperature s (5 * i + l) := fun l hl => by
    rw [hζ 12 (by decide)]
    exact hD _ (by omega)
  have s4 : vp_in (z.1 4 i) 10 := by rw [hz 4 (by decide)]; exact (hsn i hi).1
  have s5 : vp_in (z.1 5 i) 4 := by rw [hz 5 (by decide)]; exact (hsn i hi).2
  have tb := temp_b hB (by omega) hT (j := 5 * i) (by omega)
  have eT0 : l_temperature z (5 * i) = l_temperature s (5 * i) := eT 0 (by decide)
  have eD0 : ζ.1 12 (5 * i) = l_temperature s (5 * i) := eD 0 (by decide)
  obtain ⟨L, A, hL, hfa⟩ := fa_i (z := z) (i := i) (air := air) s4 s5 a0 a1 (by rw [eT0]; exact tb.1) (by rw [eT0]; omega)
  have hfe := fa_eq hA hi (air := air) s4 s5
  obtain ⟨fa, hf⟩ : ∃ fa : Int32, fa = c_heatFromAir z i air := ⟨_, rfl⟩
  rw [← hf] at hfa hfe
  rw [eT0] at hfa hfe
  have kz : k_leadHeat_b2 air i z = sl (lp (c_leadDown_b5 i (nI 10)) 5 (fa, z)).2 26 ((lp (c_leadDown_b5 i (nI 10)) 5 (fa, z)).2.2 26 + (fa + nI 10).toInt64) := by
    have q : k_leadHeat_b2 air i z = sl (c_leadDown_s z i (c_heatFromAir z i air) (nI 10)) 26 ((c_leadDown_s z i (c_heatFromAir z i air) (nI 10)).2 26 + (c_heatFromAir z i air + nI 10).toInt64) := rfl
    rw [q, ← hf, cl_s z i fa (nI 10) 5 rfl]
  obtain ⟨w0, hw0⟩ : ∃ w0 : Sg, w0 = sl (si ζ 10 (5 * i) (ζ.1 10 (5 * i) + fa)) 26 (ζ.2 26 + fa.toInt64) := ⟨_, rfl⟩
  have hv : (if m_isLake ζ (nI i) = 0 then nI 60 / (nI 2 + ζ.1 4 i + nI 2 * ζ.1 5 i) else nI 30) * ((if m_isLake ζ (nI i) = 0 then air else m_greater (nI 0) air) - ζ.1 12 (5 * i)) = fa := by rw [eD0, hfe]
  have c5 : (nI (5 * i)).toNatClampNeg = 5 * i := nI_clamp (by omega)
  have c54 : (nI (5 * i + 4)).toNatClampNeg = 5 * i + 4 := nI_clamp (by omega)
  have kζ : m_heat_b27 air i ζ = sl (si (lp (m_heat_b111 i) 4 w0) 10 (5 * i + 4) ((lp (m_heat_b111 i) 4 w0).1 10 (5 * i + 4) + nI 10)) 26 ((lp (m_heat_b111 i) 4 w0).2 26 + (nI 10).toInt64) := by
    unfold m_heat_b27 m_heat_j66 m_heat_j84 m_heat_k106 m_heat_x111 m_heat_k186
    rw [hv]
    unfold m_bring_s m_bring_k10_s m_bring_k21_s
    rw [c5, c54, hw0]
    simp only [si_2]
  obtain ⟨-, ⟨cz, cl⟩, cp⟩ := lead_c (z := z) (i := i) fa 5 (Nat.le_refl _)
  have g0 : ∀ k, k ≠ 10 → w0.1 k = ζ.1 k := fun k hk => by
    rw [hw0]
    exact si_ne hk
  have g1 : ∀ j, w0.1 10 j = if j = 5 * i then ζ.1 10 j + fa else ζ.1 10 j := fun j => by
    rw [hw0, sl_1]
    by_cases q : j = 5 * i
    · subst q
      rw [si_eq, if_pos rfl]
    · rw [si_pj _ q, if_neg q]
  obtain ⟨⟨mz, ml⟩, mp⟩ := lead_m (ζ := ζ) (w0 := w0) (i := i) fa g0 g1 4 (Nat.le_refl _)
  rw [kz, kζ]
  generalize lp (c_leadDown_b5 i (nI 10)) 5 (fa, z) = w at cz cl cp ⊢
  generalize lp (m_heat_b111 i) 4 w0 = y at mz ml mp ⊢
  have cq : ∀ l, l < 5 → w.2.1 10 (5 * i + l) = s.1 10 (5 * i + l) + (inn fa (l_temperature s) i l - inn fa (l_temperature s) i (l + 1)) := fun l hl => by
    rw [cp, if_pos (by omega), show 5 * i + l - 5 * i = l by omega, inn_cg eT l (by omega), inn_cg eT (l + 1) (by omega), he _ (by omega)]
  have yq : ∀ l, l < 5 → (si y 10 (5 * i + 4) (y.1 10 (5 * i + 4) + nI 10)).1 10 (5 * i + l) = ζ.1 10 (5 * i + l) + inn fa (l_temperature s) i l - inn fa (l_temperature s) i (l + 1) := fun l hl => by
    by_cases q : l = 4
    · subst q
      have ex : inn fa (l_temperature s) i (4 + 1) = -(nI 10) := inn_5 rfl
      have r : ∀ x : Int32, x + nI 10 = x - -(nI 10) := fun x => by grind
      rw [si_eq, mp, if_neg (by omega), if_pos rfl, inn_cg eD 4 (by omega), ex]
      exact r _
    · rw [si_pj _ (by omega), mp, if_pos (by omega), show 5 * i + l - 5 * i = l by omega, inn_cg eD l (by omega), inn_cg eD (l + 1) (by omega)]
  have yo : ∀ j, (j < 5 * i ∨ 5 * i + 5 ≤ j) → (si y 10 (5 * i + 4) (y.1 10 (5 * i + 4) + nI 10)).1 10 j = ζ.1 10 j := fun j hj => by
    rw [si_pj _ (by omega), mp, if_neg (by omega), if_neg (by omega)]
  have co : ∀ j, (j < 5 * i ∨ 5 * i + 5 ≤ j) → w.2.1 10 j = z.1 10 j := fun j hj => by
    rw [cp, if_neg (by omega)]
  refine ⟨⟨fun k j hv => ?_, fun k u1 u2 => ?_⟩, ⟨fun k hk => (cz k hk).trans (hz k hk), fun k hk => ?_⟩, fun j hj => ?_, fun j hj h125 => ?_⟩
  · show w.2.1 k j = (si y 10 (5 * i + 4) (y.1 10 (5 * i + 4) + nI 10)).1 k j
    by_cases q : k = 10
    · subst q
      by_cases q2 : j < 5 * i ∨ 5 * i + 5 ≤ j
      · rw [yo j q2, co j q2]
        exact hA.1 10 j hv
      · obtain ⟨l, hl, rfl⟩ : ∃ l, l < 5 ∧ j = 5 * i + l := ⟨j - 5 * i, by omega, by omega⟩
        rw [cq l hl, yq l hl, i_ring2, ← he _ (by omega), hA.1 10 _ hv]
    · rw [cz k q, si_ne q, mz k q]
      exact hA.1 k j hv
  · rw [sl_at, sl_at]
    by_cases q : k = 26
    · rw [if_pos q, if_pos q]
      have e26 : ζ.2 26 = z.2 26 := (hA.2 26 (by omega) (by omega)).symm
      have ey : y.2 26 = z.2 26 + fa.toInt64 := by
        rw [ml, hw0, sl_at, if_pos rfl, e26]
      have p := prod_b (d := A - (l_temperature s (5 * i)).toInt) hL.1.1 hL.1.2
      rw [ey, cl, j_add (by rw [hfa, k_10]; omega) (by rw [hfa, k_10]; omega), Int64.add_assoc]
    · rw [if_neg q, if_neg q]
      have ey : y.2 k = ζ.2 k := by
        rw [ml, hw0, sl_at, if_neg q]
        rfl
      have ew : w.2.2 k = z.2 k := by rw [cl]
      show w.2.2 k = y.2 k
      rw [ey, ew]
      exact hA.2 k u1 u2
  · show (si y 10 (5 * i + 4) (y.1 10 (5 * i + 4) + nI 10)).1 k = _
    rw [si_ne hk, mz k hk]
    exact hζ k hk
  · show w.2.1 10 j = _
    rw [co j (by omega)]
    exact he j (by omega)
  · show -5099 ≤ (w.2.1 10 j).toInt ∧ (w.2.1 10 j).toInt ≤ _
    by_cases q2 : j < 5 * i ∨ 5 * i + 5 ≤ j
    · rw [co j q2]
      exact hb j (by omega) h125
    · obtain ⟨l, hl, rfl⟩ : ∃ l, l < 5 ∧ j = 5 * i + l := ⟨j - 5 * i, by omega, by omega⟩
      rw [cq l hl]
      exact inn_b hB h0 hT hi hL hfa hl
theorem HI_0 {s s' : Sg} {nh nb nc : Nat} {T : Int} (h : AG nh nb nc s s') : HI s s' nh nb nc T 0 s s' := ⟨h, ⟨fun _ _ => rfl, fun _ _ => rfl⟩, fun _ _ => rfl, fun j hj => absurd hj (by omega)⟩
/-- 2: heat, but for houses -/
theorem ph_lead {σ0 μ0 : Sg} {T C N : Int} {σ μ : Sg} (h : PH σ0 μ0 T C N σ μ) (h0 : 300 ≤ T) (hT : T ≤ 20000) {air : Int32} (a0 : -50 ≤ air.toInt) (a1 : air.toInt ≤ 30) : PH σ0 μ0 (T + 1) C N (k_leadHeat_s σ air) (lp (m_heat_b27 air) 25 (lp m_heat_b2 125 μ)) := by
  have es : k_leadHeat_s σ air = lp (k_leadHeat_b2 air) 25 σ := rfl
  rw [es]
  obtain ⟨⟨d1, d2⟩, d3⟩ := deg_fill μ 125 (Nat.le_refl _)
  generalize lp m_heat_b2 125 μ = s' at d1 d2 d3 ⊢
  have hA : AG (cpN σ0 0) (cpN σ0 1) (cpN σ0 2) σ s' := ⟨fun k j hv => by
    rw [d1 k (by unfold vis at hv; omega)]
    exact h.2.1.1 k j hv, fun k u1 u2 => by
    rw [d2]
    exact h.2.1.2 k u1 u2⟩
  have hsn : ∀ c, c < 25 → vp_in (σ.1 4 c) 10 ∧ vp_in (σ.1 5 c) 4 := fun c hc => by
    rw [h.2.1.cell (k := 4) (by omega) hc, h.2.1.cell (k := 5) (by omega) hc]
    exact h.2.2.1 c hc
  have key := lp_rel (P := fun i z ζ => HI σ s' (cpN σ0 0) (cpN σ0 1) (cpN σ0 2) T i z ζ) (f := k_leadHeat_b2 air) (g := m_heat_b27 air) (x := σ) (y := s') (N := 25) (HI_0 hA) (fun i z ζ hi hz => HI_step h.2.2.2.1 h0 hT hsn (fun j hj => (d3 j hj).trans (h.2.1.temp hj).symm) a0 a1 hi hz) 25 (Nat.le_refl _)
  generalize lp (k_leadHeat_b2 air) 25 σ = z at key ⊢
  generalize lp (m_heat_b27 air) 25 s' = ζ at key ⊢
  obtain ⟨kA, ⟨kz, kζ⟩, -, kb⟩ := key
  refine ⟨⟨fun k hk => (kz k (by omega)).trans (h.1.1 k hk), fun k hk => ((kζ k (by omega)).trans (d1 k (by omega))).trans (h.1.2 k hk)⟩, kA, fun c hc => ?_, fun j hj => ?_, BW_of (fun c hc => by rw [kz 3 (by decide)]) h.2.2.2.2⟩
  · rw [kζ 4 (by decide), kζ 5 (by decide), d1 4 (by decide), d1 5 (by decide)]
    exact h.2.2.1 c hc
  · rw [kz 8 (by decide), kz 9 (by decide), kz 11 (by decide)]
    obtain ⟨b1, b2, b3, b4⟩ := h.2.2.2.1 j hj
    exact ⟨b1, b2, kb j (by omega) hj, b4⟩
/-- 2: houses heat -/
theorem ph_houses {σ0 μ0 : Sg} {T C N : Int} {σ μ : Sg} (h : PH σ0 μ0 T C N σ μ) (hT : T ≤ 20000) (hn : cpN σ0 0 ≤ 10) (hcell : ∀ x, x < cpN σ0 0 → vp_in (σ0.1 14 x) 25) (air : Int32) {n m : Nat} (en : n = cpN σ0 0) (em : m = cpN σ0 0) : PH σ0 μ0 (T + 30) C N (lp (k_heatByHouses_b2 air) n σ) (lp (m_heat_b194 air) m μ) := by
  subst en
  subst em
  refine PH.mono (lp_rel (P := fun i z ζ => PH σ0 μ0 (T + 3 * (i : Int)) C N z ζ) (N := cpN σ0 0) (h.mono (by omega) (Int.le_refl _) (Int.le_refl _)) (fun i z ζ hi hz => ?_) (cpN σ0 0) (Nat.le_refl _)) (by omega) (Int.le_refl _) (Int.le_refl _)
  have e14 : ζ.1 14 i = z.1 14 i := (hz.2.1.hou (k := 14) (by omega) hi).symm
  have e16 : ζ.1 16 i = z.1 16 i := (hz.2.1.hou (k := 16) (by omega) hi).symm
  have hc : vp_in (z.1 14 i) 25 := by
    rw [hz.1.1 14 (by omega)]
    exact hcell i hi
  have lc := vp_lt hc
  obtain ⟨c, hc0⟩ : ∃ c : Nat, c = 5 * (z.1 14 i).toNatClampNeg := ⟨_, rfl⟩
  have e10 := hz.2.1.lay (k := 10) (j := c) (by omega) (by omega)
  have e26 := hz.2.1.2 26 (by omega) (by omega)
  obtain ⟨y, hy⟩ : ∃ y : Int32, y = if z.1 16 i = 0 then nI 300 else if 0 ≤ air then nI 300 else nI 0 := ⟨_, rfl⟩
  have o0 : nI 300 + Int32.ofInt (-300) = nI 0 := by decide
  have yb : y.toInt = 0 ∨ y.toInt = 300 := by
    rw [hy]
    by_cases q : z.1 16 i = 0
    · rw [if_pos q]; exact Or.inr k_300
    · rw [if_neg q]
      by_cases q2 : 0 ≤ air
      · rw [if_pos q2]; exact Or.inr k_300
      · rw [if_neg q2]; exact Or.inl k_0
  have kz : k_heatByHouses_b2 air i z = sl (si z 10 c (z.1 10 c + y)) 26 (z.2 26 + y.toInt64) := by
    unfold k_heatByHouses_b2 k_heatByHouses_j47 k_heatByHouses_k71 k_heatByHouses_k83
    rw [o0, ← hy, hc0]
    rfl
  have kζ : m_heat_b194 air i ζ = sl (si ζ 10 c (ζ.1 10 c + y)) 26 (ζ.2 26 + y.toInt64) := by
    unfold m_heat_b194 m_heat_j231 m_heat_k234 m_bring_s m_bring_k10_s m_bring_k21_s
    rw [e16, e14, ← hy, idx50 hc, ← hc0]
    rfl
  rw [kz, kζ]
  refine ⟨⟨fun k hk => ?_, fun k hk => ?_⟩, (hz.2.1.wr 10 c (by rw [e10])).wl 26 (by rw [e26]), fun x hx => ?_, fun j hj => ?_, BW_of (fun x hx => by rw [sl_1, si_ne (by decide)]) hz.2.2.2.2⟩
  · rw [sl_1, si_ne (by omega)]
    exact hz.1.1 k hk
  · rw [sl_1, si_ne (by omega)]
    exact hz.1.2 k hk
  · rw [sl_1, si_ne (by omega), si_ne (by omega)]
    exact hz.2.2.1 x hx
  · obtain ⟨b1, b2, b3, b4⟩ := hz.2.2.2.1 j hj
    rw [sl_1, si_ne (k' := 8) (by omega), si_ne (k' := 9) (by omega), si_ne (k' := 11) (by omega), si_at]
    refine ⟨b1, b2, ?_, b4⟩
    by_cases q : j = c
    · subst q
      rw [if_pos ⟨rfl, rfl⟩, i_add (by omega) (by omega)]
      omega
    · rw [if_neg (fun x => q x.2)]
      omega
