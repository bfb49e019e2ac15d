/-! heat that is led balances -/
theorem cv_lead_step {s s' : Sg} {nh nb nc : Nat} {T C D S M : Int} (hB : BL T C s) (h0 : 300 ≤ T) (hT : T ≤ 20000) (hsn : ∀ c, c < 25 → vp_in (s.1 4 c) 10 ∧ vp_in (s.1 5 c) 4) {air : Int32} (a0 : -50 ≤ air.toInt) (a1 : air.toInt ≤ 30) {i : Nat} (hi : i < 25) {z ζ : Sg} (h : HI s s' nh nb nc T i z ζ) (hv : CV D S M z) : CV D S M (k_leadHeat_b2 air i z) := by
  obtain ⟨hA, ⟨hz, hζ⟩, he, hb⟩ := h
  have eT : ∀ l, l < 5 → l_temperature z (5 * i + l) = l_temperature s (5 * i + l) := fun l hl => temp_cg (by rw [hz 8 (by decide)]) (by rw [hz 9 (by decide)]) (he _ (by omega))
  have s4 : vp_in (z.1 4 i) 10 := by rw [hz 4 (by decide)]; exact (hsn i hi).1
  have s5 : vp_in (z.1 5 i) 4 := by rw [hz 5 (by decide)]; exact (hsn i hi).2
  have tb := temp_b hB (by omega) hT (j := 5 * i) (by omega)
  have tbl := fun m (hm : m < 5) => temp_b hB (by omega) hT (j := 5 * i + m) (by omega)
  have eT0 : l_temperature z (5 * i) = l_temperature s (5 * i) := eT 0 (by decide)
  obtain ⟨L, A, hL, hfa⟩ := fa_i (z := z) (i := i) (air := air) s4 s5 a0 a1 (by rw [eT0]; exact tb.1) (by rw [eT0]; omega)
  obtain ⟨fa, hf⟩ : ∃ fa : Int32, fa = c_heatFromAir z i air := ⟨_, rfl⟩
  rw [← hf] at hfa
  rw [eT0] at hfa
  have kz : k_leadHeat_b2 air i z = sl (lp (c_leadDown_b5 i (nI 10)) 5 (fa, z)).2 26 ((lp (c_leadDown_b5 i (nI 10)) 5 (fa, z)).2.2 26 + (fa + nI 10).toInt64) := by
    have q : k_leadHeat_b2 air i z = sl (c_leadDown_s z i (c_heatFromAir z i air) (nI 10)) 26 ((c_leadDown_s z i (c_heatFromAir z i air) (nI 10)).2 26 + (c_heatFromAir z i air + nI 10).toInt64) := rfl
    rw [q, ← hf, cl_s z i fa (nI 10) 5 rfl]
  obtain ⟨-, ⟨cz, cl⟩, cp⟩ := lead_c (z := z) (i := i) fa 5 (Nat.le_refl _)
  rw [kz]
  generalize lp (c_leadDown_b5 i (nI 10)) 5 (fa, z) = w at cz cl cp ⊢
  have cq : ∀ l, l < 5 → w.2.1 10 (5 * i + l) = s.1 10 (5 * i + l) + (inn fa (l_temperature s) i l - inn fa (l_temperature s) i (l + 1)) := fun l hl => by
    rw [cp, if_pos (by omega), show 5 * i + l - 5 * i = l by omega, inn_cg eT l (by omega), inn_cg eT (l + 1) (by omega), he _ (by omega)]
  have co : ∀ j, ¬ (5 * i ≤ j ∧ j < 5 * i + 5) → w.2.1 10 j = z.1 10 j := fun j hj => by
    rw [cp, if_neg (by omega)]
  have p := prod_b (d := A - (l_temperature s (5 * i)).toInt) hL.1.1 hL.1.2
  have iS : ∀ m, m < 4 → (inn fa (l_temperature s) i (m + 1)).toInt = 20 * ((l_temperature s (5 * i + m)).toInt - (l_temperature s (5 * i + (m + 1))).toInt) := fun m hm => by
    have ex : inn fa (l_temperature s) i (m + 1) = nI 20 * (l_temperature s (5 * i + m) - l_temperature s (5 * i + (m + 1))) := if_neg (by omega)
    have b1 := tbl m (by omega)
    have b2 := tbl (m + 1) (by omega)
    have hs : (l_temperature s (5 * i + m) - l_temperature s (5 * i + (m + 1))).toInt = (l_temperature s (5 * i + m)).toInt - (l_temperature s (5 * i + (m + 1))).toInt := i_sub (by omega) (by omega)
    rw [ex, i_mul (by rw [k_20, hs]; omega) (by rw [k_20, hs]; omega), k_20, hs]
  have i5 : ∀ n, n = 4 → (inn fa (l_temperature s) i (n + 1)).toInt = -10 := fun n hn => by
    have ex : inn fa (l_temperature s) i (n + 1) = -(nI 10) := if_pos (by omega)
    rw [ex]
    decide
  have iB : ∀ l, l ≤ 5 → -1000000 ≤ (inn fa (l_temperature s) i l).toInt ∧ (inn fa (l_temperature s) i l).toInt ≤ 1000000 := fun l hl => by
    by_cases q0 : l = 0
    · subst q0
      have ei : inn fa (l_temperature s) i 0 = fa := rfl
      rw [ei, hfa]
      omega
    · obtain ⟨m, rfl⟩ : ∃ m, l = m + 1 := ⟨l - 1, by omega⟩
      by_cases q4 : m = 4
      · rw [i5 m q4]
        omega
      · have b1 := tbl m (by omega)
        have b2 := tbl (m + 1) (by omega)
        rw [iS m (by omega)]
        omega
  have d : ∀ l, l < 5 → (w.2.1 10 (5 * i + l)).toInt - (z.1 10 (5 * i + l)).toInt = (inn fa (l_temperature s) i l).toInt - (inn fa (l_temperature s) i (l + 1)).toInt := fun l hl => by
    have q1 := iB l (by omega)
    have q2 := iB (l + 1) (by omega)
    obtain ⟨⟨p0, p9⟩, ⟨x0, x9⟩, ⟨e1, e2⟩, -⟩ := hB (5 * i + l) (by omega)
    rw [cq l hl, he _ (by omega), e_sum rfl rfl (by omega) (by omega) (by omega)]
    omega
  have hsw : sw w.2 25 = sw z 25 := sw_of 25 (fun c hc => by rw [cz 3 (by decide)])
  have hE : HE w.2 = HE z + (fa.toInt + 10) := by
    have e1 := isum_sub (fun j => (w.2.1 10 j).toInt) (fun j => (z.1 10 j).toInt) 125
    obtain ⟨mm, hmm⟩ : ∃ mm, 125 = 5 * i + 5 + mm := ⟨120 - 5 * i, by omega⟩
    have e2 := isum_blk (d := fun j => (w.2.1 10 j).toInt - (z.1 10 j).toInt) (a := 5 * i) (fun j hn => by
      show (w.2.1 10 j).toInt - (z.1 10 j).toInt = 0
      rw [co j hn]
      omega) mm
    rw [← hmm] at e2
    have d0 := d 0 (by decide)
    have d1 := d 1 (by decide)
    have d2 := d 2 (by decide)
    have d3 := d 3 (by decide)
    have d4 := d 4 (by decide)
    have n5 := i5 4 rfl
    have n0 : inn fa (l_temperature s) i 0 = fa := rfl
    simp only [Nat.add_zero, Nat.zero_add] at d0
    simp only [Nat.reduceAdd] at d1 d2 d3 d4 n5
    rw [n0] at d0
    rw [n5] at d4
    unfold HE
    rw [hsw, e1, e2]
    (try dsimp only)
    omega
  have hsum : (fa + nI 10).toInt = fa.toInt + 10 := by
    rw [i_add (by rw [k_10, hfa]; omega) (by rw [k_10, hfa]; omega), k_10]
  obtain ⟨v29, v30, v31, v26, v27, v28⟩ := id hv
  refine hv.go (dE := fa.toInt + 10) (dW := 0) (dC := 0) (x := fa.toInt + 10) (y := 0) (w := 0) hE ?_ ?_ ?_ ?_ ?_ ?_ ?_ ?_ (by omega) (by omega) (by omega)
  · rw [Int.add_zero]
    exact WA_of (fun j _ => by rw [sl_1, cz 8 (by decide)]) (fun j _ => by rw [sl_1, cz 9 (by decide)]) hsw
  · rw [Int.add_zero]
    exact CA_of (fun j _ => by rw [sl_1, cz 11 (by decide)])
  · rw [sl_at, if_neg (by decide), cl]; exact v29
  · rw [sl_at, if_neg (by decide), cl]; exact v30
  · rw [sl_at, if_neg (by decide), cl]; exact v31
  · rw [sl_at, if_pos rfl, cl, oi_32, hsum]
  · rw [sl_at, if_neg (by decide), cl]; exact oi_z rfl
  · rw [sl_at, if_neg (by decide), cl]; exact oi_z rfl
/-- 2: heat, but for houses -/
theorem cv_lead {σ0 μ0 : Sg} {T C N D S M : Int} {σ μ : Sg} (h : PH σ0 μ0 T C N σ μ) (h0 : 300 ≤ T) (hT : T ≤ 20000) {air : Int32} (a0 : -50 ≤ air.toInt) (a1 : air.toInt ≤ 30) (hv : CV D S M σ) : CV D S M (k_leadHeat_s σ air) := by
  have es : k_leadHeat_s σ air = lp (k_leadHeat_b2 air) 25 σ := rfl
  rw [es]
  obtain ⟨⟨d1, d2⟩, d3⟩ := deg_fill μ 125 (Nat.le_refl _)
  generalize lp m_heat_b2 125 μ = s' at d1 d2 d3
  have hA : AG (cpN σ0 0) (cpN σ0 1) (cpN σ0 2) σ s' := ⟨fun k j hv => by
    rw [d1 k (by unfold vis at hv; omega)]
    exact h.2.1.1 k j hv, fun k u1 u2 => by
    rw [d2]
    exact h.2.1.2 k u1 u2⟩
  have hsn : ∀ c, c < 25 → vp_in (σ.1 4 c) 10 ∧ vp_in (σ.1 5 c) 4 := fun c hc => by
    rw [h.2.1.cell (k := 4) (by omega) hc, h.2.1.cell (k := 5) (by omega) hc]
    exact h.2.2.1 c hc
  exact (lp_rel (P := fun i z ζ => HI σ s' (cpN σ0 0) (cpN σ0 1) (cpN σ0 2) T i z ζ ∧ CV D S M z) (f := k_leadHeat_b2 air) (g := m_heat_b27 air) (x := σ) (y := s') (N := 25) ⟨HI_0 hA, hv⟩ (fun i z ζ hi hz => ⟨HI_step h.2.2.2.1 h0 hT hsn (fun j hj => (d3 j hj).trans (h.2.1.temp hj).symm) a0 a1 hi hz.1, cv_lead_step h.2.2.2.1 h0 hT hsn a0 a1 hi hz.1 hz.2⟩) 25 (Nat.le_refl _)).2
/-- one house heats -/
theorem ph_houses_step {σ0 μ0 : Sg} {T C N : Int} {z ζ : Sg} (hz : PH σ0 μ0 T C N z ζ) (hT : T ≤ 20100) {i : Nat} (hi : i < cpN σ0 0) (hcell : ∀ x, x < cpN σ0 0 → vp_in (σ0.1 14 x) 25) (air : Int32) : PH σ0 μ0 (T + 3) C N (k_heatByHouses_b2 air i z) (m_heat_b194 air i ζ) := by
  have e14 : ζ.1 14 i = z.1 14 i := (hz.2.1.hou (k := 14) (by omega) hi).symm
  have e16 : ζ.1 16 i = z.1 16 i := (hz.2.1.hou (k := 16) (by omega) hi).symm
  have hc : vp_in (z.1 14 i) 25 := by
    rw [hz.1.1 14 (by omega)]
    exact hcell i hi
  have lc := vp_lt hc
  obtain ⟨c, hc0⟩ : ∃ c : Nat, c = 5 * (z.1 14 i).toNatClampNeg := ⟨_, rfl⟩
  have e10 := hz.2.1.lay (k := 10) (j := c) (by omega) (by omega)
  have e26 := hz.2.1.2 26 (by omega) (by omega)
  obtain ⟨y, hy⟩ : ∃ y : Int32, y = if z.1 16 i = 0 then nI 300 else if 0 ≤ air then nI 300 else nI 0 := ⟨_, rfl⟩
  have o0 : nI 300 + Int32.ofInt (-300) = nI 0 := by decide
  have yb : y.toInt = 0 ∨ y.toInt = 300 := by
    rw [hy]
    by_cases q : z.1 16 i = 0
    · rw [if_pos q]; exact Or.inr k_300
    · rw [if_neg q]
      by_cases q2 : 0 ≤ air
      · rw [if_pos q2]; exact Or.inr k_300
      · rw [if_neg q2]; exact Or.inl k_0
  have kz : k_heatByHouses_b2 air i z = sl (si z 10 c (z.1 10 c + y)) 26 (z.2 26 + y.toInt64) := by
    unfold k_heatByHouses_b2 k_heatByHouses_j47 k_heatByHouses_k71 k_heatByHouses_k83
    rw [o0, ← hy, hc0]
    rfl
  have kζ : m_heat_b194 air i ζ = sl (si ζ 10 c (ζ.1 10 c + y)) 26 (ζ.2 26 + y.toInt64) := by
    unfold m_heat_b194 m_heat_j231 m_heat_k234 m_bring_s m_bring_k10_s m_bring_k21_s
    rw [e16, e14, ← hy, idx50 hc, ← hc0]
    rfl
  rw [kz, kζ]
  refine ⟨⟨fun k hk => ?_, fun k hk => ?_⟩, (hz.2.1.wr 10 c (by rw [e10])).wl 26 (by rw [e26]), fun x hx => ?_, fun j hj => ?_, BW_of (fun x hx => by rw [sl_1, si_ne (by decide)]) hz.2.2.2.2⟩
  · rw [sl_1, si_ne (by omega)]
    exact hz.1.1 k hk
  · rw [sl_1, si_ne (by omega)]
    exact hz.1.2 k hk
  · rw [sl_1, si_ne (by omega), si_ne (by omega)]
    exact hz.2.2.1 x hx
  · obtain ⟨b1, b2, b3, b4⟩ := hz.2.2.2.1 j hj
    rw [sl_1, si_ne (k' := 8) (by omega), si_ne (k' := 9) (by omega), si_ne (k' := 11) (by omega), si_at]
    refine ⟨b1, b2, ?_, b4⟩
    by_cases q : j = c
    · subst q
      rw [if_pos ⟨rfl, rfl⟩, i_add (by omega) (by omega)]
      omega
    · rw [if_neg (fun x => q x.2)]
      omega
/-- 2: houses heat -/
theorem cv_houses {σ0 μ0 : Sg} {T C N D S M : Int} {σ μ : Sg} (h : PH σ0 μ0 T C N σ μ) (hT : T ≤ 20000) (hn : cpN σ0 0 ≤ 10) (hcell : ∀ x, x < cpN σ0 0 → vp_in (σ0.1 14 x) 25) (air : Int32) (hv : CV D S M σ) : ∀ n, n ≤ cpN σ0 0 → CV D S M (lp (k_heatByHouses_b2 air) n σ) := fun n hnn => by
  refine (lp_rel (P := fun i z ζ => PH σ0 μ0 (T + 3 * (i : Int)) C N z ζ ∧ CV D S M z) (f := k_heatByHouses_b2 air) (g := m_heat_b194 air) (x := σ) (y := μ) (N := n) ⟨h.mono (by omega) (Int.le_refl _) (Int.le_refl _), hv⟩ (fun i z ζ hi hz => ?_) n (Nat.le_refl _)).2
  have hi0 : i < cpN σ0 0 := by omega
  refine ⟨(ph_houses_step hz.1 (by omega) hi0 hcell air).mono (by omega) (Int.le_refl _) (Int.le_refl _), ?_⟩
  obtain ⟨hz, hv⟩ := hz
  have hc : vp_in (z.1 14 i) 25 := by
    rw [hz.1.1 14 (by omega)]
    exact hcell i hi0
  have lc := vp_lt hc
  obtain ⟨c, hc0⟩ : ∃ c : Nat, c = 5 * (z.1 14 i).toNatClampNeg := ⟨_, rfl⟩
  obtain ⟨y, hy⟩ : ∃ y : Int32, y = if z.1 16 i = 0 then nI 300 else if 0 ≤ air then nI 300 else nI 0 := ⟨_, rfl⟩
  have o0 : nI 300 + Int32.ofInt (-300) = nI 0 := by decide
  have yb : y.toInt = 0 ∨ y.toInt = 300 := by
    rw [hy]
    by_cases q : z.1 16 i = 0
    · rw [if_pos q]; exact Or.inr k_300
    · rw [if_neg q]
      by_cases q2 : 0 ≤ air
      · rw [if_pos q2]; exact Or.inr k_300
      · rw [if_neg q2]; exact Or.inl k_0
  have kz : k_heatByHouses_b2 air i z = sl (si z 10 c (z.1 10 c + y)) 26 (z.2 26 + y.toInt64) := by
    unfold k_heatByHouses_b2 k_heatByHouses_j47 k_heatByHouses_k71 k_heatByHouses_k83
    rw [o0, ← hy, hc0]
    rfl
  rw [kz]
  obtain ⟨⟨p0, p9⟩, ⟨x0, x9⟩, ⟨e1, e2⟩, -⟩ := hz.2.2.2.1 c (by omega)
  have hs : (z.1 10 c + y).toInt = (z.1 10 c).toInt + y.toInt := i_add (by omega) (by omega)
  obtain ⟨v29, v30, v31, v26, v27, v28⟩ := id hv
  refine hv.go (dE := y.toInt) (dW := 0) (dC := 0) (x := y.toInt) (y := 0) (w := 0) ?_ ?_ ?_ ?_ ?_ ?_ ?_ ?_ ?_ (by omega) (by omega) (by omega)
  · rw [HE_at (k := c) (c := 0) (σ := z) (by omega) (by decide) (fun j hj => by rw [sl_1, si_pj _ hj]) (fun x _ => by rw [sl_1, si_ne (by decide)])]
    rw [sl_1, si_eq, hs, si_ne (by decide)]
    omega
  · rw [Int.add_zero]
    exact WA_of (fun j _ => by rw [sl_1, si_ne (by decide)]) (fun j _ => by rw [sl_1, si_ne (by decide)]) (sw_of 25 (fun x _ => by rw [sl_1, si_ne (by decide)]))
  · rw [Int.add_zero]
    exact CA_of (fun j _ => by rw [sl_1, si_ne (by decide)])
  · exact v29
  · exact v30
  · exact v31
  · rw [sl_at, if_pos rfl, oi_32]
  · exact oi_z rfl
  · exact oi_z rfl
