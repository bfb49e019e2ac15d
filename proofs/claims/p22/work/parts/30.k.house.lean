/-! house -/
theorem wi_pile (v : Int32) : (m_within v (nI 1) (nI 4) = nI 0 ∧ xIx (v - nI 1) (nI 4) = 1) ∨ (m_within v (nI 1) (nI 4) = nI 1 ∧ xIx (v - nI 1) (nI 4) = 0 ∧ vp_in v 5) := by
  by_cases e : v.toInt = -2147483648
  · have hv : v = -2147483648 := Int32.toInt_inj.mp (by rw [e]; decide)
    subst hv
    exact Or.inl (by decide)
  · have h1 : -2147483648 ≤ v.toInt := Int32.le_toInt v
    have h2 : v.toInt < 2147483648 := Int32.toInt_lt v
    have k1 : (nI 1).toInt = 1 := nI_toInt (by decide)
    have k4 : (nI 4).toInt = 4 := nI_toInt (by decide)
    have es := i_sub (a := v) (b := nI 1) (by omega) (by omega)
    rw [k1] at es
    have k0 : (0 : Int32).toInt = 0 := by decide
    unfold m_within m_within_j15 xIx
    by_cases q1 : v < nI 1
    · have p1 : v - nI 1 < 0 := by rw [i_lt, k1] at q1; rw [i_lt, es, k0]; omega
      rw [if_pos q1, if_pos p1]
      exact Or.inl ⟨rfl, rfl⟩
    · have p1 : ¬ v - nI 1 < 0 := by rw [i_lt, k1] at q1; rw [i_lt, es, k0]; omega
      rw [if_neg q1, if_neg p1]
      by_cases q2 : nI 4 < v
      · have p2 : ¬ v - nI 1 < nI 4 := by rw [i_lt, k4] at q2; rw [i_lt, es, k4]; omega
        rw [if_pos q2, if_neg p2]
        exact Or.inl ⟨rfl, rfl⟩
      · have p2 : v - nI 1 < nI 4 := by rw [i_lt, k4] at q2; rw [i_lt, es, k4]; omega
        rw [if_neg q2, if_pos p2]
        rw [i_lt, k1] at q1
        rw [i_lt, k4] at q2
        exact Or.inr ⟨rfl, rfl, vp_in_iff.mpr ⟨by omega, by omega⟩⟩
theorem nI_m1 {h : Nat} (hh : h < 2 ^ 31) : ¬ nI h = -1 := fun q => by
  have q2 := congrArg Int32.toInt q
  rw [nI_toInt hh] at q2
  have q3 : ((-1 : Int32)).toInt = -1 := by decide
  omega
theorem in_eq {σ μ : Sg} (h : Rel σ μ) {cell : Int32} (hc : vp_in cell 25) : m_houseIn μ cell = σ.1 36 cell.toNatClampNeg := by
  have hO := Rel_c h
  have l13 := vp_lt hO.1
  have e13 : (σ.1 13 0).toNatClampNeg = cpN σ 0 := rfl
  have n13 := h.1.n0
  have hs := vp_self hc
  have hl := vp_lt hc
  unfold m_houseIn m_houseIn_x4
  rw [← n13]
  rcases h.2.2.2.2.2.1.1 _ hl with ⟨g1, g2⟩ | ⟨x, g1, g2, g3⟩
  · rw [g1]
    have key : ∀ n, n ≤ cpN σ 0 → lp (m_houseIn_b4 μ cell) n (-1) = -1 := fun n => by
      induction n with
      | zero => exact fun _ => rfl
      | succ n ih =>
        intro hn
        show m_houseIn_b4 μ cell n (lp (m_houseIn_b4 μ cell) n (-1)) = -1
        rw [ih (by omega)]
        unfold m_houseIn_b4 m_houseIn_j27
        rw [if_neg (fun q => g2 n (by omega) (by rw [h.1.hou (k := 14) (by omega) (by omega), q]; exact hs))]
    exact key _ (Nat.le_refl _)
  · rw [g2]
    have key : ∀ n, n ≤ cpN σ 0 → lp (m_houseIn_b4 μ cell) n (-1) = if x < n then nI x else -1 := fun n => by
      induction n with
      | zero => intro _; rw [if_neg (by omega)]; rfl
      | succ n ih =>
        intro hn
        show m_houseIn_b4 μ cell n (lp (m_houseIn_b4 μ cell) n (-1)) = _
        rw [ih (by omega)]
        unfold m_houseIn_b4 m_houseIn_j27
        by_cases q : x = n
        · subst q
          rw [if_pos (by rw [← h.1.hou (k := 14) (by omega) (by omega), g3]; exact hs.symm), if_pos (by omega)]
        · rw [if_neg (fun z => q (h.2.2.2.2.2.1.2 x n g1 (by omega) (by rw [g3, h.1.hou (k := 14) (by omega) (j := n) (by omega), z]; exact hs.symm)))]
          by_cases q2 : x < n
          · rw [if_pos q2, if_pos (by omega)]
          · rw [if_neg q2, if_neg (by omega)]
    rw [key _ (Nat.le_refl _), if_pos g1]
theorem mOK_13 {ν μ : Sg} (G : ∀ k, k ≠ 13 → k ≠ 14 → k ≠ 15 → k ≠ 16 → k ≠ 18 → k ≠ 0 → ν.1 k = μ.1 k) (h13 : vp_in (ν.1 13 0) 11) (hh : ∀ h, h < (ν.1 13 0).toNatClampNeg → vp_in (ν.1 14 h) 25 ∧ vp_in (ν.1 15 h) 5 ∧ vp_in (ν.1 18 h) 601 ∧ (ν.1 18 h).toNatClampNeg ≤ (ν.1 1 0).toNatClampNeg) (h : mOK μ) : mOK ν := by
  unfold mOK at h ⊢
  rw [G 19 (by omega) (by omega) (by omega) (by omega) (by omega) (by omega), G 24 (by omega) (by omega) (by omega) (by omega) (by omega) (by omega), G 20 (by omega) (by omega) (by omega) (by omega) (by omega) (by omega), G 4 (by omega) (by omega) (by omega) (by omega) (by omega) (by omega), G 5 (by omega) (by omega) (by omega) (by omega) (by omega) (by omega)]
  refine ⟨h13, h.2.1, h.2.2.1, ?_, hh, h.2.2.2.2.2.1, h.2.2.2.2.2.2⟩
  rw [G 1 (by omega) (by omega) (by omega) (by omega) (by omega) (by omega)]
  exact h.2.2.2.1
theorem Rel_house {σ μ : Sg} (h : Rel σ μ) {cell pile ic : Int32} (hc : vp_in cell 25) (hp : vp_in pile 5) (hn : cpN σ 0 < 10) (hfree : σ.1 36 cell.toNatClampNeg = -1) : Rel (gH (si σ 36 cell.toNatClampNeg (σ.1 13 0)) cell pile ic (σ.1 1 0)) (si (si (si (si (si (si μ 0 0 (nI 0)) 14 (cpN σ 0) cell) 15 (cpN σ 0) pile) 16 (cpN σ 0) ic) 18 (cpN σ 0) (σ.1 1 0)) 13 0 (nI (cpN σ 0 + 1))) := by
  have hO := Rel_c h
  have lm := vp_lt h.mo
  have hs := vp_self hc
  have hl := vp_lt hc
  have s13 := vp_self hO.1
  have e13 : (σ.1 13 0).toNatClampNeg = cpN σ 0 := rfl
  rw [e13] at s13
  have u1 := h.1.cnt (k := 1) (by omega)
  have n13 := h.1.n0
  obtain ⟨s, hs0⟩ : ∃ s, s = si σ 36 cell.toNatClampNeg (σ.1 13 0) := ⟨_, rfl⟩
  rw [← hs0]
  have S : ∀ k, k ≠ 36 → s.1 k = σ.1 k := fun k hk => by rw [hs0, si_ne hk]
  have SN : ∀ L, cpN s L = cpN σ L := fun L => by
    unfold cpN
    rcases cpF_3 L with q | q | q <;> rw [q, S _ (by decide)]
  have N0 := gH_N (σ := s) (ce := cell) (pi := pile) (ic := ic) (mo := σ.1 1 0) (by rw [SN]; omega)
  have NM : ∀ M, M < 3 → M ≠ 0 → cpN (gH s cell pile ic (σ.1 1 0)) M = cpN σ M := fun M h1 h2 => (gH_M h1 h2).trans (SN M)
  generalize hτ : gH s cell pile ic (σ.1 1 0) = τ at N0 NM ⊢
  rw [SN] at N0
  have F : ∀ k, (k ≠ 14 ∧ k ≠ 15 ∧ k ≠ 16 ∧ k ≠ 17 ∧ k ≠ 18 ∧ k ≠ 34 ∧ k ≠ 13 ∧ k ≠ 36) → τ.1 k = σ.1 k := fun k hk => by rw [← hτ, gH_k (by omega), S k (by omega)]
  have f36 : τ.1 36 = upd (σ.1 36) cell.toNatClampNeg (nI (cpN σ 0)) := by rw [← hτ, gH_k (by omega), hs0, si_row, s13]
  have f14 : τ.1 14 = upd (σ.1 14) (cpN σ 0) cell := by rw [← hτ, gH_14, S 14 (by decide), SN]
  have f15 : τ.1 15 = upd (σ.1 15) (cpN σ 0) pile := by rw [← hτ, gH_15, S 15 (by decide), SN]
  have f16 : τ.1 16 = upd (σ.1 16) (cpN σ 0) ic := by rw [← hτ, gH_16, S 16 (by decide), SN]
  have f17 : τ.1 17 = upd (σ.1 17) (cpN σ 0) 0 := by rw [← hτ, gH_17, S 17 (by decide), SN]
  have f18 : τ.1 18 = upd (σ.1 18) (cpN σ 0) (σ.1 1 0) := by rw [← hτ, gH_18, S 18 (by decide), SN]
  have f13 : τ.1 13 = upd (σ.1 13) 0 (nI (cpN σ 0 + 1)) := by rw [← hτ, gH_13, S 13 (by decide), SN]
  have f2 : τ.2 = σ.2 := by rw [← hτ, gH_2, hs0]; rfl
  have em : mon τ = mon σ := by unfold mon; rw [F 1 (by omega)]
  have hamt : ∀ x t u, x < cpN σ 0 → k_claimAmount τ x t u = k_claimAmount σ x t u := fun x t u hx => by
    refine amt_congr (by rw [f18, upd_ne (by omega)]) (fun m hm => ?_)
    unfold k_wasReadThawed
    rw [F 19 (by omega)]
    refine er_congr _ (fun i hi => ?_)
    unfold k_wasReadThawed_b2 h_hasRead h_hasRead_j26 h_readingAt h_readingAt_j34
    rw [F 20 (by omega), F 22 (by omega), F 35 (by omega), f14, f15, upd_ne (by omega), upd_ne (by omega), F (40 + i) (by omega)]
  have hno : ∀ x, x < cpN σ 0 → σ.1 14 x ≠ nI cell.toNatClampNeg := by
    rcases h.2.2.2.2.2.1.1 _ hl with ⟨g1, g2⟩ | ⟨x, g1, g2, g3⟩
    · exact g2
    · exact absurd (g2.symm.trans hfree) (nI_m1 (by omega))
  obtain ⟨h1, h2, h3, h4, h5, h6, h7, h8⟩ := h
  refine ⟨⟨fun k j hv => ?_, fun k q1 q2 => by rw [f2]; exact h1.2 k q1 q2⟩, mOK_13 (μ := μ) (fun k q1 q2 q3 q4 q5 q6 => by rw [si_ne q1, si_ne q5, si_ne q4, si_ne q3, si_ne q2, si_ne q6]) (by rw [si_eq]; exact vp_in_nI (by omega) (by decide)) (fun b hb => ?_) h2, ?_, ?_, RD_k (NM 1 (by omega) (by omega)) (fun k hk => F k (by omega)) (by rw [si_ne (by decide), si_ne (by decide), si_ne (by decide), si_ne (by decide), si_ne (by decide), si_ne (by decide)]) h5, ⟨fun c hc2 => ?_, fun x y hx hy e => ?_⟩, ⟨fun k hk => ?_, fun k hk => ?_⟩, fun x hx h10 => ?_⟩
  · rw [NM 1 (by omega) (by omega), NM 2 (by omega) (by omega), N0] at hv
    by_cases q13 : k = 13
    · subst q13
      unfold vis at hv
      have hj : j = 0 := by omega
      subst hj
      rw [f13, upd_eq, si_eq]
    · by_cases qh : 14 ≤ k ∧ k ≤ 18
      · have hj : j < cpN σ 0 + 1 := by
          unfold vis at hv
          omega
        rw [si_ne (by omega)]
        by_cases q : j = cpN σ 0
        · subst q
          rcases (show k = 14 ∨ k = 15 ∨ k = 16 ∨ k = 17 ∨ k = 18 by omega) with rfl | rfl | rfl | rfl | rfl
          · rw [f14, upd_eq, si_ne (by decide), si_ne (by decide), si_ne (by decide), si_eq]
          · rw [f15, upd_eq, si_ne (by decide), si_ne (by decide), si_eq]
          · rw [f16, upd_eq, si_ne (by decide), si_eq]
          · rw [f17, upd_eq, si_ne (by decide), si_ne (by decide), si_ne (by decide), si_ne (by decide), si_ne (by decide)]
            exact (h8 _ (Nat.le_refl _) (by omega)).symm
          · rw [f18, upd_eq, si_eq]
        · rw [si_pj _ q, si_pj _ q, si_pj _ q, si_pj _ q, si_ne (by omega)]
          have eh := h1.hou (k := k) (j := j) (by omega) (by omega)
          rw [← eh]
          rcases (show k = 14 ∨ k = 15 ∨ k = 16 ∨ k = 17 ∨ k = 18 by omega) with rfl | rfl | rfl | rfl | rfl
          · rw [f14, upd_ne q]
          · rw [f15, upd_ne q]
          · rw [f16, upd_ne q]
          · rw [f17, upd_ne q]
          · rw [f18, upd_ne q]
      · have hv2 : vis (cpN σ 0) (cpN σ 1) (cpN σ 2) k j := by
          unfold vis at hv ⊢
          omega
        have hk : k ≠ 36 ∧ k ≠ 34 ∧ k ≠ 0 := by
          unfold vis at hv
          omega
        rw [F k (by omega), si_ne q13, si_ne (by omega), si_ne (by omega), si_ne (by omega), si_ne (by omega), si_ne (by omega)]
        exact h1.1 k j hv2
  · rw [si_eq, nI_clamp (by omega)] at hb
    rw [si_ne (k := 13) (k' := 14) (by decide), si_ne (k := 18) (k' := 14) (by decide), si_ne (k := 16) (k' := 14) (by decide), si_ne (k := 15) (k' := 14) (by decide), si_ne (k := 13) (k' := 15) (by decide), si_ne (k := 18) (k' := 15) (by decide), si_ne (k := 16) (k' := 15) (by decide), si_ne (k := 13) (k' := 18) (by decide), si_ne (k := 13) (k' := 1) (by decide), si_ne (k := 18) (k' := 1) (by decide), si_ne (k := 16) (k' := 1) (by decide), si_ne (k := 15) (k' := 1) (by decide), si_ne (k := 14) (k' := 1) (by decide), si_ne (k := 0) (k' := 1) (by decide)]
    by_cases q : b = cpN σ 0
    · subst q
      rw [si_eq, si_eq, si_eq, u1]
      exact ⟨hc, hp, h2.2.2.2.1, Nat.le_refl _⟩
    · rw [si_pj _ q, si_pj _ q, si_pj _ q, si_pj _ q, si_pj _ q, si_pj _ q, si_pj _ q, si_ne (k := 0) (k' := 14) (by decide), si_ne (k := 0) (k' := 15) (by decide), si_ne (k := 0) (k' := 18) (by decide)]
      exact h2.2.2.2.2.1 b (by omega)
  · rw [em]
    exact BL_of (fun k q1 q2 j hj => by rw [F k (by omega)]) h3
  · rw [em]
    exact BW_of (fun c hc => by rw [F 3 (by omega)]) h4
  · rw [f36, f14, N0]
    by_cases q : c = cell.toNatClampNeg
    · rw [q, upd_eq]
      exact Or.inr ⟨cpN σ 0, by omega, rfl, by rw [upd_eq]; exact hs⟩
    · rw [upd_ne q]
      rcases h6.1 c hc2 with ⟨g1, g2⟩ | ⟨x, g1, g2, g3⟩
      · refine Or.inl ⟨g1, fun y hy => ?_⟩
        by_cases qy : y = cpN σ 0
        · rw [qy, upd_eq]
          exact fun z => q (by have z2 := congrArg Int32.toNatClampNeg z; rw [nI_clamp (by omega)] at z2; exact z2.symm)
        · rw [upd_ne qy]
          exact g2 y (by omega)
      · exact Or.inr ⟨x, by omega, g2, by rw [upd_ne (by omega)]; exact g3⟩
  · rw [N0] at hx hy
    rw [f14] at e
    by_cases qx : x = cpN σ 0
    · by_cases qy : y = cpN σ 0
      · rw [qx, qy]
      · rw [qx, upd_eq, upd_ne qy] at e
        exact absurd (e.symm.trans hs) (hno y (by omega))
    · by_cases qy : y = cpN σ 0
      · rw [qy, upd_eq, upd_ne qx] at e
        exact absurd (e.trans hs) (hno x (by omega))
      · rw [upd_ne qx, upd_ne qy] at e
        exact h6.2 x y (by omega) (by omega) e
  · rw [NM 2 (by omega) (by omega)] at hk
    obtain ⟨g1, g2, g3⟩ := h7.1 k hk
    rw [N0, F 37 (by omega), F 39 (by omega), f18, upd_ne (by omega)]
    exact ⟨by omega, g2, g3⟩
  · rw [NM 2 (by omega) (by omega)] at hk
    obtain ⟨g1, g2⟩ := h7.2 k hk
    rw [em, F 37 (by omega), F 38 (by omega), F 39 (by omega), F 25 (by omega), hamt _ _ _ (h7.1 k hk).1]
    exact ⟨g1, g2⟩
  · rw [N0] at hx
    rw [si_ne (by decide), si_ne (by decide), si_ne (by decide), si_ne (by decide), si_ne (by decide), si_ne (by decide)]
    exact h8 x (by omega) h10
theorem q_house : lp_house Rel := fun σ μ cell pile ic h hic => by
  have e13 := h.1.cnt (k := 13) (by omega)
  have e1 := h.1.cnt (k := 1) (by omega)
  have hO := Rel_c h
  have l13 := vp_lt hO.1
  have s13 := vp_self hO.1
  have en : (σ.1 13 0).toNatClampNeg = cpN σ 0 := rfl
  rw [en] at l13 s13
  have hnar : vp_nar .boolean ic = ic := by
    rcases hic with q | q <;> subst q <;> decide
  rcases wi_ix 24 (by decide) cell with ⟨a1, b1⟩ | ⟨a1, b1, c1⟩
  · have ex : kx_house σ cell pile ic = 1 := by simp only [kx_house, b1, xs_1]
    have es : m_house_s μ cell pile ic = si μ 0 0 (nI 1) := by simp only [m_house_k125, m_house_k125_s, m_house_k115, m_house_k115_s, m_house_k102, m_house_k102_s, m_house_k92, m_house_k92_s, m_house_k82, m_house_k82_s, m_house_k67, m_house_k67_s, m_house_j64, m_house_j64_s, m_house_j21, m_house_j21_s, m_house, m_house_s, m_isCell, a1, ref_s, ref_v, n0t, n1f, n2f, n3f, if_true, if_false]
    rw [ex, es, if_neg ne10]
    exact ⟨Rel_0 _ h, si_eq, fun q => absurd q ne10⟩
  · rcases wi_pile pile with ⟨a2, b2⟩ | ⟨a2, b2, c2⟩
    · have ex : kx_house σ cell pile ic = 1 := by simp only [kx_house, b1, b2, xs_0, xs_1]
      have es : m_house_s μ cell pile ic = si μ 0 0 (nI 1) := by simp only [m_house_k125, m_house_k125_s, m_house_k115, m_house_k115_s, m_house_k102, m_house_k102_s, m_house_k92, m_house_k92_s, m_house_k82, m_house_k82_s, m_house_k67, m_house_k67_s, m_house_j64, m_house_j64_s, m_house_j21, m_house_j21_s, m_house, m_house_s, m_isCell, a1, a2, ref_s, ref_v, n0t, n1f, n2f, n3f, if_true, if_false]
      rw [ex, es, if_neg ne10]
      exact ⟨Rel_0 _ h, si_eq, fun q => absurd q ne10⟩
    · have hl := vp_lt c1
      have hs := vp_self c1
      have eL : m_isLake μ cell = c_isLake σ cell.toNatClampNeg := by rw [AG.lake h.1 hl, ← hs]
      have eI := in_eq h c1
      by_cases t1 : σ.1 36 cell.toNatClampNeg = -1
      · by_cases t2 : c_isLake σ cell.toNatClampNeg = 0
        · by_cases hf : cpN σ 0 = 10
          · have t3 : nI 10 ≤ σ.1 13 0 := by rw [s13, hf]; decide
            have t4 : μ.1 13 0 = nI 10 := by rw [← e13, s13, hf]
            have ex : kx_house σ cell pile ic = 3 := by simp only [kx_house, b1, b2, xs_0, if_pos t1, if_pos t2, if_pos t3, xSt, n0t, if_true, xs_3]
            have es : m_house_s μ cell pile ic = si μ 0 0 (nI 2) := by simp only [m_house_k125, m_house_k125_s, m_house_k115, m_house_k115_s, m_house_k102, m_house_k102_s, m_house_k92, m_house_k92_s, m_house_k82, m_house_k82_s, m_house_k67, m_house_k67_s, m_house_j64, m_house_j64_s, m_house_j21, m_house_j21_s, m_house, m_house_s, m_isCell, a1, a2, eL, eI, if_pos t1, if_pos t2, if_pos t4, ref_s, ref_v, n0t, n1f, n2f, n3f, if_true, if_false]
            rw [ex, es, if_neg ne30]
            exact ⟨Rel_0 _ h, si_eq, fun q => absurd q ne30⟩
          · have t3 : ¬ nI 10 ≤ σ.1 13 0 := by rw [s13]; exact fun q => by have := (nI_leI (by decide) (by omega)).mp q; omega
            have u13 : μ.1 13 0 = nI (cpN σ 0) := by rw [← e13]; exact s13
            have t4 : ¬ μ.1 13 0 = nI 10 := fun q => hf (by have q2 : cpN σ 0 = (μ.1 13 0).toNatClampNeg := h.1.n0; rw [q2, q, nI_clamp (by decide)])
            have ex : kx_house σ cell pile ic = 0 := by simp only [kx_house, b1, b2, xs_0, if_pos t1, if_pos t2, if_neg t3, xSt, n1f, if_false]
            have es : m_house_s μ cell pile ic = si (si (si (si (si (si μ 0 0 (nI 0)) 14 (cpN σ 0) cell) 15 (cpN σ 0) pile) 16 (cpN σ 0) ic) 18 (cpN σ 0) (σ.1 1 0)) 13 0 (nI (cpN σ 0 + 1)) := by
              simp only [m_house_k125, m_house_k125_s, m_house_k115, m_house_k115_s, m_house_k102, m_house_k102_s, m_house_k92, m_house_k92_s, m_house_k82, m_house_k82_s, m_house_k67, m_house_k67_s, m_house_j64, m_house_j64_s, m_house_j21, m_house_j21_s, m_house, m_house_s, m_isCell, a1, a2, eL, eI, if_pos t1, if_pos t2, if_neg t4, hnar, ref_s, ref_v, n0t, n1f, n2f, n3f, if_true, if_false, si_at, sl_at, sl_1, si_2, Nat.reduceEqDiff, false_and, and_self, true_and, and_true, if_false, if_true]
              rw [u13, e1, nI_clamp (by omega), nI_add]
            have ev : m_house μ cell pile ic = nI (cpN σ 0) := by
              simp only [m_house_k125, m_house_k125_s, m_house_k115, m_house_k115_s, m_house_k102, m_house_k102_s, m_house_k92, m_house_k92_s, m_house_k82, m_house_k82_s, m_house_k67, m_house_k67_s, m_house_j64, m_house_j64_s, m_house_j21, m_house_j21_s, m_house, m_house_s, m_isCell, a1, a2, eL, eI, if_pos t1, if_pos t2, if_neg t4, hnar, ref_s, ref_v, n0t, n1f, n2f, n3f, if_true, if_false, si_at, sl_at, sl_1, si_2, Nat.reduceEqDiff, false_and, and_self, true_and, and_true, if_false, if_true]
              rw [u13, nI_add, pk_sub (by omega), Nat.add_sub_cancel]
            have ks : k_house_s σ cell pile ic = gH (si σ 36 cell.toNatClampNeg (σ.1 13 0)) cell pile ic (σ.1 1 0) := by
              simp only [k_house_k91, k_house_k91_s, k_house_k70, k_house_k70_s, k_house_j55, k_house_j55_s, k_house, k_house_s, si_at, sl_at, sl_1, si_2, Nat.reduceEqDiff, false_and, and_self, true_and, and_true, if_false, if_true]
            have kv : k_house σ cell pile ic = nI (cpN σ 0) := by
              simp only [k_house_k91, k_house_k91_s, k_house_k70, k_house_k70_s, k_house_j55, k_house_j55_s, k_house, k_house_s]
              rw [gH_k (by decide), si_eq, s13]
            rw [ex, es, ev, ks, kv, if_pos rfl]
            refine ⟨Rel_house h c1 c2 (by omega) t1, ?_, fun _ => rfl⟩
            rw [si_ne (by decide), si_ne (by decide), si_ne (by decide), si_ne (by decide), si_ne (by decide), si_eq]
            rfl
        · have ex : kx_house σ cell pile ic = 3 := by simp only [kx_house, b1, b2, xs_0, if_pos t1, if_neg t2, xSt, n0t, if_true, xs_3]
          have es : m_house_s μ cell pile ic = si μ 0 0 (nI 2) := by simp only [m_house_k125, m_house_k125_s, m_house_k115, m_house_k115_s, m_house_k102, m_house_k102_s, m_house_k92, m_house_k92_s, m_house_k82, m_house_k82_s, m_house_k67, m_house_k67_s, m_house_j64, m_house_j64_s, m_house_j21, m_house_j21_s, m_house, m_house_s, m_isCell, a1, a2, eL, eI, if_pos t1, if_neg t2, ref_s, ref_v, n0t, n1f, n2f, n3f, if_true, if_false]
          rw [ex, es, if_neg ne30]
          exact ⟨Rel_0 _ h, si_eq, fun q => absurd q ne30⟩
      · have ex : kx_house σ cell pile ic = 3 := by simp only [kx_house, b1, b2, xs_0, if_neg t1, xSt, n0t, if_true, xs_3]
        have es : m_house_s μ cell pile ic = si μ 0 0 (nI 2) := by simp only [m_house_k125, m_house_k125_s, m_house_k115, m_house_k115_s, m_house_k102, m_house_k102_s, m_house_k92, m_house_k92_s, m_house_k82, m_house_k82_s, m_house_k67, m_house_k67_s, m_house_j64, m_house_j64_s, m_house_j21, m_house_j21_s, m_house, m_house_s, m_isCell, a1, a2, eL, eI, if_neg t1, ref_s, ref_v, n0t, n1f, n2f, n3f, if_true, if_false]
        rw [ex, es, if_neg ne30]
        exact ⟨Rel_0 _ h, si_eq, fun q => absurd q ne30⟩
