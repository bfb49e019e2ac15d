/-! fire and ground -/
theorem i_half {x : Int32} (h : 0 ≤ x.toInt) : (x / nI 2).toInt = x.toInt / 2 := by
  rw [i_div (by rw [nI_toInt (by decide)]; decide), nI_toInt (by decide)]
  exact Int.tdiv_eq_ediv_of_nonneg h
theorem q_fire : lp_fire Rel := fun σ μ cell h => by
  rcases wi_ix 24 (by decide) cell with ⟨a1, b1⟩ | ⟨a1, b1, c1⟩
  · have ex : kx_fire σ cell = 1 := by simp only [kx_fire, b1, xs_1]
    have es : m_fire_s μ cell = si μ 0 0 (nI 1) := by simp only [m_fire_k85, m_fire_k85_s, m_fire_k74, m_fire_k74_s, m_fire_k62, m_fire_k62_s, m_fire_k39, m_fire_k39_s, m_fire_j36, m_fire_j36_s, m_fire, m_fire_s, m_isCell, a1, ref_s, ref_v, n0t, n1f, n2f, if_true, if_false]
    rw [ex, es, if_neg ne10]
    exact ⟨Rel_0 _ h, si_eq, fun q => absurd q ne10⟩
  · have hs := vp_self c1
    have hl := vp_lt c1
    have eL : m_isLake μ cell = c_isLake σ cell.toNatClampNeg := by rw [AG.lake h.1 hl, ← hs]
    have e4 := h.1.cell (k := 4) (by omega) hl
    have e11 := h.1.lay (k := 11) (j := 5 * cell.toNatClampNeg) (by omega) (by omega)
    have hv := (h.snow _ hl).1
    by_cases hL : c_isLake σ cell.toNatClampNeg = 0
    · by_cases h4 : σ.1 4 cell.toNatClampNeg = 0
      · have h4' : μ.1 4 cell.toNatClampNeg ≤ 0 := by rw [← e4, h4]; decide
        have ex : kx_fire σ cell = 0 := by simp only [kx_fire, b1, xs_0, if_pos hL, if_pos h4, xSt, n1f, if_false]
        have es : m_fire_s μ cell = sl (si (si (si μ 0 0 (nI 0)) 5 cell.toNatClampNeg (nI 0)) 11 (5 * cell.toNatClampNeg) (μ.1 11 (5 * cell.toNatClampNeg) - μ.1 11 (5 * cell.toNatClampNeg) / nI 2)) 30 (μ.2 30 + (μ.1 11 (5 * cell.toNatClampNeg) / nI 2).toInt64) := by
          simp only [m_fire_k85, m_fire_k85_s, m_fire_k74, m_fire_k74_s, m_fire_k62, m_fire_k62_s, m_fire_k39, m_fire_k39_s, m_fire_j36, m_fire_j36_s, m_fire, m_fire_s, m_isCell, a1, ref_s, ref_v, eL, if_pos hL, if_pos h4', n0t, n1f, n2f, if_true, if_false, idx50 c1, si_at, sl_at, sl_1, si_2, Nat.reduceEqDiff, false_and, and_self, true_and, and_true, if_false, if_true]
        have ev : m_fire μ cell = μ.1 11 (5 * cell.toNatClampNeg) / nI 2 := by
          simp only [m_fire_k85, m_fire_k85_s, m_fire_k74, m_fire_k74_s, m_fire_k62, m_fire_k62_s, m_fire_k39, m_fire_k39_s, m_fire_j36, m_fire_j36_s, m_fire, m_fire_s, m_isCell, a1, ref_s, ref_v, eL, if_pos hL, if_pos h4', n0t, n1f, n2f, if_true, if_false, idx50 c1, si_at, sl_at, sl_1, si_2, Nat.reduceEqDiff, false_and, and_self, true_and, and_true, if_false, if_true]
        have ks : k_fire_s σ cell = sl (si (si σ 5 cell.toNatClampNeg (nI 0)) 11 (5 * cell.toNatClampNeg) (σ.1 11 (5 * cell.toNatClampNeg) - σ.1 11 (5 * cell.toNatClampNeg) / nI 2)) 30 (σ.2 30 + (σ.1 11 (5 * cell.toNatClampNeg) / nI 2).toInt64) := by
          simp only [k_fire_k78, k_fire_k78_s, k_fire_k66, k_fire_k66_s, k_fire_k55, k_fire_k55_s, k_fire_j32, k_fire_j32_s, k_fire, k_fire_s, Nat.add_zero, si_at, sl_at, sl_1, si_2, Nat.reduceEqDiff, false_and, and_self, true_and, and_true, if_false, if_true]
        have kv : k_fire σ cell = σ.1 11 (5 * cell.toNatClampNeg) / nI 2 := by
          simp only [k_fire_k78, k_fire_k78_s, k_fire_k66, k_fire_k66_s, k_fire_k55, k_fire_k55_s, k_fire_j32, k_fire_j32_s, k_fire, k_fire_s, Nat.add_zero]
        rw [ex, es, ev, ks, kv, if_pos rfl]
        have h0 := Rel_0 (nI 0) h
        refine ⟨?_, ?_, fun _ => by rw [e11]⟩
        · refine Rel_land h0 ((FF.rf.si (by omega)).si (by omega)).sl ((FF.rf.si (by omega)).si (by omega)).sl (fun h1 => ((h1.wr 5 _ rfl).wr 11 _ (by rw [e11])).wl 30 (by rw [e11, h.1.2 30 (by omega) (by omega)])) (fun c hc => ?_) (fun j hj => ?_) (BW_of (fun c hc => ?_) h0.2.2.2.1)
          · simp only [si_at, sl_at, sl_1, si_2, Nat.reduceEqDiff, false_and, and_self, true_and, and_true, if_false, if_true]
            refine ⟨(h.snow c hc).1, ?_⟩
            by_cases q : c = cell.toNatClampNeg
            · rw [if_pos q]; exact vp_in_nI (by decide) (by decide)
            · rw [if_neg q]; exact (h.snow c hc).2
          · have hB := h.2.2.1 j hj
            simp only [si_at, sl_at, sl_1, si_2, Nat.reduceEqDiff, false_and, and_self, true_and, and_true, if_false, if_true]
            refine ⟨hB.1, hB.2.1, hB.2.2.1, ?_⟩
            by_cases q : j = 5 * cell.toNatClampNeg
            · subst q
              have e2 := i_half hB.2.2.2.1
              rw [if_pos rfl, i_sub (by rw [e2]; omega) (by have := Int32.toInt_lt (σ.1 11 (5 * cell.toNatClampNeg)); rw [e2]; omega), e2]
              omega
            · rw [if_neg q]; exact hB.2.2.2
          · simp only [si_at, sl_at, sl_1, si_2, Nat.reduceEqDiff, false_and, and_self, true_and, and_true, if_false, if_true]
        · simp only [si_at, sl_at, sl_1, si_2, Nat.reduceEqDiff, false_and, and_self, true_and, and_true, if_false, if_true]; rfl
      · have h4' : ¬ μ.1 4 cell.toNatClampNeg ≤ 0 := fun q => h4 (by
          rw [e4]
          have q2 := vp_in_iff.mp hv
          rw [i_le] at q
          have q3 : (μ.1 4 cell.toNatClampNeg).toInt ≤ 0 := q
          exact Int32.toInt_inj.mp (by show _ = (0 : Int); omega))
        have ex : kx_fire σ cell = 3 := by simp only [kx_fire, b1, xs_0, if_pos hL, if_neg h4, xSt, n0t, if_true, xs_3]
        have es : m_fire_s μ cell = si μ 0 0 (nI 2) := by
          simp only [m_fire_k85, m_fire_k85_s, m_fire_k74, m_fire_k74_s, m_fire_k62, m_fire_k62_s, m_fire_k39, m_fire_k39_s, m_fire_j36, m_fire_j36_s, m_fire, m_fire_s, m_isCell, a1, ref_s, ref_v, eL, if_pos hL, if_neg h4', n0t, n1f, n2f, if_true, if_false]
        rw [ex, es, if_neg ne30]
        exact ⟨Rel_0 _ h, si_eq, fun q => absurd q ne30⟩
    · have ex : kx_fire σ cell = 3 := by simp only [kx_fire, b1, xs_0, if_neg hL, xSt, n0t, if_true, xs_3]
      have es : m_fire_s μ cell = si μ 0 0 (nI 2) := by
        simp only [m_fire_k85, m_fire_k85_s, m_fire_k74, m_fire_k74_s, m_fire_k62, m_fire_k62_s, m_fire_k39, m_fire_k39_s, m_fire_j36, m_fire_j36_s, m_fire, m_fire_s, m_isCell, a1, ref_s, ref_v, eL, if_neg hL, n0t, n1f, n2f, if_true, if_false]
      rw [ex, es, if_neg ne30]
      exact ⟨Rel_0 _ h, si_eq, fun q => absurd q ne30⟩
theorem q_ground : lp_ground Rel := fun σ μ cell layer p0 e0 g0 c0 h => by
  rcases wi_ix 24 (by decide) cell with ⟨a1, b1⟩ | ⟨a1, b1, c1⟩
  · have ex : kx_ground σ cell layer p0 e0 g0 c0 = 1 := by simp only [kx_ground, b1, xs_0, xs_1]
    have es : m_ground_s μ cell layer p0 e0 g0 c0 = si μ 0 0 (nI 1) := by simp only [m_ground_k216_s, m_ground_k207_s, m_ground_k198_s, m_ground_k189_s, m_ground_k181_s, m_ground_k161_s, m_ground_k131_s, m_ground_k100_s, m_ground_j97_s, m_ground_j75_s, m_ground_j21_s, m_ground_s, m_isCell, a1, ref_s, ref_v, n0t, n1f, n2f, if_true, if_false]
    rw [ex, es, if_neg ne10]
    exact ⟨Rel_0 _ h, si_eq⟩
  · rcases wi_ix 4 (by decide) layer with ⟨a2, b2⟩ | ⟨a2, b2, c2⟩
    · have ex : kx_ground σ cell layer p0 e0 g0 c0 = 1 := by simp only [kx_ground, b1, b2, xs_0, xs_1]
      have es : m_ground_s μ cell layer p0 e0 g0 c0 = si μ 0 0 (nI 1) := by simp only [m_ground_k216_s, m_ground_k207_s, m_ground_k198_s, m_ground_k189_s, m_ground_k181_s, m_ground_k161_s, m_ground_k131_s, m_ground_k100_s, m_ground_j97_s, m_ground_j75_s, m_ground_j21_s, m_ground_s, m_isCell, a1, a2, ref_s, ref_v, n0t, n1f, n2f, if_true, if_false]
      rw [ex, es, if_neg ne10]
      exact ⟨Rel_0 _ h, si_eq⟩
    · rcases wi_rg p0 (nI 0) (nI 9) with ⟨a3, b3⟩ | ⟨a3, b3, c3⟩
      · have ex : kx_ground σ cell layer p0 e0 g0 c0 = 2 := by simp only [kx_ground, b1, b2, b3, xs_0, xs_2]
        have es : m_ground_s μ cell layer p0 e0 g0 c0 = si μ 0 0 (nI 2) := by simp only [m_ground_k216_s, m_ground_k207_s, m_ground_k198_s, m_ground_k189_s, m_ground_k181_s, m_ground_k161_s, m_ground_k131_s, m_ground_k100_s, m_ground_j97_s, m_ground_j75_s, m_ground_j21_s, m_ground_s, m_isCell, a1, a2, a3, ref_s, ref_v, n0t, n1f, n2f, if_true, if_false]
        rw [ex, es, if_neg ne20]
        exact ⟨Rel_0 _ h, si_eq⟩
      · rcases wi_rg e0 (nI 0) (nI 9) with ⟨a4, b4⟩ | ⟨a4, b4, c4⟩
        · have ex : kx_ground σ cell layer p0 e0 g0 c0 = 2 := by simp only [kx_ground, b1, b2, b3, b4, xs_0, xs_2]
          have es : m_ground_s μ cell layer p0 e0 g0 c0 = si μ 0 0 (nI 2) := by simp only [m_ground_k216_s, m_ground_k207_s, m_ground_k198_s, m_ground_k189_s, m_ground_k181_s, m_ground_k161_s, m_ground_k131_s, m_ground_k100_s, m_ground_j97_s, m_ground_j75_s, m_ground_j21_s, m_ground_s, m_isCell, a1, a2, a3, a4, ref_s, ref_v, n0t, n1f, n2f, if_true, if_false]
          rw [ex, es, if_neg ne20]
          exact ⟨Rel_0 _ h, si_eq⟩
        · rcases wi_rg g0 (-5000) (nI 30000) with ⟨a5, b5⟩ | ⟨a5, b5, c5⟩
          · have ex : kx_ground σ cell layer p0 e0 g0 c0 = 2 := by simp only [kx_ground, b1, b2, b3, b4, b5, xs_0, xs_2]
            have es : m_ground_s μ cell layer p0 e0 g0 c0 = si μ 0 0 (nI 2) := by simp only [m_ground_k216_s, m_ground_k207_s, m_ground_k198_s, m_ground_k189_s, m_ground_k181_s, m_ground_k161_s, m_ground_k131_s, m_ground_k100_s, m_ground_j97_s, m_ground_j75_s, m_ground_j21_s, m_ground_s, m_isCell, a1, a2, a3, a4, a5, ref_s, ref_v, n0t, n1f, n2f, if_true, if_false]
            rw [ex, es, if_neg ne20]
            exact ⟨Rel_0 _ h, si_eq⟩
          · rcases wi_rg c0 (nI 0) (nI 1000) with ⟨a6, b6⟩ | ⟨a6, b6, c6⟩
            · have ex : kx_ground σ cell layer p0 e0 g0 c0 = 2 := by simp only [kx_ground, b1, b2, b3, b4, b5, b6, xs_0, xs_2]
              have es : m_ground_s μ cell layer p0 e0 g0 c0 = si μ 0 0 (nI 2) := by simp only [m_ground_k216_s, m_ground_k207_s, m_ground_k198_s, m_ground_k189_s, m_ground_k181_s, m_ground_k161_s, m_ground_k131_s, m_ground_k100_s, m_ground_j97_s, m_ground_j75_s, m_ground_j21_s, m_ground_s, m_isCell, a1, a2, a3, a4, a5, a6, ref_s, ref_v, n0t, n1f, n2f, if_true, if_false]
              rw [ex, es, if_neg ne20]
              exact ⟨Rel_0 _ h, si_eq⟩
            · have ex : kx_ground σ cell layer p0 e0 g0 c0 = 0 := by simp only [kx_ground, b1, b2, b3, b4, b5, b6, xs_0]
              have l1 := vp_lt c1
              have l2 := vp_lt c2
              obtain ⟨i, hi⟩ : ∃ i : Nat, i = 5 * cell.toNatClampNeg + layer.toNatClampNeg := ⟨_, rfl⟩
              have hi5 : i < 125 := by omega
              have e8 := h.1.lay (k := 8) (j := i) (by omega) hi5
              have e9 := h.1.lay (k := 9) (j := i) (by omega) hi5
              have e10 := h.1.lay (k := 10) (j := i) (by omega) hi5
              have e11 := h.1.lay (k := 11) (j := i) (by omega) hi5
              have es : m_ground_s μ cell layer p0 e0 g0 c0 = si (si (si (si (sl (sl (sl (si μ 0 0 (nI 0)) 26 (μ.2 26 + (g0 - μ.1 10 i).toInt64)) 27 (μ.2 27 + (p0 + e0 - μ.1 8 i - μ.1 9 i).toInt64)) 28 (μ.2 28 + (c0 - μ.1 11 i).toInt64)) 8 i p0) 9 i e0) 10 i g0) 11 i c0 := by
                rw [hi]
                simp only [m_ground_k216_s, m_ground_k207_s, m_ground_k198_s, m_ground_k189_s, m_ground_k181_s, m_ground_k161_s, m_ground_k131_s, m_ground_k100_s, m_ground_j97_s, m_ground_j75_s, m_ground_j21_s, m_ground_s, m_isCell, a1, a2, a3, a4, a5, a6, ref_s, ref_v, n0t, n1f, n2f, if_true, if_false, idx5n c1 c2, si_at, sl_at, sl_1, si_2, Nat.reduceEqDiff, false_and, and_self, true_and, and_true, if_false, if_true]
              have ks : k_ground_s σ cell layer p0 e0 g0 c0 = sl (sl (sl (si (si (si (si (sl (sl (sl σ 26 (σ.2 26 - (σ.1 10 i).toInt64)) 27 (σ.2 27 - (σ.1 8 i + σ.1 9 i).toInt64)) 28 (σ.2 28 - (σ.1 11 i).toInt64)) 8 i p0) 9 i e0) 10 i g0) 11 i c0) 26 (σ.2 26 - (σ.1 10 i).toInt64 + g0.toInt64)) 27 (σ.2 27 - (σ.1 8 i + σ.1 9 i).toInt64 + (p0 + e0).toInt64)) 28 (σ.2 28 - (σ.1 11 i).toInt64 + c0.toInt64) := by
                rw [hi]
                simp only [k_ground_k154_9_s, k_ground_k154_8_s, k_ground_k154_s, k_ground_k123_s, k_ground_k116_s, k_ground_k109_s, k_ground_k102_s, k_ground_k90_2_s, k_ground_k90_1_s, k_ground_k90_s, k_ground_s, l_amount_j25, l_amount, l_units, Nat.reduceAdd, si_at, sl_at, sl_1, si_2, Nat.reduceEqDiff, false_and, and_self, true_and, and_true, if_false, if_true, nl_00, nq_01, nl_01, nq_02, nl_02, nq_03, nl_03, nq_04, nl_04, nq_05, nl_05, nq_06, nl_06, nq_07, nl_07, nq_10, nl_10, nl_11, nq_12, nl_12, nq_13, nl_13, nq_14, nl_14, nq_15, nl_15, nq_16, nl_16, nq_17, nl_17, nq_20, nl_20, nq_21, nl_21, nl_22, nq_23, nl_23, nq_24, nl_24, nq_25, nl_25, nq_26, nl_26, nq_27, nl_27, nq_30, nl_30, nq_31, nl_31, nq_32, nl_32, nl_33, nq_34, nl_34, nq_35, nl_35, nq_36, nl_36, nq_37, nl_37, nq_40, nl_40, nq_41, nl_41, nq_42, nl_42, nq_43, nl_43, nl_44, nq_45, nl_45, nq_46, nl_46, nq_47, nl_47, nq_50, nl_50, nq_51, nl_51, nq_52, nl_52, nq_53, nl_53, nq_54, nl_54, nl_55, nq_56, nl_56, nq_57, nl_57, nq_60, nl_60, nq_61, nl_61, nq_62, nl_62, nq_63, nl_63, nq_64, nl_64, nq_65, nl_65, nl_66, nq_67, nl_67, nq_70, nl_70, nq_71, nl_71, nq_72, nl_72, nq_73, nl_73, nq_74, nl_74, nq_75, nl_75, nq_76, nl_76, nl_77, n4f, n5f, n6f, n7f, n0t, n1f, n2f, n3f, if_true, if_false]
              rw [ex, es, ks, if_pos rfl]
              have h0 := Rel_0 (nI 0) h
              have hB := h.2.2.1 i hi5
              have kN : ((-5000 : Int32)).toInt = -5000 := by decide
              have kP : (nI 30000).toInt = 30000 := nI_toInt (by decide)
              have k9 : (nI 9).toInt = 9 := nI_toInt (by decide)
              have k0 : (nI 0).toInt = 0 := nI_toInt (by decide)
              have kM : (nI 1000).toInt = 1000 := nI_toInt (by decide)
              have d3 := c3.2
              have d4 := c4.2
              have d5 := c5.2
              have d6 := c6.2
              have f3 := c3.1
              have f4 := c4.1
              have f5 := c5.1
              have f6 := c6.1
              rw [k9] at d3 d4
              rw [k0] at f3 f4 f6
              rw [kP] at d5
              rw [kN] at f5
              rw [kM] at d6
              have hm : mon σ ≤ 600 := by
                have q := vp_lt (Rel_c h).2.2.2.1
                show (σ.1 1 0).toNatClampNeg ≤ 600
                omega
              refine ⟨Rel_land h0 (FF.sl (FF.sl (FF.sl ((((FF.sl (FF.sl (FF.sl FF.rf))).si (by omega)).si (by omega)).si (by omega) |>.si (by omega))))) (((((FF.sl (FF.sl (FF.sl FF.rf))).si (by omega)).si (by omega)).si (by omega)).si (by omega)) (fun h1 => ?_) (fun c hc => ?_) (fun j hj => ?_) (BW_of (fun c hc => ?_) h0.2.2.2.1), ?_⟩
              · refine ⟨((((h1.wr 8 i (v := p0) rfl).wr 9 i (v := e0) rfl).wr 10 i (v := g0) rfl).wr 11 i (v := c0) rfl).1, fun k q1 q2 => ?_⟩
                simp only [si_at, sl_at, sl_1, si_2, Nat.reduceEqDiff, false_and, and_self, true_and, and_true, if_false, if_true]
                have u1 := i_add (a := p0) (b := e0) (by omega) (by omega)
                have u2 := i_add (a := σ.1 8 i) (b := σ.1 9 i) (by omega) (by omega)
                have r0 : p0 + e0 - μ.1 8 i - μ.1 9 i = p0 + e0 - (σ.1 8 i + σ.1 9 i) := by rw [e8, e9]; grind
                rcases (show k = 26 ∨ k = 27 ∨ k = 28 ∨ k = 29 ∨ k = 30 ∨ k = 31 by omega) with rfl | rfl | rfl | rfl | rfl | rfl
                · simp only [si_at, sl_at, sl_1, si_2, Nat.reduceEqDiff, false_and, and_self, true_and, and_true, if_false, if_true]
                  rw [← h.1.2 26 (by omega) (by omega), ← e10, j_sub (by omega) (by omega)]
                  exact j_ring1 _ _ _
                · simp only [si_at, sl_at, sl_1, si_2, Nat.reduceEqDiff, false_and, and_self, true_and, and_true, if_false, if_true]
                  rw [← h.1.2 27 (by omega) (by omega), r0, j_sub (by omega) (by omega)]
                  exact j_ring1 _ _ _
                · simp only [si_at, sl_at, sl_1, si_2, Nat.reduceEqDiff, false_and, and_self, true_and, and_true, if_false, if_true]
                  rw [← h.1.2 28 (by omega) (by omega), ← e11, j_sub (by omega) (by omega)]
                  exact j_ring1 _ _ _
                · simp only [si_at, sl_at, sl_1, si_2, Nat.reduceEqDiff, false_and, and_self, true_and, and_true, if_false, if_true]; exact h.1.2 29 (by omega) (by omega)
                · simp only [si_at, sl_at, sl_1, si_2, Nat.reduceEqDiff, false_and, and_self, true_and, and_true, if_false, if_true]; exact h.1.2 30 (by omega) (by omega)
                · simp only [si_at, sl_at, sl_1, si_2, Nat.reduceEqDiff, false_and, and_self, true_and, and_true, if_false, if_true]; exact h.1.2 31 (by omega) (by omega)
              · simp only [si_at, sl_at, sl_1, si_2, Nat.reduceEqDiff, false_and, and_self, true_and, and_true, if_false, if_true]; exact h.snow c hc
              · have hj0 := h.2.2.1 j hj
                simp only [si_at, sl_at, sl_1, si_2, Nat.reduceEqDiff, false_and, and_self, true_and, and_true, if_false, if_true]
                by_cases q : j = i
                · subst q
                  simp only [if_true]
                  refine ⟨⟨f3, d3⟩, ⟨f4, d4⟩, ⟨by omega, by omega⟩, f6, by omega⟩
                · simp only [q, if_false]
                  exact hj0
              · simp only [si_at, sl_at, sl_1, si_2, Nat.reduceEqDiff, false_and, and_self, true_and, and_true, if_false, if_true]
              · simp only [si_at, sl_at, sl_1, si_2, Nat.reduceEqDiff, false_and, and_self, true_and, and_true, if_false, if_true]; rfl
