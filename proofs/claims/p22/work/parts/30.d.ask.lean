/-! small numbers -/
theorem nl_00 : (nI 0 ≤ nI 0) = True := eq_true (by decide)
theorem nq_01 : (nI 0 = nI 1) = False := eq_false (by decide)
theorem nl_01 : (nI 0 ≤ nI 1) = True := eq_true (by decide)
theorem nq_02 : (nI 0 = nI 2) = False := eq_false (by decide)
theorem nl_02 : (nI 0 ≤ nI 2) = True := eq_true (by decide)
theorem nq_03 : (nI 0 = nI 3) = False := eq_false (by decide)
theorem nl_03 : (nI 0 ≤ nI 3) = True := eq_true (by decide)
theorem nq_04 : (nI 0 = nI 4) = False := eq_false (by decide)
theorem nl_04 : (nI 0 ≤ nI 4) = True := eq_true (by decide)
theorem nq_05 : (nI 0 = nI 5) = False := eq_false (by decide)
theorem nl_05 : (nI 0 ≤ nI 5) = True := eq_true (by decide)
theorem nq_06 : (nI 0 = nI 6) = False := eq_false (by decide)
theorem nl_06 : (nI 0 ≤ nI 6) = True := eq_true (by decide)
theorem nq_07 : (nI 0 = nI 7) = False := eq_false (by decide)
theorem nl_07 : (nI 0 ≤ nI 7) = True := eq_true (by decide)
theorem nq_10 : (nI 1 = nI 0) = False := eq_false (by decide)
theorem nl_10 : (nI 1 ≤ nI 0) = False := eq_false (by decide)
theorem nl_11 : (nI 1 ≤ nI 1) = True := eq_true (by decide)
theorem nq_12 : (nI 1 = nI 2) = False := eq_false (by decide)
theorem nl_12 : (nI 1 ≤ nI 2) = True := eq_true (by decide)
theorem nq_13 : (nI 1 = nI 3) = False := eq_false (by decide)
theorem nl_13 : (nI 1 ≤ nI 3) = True := eq_true (by decide)
theorem nq_14 : (nI 1 = nI 4) = False := eq_false (by decide)
theorem nl_14 : (nI 1 ≤ nI 4) = True := eq_true (by decide)
theorem nq_15 : (nI 1 = nI 5) = False := eq_false (by decide)
theorem nl_15 : (nI 1 ≤ nI 5) = True := eq_true (by decide)
theorem nq_16 : (nI 1 = nI 6) = False := eq_false (by decide)
theorem nl_16 : (nI 1 ≤ nI 6) = True := eq_true (by decide)
theorem nq_17 : (nI 1 = nI 7) = False := eq_false (by decide)
theorem nl_17 : (nI 1 ≤ nI 7) = True := eq_true (by decide)
theorem nq_20 : (nI 2 = nI 0) = False := eq_false (by decide)
theorem nl_20 : (nI 2 ≤ nI 0) = False := eq_false (by decide)
theorem nq_21 : (nI 2 = nI 1) = False := eq_false (by decide)
theorem nl_21 : (nI 2 ≤ nI 1) = False := eq_false (by decide)
theorem nl_22 : (nI 2 ≤ nI 2) = True := eq_true (by decide)
theorem nq_23 : (nI 2 = nI 3) = False := eq_false (by decide)
theorem nl_23 : (nI 2 ≤ nI 3) = True := eq_true (by decide)
theorem nq_24 : (nI 2 = nI 4) = False := eq_false (by decide)
theorem nl_24 : (nI 2 ≤ nI 4) = True := eq_true (by decide)
theorem nq_25 : (nI 2 = nI 5) = False := eq_false (by decide)
theorem nl_25 : (nI 2 ≤ nI 5) = True := eq_true (by decide)
theorem nq_26 : (nI 2 = nI 6) = False := eq_false (by decide)
theorem nl_26 : (nI 2 ≤ nI 6) = True := eq_true (by decide)
theorem nq_27 : (nI 2 = nI 7) = False := eq_false (by decide)
theorem nl_27 : (nI 2 ≤ nI 7) = True := eq_true (by decide)
theorem nq_30 : (nI 3 = nI 0) = False := eq_false (by decide)
theorem nl_30 : (nI 3 ≤ nI 0) = False := eq_false (by decide)
theorem nq_31 : (nI 3 = nI 1) = False := eq_false (by decide)
theorem nl_31 : (nI 3 ≤ nI 1) = False := eq_false (by decide)
theorem nq_32 : (nI 3 = nI 2) = False := eq_false (by decide)
theorem nl_32 : (nI 3 ≤ nI 2) = False := eq_false (by decide)
theorem nl_33 : (nI 3 ≤ nI 3) = True := eq_true (by decide)
theorem nq_34 : (nI 3 = nI 4) = False := eq_false (by decide)
theorem nl_34 : (nI 3 ≤ nI 4) = True := eq_true (by decide)
theorem nq_35 : (nI 3 = nI 5) = False := eq_false (by decide)
theorem nl_35 : (nI 3 ≤ nI 5) = True := eq_true (by decide)
theorem nq_36 : (nI 3 = nI 6) = False := eq_false (by decide)
theorem nl_36 : (nI 3 ≤ nI 6) = True := eq_true (by decide)
theorem nq_37 : (nI 3 = nI 7) = False := eq_false (by decide)
theorem nl_37 : (nI 3 ≤ nI 7) = True := eq_true (by decide)
theorem nq_40 : (nI 4 = nI 0) = False := eq_false (by decide)
theorem nl_40 : (nI 4 ≤ nI 0) = False := eq_false (by decide)
theorem nq_41 : (nI 4 = nI 1) = False := eq_false (by decide)
theorem nl_41 : (nI 4 ≤ nI 1) = False := eq_false (by decide)
theorem nq_42 : (nI 4 = nI 2) = False := eq_false (by decide)
theorem nl_42 : (nI 4 ≤ nI 2) = False := eq_false (by decide)
theorem nq_43 : (nI 4 = nI 3) = False := eq_false (by decide)
theorem nl_43 : (nI 4 ≤ nI 3) = False := eq_false (by decide)
theorem nl_44 : (nI 4 ≤ nI 4) = True := eq_true (by decide)
theorem nq_45 : (nI 4 = nI 5) = False := eq_false (by decide)
theorem nl_45 : (nI 4 ≤ nI 5) = True := eq_true (by decide)
theorem nq_46 : (nI 4 = nI 6) = False := eq_false (by decide)
theorem nl_46 : (nI 4 ≤ nI 6) = True := eq_true (by decide)
theorem nq_47 : (nI 4 = nI 7) = False := eq_false (by decide)
theorem nl_47 : (nI 4 ≤ nI 7) = True := eq_true (by decide)
theorem nq_50 : (nI 5 = nI 0) = False := eq_false (by decide)
theorem nl_50 : (nI 5 ≤ nI 0) = False := eq_false (by decide)
theorem nq_51 : (nI 5 = nI 1) = False := eq_false (by decide)
theorem nl_51 : (nI 5 ≤ nI 1) = False := eq_false (by decide)
theorem nq_52 : (nI 5 = nI 2) = False := eq_false (by decide)
theorem nl_52 : (nI 5 ≤ nI 2) = False := eq_false (by decide)
theorem nq_53 : (nI 5 = nI 3) = False := eq_false (by decide)
theorem nl_53 : (nI 5 ≤ nI 3) = False := eq_false (by decide)
theorem nq_54 : (nI 5 = nI 4) = False := eq_false (by decide)
theorem nl_54 : (nI 5 ≤ nI 4) = False := eq_false (by decide)
theorem nl_55 : (nI 5 ≤ nI 5) = True := eq_true (by decide)
theorem nq_56 : (nI 5 = nI 6) = False := eq_false (by decide)
theorem nl_56 : (nI 5 ≤ nI 6) = True := eq_true (by decide)
theorem nq_57 : (nI 5 = nI 7) = False := eq_false (by decide)
theorem nl_57 : (nI 5 ≤ nI 7) = True := eq_true (by decide)
theorem nq_60 : (nI 6 = nI 0) = False := eq_false (by decide)
theorem nl_60 : (nI 6 ≤ nI 0) = False := eq_false (by decide)
theorem nq_61 : (nI 6 = nI 1) = False := eq_false (by decide)
theorem nl_61 : (nI 6 ≤ nI 1) = False := eq_false (by decide)
theorem nq_62 : (nI 6 = nI 2) = False := eq_false (by decide)
theorem nl_62 : (nI 6 ≤ nI 2) = False := eq_false (by decide)
theorem nq_63 : (nI 6 = nI 3) = False := eq_false (by decide)
theorem nl_63 : (nI 6 ≤ nI 3) = False := eq_false (by decide)
theorem nq_64 : (nI 6 = nI 4) = False := eq_false (by decide)
theorem nl_64 : (nI 6 ≤ nI 4) = False := eq_false (by decide)
theorem nq_65 : (nI 6 = nI 5) = False := eq_false (by decide)
theorem nl_65 : (nI 6 ≤ nI 5) = False := eq_false (by decide)
theorem nl_66 : (nI 6 ≤ nI 6) = True := eq_true (by decide)
theorem nq_67 : (nI 6 = nI 7) = False := eq_false (by decide)
theorem nl_67 : (nI 6 ≤ nI 7) = True := eq_true (by decide)
theorem nq_70 : (nI 7 = nI 0) = False := eq_false (by decide)
theorem nl_70 : (nI 7 ≤ nI 0) = False := eq_false (by decide)
theorem nq_71 : (nI 7 = nI 1) = False := eq_false (by decide)
theorem nl_71 : (nI 7 ≤ nI 1) = False := eq_false (by decide)
theorem nq_72 : (nI 7 = nI 2) = False := eq_false (by decide)
theorem nl_72 : (nI 7 ≤ nI 2) = False := eq_false (by decide)
theorem nq_73 : (nI 7 = nI 3) = False := eq_false (by decide)
theorem nl_73 : (nI 7 ≤ nI 3) = False := eq_false (by decide)
theorem nq_74 : (nI 7 = nI 4) = False := eq_false (by decide)
theorem nl_74 : (nI 7 ≤ nI 4) = False := eq_false (by decide)
theorem nq_75 : (nI 7 = nI 5) = False := eq_false (by decide)
theorem nl_75 : (nI 7 ≤ nI 5) = False := eq_false (by decide)
theorem nq_76 : (nI 7 = nI 6) = False := eq_false (by decide)
theorem nl_76 : (nI 7 ≤ nI 6) = False := eq_false (by decide)
theorem nl_77 : (nI 7 ≤ nI 7) = True := eq_true (by decide)
theorem n4f : (nI 4 = 0) = False := eq_false (by decide)
theorem n5f : (nI 5 = 0) = False := eq_false (by decide)
theorem n6f : (nI 6 = 0) = False := eq_false (by decide)
theorem n7f : (nI 7 = 0) = False := eq_false (by decide)
/-! calls that only ask -/
theorem melt_eq {σ μ : Sg} {j : Nat} (h8 : σ.1 8 j = μ.1 8 j) (h9 : σ.1 9 j = μ.1 9 j) (h10 : σ.1 10 j = μ.1 10 j) (hj : j < 2 ^ 31) (h0 : 0 ≤ (σ.1 8 j).toInt ∧ (σ.1 8 j).toInt ≤ 9) (h1 : 0 ≤ (σ.1 9 j).toInt ∧ (σ.1 9 j).toInt ≤ 9) : l_melted σ j = m_melted μ (nI j) := by
  unfold l_melted m_melted m_melted_j42 l_units
  rw [nI_clamp hj, ← h8, ← h9, ← h10]
  have hu := i_add (a := σ.1 8 j) (b := σ.1 9 j) (by omega) (by omega)
  have k1 : (nI 1000).toInt = 1000 := nI_toInt (by decide)
  have k0 : (nI 0).toInt = 0 := nI_toInt (by decide)
  by_cases q : nI 1000 ≤ σ.1 10 j
  · rw [if_pos q]
    rw [i_le, k1] at q
    have em : w_max (σ.1 10 j) (nI 0) = σ.1 10 j := Int32.toInt_inj.mp (by rw [w_max_i, k0]; omega)
    rw [em, min_2]
  · rw [if_neg q]
    rw [i_le, k1] at q
    refine Int32.toInt_inj.mp ?_
    rw [w_min_i, i_div (by omega), k1, w_max_i, k0, hu]
    have e0 : (max (σ.1 10 j).toInt 0).tdiv 1000 = 0 := Int.tdiv_eq_zero_of_lt (by omega) (by omega)
    rw [e0]
    omega
theorem AGn.melt {σ μ : Sg} (h : AGn σ μ) {T C : Int} (hB : BL T C σ) {j : Nat} (hj : j < 125) : l_melted σ j = m_melted μ (nI j) := melt_eq (h.lay (by omega) hj) (h.lay (by omega) hj) (h.lay (by omega) hj) (by omega) (hB j hj).1 (hB j hj).2.1
theorem q_layerOf : lp_layerOf Rel := fun σ μ cell layer what h => by
  rcases wi_ix 24 (by decide) cell with ⟨a1, b1⟩ | ⟨a1, b1, c1⟩
  · have ex : kx_layerOf σ cell layer what = 1 := by simp only [kx_layerOf, b1, xs_1]
    have es : m_layerOf_s μ cell layer what = si μ 0 0 (nI 1) := by simp only [m_layerOf_j139, m_layerOf_j139_s, m_layerOf_j102, m_layerOf_j102_s, m_layerOf_k50, m_layerOf_k50_s, m_layerOf_j47, m_layerOf_j47_s, m_layerOf_j21, m_layerOf_j21_s, m_layerOf, m_layerOf_s, m_isCell, a1, ref_s, ref_v, n0t, n1f, n2f, if_true, if_false]
    rw [ex, es, ite_2]
    exact ⟨Rel_0 _ h, si_eq, fun q => absurd q ne10⟩
  · rcases wi_ix 4 (by decide) layer with ⟨a2, b2⟩ | ⟨a2, b2, c2⟩
    · have ex : kx_layerOf σ cell layer what = 1 := by simp only [kx_layerOf, b1, b2, xs_0, xs_1]
      have es : m_layerOf_s μ cell layer what = si μ 0 0 (nI 1) := by simp only [m_layerOf_j139, m_layerOf_j139_s, m_layerOf_j102, m_layerOf_j102_s, m_layerOf_k50, m_layerOf_k50_s, m_layerOf_j47, m_layerOf_j47_s, m_layerOf_j21, m_layerOf_j21_s, m_layerOf, m_layerOf_s, m_isCell, a1, a2, ref_s, ref_v, n0t, n1f, n2f, if_true, if_false]
      rw [ex, es, ite_2]
      exact ⟨Rel_0 _ h, si_eq, fun q => absurd q ne10⟩
    · rcases wi_rg what (nI 0) (nI 5) with ⟨a3, b3⟩ | ⟨a3, b3, c3⟩
      · have ex : kx_layerOf σ cell layer what = 2 := by simp only [kx_layerOf, b1, b2, b3, xs_0, xs_2]
        have es : m_layerOf_s μ cell layer what = si μ 0 0 (nI 2) := by simp only [m_layerOf_j139, m_layerOf_j139_s, m_layerOf_j102, m_layerOf_j102_s, m_layerOf_k50, m_layerOf_k50_s, m_layerOf_j47, m_layerOf_j47_s, m_layerOf_j21, m_layerOf_j21_s, m_layerOf, m_layerOf_s, m_isCell, a1, a2, a3, ref_s, ref_v, n0t, n1f, n2f, if_true, if_false]
        rw [ex, es, ite_2]
        exact ⟨Rel_0 _ h, si_eq, fun q => absurd q ne20⟩
      · have ex : kx_layerOf σ cell layer what = 0 := by simp only [kx_layerOf, b1, b2, b3, xs_0]
        have hw : vp_in what 6 := vp_in_iff.mpr ⟨by have q := c3.1; rw [nI_toInt (by decide)] at q; omega, by have q := c3.2; rw [nI_toInt (by decide)] at q; omega⟩
        have hs := vp_self hw
        have hl := vp_lt hw
        have l1 := vp_lt c1
        have l2 := vp_lt c2
        have hA := h.1
        have e8 := hA.lay (k := 8) (j := 5 * cell.toNatClampNeg + layer.toNatClampNeg) (by omega) (by omega)
        have e9 := hA.lay (k := 9) (j := 5 * cell.toNatClampNeg + layer.toNatClampNeg) (by omega) (by omega)
        have e10 := hA.lay (k := 10) (j := 5 * cell.toNatClampNeg + layer.toNatClampNeg) (by omega) (by omega)
        have e11 := hA.lay (k := 11) (j := 5 * cell.toNatClampNeg + layer.toNatClampNeg) (by omega) (by omega)
        have et := AG.temp hA (j := 5 * cell.toNatClampNeg + layer.toNatClampNeg) (by omega)
        have em := AGn.melt hA h.2.2.1 (j := 5 * cell.toNatClampNeg + layer.toNatClampNeg) (by omega)
        have ei := idx5 c1 c2
        have ein := idx5n c1 c2
        have es : m_layerOf_s μ cell layer what = si μ 0 0 (nI 0) := by
          simp only [m_layerOf_j139, m_layerOf_j139_s, m_layerOf_j102, m_layerOf_j102_s, m_layerOf_k50, m_layerOf_k50_s, m_layerOf_j47, m_layerOf_j47_s, m_layerOf_j21, m_layerOf_j21_s, m_layerOf, m_layerOf_s, m_isCell, a1, a2, a3, ref_s, ref_v, n0t, n1f, n2f, if_true, if_false]
          split <;> rfl
        rw [ex, es, ite_2]
        refine ⟨Rel_0 _ h, si_eq, fun _ => ?_⟩
        have e0 : ∀ k, k ≠ 0 → (si μ 0 0 (nI 0)).1 k = μ.1 k := fun k hk => si_ne hk
        have t0 : ∀ k, m_degreesOf (si μ 0 0 (nI 0)) k = m_degreesOf μ k := fun k => by unfold m_degreesOf m_degreesOf_j62; rw [e0 8 (by decide), e0 9 (by decide), e0 10 (by decide)]
        have u0 : ∀ k, m_melted (si μ 0 0 (nI 0)) k = m_melted μ k := fun k => by unfold m_melted m_melted_j42; rw [e0 8 (by decide), e0 9 (by decide), e0 10 (by decide)]
        generalize what.toNatClampNeg = t at hs hl
        subst hs
        rcases (show t = 0 ∨ t = 1 ∨ t = 2 ∨ t = 3 ∨ t = 4 ∨ t = 5 by omega) with rfl | rfl | rfl | rfl | rfl | rfl
        · simp only [k_layerOf, m_layerOf_j139, m_layerOf_j139_s, m_layerOf_j102, m_layerOf_j102_s, m_layerOf_k50, m_layerOf_k50_s, m_layerOf_j47, m_layerOf_j47_s, m_layerOf_j21, m_layerOf_j21_s, m_layerOf, m_layerOf_s, m_isCell, a1, a2, a3, ref_s, ref_v, nl_00, nq_01, nl_01, nq_02, nl_02, nq_03, nl_03, nq_04, nl_04, nq_05, nl_05, nq_06, nl_06, nq_07, nl_07, nq_10, nl_10, nl_11, nq_12, nl_12, nq_13, nl_13, nq_14, nl_14, nq_15, nl_15, nq_16, nl_16, nq_17, nl_17, nq_20, nl_20, nq_21, nl_21, nl_22, nq_23, nl_23, nq_24, nl_24, nq_25, nl_25, nq_26, nl_26, nq_27, nl_27, nq_30, nl_30, nq_31, nl_31, nq_32, nl_32, nl_33, nq_34, nl_34, nq_35, nl_35, nq_36, nl_36, nq_37, nl_37, nq_40, nl_40, nq_41, nl_41, nq_42, nl_42, nq_43, nl_43, nl_44, nq_45, nl_45, nq_46, nl_46, nq_47, nl_47, nq_50, nl_50, nq_51, nl_51, nq_52, nl_52, nq_53, nl_53, nq_54, nl_54, nl_55, nq_56, nl_56, nq_57, nl_57, nq_60, nl_60, nq_61, nl_61, nq_62, nl_62, nq_63, nl_63, nq_64, nl_64, nq_65, nl_65, nl_66, nq_67, nl_67, nq_70, nl_70, nq_71, nl_71, nq_72, nl_72, nq_73, nl_73, nq_74, nl_74, nq_75, nl_75, nq_76, nl_76, nl_77, n4f, n5f, n6f, n7f, n0t, n1f, n2f, n3f, if_true, if_false]
          rw [t0, ei]; exact et
        · simp only [k_layerOf, m_layerOf_j139, m_layerOf_j139_s, m_layerOf_j102, m_layerOf_j102_s, m_layerOf_k50, m_layerOf_k50_s, m_layerOf_j47, m_layerOf_j47_s, m_layerOf_j21, m_layerOf_j21_s, m_layerOf, m_layerOf_s, m_isCell, a1, a2, a3, ref_s, ref_v, nl_00, nq_01, nl_01, nq_02, nl_02, nq_03, nl_03, nq_04, nl_04, nq_05, nl_05, nq_06, nl_06, nq_07, nl_07, nq_10, nl_10, nl_11, nq_12, nl_12, nq_13, nl_13, nq_14, nl_14, nq_15, nl_15, nq_16, nl_16, nq_17, nl_17, nq_20, nl_20, nq_21, nl_21, nl_22, nq_23, nl_23, nq_24, nl_24, nq_25, nl_25, nq_26, nl_26, nq_27, nl_27, nq_30, nl_30, nq_31, nl_31, nq_32, nl_32, nl_33, nq_34, nl_34, nq_35, nl_35, nq_36, nl_36, nq_37, nl_37, nq_40, nl_40, nq_41, nl_41, nq_42, nl_42, nq_43, nl_43, nl_44, nq_45, nl_45, nq_46, nl_46, nq_47, nl_47, nq_50, nl_50, nq_51, nl_51, nq_52, nl_52, nq_53, nl_53, nq_54, nl_54, nl_55, nq_56, nl_56, nq_57, nl_57, nq_60, nl_60, nq_61, nl_61, nq_62, nl_62, nq_63, nl_63, nq_64, nl_64, nq_65, nl_65, nl_66, nq_67, nl_67, nq_70, nl_70, nq_71, nl_71, nq_72, nl_72, nq_73, nl_73, nq_74, nl_74, nq_75, nl_75, nq_76, nl_76, nl_77, n4f, n5f, n6f, n7f, n0t, n1f, n2f, n3f, if_true, if_false]
          rw [e0 10 (by decide), ein]; exact e10
        · simp only [k_layerOf, m_layerOf_j139, m_layerOf_j139_s, m_layerOf_j102, m_layerOf_j102_s, m_layerOf_k50, m_layerOf_k50_s, m_layerOf_j47, m_layerOf_j47_s, m_layerOf_j21, m_layerOf_j21_s, m_layerOf, m_layerOf_s, m_isCell, a1, a2, a3, ref_s, ref_v, nl_00, nq_01, nl_01, nq_02, nl_02, nq_03, nl_03, nq_04, nl_04, nq_05, nl_05, nq_06, nl_06, nq_07, nl_07, nq_10, nl_10, nl_11, nq_12, nl_12, nq_13, nl_13, nq_14, nl_14, nq_15, nl_15, nq_16, nl_16, nq_17, nl_17, nq_20, nl_20, nq_21, nl_21, nl_22, nq_23, nl_23, nq_24, nl_24, nq_25, nl_25, nq_26, nl_26, nq_27, nl_27, nq_30, nl_30, nq_31, nl_31, nq_32, nl_32, nl_33, nq_34, nl_34, nq_35, nl_35, nq_36, nl_36, nq_37, nl_37, nq_40, nl_40, nq_41, nl_41, nq_42, nl_42, nq_43, nl_43, nl_44, nq_45, nl_45, nq_46, nl_46, nq_47, nl_47, nq_50, nl_50, nq_51, nl_51, nq_52, nl_52, nq_53, nl_53, nq_54, nl_54, nl_55, nq_56, nl_56, nq_57, nl_57, nq_60, nl_60, nq_61, nl_61, nq_62, nl_62, nq_63, nl_63, nq_64, nl_64, nq_65, nl_65, nl_66, nq_67, nl_67, nq_70, nl_70, nq_71, nl_71, nq_72, nl_72, nq_73, nl_73, nq_74, nl_74, nq_75, nl_75, nq_76, nl_76, nl_77, n4f, n5f, n6f, n7f, n0t, n1f, n2f, n3f, if_true, if_false]
          rw [e0 8 (by decide), ein]; exact e8
        · simp only [k_layerOf, m_layerOf_j139, m_layerOf_j139_s, m_layerOf_j102, m_layerOf_j102_s, m_layerOf_k50, m_layerOf_k50_s, m_layerOf_j47, m_layerOf_j47_s, m_layerOf_j21, m_layerOf_j21_s, m_layerOf, m_layerOf_s, m_isCell, a1, a2, a3, ref_s, ref_v, nl_00, nq_01, nl_01, nq_02, nl_02, nq_03, nl_03, nq_04, nl_04, nq_05, nl_05, nq_06, nl_06, nq_07, nl_07, nq_10, nl_10, nl_11, nq_12, nl_12, nq_13, nl_13, nq_14, nl_14, nq_15, nl_15, nq_16, nl_16, nq_17, nl_17, nq_20, nl_20, nq_21, nl_21, nl_22, nq_23, nl_23, nq_24, nl_24, nq_25, nl_25, nq_26, nl_26, nq_27, nl_27, nq_30, nl_30, nq_31, nl_31, nq_32, nl_32, nl_33, nq_34, nl_34, nq_35, nl_35, nq_36, nl_36, nq_37, nl_37, nq_40, nl_40, nq_41, nl_41, nq_42, nl_42, nq_43, nl_43, nl_44, nq_45, nl_45, nq_46, nl_46, nq_47, nl_47, nq_50, nl_50, nq_51, nl_51, nq_52, nl_52, nq_53, nl_53, nq_54, nl_54, nl_55, nq_56, nl_56, nq_57, nl_57, nq_60, nl_60, nq_61, nl_61, nq_62, nl_62, nq_63, nl_63, nq_64, nl_64, nq_65, nl_65, nl_66, nq_67, nl_67, nq_70, nl_70, nq_71, nl_71, nq_72, nl_72, nq_73, nl_73, nq_74, nl_74, nq_75, nl_75, nq_76, nl_76, nl_77, n4f, n5f, n6f, n7f, n0t, n1f, n2f, n3f, if_true, if_false]
          rw [e0 9 (by decide), ein]; exact e9
        · simp only [k_layerOf, m_layerOf_j139, m_layerOf_j139_s, m_layerOf_j102, m_layerOf_j102_s, m_layerOf_k50, m_layerOf_k50_s, m_layerOf_j47, m_layerOf_j47_s, m_layerOf_j21, m_layerOf_j21_s, m_layerOf, m_layerOf_s, m_isCell, a1, a2, a3, ref_s, ref_v, nl_00, nq_01, nl_01, nq_02, nl_02, nq_03, nl_03, nq_04, nl_04, nq_05, nl_05, nq_06, nl_06, nq_07, nl_07, nq_10, nl_10, nl_11, nq_12, nl_12, nq_13, nl_13, nq_14, nl_14, nq_15, nl_15, nq_16, nl_16, nq_17, nl_17, nq_20, nl_20, nq_21, nl_21, nl_22, nq_23, nl_23, nq_24, nl_24, nq_25, nl_25, nq_26, nl_26, nq_27, nl_27, nq_30, nl_30, nq_31, nl_31, nq_32, nl_32, nl_33, nq_34, nl_34, nq_35, nl_35, nq_36, nl_36, nq_37, nl_37, nq_40, nl_40, nq_41, nl_41, nq_42, nl_42, nq_43, nl_43, nl_44, nq_45, nl_45, nq_46, nl_46, nq_47, nl_47, nq_50, nl_50, nq_51, nl_51, nq_52, nl_52, nq_53, nl_53, nq_54, nl_54, nl_55, nq_56, nl_56, nq_57, nl_57, nq_60, nl_60, nq_61, nl_61, nq_62, nl_62, nq_63, nl_63, nq_64, nl_64, nq_65, nl_65, nl_66, nq_67, nl_67, nq_70, nl_70, nq_71, nl_71, nq_72, nl_72, nq_73, nl_73, nq_74, nl_74, nq_75, nl_75, nq_76, nl_76, nl_77, n4f, n5f, n6f, n7f, n0t, n1f, n2f, n3f, if_true, if_false]
          rw [e0 11 (by decide), ein]; exact e11
        · simp only [k_layerOf, m_layerOf_j139, m_layerOf_j139_s, m_layerOf_j102, m_layerOf_j102_s, m_layerOf_k50, m_layerOf_k50_s, m_layerOf_j47, m_layerOf_j47_s, m_layerOf_j21, m_layerOf_j21_s, m_layerOf, m_layerOf_s, m_isCell, a1, a2, a3, ref_s, ref_v, nl_00, nq_01, nl_01, nq_02, nl_02, nq_03, nl_03, nq_04, nl_04, nq_05, nl_05, nq_06, nl_06, nq_07, nl_07, nq_10, nl_10, nl_11, nq_12, nl_12, nq_13, nl_13, nq_14, nl_14, nq_15, nl_15, nq_16, nl_16, nq_17, nl_17, nq_20, nl_20, nq_21, nl_21, nl_22, nq_23, nl_23, nq_24, nl_24, nq_25, nl_25, nq_26, nl_26, nq_27, nl_27, nq_30, nl_30, nq_31, nl_31, nq_32, nl_32, nl_33, nq_34, nl_34, nq_35, nl_35, nq_36, nl_36, nq_37, nl_37, nq_40, nl_40, nq_41, nl_41, nq_42, nl_42, nq_43, nl_43, nl_44, nq_45, nl_45, nq_46, nl_46, nq_47, nl_47, nq_50, nl_50, nq_51, nl_51, nq_52, nl_52, nq_53, nl_53, nq_54, nl_54, nl_55, nq_56, nl_56, nq_57, nl_57, nq_60, nl_60, nq_61, nl_61, nq_62, nl_62, nq_63, nl_63, nq_64, nl_64, nq_65, nl_65, nl_66, nq_67, nl_67, nq_70, nl_70, nq_71, nl_71, nq_72, nl_72, nq_73, nl_73, nq_74, nl_74, nq_75, nl_75, nq_76, nl_76, nl_77, n4f, n5f, n6f, n7f, n0t, n1f, n2f, n3f, if_true, if_false]
          rw [u0, ei]; exact em
