/-! reading, houseOf, claimAnew -/
theorem has_w {σ : Sg} {b : Nat} (hb : RB σ b) (hm : vp_in (σ.1 1 0) 601) (mo : Int32) : (m_within mo (σ.1 22 b) (σ.1 1 0 - nI 1) = nI 0 ∧ h_hasRead σ b mo = nI 0) ∨ (m_within mo (σ.1 22 b) (σ.1 1 0 - nI 1) = nI 1 ∧ h_hasRead σ b mo = nI 1 ∧ ∃ m, mo = nI m ∧ (σ.1 22 b).toNatClampNeg ≤ m ∧ m < mon σ) := by
  obtain ⟨h1, h2, h3⟩ := hb
  have l1 := vp_lt hm
  have e1 : (σ.1 1 0).toNatClampNeg = mon σ := rfl
  have s1 := vp_self h1
  have s2 := vp_self hm
  rw [e1] at s2
  unfold h_hasRead h_hasRead_j26 m_within m_within_j15
  rw [h3]
  generalize hs : (σ.1 22 b).toNatClampNeg = s at s1 h2 ⊢
  rw [s1, s2, nI_add]
  have t1 := pk_sub_toInt (a := mon σ) (b := 1) (by omega) (by decide)
  have t2 := nI_toInt (n := s + (mon σ - s)) (by omega)
  have t3 := nI_toInt (n := s) (by omega)
  by_cases q : mo < nI s
  · rw [if_pos q, if_pos q]
    exact Or.inl ⟨rfl, rfl⟩
  · rw [if_neg q, if_neg q]
    by_cases q2 : nI (mon σ) - nI 1 < mo
    · rw [if_pos q2, if_pos (by rw [i_lt, t1] at q2; rw [i_le, t2]; omega)]
      exact Or.inl ⟨rfl, rfl⟩
    · rw [if_neg q2, if_neg (by rw [i_lt, t1] at q2; rw [i_le, t2]; omega)]
      rw [i_lt, t3] at q
      rw [i_lt, t1] at q2
      have hv : vp_in mo 601 := vp_in_iff.mpr ⟨by omega, by omega⟩
      have hi := vp_toInt hv
      exact Or.inr ⟨rfl, rfl, _, vp_self hv, by omega, by omega⟩
theorem q_reading : lp_reading Rel := fun σ μ hole mo layer h => by
  have e19 := h.1.cnt (k := 19) (by omega)
  have hO := Rel_c h
  have l19 := vp_lt hO.2.1
  have en : (σ.1 19 0).toNatClampNeg = cpN σ 1 := rfl
  rcases wi_cnt h.2.1.2.1 (by decide) hole with ⟨a1, b1⟩ | ⟨a1, b1, c1⟩
  · rw [← e19] at b1
    have ex : kx_reading σ hole mo layer = 1 := by simp only [kx_reading, b1, xs_1]
    have es : m_reading_s μ hole mo layer = si μ 0 0 (nI 1) := by simp only [m_reading_j86, m_reading_j86_s, m_reading_k63, m_reading_k63_s, m_reading_j60, m_reading_j60_s, m_reading_j47, m_reading_j47_s, m_reading, m_reading_s, a1, ref_s, ref_v, n0t, n1f, n2f, n3f, if_true, if_false]
    rw [ex, es, ite_2]
    exact ⟨Rel_0 _ h, si_eq, fun q => absurd q ne10⟩
  · rw [← e19] at b1 c1
    rcases wi_ix 4 (by decide) layer with ⟨a2, b2⟩ | ⟨a2, b2, c2⟩
    · have ex : kx_reading σ hole mo layer = 1 := by simp only [kx_reading, b1, b2, xs_0, xs_1]
      have es : m_reading_s μ hole mo layer = si μ 0 0 (nI 1) := by simp only [m_reading_j86, m_reading_j86_s, m_reading_k63, m_reading_k63_s, m_reading_j60, m_reading_j60_s, m_reading_j47, m_reading_j47_s, m_reading, m_reading_s, a1, a2, ref_s, ref_v, n0t, n1f, n2f, n3f, if_true, if_false]
      rw [ex, es, ite_2]
      exact ⟨Rel_0 _ h, si_eq, fun q => absurd q ne10⟩
    · have hb : hole.toNatClampNeg < cpN σ 1 := vp_lt c1
      have e22 := h.1.hol (k := 22) (by omega) hb
      have e1 := h.1.cnt (k := 1) (by omega)
      rcases has_w (h.rb hb) h.mo mo with ⟨a3, b3⟩ | ⟨a3, b3, m, hm, hs, hm2⟩
      · rw [e22, e1] at a3
        have ex : kx_reading σ hole mo layer = 1 := by simp only [kx_reading, b1, b2, b3, xs_0, xs_1, n0t, if_true]
        have es : m_reading_s μ hole mo layer = si μ 0 0 (nI 1) := by simp only [m_reading_j86, m_reading_j86_s, m_reading_k63, m_reading_k63_s, m_reading_j60, m_reading_j60_s, m_reading_j47, m_reading_j47_s, m_reading, m_reading_s, a1, a2, a3, ref_s, ref_v, n0t, n1f, n2f, n3f, if_true, if_false]
        rw [ex, es, ite_2]
        exact ⟨Rel_0 _ h, si_eq, fun q => absurd q ne10⟩
      · rw [e22, e1] at a3
        have lm := vp_lt h.mo
        have em : (σ.1 1 0).toNatClampNeg = mon σ := rfl
        have ex : kx_reading σ hole mo layer = 0 := by simp only [kx_reading, b1, b2, b3, xs_0, n1f, if_false]
        have es : m_reading_s μ hole mo layer = si μ 0 0 (nI 0) := by simp only [m_reading_j86, m_reading_j86_s, m_reading_k63, m_reading_k63_s, m_reading_j60, m_reading_j60_s, m_reading_j47, m_reading_j47_s, m_reading, m_reading_s, a1, a2, a3, ref_s, ref_v, n0t, n1f, n2f, n3f, if_true, if_false]
        have ev : m_reading μ hole mo layer = μ.1 23 (nI 3000 * hole + nI 5 * mo + layer).toNatClampNeg := by
          simp only [m_reading_j86, m_reading_j86_s, m_reading_k63, m_reading_k63_s, m_reading_j60, m_reading_j60_s, m_reading_j47, m_reading_j47_s, m_reading, m_reading_s, a1, a2, a3, ref_s, ref_v, n0t, n1f, n2f, n3f, if_true, if_false]
          rw [si_ne (by decide)]
        have ei : (nI 3000 * hole + nI 5 * mo + layer).toNatClampNeg = 3000 * hole.toNatClampNeg + 5 * m + layer.toNatClampNeg := by
          have s1 := vp_self c1
          generalize hole.toNatClampNeg = u at s1 hb ⊢
          subst s1
          subst hm
          rw [pk_mul, pk_mul, nI_add]
          exact idxr (by omega) (by omega) c2
        rw [ex, es, ev, ei, ite_2]
        refine ⟨Rel_0 _ h, si_eq, fun _ => ?_⟩
        unfold k_reading
        rw [b3, if_neg n1_ne, hm, at_eq (h.rb hb) h.mo hs hm2 c2]
        exact (h.2.2.2.2.1 _ hb).2 m _ hs hm2 (vp_lt c2)
theorem q_houseOf : lp_houseOf Rel := fun σ μ house what h => by
  have e13 := h.1.cnt (k := 13) (by omega)
  rcases wi_cnt h.2.1.1 (by decide) house with ⟨a1, b1⟩ | ⟨a1, b1, c1⟩
  · rw [← e13] at b1
    have ex : kx_houseOf σ house what = 1 := by simp only [kx_houseOf, b1, xs_1]
    have es : m_houseOf_s μ house what = si μ 0 0 (nI 1) := by simp only [m_houseOf_j93, m_houseOf_j93_s, m_houseOf_j59, m_houseOf_j59_s, m_houseOf_k30, m_houseOf_k30_s, m_houseOf_j27, m_houseOf_j27_s, m_houseOf, m_houseOf_s, m_isHouse, a1, ref_s, ref_v, n0t, n1f, n2f, n3f, if_true, if_false]
    rw [ex, es, ite_2]
    exact ⟨Rel_0 _ h, si_eq, fun q => absurd q ne10⟩
  · rw [← e13] at b1 c1
    rcases wi_rg what (nI 0) (nI 4) with ⟨a2, b2⟩ | ⟨a2, b2, c2⟩
    · have ex : kx_houseOf σ house what = 2 := by simp only [kx_houseOf, b1, b2, xs_0, xs_2]
      have es : m_houseOf_s μ house what = si μ 0 0 (nI 2) := by simp only [m_houseOf_j93, m_houseOf_j93_s, m_houseOf_j59, m_houseOf_j59_s, m_houseOf_k30, m_houseOf_k30_s, m_houseOf_j27, m_houseOf_j27_s, m_houseOf, m_houseOf_s, m_isHouse, a1, a2, ref_s, ref_v, n0t, n1f, n2f, n3f, if_true, if_false]
      rw [ex, es, ite_2]
      exact ⟨Rel_0 _ h, si_eq, fun q => absurd q ne20⟩
    · have hh : house.toNatClampNeg < cpN σ 0 := vp_lt c1
      have ex : kx_houseOf σ house what = 0 := by simp only [kx_houseOf, b1, b2, xs_0]
      have es : m_houseOf_s μ house what = si μ 0 0 (nI 0) := by
        simp only [m_houseOf_j93, m_houseOf_j93_s, m_houseOf_j59, m_houseOf_j59_s, m_houseOf_k30, m_houseOf_k30_s, m_houseOf_j27, m_houseOf_j27_s, m_houseOf, m_houseOf_s, m_isHouse, a1, a2, ref_s, ref_v, n0t, n1f, n2f, n3f, if_true, if_false]
        split <;> rfl
      rw [ex, es, ite_2]
      refine ⟨Rel_0 _ h, si_eq, fun _ => ?_⟩
      have hw : vp_in what 5 := vp_in_iff.mpr ⟨by have q := c2.1; rw [nI_toInt (by decide)] at q; omega, by have q := c2.2; rw [nI_toInt (by decide)] at q; omega⟩
      have hs := vp_self hw
      have hl := vp_lt hw
      have hs1 := vp_self c1
      have e14 := h.1.hou (k := 14) (by omega) hh
      have e15 := h.1.hou (k := 15) (by omega) hh
      have e17 := h.1.hou (k := 17) (by omega) hh
      have e18 := h.1.hou (k := 18) (by omega) hh
      have hw0 := worth_eq (Rel_0 (nI 0) h) hh
      rw [← hs1] at hw0
      have e0 : ∀ k, k ≠ 0 → (si μ 0 0 (nI 0)).1 k = μ.1 k := fun k hk => si_ne hk
      generalize what.toNatClampNeg = t at hs hl
      subst hs
      rcases (show t = 0 ∨ t = 1 ∨ t = 2 ∨ t = 3 ∨ t = 4 by omega) with rfl | rfl | rfl | rfl | rfl
      · simp only [k_houseOf, m_houseOf_j93, m_houseOf_j93_s, m_houseOf_j59, m_houseOf_j59_s, m_houseOf_k30, m_houseOf_k30_s, m_houseOf_j27, m_houseOf_j27_s, m_houseOf, m_houseOf_s, m_isHouse, a1, a2, ref_s, ref_v, nl_00, nq_01, nl_01, nq_02, nl_02, nq_03, nl_03, nq_04, nl_04, nq_05, nl_05, nq_06, nl_06, nq_07, nl_07, nq_10, nl_10, nl_11, nq_12, nl_12, nq_13, nl_13, nq_14, nl_14, nq_15, nl_15, nq_16, nl_16, nq_17, nl_17, nq_20, nl_20, nq_21, nl_21, nl_22, nq_23, nl_23, nq_24, nl_24, nq_25, nl_25, nq_26, nl_26, nq_27, nl_27, nq_30, nl_30, nq_31, nl_31, nq_32, nl_32, nl_33, nq_34, nl_34, nq_35, nl_35, nq_36, nl_36, nq_37, nl_37, nq_40, nl_40, nq_41, nl_41, nq_42, nl_42, nq_43, nl_43, nl_44, nq_45, nl_45, nq_46, nl_46, nq_47, nl_47, nq_50, nl_50, nq_51, nl_51, nq_52, nl_52, nq_53, nl_53, nq_54, nl_54, nl_55, nq_56, nl_56, nq_57, nl_57, nq_60, nl_60, nq_61, nl_61, nq_62, nl_62, nq_63, nl_63, nq_64, nl_64, nq_65, nl_65, nl_66, nq_67, nl_67, nq_70, nl_70, nq_71, nl_71, nq_72, nl_72, nq_73, nl_73, nq_74, nl_74, nq_75, nl_75, nq_76, nl_76, nl_77, n4f, n5f, n6f, n7f, n0t, n1f, n2f, n3f, if_true, if_false]
        rw [e0 14 (by decide)]; exact e14
      · simp only [k_houseOf, m_houseOf_j93, m_houseOf_j93_s, m_houseOf_j59, m_houseOf_j59_s, m_houseOf_k30, m_houseOf_k30_s, m_houseOf_j27, m_houseOf_j27_s, m_houseOf, m_houseOf_s, m_isHouse, a1, a2, ref_s, ref_v, nl_00, nq_01, nl_01, nq_02, nl_02, nq_03, nl_03, nq_04, nl_04, nq_05, nl_05, nq_06, nl_06, nq_07, nl_07, nq_10, nl_10, nl_11, nq_12, nl_12, nq_13, nl_13, nq_14, nl_14, nq_15, nl_15, nq_16, nl_16, nq_17, nl_17, nq_20, nl_20, nq_21, nl_21, nl_22, nq_23, nl_23, nq_24, nl_24, nq_25, nl_25, nq_26, nl_26, nq_27, nl_27, nq_30, nl_30, nq_31, nl_31, nq_32, nl_32, nl_33, nq_34, nl_34, nq_35, nl_35, nq_36, nl_36, nq_37, nl_37, nq_40, nl_40, nq_41, nl_41, nq_42, nl_42, nq_43, nl_43, nl_44, nq_45, nl_45, nq_46, nl_46, nq_47, nl_47, nq_50, nl_50, nq_51, nl_51, nq_52, nl_52, nq_53, nl_53, nq_54, nl_54, nl_55, nq_56, nl_56, nq_57, nl_57, nq_60, nl_60, nq_61, nl_61, nq_62, nl_62, nq_63, nl_63, nq_64, nl_64, nq_65, nl_65, nl_66, nq_67, nl_67, nq_70, nl_70, nq_71, nl_71, nq_72, nl_72, nq_73, nl_73, nq_74, nl_74, nq_75, nl_75, nq_76, nl_76, nl_77, n4f, n5f, n6f, n7f, n0t, n1f, n2f, n3f, if_true, if_false]
        rw [e0 15 (by decide)]; exact e15
      · simp only [k_houseOf, m_houseOf_j93, m_houseOf_j93_s, m_houseOf_j59, m_houseOf_j59_s, m_houseOf_k30, m_houseOf_k30_s, m_houseOf_j27, m_houseOf_j27_s, m_houseOf, m_houseOf_s, m_isHouse, a1, a2, ref_s, ref_v, nl_00, nq_01, nl_01, nq_02, nl_02, nq_03, nl_03, nq_04, nl_04, nq_05, nl_05, nq_06, nl_06, nq_07, nl_07, nq_10, nl_10, nl_11, nq_12, nl_12, nq_13, nl_13, nq_14, nl_14, nq_15, nl_15, nq_16, nl_16, nq_17, nl_17, nq_20, nl_20, nq_21, nl_21, nl_22, nq_23, nl_23, nq_24, nl_24, nq_25, nl_25, nq_26, nl_26, nq_27, nl_27, nq_30, nl_30, nq_31, nl_31, nq_32, nl_32, nl_33, nq_34, nl_34, nq_35, nl_35, nq_36, nl_36, nq_37, nl_37, nq_40, nl_40, nq_41, nl_41, nq_42, nl_42, nq_43, nl_43, nl_44, nq_45, nl_45, nq_46, nl_46, nq_47, nl_47, nq_50, nl_50, nq_51, nl_51, nq_52, nl_52, nq_53, nl_53, nq_54, nl_54, nl_55, nq_56, nl_56, nq_57, nl_57, nq_60, nl_60, nq_61, nl_61, nq_62, nl_62, nq_63, nl_63, nq_64, nl_64, nq_65, nl_65, nl_66, nq_67, nl_67, nq_70, nl_70, nq_71, nl_71, nq_72, nl_72, nq_73, nl_73, nq_74, nl_74, nq_75, nl_75, nq_76, nl_76, nl_77, n4f, n5f, n6f, n7f, n0t, n1f, n2f, n3f, if_true, if_false]
        rw [e0 17 (by decide)]; exact e17
      · simp only [k_houseOf, m_houseOf_j93, m_houseOf_j93_s, m_houseOf_j59, m_houseOf_j59_s, m_houseOf_k30, m_houseOf_k30_s, m_houseOf_j27, m_houseOf_j27_s, m_houseOf, m_houseOf_s, m_isHouse, a1, a2, ref_s, ref_v, nl_00, nq_01, nl_01, nq_02, nl_02, nq_03, nl_03, nq_04, nl_04, nq_05, nl_05, nq_06, nl_06, nq_07, nl_07, nq_10, nl_10, nl_11, nq_12, nl_12, nq_13, nl_13, nq_14, nl_14, nq_15, nl_15, nq_16, nl_16, nq_17, nl_17, nq_20, nl_20, nq_21, nl_21, nl_22, nq_23, nl_23, nq_24, nl_24, nq_25, nl_25, nq_26, nl_26, nq_27, nl_27, nq_30, nl_30, nq_31, nl_31, nq_32, nl_32, nl_33, nq_34, nl_34, nq_35, nl_35, nq_36, nl_36, nq_37, nl_37, nq_40, nl_40, nq_41, nl_41, nq_42, nl_42, nq_43, nl_43, nl_44, nq_45, nl_45, nq_46, nl_46, nq_47, nl_47, nq_50, nl_50, nq_51, nl_51, nq_52, nl_52, nq_53, nl_53, nq_54, nl_54, nl_55, nq_56, nl_56, nq_57, nl_57, nq_60, nl_60, nq_61, nl_61, nq_62, nl_62, nq_63, nl_63, nq_64, nl_64, nq_65, nl_65, nl_66, nq_67, nl_67, nq_70, nl_70, nq_71, nl_71, nq_72, nl_72, nq_73, nl_73, nq_74, nl_74, nq_75, nl_75, nq_76, nl_76, nl_77, n4f, n5f, n6f, n7f, n0t, n1f, n2f, n3f, if_true, if_false]
        rw [e0 18 (by decide)]; exact e18
      · simp only [k_houseOf, m_houseOf_j93, m_houseOf_j93_s, m_houseOf_j59, m_houseOf_j59_s, m_houseOf_k30, m_houseOf_k30_s, m_houseOf_j27, m_houseOf_j27_s, m_houseOf, m_houseOf_s, m_isHouse, a1, a2, ref_s, ref_v, nl_00, nq_01, nl_01, nq_02, nl_02, nq_03, nl_03, nq_04, nl_04, nq_05, nl_05, nq_06, nl_06, nq_07, nl_07, nq_10, nl_10, nl_11, nq_12, nl_12, nq_13, nl_13, nq_14, nl_14, nq_15, nl_15, nq_16, nl_16, nq_17, nl_17, nq_20, nl_20, nq_21, nl_21, nl_22, nq_23, nl_23, nq_24, nl_24, nq_25, nl_25, nq_26, nl_26, nq_27, nl_27, nq_30, nl_30, nq_31, nl_31, nq_32, nl_32, nl_33, nq_34, nl_34, nq_35, nl_35, nq_36, nl_36, nq_37, nl_37, nq_40, nl_40, nq_41, nl_41, nq_42, nl_42, nq_43, nl_43, nl_44, nq_45, nl_45, nq_46, nl_46, nq_47, nl_47, nq_50, nl_50, nq_51, nl_51, nq_52, nl_52, nq_53, nl_53, nq_54, nl_54, nl_55, nq_56, nl_56, nq_57, nl_57, nq_60, nl_60, nq_61, nl_61, nq_62, nl_62, nq_63, nl_63, nq_64, nl_64, nq_65, nl_65, nl_66, nq_67, nl_67, nq_70, nl_70, nq_71, nl_71, nq_72, nl_72, nq_73, nl_73, nq_74, nl_74, nq_75, nl_75, nq_76, nl_76, nl_77, n4f, n5f, n6f, n7f, n0t, n1f, n2f, n3f, if_true, if_false]
        exact hw0
theorem q_claimAnew : lp_claimAnew Rel := fun σ μ claim h => by
  obtain ⟨q1, q2, q3⟩ := q_claimOf σ μ claim h
  have ex : kx_claimAnew σ claim = kx_claimOf σ claim := rfl
  have es : m_claimAnew_s μ claim = m_claimOf_s μ claim := rfl
  have ev : m_claimAnew μ claim = m_claimOf μ claim := rfl
  rw [ex, es, ev]
  refine ⟨q1, q2, fun q => ?_⟩
  rw [← q3 q]
  have e24 := h.1.cnt (k := 24) (by omega)
  rcases wi_cnt h.2.1.2.2.1 (by decide) claim with ⟨a1, b1⟩ | ⟨a1, b1, c1⟩
  · rw [← e24] at b1
    have ex : kx_claimOf σ claim = 1 := by simp only [kx_claimOf, b1, xs_1]
    rw [ex] at q
    exact absurd q ne10
  · rw [← e24] at c1
    have hk : claim.toNatClampNeg < cpN σ 2 := vp_lt c1
    exact ((h.2.2.2.2.2.2.1.2 _ hk).2).symm
