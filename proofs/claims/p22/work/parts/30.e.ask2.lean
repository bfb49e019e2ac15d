/-! more calls that only ask -/
theorem side_eq : ∀ c, c < 25 → ∀ s, s < 4 → k_stepFrom (nI c) (cpS s) = m_beside (nI c) (nI s) := by decide +kernel
theorem q_neighbour : lp_neighbour Rel := fun σ μ cell at_ h => by
  rcases wi_ix 24 (by decide) cell with ⟨a1, b1⟩ | ⟨a1, b1, c1⟩
  · have ex : kx_neighbour σ cell at_ = 1 := by simp only [kx_neighbour, b1, xs_1]
    have es : m_neighbour_s μ cell at_ = si μ 0 0 (nI 1) := by simp only [m_neighbour_x33, m_neighbour_x33_s, m_neighbour_j79, m_neighbour_j65, m_neighbour_k20, m_neighbour_k20_s, m_neighbour_j17, m_neighbour_j17_s, m_neighbour, m_neighbour_s, m_isCell, a1, ref_s, ref_v, n0t, n1f, n2f, if_true, if_false]
    rw [ex, es, ite_2]
    exact ⟨Rel_0 _ h, si_eq, fun q => absurd q ne10⟩
  · by_cases ha : at_ < 0
    · have h2 : ¬ 0 ≤ at_ := fun q => by
        rw [i_lt] at ha
        rw [i_le] at q
        omega
      have ex : kx_neighbour σ cell at_ = 1 := by simp only [kx_neighbour, b1, xs_0, if_neg h2, xs_1]
      have es : m_neighbour_s μ cell at_ = si μ 0 0 (nI 1) := by simp only [m_neighbour_x33, m_neighbour_x33_s, m_neighbour_j79, m_neighbour_j65, m_neighbour_k20, m_neighbour_k20_s, m_neighbour_j17, m_neighbour_j17_s, m_neighbour, m_neighbour_s, m_isCell, a1, ref_s, ref_v, if_pos ha, n0t, n1f, n2f, if_true, if_false]
      rw [ex, es, ite_2]
      exact ⟨Rel_0 _ h, si_eq, fun q => absurd q ne10⟩
    · have h2 : 0 ≤ at_ := by
        rw [i_lt] at ha
        rw [i_le]
        omega
      have ex : kx_neighbour σ cell at_ = 0 := by simp only [kx_neighbour, b1, xs_0, if_pos h2]
      have es : m_neighbour_s μ cell at_ = si μ 0 0 (nI 0) := by simp only [m_neighbour_x33, m_neighbour_x33_s, m_neighbour_j79, m_neighbour_j65, m_neighbour_k20, m_neighbour_k20_s, m_neighbour_j17, m_neighbour_j17_s, m_neighbour, m_neighbour_s, m_isCell, a1, ref_s, ref_v, if_neg ha, n0t, n1f, n2f, if_true, if_false]
      have ev : m_neighbour μ cell at_ = (lp (m_neighbour_b33 cell at_) 4 ((-1), nI 0)).1 := by simp only [m_neighbour_x33, m_neighbour_x33_s, m_neighbour_j79, m_neighbour_j65, m_neighbour_k20, m_neighbour_k20_s, m_neighbour_j17, m_neighbour_j17_s, m_neighbour, m_neighbour_s, m_isCell, a1, ref_s, ref_v, if_neg ha, n0t, n1f, n2f, if_true, if_false]
      rw [ex, es, ev, ite_2]
      refine ⟨Rel_0 _ h, si_eq, fun _ => ?_⟩
      have hs := vp_self c1
      have hl := vp_lt c1
      have w0 : k_stepFrom cell (cpS 0) = m_beside cell (nI 0) := by rw [hs]; exact side_eq _ hl 0 (by decide)
      have w1 : k_stepFrom cell (cpS 1) = m_beside cell (nI 1) := by rw [hs]; exact side_eq _ hl 1 (by decide)
      have w2 : k_stepFrom cell (cpS 2) = m_beside cell (nI 2) := by rw [hs]; exact side_eq _ hl 2 (by decide)
      have w3 : k_stepFrom cell (cpS 3) = m_beside cell (nI 3) := by rw [hs]; exact side_eq _ hl 3 (by decide)
      show k_neighbour σ cell at_ = (m_neighbour_b33 cell at_ 3 (m_neighbour_b33 cell at_ 2 (m_neighbour_b33 cell at_ 1 (m_neighbour_b33 cell at_ 0 ((-1), nI 0))))).1
      unfold k_neighbour
      rw [if_pos h2, w0, w1, w2, w3]
      simp only [m_neighbour_b33, m_neighbour_j65, m_neighbour_j79]
      generalize m_beside cell (nI 0) = e0
      generalize m_beside cell (nI 1) = e1
      generalize m_beside cell (nI 2) = e2
      generalize m_beside cell (nI 3) = e3
      have fin : ∀ (p0 p1 p2 p3 : Prop) [Decidable p0] [Decidable p1] [Decidable p2] [Decidable p3], (at_ = nI 0 ∨ at_ = nI 1 ∨ at_ = nI 2 ∨ at_ = nI 3 ∨ (¬ nI 0 = at_ ∧ ¬ nI 1 = at_ ∧ ¬ nI 2 = at_ ∧ ¬ nI 3 = at_)) := fun _ _ _ _ => by
        by_cases z0 : at_ = nI 0
        · exact Or.inl z0
        · by_cases z1 : at_ = nI 1
          · exact Or.inr (Or.inl z1)
          · by_cases z2 : at_ = nI 2
            · exact Or.inr (Or.inr (Or.inl z2))
            · by_cases z3 : at_ = nI 3
              · exact Or.inr (Or.inr (Or.inr (Or.inl z3)))
              · exact Or.inr (Or.inr (Or.inr (Or.inr ⟨fun q => z0 q.symm, fun q => z1 q.symm, fun q => z2 q.symm, fun q => z3 q.symm⟩)))
      rcases fin True True True True with z | z | z | z | ⟨z0, z1, z2, z3⟩
      · subst z
        by_cases d0 : e0 = -1 <;> by_cases d1 : e1 = -1 <;> by_cases d2 : e2 = -1 <;> by_cases d3 : e3 = -1 <;> simp only [d0, d1, d2, d3, if_true, if_false, nI_add, Nat.reduceAdd, nl_00, nq_01, nl_01, nq_02, nl_02, nq_03, nl_03, nq_04, nl_04, nq_05, nl_05, nq_06, nl_06, nq_07, nl_07, nq_10, nl_10, nl_11, nq_12, nl_12, nq_13, nl_13, nq_14, nl_14, nq_15, nl_15, nq_16, nl_16, nq_17, nl_17, nq_20, nl_20, nq_21, nl_21, nl_22, nq_23, nl_23, nq_24, nl_24, nq_25, nl_25, nq_26, nl_26, nq_27, nl_27, nq_30, nl_30, nq_31, nl_31, nq_32, nl_32, nl_33, nq_34, nl_34, nq_35, nl_35, nq_36, nl_36, nq_37, nl_37, nq_40, nl_40, nq_41, nl_41, nq_42, nl_42, nq_43, nl_43, nl_44, nq_45, nl_45, nq_46, nl_46, nq_47, nl_47, nq_50, nl_50, nq_51, nl_51, nq_52, nl_52, nq_53, nl_53, nq_54, nl_54, nl_55, nq_56, nl_56, nq_57, nl_57, nq_60, nl_60, nq_61, nl_61, nq_62, nl_62, nq_63, nl_63, nq_64, nl_64, nq_65, nl_65, nl_66, nq_67, nl_67, nq_70, nl_70, nq_71, nl_71, nq_72, nl_72, nq_73, nl_73, nq_74, nl_74, nq_75, nl_75, nq_76, nl_76, nl_77, n4f, n5f, n6f, n7f, n0t, n1f, n2f, n3f, if_true, if_false]
      · subst z
        by_cases d0 : e0 = -1 <;> by_cases d1 : e1 = -1 <;> by_cases d2 : e2 = -1 <;> by_cases d3 : e3 = -1 <;> simp only [d0, d1, d2, d3, if_true, if_false, nI_add, Nat.reduceAdd, nl_00, nq_01, nl_01, nq_02, nl_02, nq_03, nl_03, nq_04, nl_04, nq_05, nl_05, nq_06, nl_06, nq_07, nl_07, nq_10, nl_10, nl_11, nq_12, nl_12, nq_13, nl_13, nq_14, nl_14, nq_15, nl_15, nq_16, nl_16, nq_17, nl_17, nq_20, nl_20, nq_21, nl_21, nl_22, nq_23, nl_23, nq_24, nl_24, nq_25, nl_25, nq_26, nl_26, nq_27, nl_27, nq_30, nl_30, nq_31, nl_31, nq_32, nl_32, nl_33, nq_34, nl_34, nq_35, nl_35, nq_36, nl_36, nq_37, nl_37, nq_40, nl_40, nq_41, nl_41, nq_42, nl_42, nq_43, nl_43, nl_44, nq_45, nl_45, nq_46, nl_46, nq_47, nl_47, nq_50, nl_50, nq_51, nl_51, nq_52, nl_52, nq_53, nl_53, nq_54, nl_54, nl_55, nq_56, nl_56, nq_57, nl_57, nq_60, nl_60, nq_61, nl_61, nq_62, nl_62, nq_63, nl_63, nq_64, nl_64, nq_65, nl_65, nl_66, nq_67, nl_67, nq_70, nl_70, nq_71, nl_71, nq_72, nl_72, nq_73, nl_73, nq_74, nl_74, nq_75, nl_75, nq_76, nl_76, nl_77, n4f, n5f, n6f, n7f, n0t, n1f, n2f, n3f, if_true, if_false]
      · subst z
        by_cases d0 : e0 = -1 <;> by_cases d1 : e1 = -1 <;> by_cases d2 : e2 = -1 <;> by_cases d3 : e3 = -1 <;> simp only [d0, d1, d2, d3, if_true, if_false, nI_add, Nat.reduceAdd, nl_00, nq_01, nl_01, nq_02, nl_02, nq_03, nl_03, nq_04, nl_04, nq_05, nl_05, nq_06, nl_06, nq_07, nl_07, nq_10, nl_10, nl_11, nq_12, nl_12, nq_13, nl_13, nq_14, nl_14, nq_15, nl_15, nq_16, nl_16, nq_17, nl_17, nq_20, nl_20, nq_21, nl_21, nl_22, nq_23, nl_23, nq_24, nl_24, nq_25, nl_25, nq_26, nl_26, nq_27, nl_27, nq_30, nl_30, nq_31, nl_31, nq_32, nl_32, nl_33, nq_34, nl_34, nq_35, nl_35, nq_36, nl_36, nq_37, nl_37, nq_40, nl_40, nq_41, nl_41, nq_42, nl_42, nq_43, nl_43, nl_44, nq_45, nl_45, nq_46, nl_46, nq_47, nl_47, nq_50, nl_50, nq_51, nl_51, nq_52, nl_52, nq_53, nl_53, nq_54, nl_54, nl_55, nq_56, nl_56, nq_57, nl_57, nq_60, nl_60, nq_61, nl_61, nq_62, nl_62, nq_63, nl_63, nq_64, nl_64, nq_65, nl_65, nl_66, nq_67, nl_67, nq_70, nl_70, nq_71, nl_71, nq_72, nl_72, nq_73, nl_73, nq_74, nl_74, nq_75, nl_75, nq_76, nl_76, nl_77, n4f, n5f, n6f, n7f, n0t, n1f, n2f, n3f, if_true, if_false]
      · subst z
        by_cases d0 : e0 = -1 <;> by_cases d1 : e1 = -1 <;> by_cases d2 : e2 = -1 <;> by_cases d3 : e3 = -1 <;> simp only [d0, d1, d2, d3, if_true, if_false, nI_add, Nat.reduceAdd, nl_00, nq_01, nl_01, nq_02, nl_02, nq_03, nl_03, nq_04, nl_04, nq_05, nl_05, nq_06, nl_06, nq_07, nl_07, nq_10, nl_10, nl_11, nq_12, nl_12, nq_13, nl_13, nq_14, nl_14, nq_15, nl_15, nq_16, nl_16, nq_17, nl_17, nq_20, nl_20, nq_21, nl_21, nl_22, nq_23, nl_23, nq_24, nl_24, nq_25, nl_25, nq_26, nl_26, nq_27, nl_27, nq_30, nl_30, nq_31, nl_31, nq_32, nl_32, nl_33, nq_34, nl_34, nq_35, nl_35, nq_36, nl_36, nq_37, nl_37, nq_40, nl_40, nq_41, nl_41, nq_42, nl_42, nq_43, nl_43, nl_44, nq_45, nl_45, nq_46, nl_46, nq_47, nl_47, nq_50, nl_50, nq_51, nl_51, nq_52, nl_52, nq_53, nl_53, nq_54, nl_54, nl_55, nq_56, nl_56, nq_57, nl_57, nq_60, nl_60, nq_61, nl_61, nq_62, nl_62, nq_63, nl_63, nq_64, nl_64, nq_65, nl_65, nl_66, nq_67, nl_67, nq_70, nl_70, nq_71, nl_71, nq_72, nl_72, nq_73, nl_73, nq_74, nl_74, nq_75, nl_75, nq_76, nl_76, nl_77, n4f, n5f, n6f, n7f, n0t, n1f, n2f, n3f, if_true, if_false]
      · by_cases d0 : e0 = -1 <;> by_cases d1 : e1 = -1 <;> by_cases d2 : e2 = -1 <;> by_cases d3 : e3 = -1 <;> simp only [d0, d1, d2, d3, z0, z1, z2, z3, if_true, if_false, nI_add, Nat.reduceAdd, nl_00, nq_01, nl_01, nq_02, nl_02, nq_03, nl_03, nq_04, nl_04, nq_05, nl_05, nq_06, nl_06, nq_07, nl_07, nq_10, nl_10, nl_11, nq_12, nl_12, nq_13, nl_13, nq_14, nl_14, nq_15, nl_15, nq_16, nl_16, nq_17, nl_17, nq_20, nl_20, nq_21, nl_21, nl_22, nq_23, nl_23, nq_24, nl_24, nq_25, nl_25, nq_26, nl_26, nq_27, nl_27, nq_30, nl_30, nq_31, nl_31, nq_32, nl_32, nl_33, nq_34, nl_34, nq_35, nl_35, nq_36, nl_36, nq_37, nl_37, nq_40, nl_40, nq_41, nl_41, nq_42, nl_42, nq_43, nl_43, nl_44, nq_45, nl_45, nq_46, nl_46, nq_47, nl_47, nq_50, nl_50, nq_51, nl_51, nq_52, nl_52, nq_53, nl_53, nq_54, nl_54, nl_55, nq_56, nl_56, nq_57, nl_57, nq_60, nl_60, nq_61, nl_61, nq_62, nl_62, nq_63, nl_63, nq_64, nl_64, nq_65, nl_65, nl_66, nq_67, nl_67, nq_70, nl_70, nq_71, nl_71, nq_72, nl_72, nq_73, nl_73, nq_74, nl_74, nq_75, nl_75, nq_76, nl_76, nl_77, n4f, n5f, n6f, n7f, n0t, n1f, n2f, n3f, if_true, if_false]
theorem wi_cnt {y : Int32} {n : Nat} (hy : vp_in y n) (hn : n < 2 ^ 29) (v : Int32) : (m_within v (nI 0) (y - nI 1) = nI 0 ∧ xIx v y = 1) ∨ (m_within v (nI 0) (y - nI 1) = nI 1 ∧ xIx v y = 0 ∧ vp_in v y.toNatClampNeg) := by
  have hs := vp_self hy
  have hl := vp_lt hy
  generalize y.toNatClampNeg = k at hs hl ⊢
  subst hs
  have e1 := pk_sub_toInt (a := k) (b := 1) (by omega) (by decide)
  have e2 := nI_toInt (n := k) (by omega)
  have e0 : (nI 0).toInt = 0 := nI_toInt (by decide)
  by_cases h : vp_in v k
  · have h2 := vp_in_iff.mp h
    refine Or.inr ⟨?_, ?_, h⟩
    · unfold m_within m_within_j15
      rw [if_neg (by rw [i_lt, e0]; omega), if_neg (by rw [i_lt, e1]; omega)]
    · unfold xIx
      rw [if_neg (by rw [i_lt]; show ¬ v.toInt < 0; omega), if_pos (by rw [i_lt, e2]; omega)]
  · have h2 : ¬ (0 ≤ v.toInt ∧ v.toInt < (k : Nat)) := fun q => h (vp_in_iff.mpr q)
    refine Or.inl ⟨?_, ?_⟩
    · unfold m_within m_within_j15
      by_cases q : v < nI 0
      · rw [if_pos q]
      · rw [if_neg q, if_pos (by rw [i_lt, e0] at q; rw [i_lt, e1]; omega)]
    · unfold xIx
      by_cases q : v < 0
      · rw [if_pos q]
      · rw [if_neg q, if_neg (by rw [i_lt] at q; have q2 : ¬ v.toInt < 0 := q; rw [i_lt, e2]; omega)]
theorem q_claimOf : lp_claimOf Rel := fun σ μ claim h => by
  have e24 := h.1.cnt (k := 24) (by omega)
  rcases wi_cnt h.2.1.2.2.1 (by decide) claim with ⟨a1, b1⟩ | ⟨a1, b1, c1⟩
  · rw [← e24] at b1
    have ex : kx_claimOf σ claim = 1 := by simp only [kx_claimOf, b1, xs_1]
    have es : m_claimOf_s μ claim = si μ 0 0 (nI 1) := by simp only [m_claimOf_j36, m_claimOf_j36_s, m_claimOf_k23, m_claimOf_k23_s, m_claimOf_j20, m_claimOf_j20_s, m_claimOf, m_claimOf_s, a1, ref_s, ref_v, n0t, n1f, n2f, if_true, if_false]
    rw [ex, es, ite_2]
    exact ⟨Rel_0 _ h, si_eq, fun q => absurd q ne10⟩
  · rw [← e24] at b1
    have ex : kx_claimOf σ claim = 0 := by simp only [kx_claimOf, b1, xs_0]
    have es : m_claimOf_s μ claim = si μ 0 0 (nI 0) := by simp only [m_claimOf_j36, m_claimOf_j36_s, m_claimOf_k23, m_claimOf_k23_s, m_claimOf_j20, m_claimOf_j20_s, m_claimOf, m_claimOf_s, a1, ref_s, ref_v, n0t, n1f, n2f, if_true, if_false]
    have ev : m_claimOf μ claim = μ.1 25 claim.toNatClampNeg := by
      simp only [m_claimOf_j36, m_claimOf_j36_s, m_claimOf_k23, m_claimOf_k23_s, m_claimOf_j20, m_claimOf_j20_s, m_claimOf, m_claimOf_s, a1, ref_s, ref_v, n0t, n1f, n2f, if_true, if_false]
      rw [si_ne (by decide)]
    rw [ex, es, ev, ite_2]
    refine ⟨Rel_0 _ h, si_eq, fun _ => ?_⟩
    have q := vp_lt c1
    have e2 := h.1.n2
    exact h.1.clm (by omega)
theorem lp_shift (W : Nat → Int64) (n : Nat) (x y : Int64) : lp (fun i z => z + W i) n (x + y) = lp (fun i z => z + W i) n x + y := by
  induction n with
  | zero => rfl
  | succ n ih =>
    show lp (fun i z => z + W i) n (x + y) + W n = lp (fun i z => z + W i) n x + W n + y
    rw [ih]
    grind
theorem sum25 (W g A : Nat → Int64) (N : Nat) (hA : ∀ i, i < N → A i = ((((W i + g (5 * i + 0)) + g (5 * i + 1)) + g (5 * i + 2)) + g (5 * i + 3)) + g (5 * i + 4)) (n : Nat) (hn : n ≤ N) : lp (fun i z => z + A i) n 0 = lp (fun i z => z + W i) n (lp (fun j z => z + g j) (5 * n) 0) := by
  induction n with
  | zero => rfl
  | succ n ih =>
    show lp (fun i z => z + A i) n 0 + A n = lp (fun i z => z + W i) n ((((((lp (fun j z => z + g j) (5 * n) 0) + g (5 * n + 0)) + g (5 * n + 1)) + g (5 * n + 2)) + g (5 * n + 3)) + g (5 * n + 4)) + W n
    rw [ih (by omega), lp_shift, lp_shift, lp_shift, lp_shift, lp_shift, hA n (by omega)]
    grind
theorem sum_eq {σ μ : Sg} (h : AGn σ μ) (kind : Int32) : k_amountInLand σ kind = m_inLand μ kind := by
  have key := fun (W g A : Nat → Int64) hA => sum25 W g A 25 hA 25 (Nat.le_refl _)
  have l5 : ∀ (f : Nat → Int64 → Int64) (x : Int64), lp f 5 x = f 4 (f 3 (f 2 (f 1 (f 0 x)))) := fun _ _ => rfl
  have e8 := fun i (hi : i < 25) l (hl : l < 5) => h.lay (k := 8) (j := 5 * i + l) (by omega) (by omega)
  have e9 := fun i (hi : i < 25) l (hl : l < 5) => h.lay (k := 9) (j := 5 * i + l) (by omega) (by omega)
  have e10 := fun i (hi : i < 25) l (hl : l < 5) => h.lay (k := 10) (j := 5 * i + l) (by omega) (by omega)
  have e11 := fun i (hi : i < 25) l (hl : l < 5) => h.lay (k := 11) (j := 5 * i + l) (by omega) (by omega)
  by_cases k0 : kind = 0
  · refine key (fun c => (nI 1000 * μ.1 3 c).toInt64) (fun j => (μ.1 10 j).toInt64) (fun i => c_amount σ i kind) (fun i hi => ?_) |>.trans ?_
    · simp only [c_amount_x33, c_amount_j30, c_amount, c_amount_b33, l_amount_j25, l_amount, k0, if_true, l5]
      rw [h.cell (k := 3) (by omega) hi, e10 i hi 0 (by omega), e10 i hi 1 (by omega), e10 i hi 2 (by omega), e10 i hi 3 (by omega), e10 i hi 4 (by omega)]
    · unfold m_inLand m_inLand_x5 m_inLand_x71
      have q1 : m_inLand_b5 μ kind = fun j z => z + (μ.1 10 j).toInt64 := by funext j z; simp only [m_inLand_b5, m_inLand_j60, k0, if_true]
      have q2 : m_inLand_b71 μ kind = fun c z => z + (nI 1000 * μ.1 3 c).toInt64 := by funext j z; simp only [m_inLand_b71, m_inLand_j115, k0, if_true]
      rw [q1, q2]
  · by_cases k1 : kind = nI 1
    · refine key (fun c => (μ.1 3 c).toInt64) (fun j => (μ.1 8 j + μ.1 9 j).toInt64) (fun i => c_amount σ i kind) (fun i hi => ?_) |>.trans ?_
      · simp only [c_amount_x33, c_amount_j30, c_amount, c_amount_b33, l_amount_j25, l_amount, l_units, if_neg k0, if_pos k1, l5]
        rw [h.cell (k := 3) (by omega) hi, e8 i hi 0 (by omega), e8 i hi 1 (by omega), e8 i hi 2 (by omega), e8 i hi 3 (by omega), e8 i hi 4 (by omega), e9 i hi 0 (by omega), e9 i hi 1 (by omega), e9 i hi 2 (by omega), e9 i hi 3 (by omega), e9 i hi 4 (by omega)]
      · unfold m_inLand m_inLand_x5 m_inLand_x71
        have q1 : m_inLand_b5 μ kind = fun j z => z + (μ.1 8 j + μ.1 9 j).toInt64 := by funext j z; simp only [m_inLand_b5, m_inLand_j60, if_neg k0, if_pos k1]
        have q2 : m_inLand_b71 μ kind = fun c z => z + (μ.1 3 c).toInt64 := by funext j z; simp only [m_inLand_b71, m_inLand_j115, if_neg k0, if_pos k1]
        rw [q1, q2]
    · refine key (fun c => 0) (fun j => (μ.1 11 j).toInt64) (fun i => c_amount σ i kind) (fun i hi => ?_) |>.trans ?_
      · simp only [c_amount_x33, c_amount_j30, c_amount, c_amount_b33, l_amount_j25, l_amount, if_neg k0, if_neg k1, l5]
        rw [e11 i hi 0 (by omega), e11 i hi 1 (by omega), e11 i hi 2 (by omega), e11 i hi 3 (by omega), e11 i hi 4 (by omega)]
      · unfold m_inLand m_inLand_x5 m_inLand_x71
        have q1 : m_inLand_b5 μ kind = fun j z => z + (μ.1 11 j).toInt64 := by funext j z; simp only [m_inLand_b5, m_inLand_j60, if_neg k0, if_neg k1]
        have q2 : m_inLand_b71 μ kind = fun c z => z + 0 := by funext j z; simp only [m_inLand_b71, m_inLand_j115, if_neg k0, if_neg k1]
        rw [q1, q2]
theorem q_balance : lp_balance Rel := fun σ μ kind what h => by
  rcases wi_rg kind (nI 0) (nI 2) with ⟨a1, b1⟩ | ⟨a1, b1, c1⟩
  · have ex : kx_balance σ kind what = 2 := by simp only [kx_balance, b1, xs_2]
    have es : m_balance_s μ kind what = si μ 0 0 (nI 1) := by simp only [m_balance_j139, m_balance_j139_s, m_balance_j96, m_balance_j96_s, m_balance_j59, m_balance_j59_s, m_balance_k27, m_balance_k27_s, m_balance_j24, m_balance_j24_s, m_balance, m_balance_s, a1, ref_s, ref_v, n0t, n1f, n2f, if_true, if_false]
    rw [ex, es, ite_2]
    exact ⟨Rel_0 _ h, si_eq, fun q => absurd q ne20⟩
  · rcases wi_rg what (nI 0) (nI 3) with ⟨a2, b2⟩ | ⟨a2, b2, c2⟩
    · have ex : kx_balance σ kind what = 2 := by simp only [kx_balance, b1, b2, xs_0, xs_2]
      have es : m_balance_s μ kind what = si μ 0 0 (nI 1) := by simp only [m_balance_j139, m_balance_j139_s, m_balance_j96, m_balance_j96_s, m_balance_j59, m_balance_j59_s, m_balance_k27, m_balance_k27_s, m_balance_j24, m_balance_j24_s, m_balance, m_balance_s, a1, a2, ref_s, ref_v, n0t, n1f, n2f, if_true, if_false]
      rw [ex, es, ite_2]
      exact ⟨Rel_0 _ h, si_eq, fun q => absurd q ne20⟩
    · have ex : kx_balance σ kind what = 0 := by simp only [kx_balance, b1, b2, xs_0]
      have es : m_balance_s μ kind what = si μ 0 0 (nI 0) := by simp only [m_balance_j139, m_balance_j139_s, m_balance_j96, m_balance_j96_s, m_balance_j59, m_balance_j59_s, m_balance_k27, m_balance_k27_s, m_balance_j24, m_balance_j24_s, m_balance, m_balance_s, a1, a2, ref_s, ref_v, n0t, n1f, n2f, if_true, if_false]
      rw [ex, es, ite_2]
      refine ⟨Rel_0 _ h, si_eq, fun _ => ?_⟩
      have hk : vp_in kind 3 := vp_in_iff.mpr ⟨by have q := c1.1; rw [nI_toInt (by decide)] at q; omega, by have q := c1.2; rw [nI_toInt (by decide)] at q; omega⟩
      have hw : vp_in what 4 := vp_in_iff.mpr ⟨by have q := c2.1; rw [nI_toInt (by decide)] at q; omega, by have q := c2.2; rw [nI_toInt (by decide)] at q; omega⟩
      have hs1 := vp_self hk
      have hl1 := vp_lt hk
      have hs2 := vp_self hw
      have hl2 := vp_lt hw
      have hsum := sum_eq (Rel_0 (nI 0) h).1 kind
      have e26 := h.1.2 26 (by omega) (by omega)
      have e27 := h.1.2 27 (by omega) (by omega)
      have e28 := h.1.2 28 (by omega) (by omega)
      have e29 := h.1.2 29 (by omega) (by omega)
      have e30 := h.1.2 30 (by omega) (by omega)
      have e31 := h.1.2 31 (by omega) (by omega)
      generalize hx : what.toNatClampNeg = t at hs2 hl2
      generalize hy : kind.toNatClampNeg = u at hs1 hl1
      have z2 : (si μ 0 0 (nI 0)).2 = μ.2 := rfl
      subst hs1
      subst hs2
      rcases (show u = 0 ∨ u = 1 ∨ u = 2 by omega) with rfl | rfl | rfl <;> rcases (show t = 0 ∨ t = 1 ∨ t = 2 ∨ t = 3 by omega) with rfl | rfl | rfl | rfl <;> simp only [k_balance, k_amountLeft_j38, k_amountLeft, m_balance_j139, m_balance_j139_s, m_balance_j96, m_balance_j96_s, m_balance_j59, m_balance_j59_s, m_balance_k27, m_balance_k27_s, m_balance_j24, m_balance_j24_s, m_balance, m_balance_s, a1, a2, ref_s, ref_v, hsum, hy, z2, e26, e27, e28, e29, e30, e31, Nat.reduceAdd, nl_00, nq_01, nl_01, nq_02, nl_02, nq_03, nl_03, nq_04, nl_04, nq_05, nl_05, nq_06, nl_06, nq_07, nl_07, nq_10, nl_10, nl_11, nq_12, nl_12, nq_13, nl_13, nq_14, nl_14, nq_15, nl_15, nq_16, nl_16, nq_17, nl_17, nq_20, nl_20, nq_21, nl_21, nl_22, nq_23, nl_23, nq_24, nl_24, nq_25, nl_25, nq_26, nl_26, nq_27, nl_27, nq_30, nl_30, nq_31, nl_31, nq_32, nl_32, nl_33, nq_34, nl_34, nq_35, nl_35, nq_36, nl_36, nq_37, nl_37, nq_40, nl_40, nq_41, nl_41, nq_42, nl_42, nq_43, nl_43, nl_44, nq_45, nl_45, nq_46, nl_46, nq_47, nl_47, nq_50, nl_50, nq_51, nl_51, nq_52, nl_52, nq_53, nl_53, nq_54, nl_54, nl_55, nq_56, nl_56, nq_57, nl_57, nq_60, nl_60, nq_61, nl_61, nq_62, nl_62, nq_63, nl_63, nq_64, nl_64, nq_65, nl_65, nl_66, nq_67, nl_67, nq_70, nl_70, nq_71, nl_71, nq_72, nl_72, nq_73, nl_73, nq_74, nl_74, nq_75, nl_75, nq_76, nl_76, nl_77, n4f, n5f, n6f, n7f, n0t, n1f, n2f, n3f, if_true, if_false]
