/-! breach in step -/
theorem breach_core {σ μ : Sg} (h : Rel σ μ) {c : Nat} (hc : c < 25) (w : wet σ c) : (lp k_breach_b37 (k_gatherOneLake σ (nI c)).toNatClampNeg (nI 0, k_gatherOneLake_s σ (nI c))).1 = (lp (m_breach_b45 (nI c)) 25 (nI 0, m_gather_s μ)).1 ∧ Rel (sl (lp k_breach_b37 (k_gatherOneLake σ (nI c)).toNatClampNeg (nI 0, k_gatherOneLake_s σ (nI c))).2 29 ((lp k_breach_b37 (k_gatherOneLake σ (nI c)).toNatClampNeg (nI 0, k_gatherOneLake_s σ (nI c))).2.2 29 + (lp k_breach_b37 (k_gatherOneLake σ (nI c)).toNatClampNeg (nI 0, k_gatherOneLake_s σ (nI c))).1.toInt64)) (sl (lp (m_breach_b45 (nI c)) 25 (nI 0, m_gather_s μ)).2 29 ((lp (m_breach_b45 (nI c)) 25 (nI 0, m_gather_s μ)).2.2 29 + (lp (m_breach_b45 (nI c)) 25 (nI 0, m_gather_s μ)).1.toInt64)) ∧ (lp (m_breach_b45 (nI c)) 25 (nI 0, m_gather_s μ)).2.1 0 0 = μ.1 0 0 := by
  obtain ⟨n, e, hS, hL⟩ := one_lake (σ := σ) hc
  have hl := lake_list h hc hS hL (σ.1 3)
  have hin := fun c' (h' : c' < 25) => lake_in h hc h'
  have hG := (GI_s μ).1.1
  have hm := SU_0 (k_gatherOneLake_s σ (nI c))
  have hn5 := hS.2.2.2.2
  have hw2 : ¬ (m_gather_s μ).1 7 c = -1 := fun z => (lab_dry hc).mp z ((h.wets c hc).mp w)
  have hmu3 : ∀ c', c' < 25 → μ.1 3 c' = σ.1 3 c' := fun c' h' => (h.1.cell (k := 3) (by omega) h').symm
  have hlong := h.1.2
  rw [e, nI_clamp (by omega)]
  have hSl := fun i (hi : i < n) => SR_l hS hi
  generalize k_gatherOneLake_s σ (nI c) = τ at hS hL hl hm hn5 hSl ⊢
  generalize m_gather_s μ = ν at hl hin hG hw2 ⊢
  have hd : ∀ i j, i < n → j < n → (τ.1 32 i).toNatClampNeg = (τ.1 32 j).toNatClampNeg → i = j := fun i j hi hj q => hS.2.2.1 i j hi hj (by rw [(hSl i hi).2, (hSl j hj).2]; exact congrArg nI q)
  have kb := kb_loop hd n (Nat.le_refl _)
  have mb := mb_loop (ν := ν) hc 25 (Nat.le_refl _)
  generalize lp k_breach_b37 n (nI 0, τ) = z at kb ⊢
  generalize lp (m_breach_b45 (nI c)) 25 (nI 0, ν) = y at mb ⊢
  obtain ⟨⟨k1, k2, k3⟩, k4, k5⟩ := kb
  obtain ⟨⟨m1, m2, m3⟩, m5⟩ := mb
  have e3 : τ.1 3 = σ.1 3 := hS.1.1 3 (by decide) (by decide)
  have esum : z.1 = y.1 := by
    rw [k1, m1, e3, hl]
    refine (s32_cg (fun c' hc' => ?_)).symm
    rw [if_neg hw2, hG.1 3 (by decide), hmu3 c' hc']
  refine ⟨esum, ?_, ?_⟩
  · refine Rel_drain h (fun k q1 q2 q3 => ?_) (fun k q1 q2 q3 => ?_) (fun k q1 q2 => ?_) (fun c' hc' => ?_)
    · show z.2.1 k = _
      rw [k2 k q1]
      exact hS.1.1 k q2 q3
    · show y.2.1 k = _
      rw [m2 k q1]
      exact hG.1 k q2
    · rw [sl_at, sl_at, esum, k3, m3, hS.1.2, hG.2, hlong 29 (by omega) (by omega), hlong k q1 q2]
    · show z.2.1 3 c' = 0 ∧ y.2.1 3 c' = 0 ∨ z.2.1 3 c' = _ ∧ y.2.1 3 c' = _
      by_cases q : ν.1 7 c' = ν.1 7 c
      · obtain ⟨i, hi, ei⟩ := (hL c' hc').mpr ((hin c' hc').mpr ⟨hw2, q⟩)
        refine Or.inl ⟨?_, ?_⟩
        · have q2 := k4 i hi
          rw [ei, nI_clamp (by omega)] at q2
          exact q2
        · rw [m5, if_pos ⟨hc', q⟩]
      · refine Or.inr ⟨?_, ?_⟩
        · rw [k5 c' (fun ⟨i, hi, ei⟩ => q ((hin c' hc').mp ((hL c' hc').mp ⟨i, hi, by rw [(hSl i hi).2, ei]⟩)).2), e3]
        · rw [m5, if_neg (fun q2 => q q2.2), hG.1 3 (by decide)]
  · rw [m2 0 (by decide), hG.1 0 (by decide)]
theorem q_breach : lp_breach Rel := fun σ μ cell h => by
  rcases wi_ix 24 (by decide) cell with ⟨a1, b1⟩ | ⟨a1, b1, c1⟩
  · have ex : kx_breach σ cell = 1 := by simp only [kx_breach, b1, xs_1]
    have es : m_breach_s μ cell = si μ 0 0 (nI 1) := by simp only [m_breach_k31_s, m_breach_j28_s, m_breach_s, m_isCell, a1, ref_s, ref_v, n0t, n1f, n2f, if_true, if_false]
    rw [ex, es, if_neg ne10]
    exact ⟨Rel_0 _ h, si_eq, fun q => absurd q ne10⟩
  · have hs := vp_self c1
    have hl := vp_lt c1
    have e3 := h.1.cell (k := 3) (by omega) hl
    have hw := h.2.2.2.1.1 _ hl
    by_cases hL : σ.1 3 cell.toNatClampNeg ≤ 0
    · have h4' : μ.1 3 cell.toNatClampNeg = 0 := by
        rw [← e3]
        rw [i_le] at hL
        have q3 : (σ.1 3 cell.toNatClampNeg).toInt ≤ 0 := hL
        exact Int32.toInt_inj.mp (by show _ = (0 : Int); omega)
      have ex : kx_breach σ cell = 3 := by simp only [kx_breach, b1, xs_0, if_pos hL, xSt, n0t, if_true, xs_3]
      have es : m_breach_s μ cell = si μ 0 0 (nI 2) := by
        simp only [m_breach_k31_s, m_breach_j28_s, m_breach_s, m_isCell, a1, ref_s, ref_v, if_pos h4', n0t, n1f, n2f, if_true, if_false]
      rw [ex, es, if_neg ne30]
      exact ⟨Rel_0 _ h, si_eq, fun q => absurd q ne30⟩
    · have h4' : ¬ μ.1 3 cell.toNatClampNeg = 0 := fun q => hL (by rw [e3, q]; decide)
      have ex : kx_breach σ cell = 0 := by simp only [kx_breach, b1, xs_0, if_neg hL, xSt, n1f, if_false]
      obtain ⟨g1, g2, g3⟩ := breach_core (Rel_0 (nI 0) h) hl hL
      rw [← hs] at g1 g2 g3
      have es : m_breach_s μ cell = sl (lp (m_breach_b45 cell) 25 (nI 0, m_gather_s (si μ 0 0 (nI 0)))).2 29 ((lp (m_breach_b45 cell) 25 (nI 0, m_gather_s (si μ 0 0 (nI 0)))).2.2 29 + (lp (m_breach_b45 cell) 25 (nI 0, m_gather_s (si μ 0 0 (nI 0)))).1.toInt64) := by
        simp only [m_breach_k134_s, m_breach_x45_s, m_breach_k40_s, m_breach_k31_s, m_breach_j28_s, m_breach_s, m_isCell, a1, ref_s, ref_v, if_neg h4', n0t, n1f, n2f, if_true, if_false]
      have ev : m_breach μ cell = (lp (m_breach_b45 cell) 25 (nI 0, m_gather_s (si μ 0 0 (nI 0)))).1 := by
        simp only [m_breach_k134, m_breach_x45, m_breach_k40, m_breach_k31, m_breach_j28, m_breach, m_isCell, a1, ref_s, ref_v, if_neg h4', n0t, n1f, n2f, if_true, if_false]
      have ks : k_breach_s σ cell = sl (lp k_breach_b37 (k_gatherOneLake σ cell).toNatClampNeg (nI 0, k_gatherOneLake_s σ cell)).2 29 ((lp k_breach_b37 (k_gatherOneLake σ cell).toNatClampNeg (nI 0, k_gatherOneLake_s σ cell)).2.2 29 + (lp k_breach_b37 (k_gatherOneLake σ cell).toNatClampNeg (nI 0, k_gatherOneLake_s σ cell)).1.toInt64) := rfl
      have kv : k_breach σ cell = (lp k_breach_b37 (k_gatherOneLake σ cell).toNatClampNeg (nI 0, k_gatherOneLake_s σ cell)).1 := rfl
      rw [ex, es, ev, ks, kv, if_pos rfl]
      refine ⟨g2, ?_, fun _ => g1⟩
      rw [sl_1, g3]
      exact si_eq
