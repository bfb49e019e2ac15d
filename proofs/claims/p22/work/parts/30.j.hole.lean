/-! borehole -/
theorem mOK_19 {ν μ : Sg} (G : ∀ k, k ≠ 19 → k ≠ 20 → k ≠ 21 → k ≠ 22 → k ≠ 0 → ν.1 k = μ.1 k) (h19 : vp_in (ν.1 19 0) 11) (h20 : ∀ b, b < (ν.1 19 0).toNatClampNeg → vp_in (ν.1 20 b) 25) (h : mOK μ) : mOK ν := by
  unfold mOK at h ⊢
  rw [G 13 (by omega) (by omega) (by omega) (by omega) (by omega), G 24 (by omega) (by omega) (by omega) (by omega) (by omega), G 1 (by omega) (by omega) (by omega) (by omega) (by omega), G 14 (by omega) (by omega) (by omega) (by omega) (by omega), G 15 (by omega) (by omega) (by omega) (by omega) (by omega), G 18 (by omega) (by omega) (by omega) (by omega) (by omega), G 4 (by omega) (by omega) (by omega) (by omega) (by omega), G 5 (by omega) (by omega) (by omega) (by omega) (by omega)]
  exact ⟨h.1, h19, h.2.2.1, h.2.2.2.1, h.2.2.2.2.1, h20, h.2.2.2.2.2.2⟩
theorem Rel_hole {σ μ : Sg} (h : Rel σ μ) {cell dr : Int32} (hc : vp_in cell 25) (hn : cpN σ 1 < 10) : Rel (gB σ cell dr (nI (mon σ))) (si (si (si (si (si μ 0 0 (nI 0)) 20 (cpN σ 1) cell) 21 (cpN σ 1) dr) 22 (cpN σ 1) (nI (mon σ))) 19 0 (nI (cpN σ 1 + 1))) := by
  have hO := Rel_c h
  have lm := vp_lt h.mo
  have e1 : (σ.1 1 0).toNatClampNeg = mon σ := rfl
  have N1 := gB_N (σ := σ) (ce := cell) (dr := dr) (mo := nI (mon σ)) (by omega)
  have NM : ∀ M, M < 3 → M ≠ 1 → cpN (gB σ cell dr (nI (mon σ))) M = cpN σ M := fun M h1 h2 => gB_M h1 h2
  generalize hτ : gB σ cell dr (nI (mon σ)) = τ at N1 NM ⊢
  have F : ∀ k, (k ≠ 20 ∧ k ≠ 21 ∧ k ≠ 22 ∧ k ≠ 35 ∧ k ≠ 34 ∧ k ≠ 19 ∧ k ≠ 40 + cpN σ 1) → τ.1 k = σ.1 k := fun k hk => by rw [← hτ]; exact gB_k hk
  have f20 : τ.1 20 = upd (σ.1 20) (cpN σ 1) cell := by rw [← hτ]; exact gB_20
  have f21 : τ.1 21 = upd (σ.1 21) (cpN σ 1) dr := by rw [← hτ]; exact gB_21
  have f22 : τ.1 22 = upd (σ.1 22) (cpN σ 1) (nI (mon σ)) := by rw [← hτ]; exact gB_22
  have f35 : τ.1 35 = upd (σ.1 35) (cpN σ 1) 0 := by rw [← hτ]; exact gB_35
  have f19 : τ.1 19 = upd (σ.1 19) 0 (nI (cpN σ 1 + 1)) := by rw [← hτ]; exact gB_19
  have f2 : τ.2 = σ.2 := by rw [← hτ]; exact gB_2
  have em : mon τ = mon σ := by unfold mon; rw [F 1 (by omega)]
  have hamt : ∀ x t u, u.toNatClampNeg ≤ mon σ → k_claimAmount τ x t u = k_claimAmount σ x t u := fun x t u hu => by
    refine amt_congr (by rw [F 18 (by omega)]) (fun m hm => ?_)
    unfold k_wasReadThawed
    have n1 : (τ.1 19 0).toNatClampNeg = cpN σ 1 + 1 := N1
    have n2 : (σ.1 19 0).toNatClampNeg = cpN σ 1 := rfl
    rw [n1, n2]
    have hold : er (k_wasReadThawed_b2 τ x (nI m)) (cpN σ 1) = er (k_wasReadThawed_b2 σ x (nI m)) (cpN σ 1) := er_congr _ (fun i hi => by
      unfold k_wasReadThawed_b2 h_hasRead h_hasRead_j26 h_readingAt h_readingAt_j34
      rw [f20, f22, f35, upd_ne (by omega), upd_ne (by omega), upd_ne (by omega), F 14 (by omega), F 15 (by omega), F (40 + i) (by omega)])
    have hnew : k_wasReadThawed_b2 τ x (nI m) (cpN σ 1) = nI 0 := by
      unfold k_wasReadThawed_b2
      have hr : h_hasRead τ (cpN σ 1) (nI m) = nI 0 := by
        unfold h_hasRead h_hasRead_j26
        rw [f22, upd_eq, if_pos ((nI_ltI (by omega) (by omega)).mpr (by omega))]
      rw [hr, if_pos n0_eq]
      split <;> rfl
    show (if er (k_wasReadThawed_b2 τ x (nI m)) (cpN σ 1) = nI 0 then k_wasReadThawed_b2 τ x (nI m) (cpN σ 1) else er (k_wasReadThawed_b2 τ x (nI m)) (cpN σ 1)) = _
    rw [hold, hnew]
    by_cases q : er (k_wasReadThawed_b2 σ x (nI m)) (cpN σ 1) = nI 0
    · rw [if_pos q]; exact q.symm
    · rw [if_neg q]
  obtain ⟨h1, h2, h3, h4, h5, h6, h7, h8⟩ := h
  refine ⟨⟨fun k j hv => ?_, fun k q1 q2 => by rw [f2]; exact h1.2 k q1 q2⟩, mOK_19 (μ := μ) (fun k q1 q2 q3 q4 q5 => by rw [si_ne q1, si_ne q4, si_ne q3, si_ne q2, si_ne q5]) (by rw [si_eq]; exact vp_in_nI (by omega) (by decide)) (fun b hb => ?_) h2, ?_, ?_, fun b hb => ?_, ?_, ⟨fun k hk => ?_, fun k hk => ?_⟩, fun x hx h10 => ?_⟩
  · rw [NM 0 (by omega) (by omega), NM 2 (by omega) (by omega), N1] at hv
    by_cases q19 : k = 19
    · subst q19
      unfold vis at hv
      have hj : j = 0 := by omega
      subst hj
      rw [f19, upd_eq, si_eq]
    · by_cases q20 : k = 20
      · subst q20
        unfold vis at hv
        rw [f20, si_ne (by decide), si_ne (by decide), si_ne (by decide)]
        by_cases q : j = cpN σ 1
        · subst q
          rw [upd_eq, si_eq]
        · rw [upd_ne q, si_pj _ q, si_ne (by decide)]
          exact h1.hol (by omega) (by omega)
      · by_cases q21 : k = 21
        · subst q21
          unfold vis at hv
          rw [f21, si_ne (by decide), si_ne (by decide)]
          by_cases q : j = cpN σ 1
          · subst q
            rw [upd_eq, si_eq]
          · rw [upd_ne q, si_pj _ q, si_ne (by decide), si_ne (by decide)]
            exact h1.hol (by omega) (by omega)
        · by_cases q22 : k = 22
          · subst q22
            unfold vis at hv
            rw [f22, si_ne (by decide)]
            by_cases q : j = cpN σ 1
            · subst q
              rw [upd_eq, si_eq]
            · rw [upd_ne q, si_pj _ q, si_ne (by decide), si_ne (by decide), si_ne (by decide)]
              exact h1.hol (by omega) (by omega)
          · have hv2 : vis (cpN σ 0) (cpN σ 1) (cpN σ 2) k j := by
              unfold vis at hv ⊢
              omega
            have hk : k ≠ 35 ∧ k ≠ 34 ∧ k ≠ 40 + cpN σ 1 ∧ k ≠ 0 := by
              unfold vis at hv
              omega
            rw [F k (by omega), si_ne q19, si_ne q22, si_ne q21, si_ne q20, si_ne (by omega)]
            exact h1.1 k j hv2
  · rw [si_eq, nI_clamp (by omega)] at hb
    rw [si_ne (by decide), si_ne (by decide), si_ne (by decide)]
    by_cases q : b = cpN σ 1
    · subst q
      rw [si_eq]
      exact hc
    · rw [si_pj _ q, si_ne (by decide)]
      have e19 := h1.n1
      exact h2.2.2.2.2.2.1 b (by omega)
  · rw [em]
    exact BL_of (fun k q1 q2 j hj => by rw [F k (by omega)]) h3
  · rw [em]
    exact BW_of (fun c hc => by rw [F 3 (by omega)]) h4
  · rw [N1] at hb
    rw [em, f22, f35]
    by_cases q : b = cpN σ 1
    · subst q
      rw [upd_eq, upd_eq, nI_clamp (by omega), Nat.sub_self]
      exact ⟨⟨vp_in_nI (by omega) (by decide), Nat.le_refl _, rfl⟩, fun m y q1 q2 => absurd q2 (by omega)⟩
    · rw [upd_ne q, upd_ne q, F (40 + b) (by omega), si_ne (by decide), si_ne (by decide), si_ne (by decide), si_ne (by decide), si_ne (by decide)]
      exact h5 b (by omega)
  · unfold HS
    rw [NM 0 (by omega) (by omega), F 36 (by omega), F 14 (by omega)]
    exact h6
  · rw [NM 2 (by omega) (by omega)] at hk
    rw [NM 0 (by omega) (by omega), F 37 (by omega), F 39 (by omega), F 18 (by omega)]
    exact h7.1 k hk
  · rw [NM 2 (by omega) (by omega)] at hk
    obtain ⟨g1, g2⟩ := h7.2 k hk
    rw [em, F 37 (by omega), F 38 (by omega), F 39 (by omega), F 25 (by omega), hamt _ _ _ g1]
    exact ⟨g1, g2⟩
  · rw [NM 0 (by omega) (by omega)] at hx
    rw [si_ne (by decide), si_ne (by decide), si_ne (by decide), si_ne (by decide), si_ne (by decide)]
    exact h8 x hx h10
theorem q_borehole : lp_borehole Rel := fun σ μ cell dr h => by
  have e19 := h.1.cnt (k := 19) (by omega)
  have e1 := h.1.cnt (k := 1) (by omega)
  have hO := Rel_c h
  have l19 := vp_lt hO.2.1
  have s19 := vp_self hO.2.1
  have en : (σ.1 19 0).toNatClampNeg = cpN σ 1 := rfl
  rw [en] at l19 s19
  rcases wi_ix 24 (by decide) cell with ⟨a1, b1⟩ | ⟨a1, b1, c1⟩
  · have ex : kx_borehole σ cell dr = 1 := by simp only [kx_borehole, b1, xs_1]
    have es : m_borehole_s μ cell dr = si μ 0 0 (nI 1) := by simp only [m_borehole_k92, m_borehole_k92_s, m_borehole_k82, m_borehole_k82_s, m_borehole_k69, m_borehole_k69_s, m_borehole_k59, m_borehole_k59_s, m_borehole_k44, m_borehole_k44_s, m_borehole_j41, m_borehole_j41_s, m_borehole, m_borehole_s, m_isCell, a1, ref_s, ref_v, n0t, n1f, n2f, n3f, if_true, if_false]
    rw [ex, es, if_neg ne10]
    exact ⟨Rel_0 _ h, si_eq, fun q => absurd q ne10⟩
  · rcases wi_rg dr (-12) (nI 12) with ⟨a2, b2⟩ | ⟨a2, b2, c2⟩
    · have ex : kx_borehole σ cell dr = 2 := by simp only [kx_borehole, b1, b2, xs_0, xs_2]
      have es : m_borehole_s μ cell dr = si μ 0 0 (nI 2) := by simp only [m_borehole_k92, m_borehole_k92_s, m_borehole_k82, m_borehole_k82_s, m_borehole_k69, m_borehole_k69_s, m_borehole_k59, m_borehole_k59_s, m_borehole_k44, m_borehole_k44_s, m_borehole_j41, m_borehole_j41_s, m_borehole, m_borehole_s, m_isCell, a1, a2, ref_s, ref_v, n0t, n1f, n2f, n3f, if_true, if_false]
      rw [ex, es, if_neg ne20]
      exact ⟨Rel_0 _ h, si_eq, fun q => absurd q ne20⟩
    · by_cases hf : cpN σ 1 = 10
      · have t1 : nI 10 ≤ σ.1 19 0 := by rw [s19, hf]; decide
        have t2 : μ.1 19 0 = nI 10 := by rw [← e19, s19, hf]
        have ex : kx_borehole σ cell dr = 3 := by simp only [kx_borehole, b1, b2, xs_0, if_pos t1, xSt, n0t, if_true, xs_3]
        have es : m_borehole_s μ cell dr = si μ 0 0 (nI 3) := by simp only [m_borehole_k92, m_borehole_k92_s, m_borehole_k82, m_borehole_k82_s, m_borehole_k69, m_borehole_k69_s, m_borehole_k59, m_borehole_k59_s, m_borehole_k44, m_borehole_k44_s, m_borehole_j41, m_borehole_j41_s, m_borehole, m_borehole_s, m_isCell, a1, a2, if_pos t2, ref_s, ref_v, n0t, n1f, n2f, n3f, if_true, if_false]
        rw [ex, es, if_neg ne30]
        exact ⟨Rel_0 _ h, si_eq, fun q => absurd q ne30⟩
      · have t1 : ¬ nI 10 ≤ σ.1 19 0 := by rw [s19]; exact fun q => by have := (nI_leI (by decide) (by omega)).mp q; omega
        have u19 : μ.1 19 0 = nI (cpN σ 1) := by rw [← e19]; exact s19
        have t2 : ¬ μ.1 19 0 = nI 10 := fun q => hf (by have q2 : cpN σ 1 = (μ.1 19 0).toNatClampNeg := h.1.n1; rw [q2, q, nI_clamp (by decide)])
        have ex : kx_borehole σ cell dr = 0 := by simp only [kx_borehole, b1, b2, xs_0, if_neg t1, xSt, n1f, if_false]
        have u1 : μ.1 1 0 = nI (mon σ) := by rw [← e1]; exact vp_self h.mo
        have es : m_borehole_s μ cell dr = si (si (si (si (si μ 0 0 (nI 0)) 20 (cpN σ 1) cell) 21 (cpN σ 1) dr) 22 (cpN σ 1) (nI (mon σ))) 19 0 (nI (cpN σ 1 + 1)) := by
          simp only [m_borehole_k92, m_borehole_k92_s, m_borehole_k82, m_borehole_k82_s, m_borehole_k69, m_borehole_k69_s, m_borehole_k59, m_borehole_k59_s, m_borehole_k44, m_borehole_k44_s, m_borehole_j41, m_borehole_j41_s, m_borehole, m_borehole_s, m_isCell, a1, a2, if_neg t2, ref_s, ref_v, n0t, n1f, n2f, n3f, if_true, if_false, si_at, sl_at, sl_1, si_2, Nat.reduceEqDiff, false_and, and_self, true_and, and_true, if_false, if_true]
          rw [u19, u1, nI_clamp (by omega), nI_add]
        have ev : m_borehole μ cell dr = nI (cpN σ 1 + 1) - nI 1 := by
          simp only [m_borehole_k92, m_borehole_k92_s, m_borehole_k82, m_borehole_k82_s, m_borehole_k69, m_borehole_k69_s, m_borehole_k59, m_borehole_k59_s, m_borehole_k44, m_borehole_k44_s, m_borehole_j41, m_borehole_j41_s, m_borehole, m_borehole_s, m_isCell, a1, a2, if_neg t2, ref_s, ref_v, n0t, n1f, n2f, n3f, if_true, if_false, si_at, sl_at, sl_1, si_2, Nat.reduceEqDiff, false_and, and_self, true_and, and_true, if_false, if_true]
          rw [u19, nI_add]
        have ks : k_borehole_s σ cell dr = gB σ cell dr (nI (mon σ)) := rfl
        have kv : k_borehole σ cell dr = nI (cpN σ 1 + 1) - nI 1 := by
          show (gB σ cell dr (nI (mon σ))).1 19 0 - nI 1 = _
          rw [gB_19, upd_eq]
        rw [ex, es, ev, ks, kv, if_pos rfl]
        refine ⟨Rel_hole h c1 (by omega), ?_, fun _ => rfl⟩
        rw [si_ne (by decide), si_ne (by decide), si_ne (by decide), si_ne (by decide), si_eq]
        rfl
