/-! claim and borehole -/
def WW (τ σ : Sg) : Prop := ∀ k, (k = 14 ∨ k = 15 ∨ k = 18 ∨ k = 19 ∨ k = 20 ∨ k = 22 ∨ k = 35 ∨ 40 ≤ k) → τ.1 k = σ.1 k
theorem WW.was {τ σ : Sg} (F : WW τ σ) : k_wasReadThawed_b2 τ = k_wasReadThawed_b2 σ := by
  funext h mo i
  unfold k_wasReadThawed_b2 h_hasRead h_hasRead_j26 h_readingAt h_readingAt_j34
  rw [F 20 (by omega), F 14 (by omega), F 22 (by omega), F 35 (by omega), F 15 (by omega), F (40 + i) (by omega)]
theorem WW.amt {τ σ : Sg} (F : WW τ σ) (h : Nat) (t u : Int32) : k_claimAmount τ h t u = k_claimAmount σ h t u := by
  have e : k_monthsReadThawed_b8 τ = k_monthsReadThawed_b8 σ := by
    funext h i z
    unfold k_monthsReadThawed_b8 k_monthsReadThawed_j27 k_wasReadThawed
    rw [F.was, F 18 (by omega), F 19 (by omega)]
  unfold k_claimAmount k_monthsReadThawed k_monthsReadThawed_x8
  rw [e, F 18 (by omega)]
theorem RD_k {τ ν σ μ : Sg} (hN : cpN τ 1 = cpN σ 1) (F : ∀ k, (k = 22 ∨ k = 35 ∨ k = 1 ∨ 40 ≤ k) → τ.1 k = σ.1 k) (G : ν.1 23 = μ.1 23) (h : RD σ μ) : RD τ ν := fun b hb => by
  rw [hN] at hb
  obtain ⟨h1, h2⟩ := h b hb
  have em : mon τ = mon σ := by unfold mon; rw [F 1 (by omega)]
  rw [F 22 (by omega), F 35 (by omega), F (40 + b) (by omega), em, G]
  exact ⟨h1, h2⟩
theorem mOK_24 {ν μ : Sg} (G : ∀ k, k ≠ 24 → k ≠ 25 → k ≠ 0 → ν.1 k = μ.1 k) (h24 : vp_in (ν.1 24 0) 41) (h : mOK μ) : mOK ν := by
  unfold mOK at h ⊢
  rw [G 13 (by omega) (by omega) (by omega), G 19 (by omega) (by omega) (by omega), G 1 (by omega) (by omega) (by omega), G 14 (by omega) (by omega) (by omega), G 15 (by omega) (by omega) (by omega), G 18 (by omega) (by omega) (by omega), G 20 (by omega) (by omega) (by omega), G 4 (by omega) (by omega) (by omega), G 5 (by omega) (by omega) (by omega)]
  exact ⟨h.1, h.2.1, h24, h.2.2.2⟩
theorem Rel_claim {σ μ : Sg} (h : Rel σ μ) {house : Int32} (hh : house.toNatClampNeg < cpN σ 0) (hn : cpN σ 2 < 40) {am : Int32} (ham : am = k_claimAmount σ house.toNatClampNeg (σ.1 17 house.toNatClampNeg) (σ.1 1 0)) : Rel (gC σ house (σ.1 17 house.toNatClampNeg) (σ.1 1 0) am) (si (si (si μ 0 0 (nI 0)) 25 (cpN σ 2) am) 24 0 (nI (cpN σ 2 + 1))) := by
  have hO := Rel_c h
  have N2 := gC_N (σ := σ) (ho := house) (ti := σ.1 17 house.toNatClampNeg) (fi := σ.1 1 0) (am := am) hn
  have NM : ∀ M, M < 3 → M ≠ 2 → cpN (gC σ house (σ.1 17 house.toNatClampNeg) (σ.1 1 0) am) M = cpN σ M := fun M h1 h2 => gC_M h1 h2
  generalize hτ : gC σ house (σ.1 17 house.toNatClampNeg) (σ.1 1 0) am = τ at N2 NM ⊢
  have F : ∀ k, (k ≠ 37 ∧ k ≠ 38 ∧ k ≠ 39 ∧ k ≠ 25 ∧ k ≠ 34 ∧ k ≠ 24) → τ.1 k = σ.1 k := fun k hk => by rw [← hτ]; exact gC_k hk
  have f37 : τ.1 37 = upd (σ.1 37) (cpN σ 2) house := by rw [← hτ]; exact gC_37
  have f38 : τ.1 38 = upd (σ.1 38) (cpN σ 2) (σ.1 17 house.toNatClampNeg) := by rw [← hτ]; exact gC_38
  have f39 : τ.1 39 = upd (σ.1 39) (cpN σ 2) (σ.1 1 0) := by rw [← hτ]; exact gC_39
  have f25 : τ.1 25 = upd (σ.1 25) (cpN σ 2) am := by rw [← hτ]; exact gC_25
  have f24 : τ.1 24 = upd (σ.1 24) 0 (nI (cpN σ 2 + 1)) := by rw [← hτ]; exact gC_24
  have f2 : τ.2 = σ.2 := by rw [← hτ]; exact gC_2
  have em : mon τ = mon σ := by unfold mon; rw [F 1 (by omega)]
  obtain ⟨h1, h2, h3, h4, h5, h6, h7, h8⟩ := h
  refine ⟨⟨fun k j hv => ?_, fun k q1 q2 => by rw [f2]; exact h1.2 k q1 q2⟩, mOK_24 (μ := μ) (fun k q1 q2 q3 => by rw [si_ne q1, si_ne q2, si_ne q3]) (by rw [si_eq]; exact vp_in_nI (by omega) (by decide)) h2, ?_, ?_, RD_k (NM 1 (by omega) (by omega)) (fun k hk => F k (by omega)) (by rw [si_ne (by decide), si_ne (by decide), si_ne (by decide)]) h5, ?_, ⟨fun k hk => ?_, fun k hk => ?_⟩, fun x hx h10 => ?_⟩
  · rw [NM 0 (by omega) (by omega), NM 1 (by omega) (by omega), N2] at hv
    by_cases q24 : k = 24
    · subst q24
      unfold vis at hv
      have hj : j = 0 := by omega
      subst hj
      rw [f24, upd_eq, si_eq]
    · by_cases q25 : k = 25
      · subst q25
        unfold vis at hv
        have hj : j < cpN σ 2 + 1 := by omega
        rw [f25, si_ne (by decide)]
        by_cases q : j = cpN σ 2
        · subst q
          rw [upd_eq, si_eq]
        · rw [upd_ne q, si_pj _ q, si_ne (by decide)]
          exact h1.clm (by omega)
      · have hv2 : vis (cpN σ 0) (cpN σ 1) (cpN σ 2) k j := by
          unfold vis at hv ⊢
          omega
        have hk : k ≠ 37 ∧ k ≠ 38 ∧ k ≠ 39 ∧ k ≠ 25 ∧ k ≠ 34 ∧ k ≠ 24 ∧ k ≠ 0 := by
          unfold vis at hv
          omega
        rw [F k (by omega), si_ne q24, si_ne q25, si_ne (by omega)]
        exact h1.1 k j hv2
  · rw [em]
    exact BL_of (fun k q1 q2 j hj => by rw [F k (by omega)]) h3
  · rw [em]
    exact BW_of (fun c hc => by rw [F 3 (by omega)]) h4
  · unfold HS
    rw [NM 0 (by omega) (by omega), F 36 (by omega), F 14 (by omega)]
    exact h6
  · rw [N2] at hk
    rw [NM 0 (by omega) (by omega), f37, f39, F 18 (by omega)]
    by_cases q : k = cpN σ 2
    · subst q
      rw [upd_eq, upd_eq]
      exact ⟨hh, hO.2.2.2.1, (hO.2.2.2.2.1 _ hh).2.2.2⟩
    · rw [upd_ne q, upd_ne q]
      exact h7.1 k (by omega)
  · rw [N2] at hk
    have W : WW τ σ := fun k hk => F k (by omega)
    rw [W.amt, em, f37, f38, f39, f25]
    by_cases q : k = cpN σ 2
    · subst q
      rw [upd_eq, upd_eq, upd_eq, upd_eq]
      exact ⟨Nat.le_refl _, ham⟩
    · rw [upd_ne q, upd_ne q, upd_ne q, upd_ne q]
      exact h7.2 k (by omega)
  · rw [NM 0 (by omega) (by omega)] at hx
    rw [si_ne (by decide), si_ne (by decide), si_ne (by decide)]
    exact h8 x hx h10
theorem q_claim : lp_claim Rel := fun σ μ house h => by
  have e13 := h.1.cnt (k := 13) (by omega)
  have e24 := h.1.cnt (k := 24) (by omega)
  have e1 := h.1.cnt (k := 1) (by omega)
  have hO := Rel_c h
  have l24 := vp_lt hO.2.2.1
  have s24 := vp_self hO.2.2.1
  have en : (σ.1 24 0).toNatClampNeg = cpN σ 2 := rfl
  rw [en] at l24 s24
  rcases wi_cnt h.2.1.1 (by decide) house with ⟨a1, b1⟩ | ⟨a1, b1, c1⟩
  · rw [← e13] at b1
    have ex : kx_claim σ house = 1 := by simp only [kx_claim, b1, xs_1]
    have es : m_claim_s μ house = si μ 0 0 (nI 1) := by simp only [m_claim_k61, m_claim_k61_s, m_claim_k51, m_claim_k51_s, m_claim_k32, m_claim_k32_s, m_claim_j29, m_claim_j29_s, m_claim, m_claim_s, m_isHouse, a1, ref_s, ref_v, n0t, n1f, n2f, n3f, if_true, if_false]
    rw [ex, es, if_neg ne10]
    exact ⟨Rel_0 _ h, si_eq, fun q => absurd q ne10⟩
  · rw [← e13] at b1 c1
    have hh : house.toNatClampNeg < cpN σ 0 := vp_lt c1
    by_cases hf : cpN σ 2 = 40
    · have t1 : nI 40 ≤ σ.1 24 0 := by rw [s24, hf]; decide
      have t2 : μ.1 24 0 = nI 40 := by rw [← e24, s24, hf]
      have ex : kx_claim σ house = 3 := by simp only [kx_claim, b1, xs_0, if_pos t1, xSt, n0t, if_true, xs_3]
      have es : m_claim_s μ house = si μ 0 0 (nI 2) := by simp only [m_claim_k61, m_claim_k61_s, m_claim_k51, m_claim_k51_s, m_claim_k32, m_claim_k32_s, m_claim_j29, m_claim_j29_s, m_claim, m_claim_s, m_isHouse, a1, if_pos t2, ref_s, ref_v, n0t, n1f, n2f, n3f, if_true, if_false]
      rw [ex, es, if_neg ne30]
      exact ⟨Rel_0 _ h, si_eq, fun q => absurd q ne30⟩
    · have t1 : ¬ nI 40 ≤ σ.1 24 0 := by rw [s24]; exact fun q => by have := (nI_leI (by decide) (by omega)).mp q; omega
      have t2 : ¬ μ.1 24 0 = nI 40 := fun q => hf (by have q2 : cpN σ 2 = (μ.1 24 0).toNatClampNeg := h.1.n2; rw [q2, q, nI_clamp (by decide)])
      have ex : kx_claim σ house = 0 := by simp only [kx_claim, b1, xs_0, if_neg t1, xSt, n1f, if_false]
      have hw := worth_eq (Rel_0 (nI 0) h) hh
      rw [← vp_self c1] at hw
      have u24 : μ.1 24 0 = nI (cpN σ 2) := by rw [← e24]; exact s24
      have es : m_claim_s μ house = si (si (si μ 0 0 (nI 0)) 25 (cpN σ 2) (m_worth (si μ 0 0 (nI 0)) house)) 24 0 (nI (cpN σ 2 + 1)) := by
        simp only [m_claim_k61, m_claim_k61_s, m_claim_k51, m_claim_k51_s, m_claim_k32, m_claim_k32_s, m_claim_j29, m_claim_j29_s, m_claim, m_claim_s, m_isHouse, a1, if_neg t2, ref_s, ref_v, n0t, n1f, n2f, n3f, if_true, if_false, si_at, sl_at, sl_1, si_2, Nat.reduceEqDiff, false_and, and_self, true_and, and_true, if_false, if_true]
        rw [u24, nI_clamp (by omega), nI_add]
      have ev : m_claim μ house = nI (cpN σ 2 + 1) - nI 1 := by
        simp only [m_claim_k61, m_claim_k61_s, m_claim_k51, m_claim_k51_s, m_claim_k32, m_claim_k32_s, m_claim_j29, m_claim_j29_s, m_claim, m_claim_s, m_isHouse, a1, if_neg t2, ref_s, ref_v, n0t, n1f, n2f, n3f, if_true, if_false, si_at, sl_at, sl_1, si_2, Nat.reduceEqDiff, false_and, and_self, true_and, and_true, if_false, if_true]
        rw [u24, nI_add]
      have ks : k_claim_s σ house = gC σ house (σ.1 17 house.toNatClampNeg) (σ.1 1 0) (k_claimAmount σ house.toNatClampNeg (σ.1 17 house.toNatClampNeg) (σ.1 1 0)) := rfl
      have kv : k_claim σ house = nI (cpN σ 2 + 1) - nI 1 := by
        show (gC σ house (σ.1 17 house.toNatClampNeg) (σ.1 1 0) (k_claimAmount σ house.toNatClampNeg (σ.1 17 house.toNatClampNeg) (σ.1 1 0))).1 24 0 - nI 1 = _
        rw [gC_24, upd_eq]
      rw [ex, es, ev, ks, kv, ← hw, if_pos rfl]
      refine ⟨Rel_claim h hh (by omega) rfl, ?_, fun _ => rfl⟩
      rw [si_ne (by decide), si_ne (by decide), si_eq]
      rfl
