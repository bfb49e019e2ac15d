/-! a month's end; pass in step -/
theorem Rel_month {σ0 μ0 s s' z ζ : Sg} (h : Rel σ0 μ0) (hm : mon σ0 < 600) (hF : ∀ k, (k = 1 ∨ 13 ≤ k ∧ k ≠ 32 ∧ k ≠ 33 ∧ k ≠ 17) → s.1 k = σ0.1 k) (hG : ∀ k, (k = 1 ∨ 13 ≤ k ∧ k ≠ 32 ∧ k ≠ 33 ∧ k ≠ 17) → s'.1 k = μ0.1 k) (hA : AG (cpN σ0 0) (cpN σ0 1) (cpN σ0 2) s s') (hsn : ∀ c, c < 25 → vp_in (s'.1 4 c) 10 ∧ vp_in (s'.1 5 c) 4) (hB : BL (300 + 31 * (mon σ0 : Int) + 31) (1000 + 3 * (mon σ0 : Int) + 3) s) (hW : BW (1125 * (mon σ0 : Int) + 1125) s) (h17 : ∀ x, cpN σ0 0 ≤ x → s'.1 17 x = μ0.1 17 x) (hR : RI s s' (cpN σ0 1) (mon σ0) (cpN σ0 1) z ζ) : Rel (si z 1 0 (z.1 1 0 + nI 1)) (si ζ 1 0 (ζ.1 1 0 + nI 1)) ∧ mon (si z 1 0 (z.1 1 0 + nI 1)) = mon σ0 + 1 := by
  obtain ⟨⟨hz, hz2⟩, ⟨hζ, hζ2⟩, h35, hold, hrd⟩ := hR
  have hO := Rel_c h
  obtain ⟨M, hM⟩ : ∃ M : Nat, M = mon σ0 := ⟨_, rfl⟩
  have m0 : σ0.1 1 0 = nI M := by
    rw [hM]
    exact vp_self hO.2.2.2.1
  have m1 : z.1 1 0 = nI M := by
    rw [hz 1 (by decide) (by decide), hF 1 (by omega)]
    exact m0
  have m2 : ζ.1 1 0 = nI M := by
    rw [hζ 1 (by decide), ← hA.cnt (k := 1) (by omega), hF 1 (by omega)]
    exact m0
  rw [m1, m2, nI_add]
  obtain ⟨τ, hτ⟩ : ∃ τ : Sg, τ = si z 1 0 (nI (M + 1)) := ⟨_, rfl⟩
  obtain ⟨ν, hν⟩ : ∃ ν : Sg, ν = si ζ 1 0 (nI (M + 1)) := ⟨_, rfl⟩
  rw [← hτ, ← hν]
  have t1 : τ.1 1 0 = nI (M + 1) := by rw [hτ, si_eq]
  have n1 : ν.1 1 0 = nI (M + 1) := by rw [hν, si_eq]
  have tz : ∀ k, k ≠ 1 → τ.1 k = z.1 k := fun k hk => by rw [hτ, si_ne hk]
  have nz : ∀ k, k ≠ 1 → ν.1 k = ζ.1 k := fun k hk => by rw [hν, si_ne hk]
  have ts : ∀ k, k ≠ 1 → k ≠ 35 → k < 40 → τ.1 k = s.1 k := fun k k1 k2 k3 => (tz k k1).trans (hz k k2 k3)
  have ns : ∀ k, k ≠ 1 → k ≠ 23 → ν.1 k = s'.1 k := fun k k1 k2 => (nz k k1).trans (hζ k k2)
  have t0 : ∀ k, 13 ≤ k → k ≠ 32 → k ≠ 33 → k ≠ 17 → k ≠ 35 → k < 40 → τ.1 k = σ0.1 k := fun k k1 k2 k3 k4 k5 k6 => (ts k (by omega) k5 k6).trans (hF k (by omega))
  have n0 : ∀ k, 13 ≤ k → k ≠ 32 → k ≠ 33 → k ≠ 17 → k ≠ 23 → ν.1 k = μ0.1 k := fun k k1 k2 k3 k4 k5 => (ns k (by omega) k5).trans (hG k (by omega))
  have em : mon τ = M + 1 := by
    unfold mon
    rw [t1, nI_clamp (by omega)]
  have cN : ∀ L, cpN τ L = cpN σ0 L := fun L => by
    unfold cpN
    rcases cpF_3 L with q | q | q <;> rw [q, t0 _ (by omega) (by omega) (by omega) (by omega) (by omega) (by omega)]
  have e22 : ∀ b, sk s b = (σ0.1 22 b).toNatClampNeg := fun b => by
    unfold sk
    rw [hF 22 (by omega)]
  rw [← hM] at hm hB hW h35 hold hrd
  obtain ⟨h1, h2, h3, h4, h5, h6, h7, h8⟩ := id h
  have hRD : RD τ ν := fun b hb => by
    rw [cN] at hb
    obtain ⟨⟨g1, g2, g3⟩, g4⟩ := h5 b hb
    rw [← hM] at g2 g3 g4
    rw [t0 22 (by omega) (by omega) (by omega) (by omega) (by omega) (by omega), em]
    refine ⟨⟨g1, by omega, ?_⟩, fun m l b1 b2 b3 => ?_⟩
    · rw [tz 35 (by omega), h35 b hb, if_pos hb, e22, show M - (σ0.1 22 b).toNatClampNeg + 1 = M + 1 - (σ0.1 22 b).toNatClampNeg by omega]
    · rw [tz _ (by omega), nz 23 (by omega), ← e22]
      exact hrd b hb m l (by rw [e22]; exact b1) (by rw [if_pos hb]; exact b2) b3
  have hmo : vp_in (τ.1 1 0) 601 := by
    rw [t1]
    exact vp_in_nI (by omega) (by decide)
  refine ⟨⟨⟨fun k j hv => ?_, fun k u1 u2 => ?_⟩, ?_, ?_, ?_, hRD, ?_, ⟨?_, fun k hk => ?_⟩, fun x hx h10 => ?_⟩, by rw [em, hM]⟩
  · rw [cN, cN, cN] at hv
    by_cases q : k = 1
    · subst q
      have hj : j = 0 := by unfold vis at hv; omega
      subst hj
      rw [t1, n1]
    · have hk : k ≠ 35 ∧ k < 40 ∧ k ≠ 23 := by unfold vis at hv; omega
      rw [ts k q hk.1 hk.2.1, ns k q hk.2.2]
      exact hA.1 k j hv
  · rw [hτ, hν, si_2, si_2, hz2, hζ2]
    exact hA.2 k u1 u2
  · unfold mOK at h2 ⊢
    rw [n0 13 (by omega) (by omega) (by omega) (by omega) (by omega), n0 19 (by omega) (by omega) (by omega) (by omega) (by omega), n0 24 (by omega) (by omega) (by omega) (by omega) (by omega), n0 14 (by omega) (by omega) (by omega) (by omega) (by omega), n0 15 (by omega) (by omega) (by omega) (by omega) (by omega), n0 18 (by omega) (by omega) (by omega) (by omega) (by omega), n0 20 (by omega) (by omega) (by omega) (by omega) (by omega), ns 4 (by omega) (by omega), ns 5 (by omega) (by omega), n1, nI_clamp (show M + 1 < 2 ^ 31 by omega)]
    have eM : (μ0.1 1 0).toNatClampNeg = M := by
      rw [← h1.cnt (k := 1) (by omega), m0, nI_clamp (by omega)]
    rw [eM] at h2
    refine ⟨h2.1, h2.2.1, h2.2.2.1, vp_in_nI (by omega) (by decide), fun x hx => ?_, h2.2.2.2.2.2.1, hsn⟩
    obtain ⟨g1, g2, g3, g4⟩ := h2.2.2.2.2.1 x hx
    exact ⟨g1, g2, g3, by omega⟩
  · rw [em]
    exact (BL_of (fun k k1 k2 j hj => by rw [ts k (by omega) (by omega) (by omega)]) hB).mono (by omega) (by omega)
  · rw [em]
    have q := BW_of (τ := τ) (fun c hc => by rw [ts 3 (by omega) (by omega) (by omega)]) hW
    exact ⟨q.1, Int.le_trans q.2 (by omega)⟩
  · unfold HS at h6 ⊢
    rw [cN, t0 36 (by omega) (by omega) (by omega) (by omega) (by omega) (by omega), t0 14 (by omega) (by omega) (by omega) (by omega) (by omega) (by omega)]
    exact h6
  · have g := h7.1
    unfold cCl at g ⊢
    rw [cN, cN, t0 37 (by omega) (by omega) (by omega) (by omega) (by omega) (by omega), t0 39 (by omega) (by omega) (by omega) (by omega) (by omega) (by omega), t0 18 (by omega) (by omega) (by omega) (by omega) (by omega) (by omega)]
    exact g
  · rw [cN] at hk
    obtain ⟨g1, g2⟩ := h7.2 k hk
    have g3 := (h7.1 k hk).1
    rw [em, t0 37 (by omega) (by omega) (by omega) (by omega) (by omega) (by omega), t0 38 (by omega) (by omega) (by omega) (by omega) (by omega) (by omega), t0 39 (by omega) (by omega) (by omega) (by omega) (by omega) (by omega), t0 25 (by omega) (by omega) (by omega) (by omega) (by omega) (by omega), g2]
    rw [← hM] at g1
    refine ⟨by omega, (amt_congr (by rw [t0 18 (by omega) (by omega) (by omega) (by omega) (by omega) (by omega)]) (fun m hm2 => ?_)).symm⟩
    have vp5 := (hO.2.2.2.2.1 _ g3).2.1
    have f19 : τ.1 19 = σ0.1 19 := t0 19 (by omega) (by omega) (by omega) (by omega) (by omega) (by omega)
    unfold k_wasReadThawed
    rw [f19]
    refine er_congr _ (fun i hi => ?_)
    have hi2 : i < cpN σ0 1 := hi
    have r0 := h.rb hi2
    have r1 : RB τ i := (hRD i (by rw [cN]; exact hi2)).1
    have f22 : τ.1 22 = σ0.1 22 := t0 22 (by omega) (by omega) (by omega) (by omega) (by omega) (by omega)
    have f15 : τ.1 15 = σ0.1 15 := t0 15 (by omega) (by omega) (by omega) (by omega) (by omega) (by omega)
    have f20 : τ.1 20 = σ0.1 20 := t0 20 (by omega) (by omega) (by omega) (by omega) (by omega) (by omega)
    have f14 : τ.1 14 = σ0.1 14 := t0 14 (by omega) (by omega) (by omega) (by omega) (by omega) (by omega)
    have a0 := has_eq r0 hO.2.2.2.1 (m := m) (by omega)
    have a1 := has_eq r1 hmo (m := m) (by omega)
    unfold k_wasReadThawed_b2
    rw [a0, a1, f22, f15, f20, f14]
    by_cases q : m < (σ0.1 22 i).toNatClampNeg
    · rw [if_pos q, if_pos n0_eq, if_pos n0_eq]
    · rw [if_neg q, if_neg n1_ne, if_neg n1_ne]
      have b0 := at_eq r0 hO.2.2.2.1 (m := m) (by omega) (by omega) vp5
      have b1 := at_eq r1 hmo (m := m) (by rw [f22]; omega) (by omega) vp5
      have l5 := vp_lt vp5
      rw [b0, b1, f22, tz _ (by omega), ← e22, hold i hi2 _ (by rw [e22]; omega), hF _ (by omega)]
  · rw [cN] at hx
    rw [ns 17 (by omega) (by omega), h17 x hx]
    exact h8 x hx h10
theorem passOne_0 {μ : Sg} {air snow : Int32} : (m_passOne_s μ air snow).1 0 = μ.1 0 := by
  have e : m_passOne_s μ air snow = si (lp m_passOne_b169 ((μ.1 19 0).toNatClampNeg) (lp m_passOne_b116 ((μ.1 13 0).toNatClampNeg) (lp (m_passOne_b96 air) 25 (if (-20) < air then lp m_passOne_b67 25 (lp m_passOne_b48 125 (m_heat_s (lp (m_passOne_b2 air snow) 25 μ) air)) else m_crack_s (lp m_passOne_b67 25 (lp m_passOne_b48 125 (m_heat_s (lp (m_passOne_b2 air snow) 25 μ) air))))))) 1 0 ((lp m_passOne_b169 ((μ.1 19 0).toNatClampNeg) (lp m_passOne_b116 ((μ.1 13 0).toNatClampNeg) (lp (m_passOne_b96 air) 25 (if (-20) < air then lp m_passOne_b67 25 (lp m_passOne_b48 125 (m_heat_s (lp (m_passOne_b2 air snow) 25 μ) air)) else m_crack_s (lp m_passOne_b67 25 (lp m_passOne_b48 125 (m_heat_s (lp (m_passOne_b2 air snow) 25 μ) air))))))).1 1 0 + nI 1) := rfl
  rw [e, si_ne (by decide), m_p169 0 (by decide), m_p116 0 (by decide), m_p96 0 (by decide), m_pcr 0 (by decide), m_p67 0 (by decide), m_p48 0 (by decide), m_heat_k 0 (by decide), m_p2 0 (by decide)]
theorem Rel_passOne {σ μ : Sg} (h : Rel σ μ) (hm : mon σ < 600) {air snow : Int32} (a0 : -50 ≤ air.toInt) (a1 : air.toInt ≤ 30) (w0 : 0 ≤ snow.toInt) (w9 : snow.toInt ≤ 9) : Rel (k_passOneMonth_s σ air snow) (m_passOne_s μ air snow) ∧ mon (k_passOneMonth_s σ air snow) = mon σ + 1 := by
  have hO := Rel_c h
  have n10 := vp_lt hO.1
  have b10 := vp_lt hO.2.1
  have c0 : cpN σ 0 = (σ.1 13 0).toNatClampNeg := rfl
  have c1 : cpN σ 1 = (σ.1 19 0).toNatClampNeg := rfl
  have d0 : (μ.1 13 0).toNatClampNeg = cpN σ 0 := h.1.n0.symm
  have d1 : (μ.1 19 0).toNatClampNeg = cpN σ 1 := h.1.n1.symm
  obtain ⟨s1, e1⟩ : ∃ s : Sg, s = k_letSnow_s σ air snow := ⟨_, rfl⟩
  obtain ⟨t1, f1⟩ : ∃ s : Sg, s = lp (m_passOne_b2 air snow) 25 μ := ⟨_, rfl⟩
  have P1 := ph_snow (PH.start h) (air := air) (snow := snow) w0 w9
  rw [← e1, ← f1] at P1
  obtain ⟨s2, e2⟩ : ∃ s : Sg, s = k_leadHeat_s s1 air := ⟨_, rfl⟩
  obtain ⟨t2, f2⟩ : ∃ s : Sg, s = lp (m_heat_b27 air) 25 (lp m_heat_b2 125 t1) := ⟨_, rfl⟩
  have P2 := ph_lead P1 (by omega) (by omega) a0 a1
  rw [← e2, ← f2] at P2
  obtain ⟨s3, e3⟩ : ∃ s : Sg, s = k_heatByHouses_s s2 air := ⟨_, rfl⟩
  obtain ⟨t3, f3⟩ : ∃ s : Sg, s = lp (m_heat_b194 air) ((t1.1 13 0).toNatClampNeg) t2 := ⟨_, rfl⟩
  have g3 : k_heatByHouses_s s2 air = lp (k_heatByHouses_b2 air) ((s2.1 13 0).toNatClampNeg) s2 := rfl
  have P3 := ph_houses P2 (by omega) (by omega) (fun x hx => (hO.2.2.2.2.1 x hx).1) air (n := (s2.1 13 0).toNatClampNeg) (m := (t1.1 13 0).toNatClampNeg) (by rw [P2.1.1 13 (by omega)]; rfl) (by rw [P1.1.2 13 (by omega)]; exact d0)
  rw [← g3, ← e3, ← f3] at P3
  obtain ⟨s4, e4⟩ : ∃ s : Sg, s = k_letMeltedExcessOut_s s3 := ⟨_, rfl⟩
  obtain ⟨t4, f4⟩ : ∃ s : Sg, s = lp m_passOne_b48 125 t3 := ⟨_, rfl⟩
  have P4 := ph_sink P3 (by omega) (by omega)
  rw [← e4, ← f4] at P4
  obtain ⟨s5, e5⟩ : ∃ s : Sg, s = k_letPondsFlow_s s4 := ⟨_, rfl⟩
  obtain ⟨t5, f5⟩ : ∃ s : Sg, s = lp m_passOne_b67 25 t4 := ⟨_, rfl⟩
  have P5 := ph_flow P4 (by omega)
  rw [← e5, ← f5] at P5
  obtain ⟨s6, e6⟩ : ∃ s : Sg, s = k_crackColdest_s s5 air := ⟨_, rfl⟩
  obtain ⟨t6, f6⟩ : ∃ s : Sg, s = if (-20) < air then t5 else m_crack_s t5 := ⟨_, rfl⟩
  have P6 := ph_crack P5 (by omega) (by omega) air
  rw [← e6, ← f6] at P6
  obtain ⟨s7, e7⟩ : ∃ s : Sg, s = k_wakeCarbon_s s6 air := ⟨_, rfl⟩
  obtain ⟨t7, f7⟩ : ∃ s : Sg, s = lp (m_passOne_b96 air) 25 t6 := ⟨_, rfl⟩
  have P7 := ph_wake P6 (by omega) (by omega) (by omega) (by omega) air
  rw [← e7, ← f7] at P7
  obtain ⟨s8, e8⟩ : ∃ s : Sg, s = lp k_tiltHouses_b2 (cpN σ 0) s7 := ⟨_, rfl⟩
  obtain ⟨t8, f8⟩ : ∃ s : Sg, s = lp m_passOne_b116 (cpN σ 0) t7 := ⟨_, rfl⟩
  have P8 := ph_tilt P7.2.1 (fun x hx => by
    rw [P7.1.1 14 (by omega), P7.1.1 15 (by omega)]
    exact ⟨(hO.2.2.2.2.1 x hx).1, (hO.2.2.2.2.1 x hx).2.1⟩)
  rw [← e8, ← f8] at P8
  obtain ⟨A8, ⟨k8, l8⟩, h17⟩ := P8
  have hF : ∀ k, (k = 1 ∨ 13 ≤ k ∧ k ≠ 32 ∧ k ≠ 33 ∧ k ≠ 17) → s8.1 k = σ.1 k := fun k hk => (k8 k (by omega)).trans (P7.1.1 k (by omega))
  have hG : ∀ k, (k = 1 ∨ 13 ≤ k ∧ k ≠ 32 ∧ k ≠ 33 ∧ k ≠ 17) → t8.1 k = μ.1 k := fun k hk => (l8 k (by omega)).trans (P7.1.2 k (by omega))
  obtain ⟨s9, e9⟩ : ∃ s : Sg, s = lp k_readBoreholes_b2 (cpN σ 1) s8 := ⟨_, rfl⟩
  obtain ⟨t9, f9⟩ : ∃ s : Sg, s = lp m_passOne_b169 (cpN σ 1) t8 := ⟨_, rfl⟩
  have hsk : ∀ b, sk s8 b = (σ.1 22 b).toNatClampNeg := fun b => by
    unfold sk
    rw [hF 22 (by omega)]
  have P9 := ph_read (M := mon σ) A8 (by omega) (by rw [hF 1 (by omega)]; exact vp_self hO.2.2.2.1) hm (fun b hb => by
    rw [hF 22 (by omega), hsk]
    exact ⟨(h.rb hb).1, (h.rb hb).2.1⟩) (fun b hb => by
    rw [hF 20 (by omega)]
    exact hO.2.2.2.2.2 b hb) (fun b hb => by
    rw [hF 35 (by omega), hsk]
    exact (h.rb hb).2.2) (fun b hb m l b1 b2 b3 => by
    rw [hF _ (by omega), hG 23 (by omega), hsk]
    rw [hsk] at b1
    exact (h.2.2.2.2.1 b hb).2 m l b1 b2 b3)
  rw [← e9, ← f9] at P9
  have key := Rel_month h hm hF hG A8 (fun c hc => by
    rw [l8 4 (by decide), l8 5 (by decide)]
    exact P7.2.2.1 c hc) ((BL_of (fun k k1 k2 j hj => by rw [k8 k (by omega)]) P7.2.2.2.1).mono (by omega) (Int.le_refl _)) (BW_of (fun c hc => by rw [k8 3 (by decide)]) P7.2.2.2.2) (fun x hx => by
    rw [h17 x hx, P7.1.2 17 (by omega)]) P9
  have ek : k_passOneMonth_s σ air snow = si s9 1 0 (s9.1 1 0 + nI 1) := by
    have q7 : (s7.1 13 0).toNatClampNeg = cpN σ 0 := by rw [P7.1.1 13 (by omega)]; rfl
    have q8 : (s8.1 19 0).toNatClampNeg = cpN σ 1 := by rw [hF 19 (by omega)]; rfl
    rw [e9, ← q8, e8, ← q7, e7, e6, e5, e4, e3, e2, e1]
    rfl
  have et : m_passOne_s μ air snow = si t9 1 0 (t9.1 1 0 + nI 1) := by
    rw [f9, f8, ← d0, ← d1, f7, f6, f5, f4, f3, f2, f1]
    rfl
  rw [ek, et]
  exact key
theorem q_pass : lp_pass Rel := fun σ μ months air snow h => by
  rcases wi_rg months (nI 1) (nI 24) with ⟨a1, b1⟩ | ⟨a1, b1, c1⟩
  · have ex : kx_pass σ months air snow = 2 := by simp only [kx_pass, b1, xs_2]
    have es : m_pass_s μ months air snow = si μ 0 0 (nI 1) := by simp only [m_pass_k68_s, m_pass_j65_s, m_pass_j36_s, m_pass_s, a1, ref_s, ref_v, n0t, n1f, n2f, if_true, if_false]
    rw [ex, es, if_neg ne20]
    exact ⟨Rel_0 _ h, si_eq, fun q => absurd q ne20⟩
  · rcases wi_rg air (-50) (nI 30) with ⟨a2, b2⟩ | ⟨a2, b2, c2⟩
    · have ex : kx_pass σ months air snow = 2 := by simp only [kx_pass, b1, b2, xs_0, xs_2]
      have es : m_pass_s μ months air snow = si μ 0 0 (nI 1) := by simp only [m_pass_k68_s, m_pass_j65_s, m_pass_j36_s, m_pass_s, a1, a2, ref_s, ref_v, n0t, n1f, n2f, if_true, if_false]
      rw [ex, es, if_neg ne20]
      exact ⟨Rel_0 _ h, si_eq, fun q => absurd q ne20⟩
    · rcases wi_rg snow (nI 0) (nI 9) with ⟨a3, b3⟩ | ⟨a3, b3, c3⟩
      · have ex : kx_pass σ months air snow = 2 := by simp only [kx_pass, b1, b2, b3, xs_0, xs_2]
        have es : m_pass_s μ months air snow = si μ 0 0 (nI 1) := by simp only [m_pass_k68_s, m_pass_j65_s, m_pass_j36_s, m_pass_s, a1, a2, a3, ref_s, ref_v, n0t, n1f, n2f, if_true, if_false]
        rw [ex, es, if_neg ne20]
        exact ⟨Rel_0 _ h, si_eq, fun q => absurd q ne20⟩
      · have kN : ((-50 : Int32)).toInt = -50 := by decide
        have k24 : (nI 24).toInt = 24 := by decide
        have d1 := c1.1
        have d2 := c1.2
        have d3 := c2.1
        have d4 := c2.2
        have d5 := c3.1
        have d6 := c3.2
        rw [k_1] at d1
        rw [k24] at d2
        rw [kN] at d3
        rw [k_30] at d4
        rw [k_0] at d5
        rw [k_9] at d6
        have hO := Rel_c h
        have e1 := h.1.cnt (k := 1) (by omega)
        have lm := vp_lt hO.2.2.2.1
        have hmn : (σ.1 1 0).toNatClampNeg = mon σ := rfl
        have sm : σ.1 1 0 = nI (mon σ) := vp_self hO.2.2.2.1
        have vm : vp_in months 25 := vp_in_iff.mpr ⟨by omega, by omega⟩
        have sn := vp_self vm
        have ln := vp_lt vm
        obtain ⟨n, hn⟩ : ∃ n : Nat, n = months.toNatClampNeg := ⟨_, rfl⟩
        rw [← hn] at sn ln
        have hsum : σ.1 1 0 + months = nI (mon σ + n) := by rw [sm, sn, nI_add]
        by_cases q : mon σ + n ≤ 600
        · have q1 : ¬ nI 600 < σ.1 1 0 + months := by
            rw [hsum]
            exact fun y => by have := (nI_ltI (by omega) (by omega)).mp y; omega
          have q2 : μ.1 1 0 + months ≤ nI 600 := by
            rw [← e1, hsum]
            exact (nI_leI (by omega) (by omega)).mpr q
          have ex : kx_pass σ months air snow = 0 := by simp only [kx_pass, b1, b2, b3, xs_0, if_neg q1, xSt, n1f, if_false]
          have es : m_pass_s μ months air snow = lp (m_pass_b76 air snow) n (si μ 0 0 (nI 0)) := by
            rw [hn]
            simp only [m_pass_x76_s, m_pass_k68_s, m_pass_j65_s, m_pass_j36_s, m_pass_s, a1, a2, a3, if_pos q2, ref_s, ref_v, n0t, n1f, n2f, if_true, if_false]
          have ev : m_pass μ months air snow = (lp (m_pass_b76 air snow) n (si μ 0 0 (nI 0))).1 1 0 := by
            rw [hn]
            simp only [m_pass_x76, m_pass_k68, m_pass_j65, m_pass_j36, m_pass, a1, a2, a3, if_pos q2, ref_s, ref_v, n0t, n1f, n2f, if_true, if_false]
          have ks : k_pass_s σ months air snow = lp (k_pass_b45 air snow) n σ := by rw [hn]; rfl
          have kv : k_pass σ months air snow = (lp (k_pass_b45 air snow) n σ).1 1 0 := by rw [hn]; rfl
          have key := lp_rel (P := fun i z ζ => Rel z ζ ∧ mon z = mon σ + i ∧ ζ.1 0 0 = nI 0) (f := k_pass_b45 air snow) (g := m_pass_b76 air snow) (x := σ) (y := si μ 0 0 (nI 0)) (N := n) ⟨Rel_0 (nI 0) h, rfl, si_eq⟩ (fun i z ζ hi hz => by
            have ez : k_pass_b45 air snow i z = k_passOneMonth_s z air snow := rfl
            have eζ : m_pass_b76 air snow i ζ = m_passOne_s ζ air snow := rfl
            rw [ez, eζ]
            obtain ⟨g1, g2⟩ := Rel_passOne hz.1 (by rw [hz.2.1]; omega) d3 d4 d5 d6
            exact ⟨g1, by rw [g2, hz.2.1, Nat.add_assoc], by rw [passOne_0]; exact hz.2.2⟩) n (Nat.le_refl _)
          rw [ex, es, ev, ks, kv, if_pos rfl]
          refine ⟨key.1, key.2.2, fun _ => key.1.1.cnt (by omega)⟩
        · have q1 : nI 600 < σ.1 1 0 + months := by
            rw [hsum]
            exact (nI_ltI (by omega) (by omega)).mpr (by omega)
          have q2 : ¬ μ.1 1 0 + months ≤ nI 600 := by
            rw [← e1, hsum]
            exact fun y => q ((nI_leI (by omega) (by omega)).mp y)
          have ex : kx_pass σ months air snow = 3 := by simp only [kx_pass, b1, b2, b3, xs_0, if_pos q1, xSt, n0t, if_true, xs_3]
          have es : m_pass_s μ months air snow = si μ 0 0 (nI 2) := by simp only [m_pass_k68_s, m_pass_j65_s, m_pass_j36_s, m_pass_s, a1, a2, a3, if_neg q2, ref_s, ref_v, n0t, n1f, n2f, if_true, if_false]
          rw [ex, es, if_neg ne30]
          exact ⟨Rel_0 _ h, si_eq, fun q => absurd q ne30⟩
