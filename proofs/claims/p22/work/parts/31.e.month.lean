/-! a month: what balances goes on to balance; houses tilt by one at most -/
def TLo (σ : Sg) : Prop := (∀ h, h < cpN σ 0 → 0 ≤ (σ.1 17 h).toInt ∧ (σ.1 17 h).toInt + ((σ.1 18 h).toNatClampNeg : Int) ≤ (mon σ : Int)) ∧ ∀ k, k < cpN σ 2 → 0 ≤ (σ.1 25 k).toInt
def IV (σ : Sg) : Prop := (∃ μ, Rel σ μ) ∧ (∃ D S M : Int, CV D S M σ ∧ 0 ≤ M ∧ M ≤ 375000 * (mon σ : Int)) ∧ TLo σ
/-- 7: houses tilt -/
theorem tilt_i (s : Sg) (n : Nat) : ((∀ k, k ≠ 17 → (lp k_tiltHouses_b2 n s).1 k = s.1 k) ∧ (lp k_tiltHouses_b2 n s).2 = s.2) ∧ ∀ x, ((lp k_tiltHouses_b2 n s).1 17 x = s.1 17 x) ∨ (x < n ∧ (lp k_tiltHouses_b2 n s).1 17 x = s.1 17 x + nI 1) := by
  induction n with
  | zero => exact ⟨⟨fun _ _ => rfl, rfl⟩, fun _ => Or.inl rfl⟩
  | succ n ih =>
    have e : lp k_tiltHouses_b2 (n + 1) s = k_tiltHouses_b2 n (lp k_tiltHouses_b2 n s) := rfl
    rw [e]
    have ih0 : (lp k_tiltHouses_b2 n s).1 17 n = s.1 17 n := by
      rcases ih.2 n with q | q
      · exact q
      · exact absurd q.1 (by omega)
    generalize lp k_tiltHouses_b2 n s = z at ih ih0 ⊢
    obtain ⟨⟨h1, h2⟩, h3⟩ := ih
    have kz : k_tiltHouses_b2 n z = z ∨ k_tiltHouses_b2 n z = si z 17 n (z.1 17 n + nI 1) := by
      obtain ⟨v, hv⟩ : ∃ v : Int32, k_tiltHouses_b2 n z = if v = 0 then z else si z 17 n (z.1 17 n + nI 1) := ⟨_, rfl⟩
      rw [hv]
      by_cases q : v = 0
      · rw [if_pos q]; exact Or.inl rfl
      · rw [if_neg q]; exact Or.inr rfl
    rcases kz with kz | kz
    · rw [kz]
      exact ⟨⟨h1, h2⟩, fun x => (h3 x).imp id (fun q => ⟨by omega, q.2⟩)⟩
    · rw [kz]
      refine ⟨⟨fun k hk => by rw [si_ne hk]; exact h1 k hk, h2⟩, fun x => ?_⟩
      by_cases q : x = n
      · subst q
        rw [si_eq, ih0]
        exact Or.inr ⟨by omega, rfl⟩
      · rw [si_pj _ q]
        exact (h3 x).imp id (fun y => ⟨by omega, y.2⟩)
theorem passOne_IV {σ μ : Sg} (h : Rel σ μ) (hm : mon σ < 600) {air snow : Int32} (a0 : -50 ≤ air.toInt) (a1 : air.toInt ≤ 30) (w0 : 0 ≤ snow.toInt) (w9 : snow.toInt ≤ 9) {D S M : Int} (hv : CV D S M σ) (ht : TLo σ) : (∃ S' M', CV D S' M' (k_passOneMonth_s σ air snow) ∧ M ≤ M' ∧ M' ≤ M + 375000) ∧ TLo (k_passOneMonth_s σ air snow) ∧ ∀ k, (k = 13 ∨ k = 19 ∨ k = 22 ∨ k = 24) → (k_passOneMonth_s σ air snow).1 k = σ.1 k := by
  have hmon := (Rel_passOne h hm a0 a1 w0 w9).2
  have hO := Rel_c h
  have n10 := vp_lt hO.1
  have b10 := vp_lt hO.2.1
  have c0 : cpN σ 0 = (σ.1 13 0).toNatClampNeg := rfl
  have c1 : cpN σ 1 = (σ.1 19 0).toNatClampNeg := rfl
  have d0 : (μ.1 13 0).toNatClampNeg = cpN σ 0 := h.1.n0.symm
  obtain ⟨s1, e1⟩ : ∃ s : Sg, s = k_letSnow_s σ air snow := ⟨_, rfl⟩
  obtain ⟨t1, f1⟩ : ∃ s : Sg, s = lp (m_passOne_b2 air snow) 25 μ := ⟨_, rfl⟩
  have P1 := ph_snow (PH.start h) (air := air) (snow := snow) w0 w9
  have V1 := cv_snow hv air snow
  rw [← e1] at V1
  rw [← e1, ← f1] at P1
  obtain ⟨s2, e2⟩ : ∃ s : Sg, s = k_leadHeat_s s1 air := ⟨_, rfl⟩
  obtain ⟨t2, f2⟩ : ∃ s : Sg, s = lp (m_heat_b27 air) 25 (lp m_heat_b2 125 t1) := ⟨_, rfl⟩
  have P2 := ph_lead P1 (by omega) (by omega) a0 a1
  have V2 := cv_lead P1 (by omega) (by omega) a0 a1 V1
  rw [← e2] at V2
  rw [← e2, ← f2] at P2
  obtain ⟨s3, e3⟩ : ∃ s : Sg, s = k_heatByHouses_s s2 air := ⟨_, rfl⟩
  obtain ⟨t3, f3⟩ : ∃ s : Sg, s = lp (m_heat_b194 air) ((t1.1 13 0).toNatClampNeg) t2 := ⟨_, rfl⟩
  have g3 : k_heatByHouses_s s2 air = lp (k_heatByHouses_b2 air) ((s2.1 13 0).toNatClampNeg) s2 := rfl
  have P3 := ph_houses P2 (by omega) (by omega) (fun x hx => (hO.2.2.2.2.1 x hx).1) air (n := (s2.1 13 0).toNatClampNeg) (m := (t1.1 13 0).toNatClampNeg) (by rw [P2.1.1 13 (by omega)]; rfl) (by rw [P1.1.2 13 (by omega)]; exact d0)
  have V3 := cv_houses P2 (by omega) (by omega) (fun x hx => (hO.2.2.2.2.1 x hx).1) air V2 ((s2.1 13 0).toNatClampNeg) (by rw [P2.1.1 13 (by omega)]; exact Nat.le_refl _)
  rw [← g3, ← e3] at V3
  rw [← g3, ← e3, ← f3] at P3
  obtain ⟨s4, e4⟩ : ∃ s : Sg, s = k_letMeltedExcessOut_s s3 := ⟨_, rfl⟩
  obtain ⟨t4, f4⟩ : ∃ s : Sg, s = lp m_passOne_b48 125 t3 := ⟨_, rfl⟩
  have P4 := ph_sink P3 (by omega) (by omega)
  have V4 := cv_sink P3 (by omega) (by omega) V3
  rw [← e4] at V4
  rw [← e4, ← f4] at P4
  obtain ⟨s5, e5⟩ : ∃ s : Sg, s = k_letPondsFlow_s s4 := ⟨_, rfl⟩
  obtain ⟨t5, f5⟩ : ∃ s : Sg, s = lp m_passOne_b67 25 t4 := ⟨_, rfl⟩
  have P5 := ph_flow P4 (by omega)
  have V5 := cv_flow P4 (by omega) V4
  rw [← e5] at V5
  rw [← e5, ← f5] at P5
  obtain ⟨s6, e6⟩ : ∃ s : Sg, s = k_crackColdest_s s5 air := ⟨_, rfl⟩
  obtain ⟨t6, f6⟩ : ∃ s : Sg, s = if (-20) < air then t5 else m_crack_s t5 := ⟨_, rfl⟩
  have P6 := ph_crack P5 (by omega) (by omega) air
  have V6 := cv_crack P5 (by omega) (by omega) air V5
  rw [← e6] at V6
  rw [← e6, ← f6] at P6
  obtain ⟨s7, e7⟩ : ∃ s : Sg, s = k_wakeCarbon_s s6 air := ⟨_, rfl⟩
  obtain ⟨t7, f7⟩ : ∃ s : Sg, s = lp (m_passOne_b96 air) 25 t6 := ⟨_, rfl⟩
  have P7 := ph_wake P6 (by omega) (by omega) (by omega) (by omega) air
  obtain ⟨S', M', V7, mm1, mm2⟩ := cv_wake P6 (by omega) (by omega) (by omega) (by omega) air V6
  rw [← e7] at V7
  rw [← e7, ← f7] at P7
  obtain ⟨s8, e8⟩ : ∃ s : Sg, s = lp k_tiltHouses_b2 (cpN σ 0) s7 := ⟨_, rfl⟩
  obtain ⟨t8, f8⟩ : ∃ s : Sg, s = lp m_passOne_b116 (cpN σ 0) t7 := ⟨_, rfl⟩
  have P8 := ph_tilt P7.2.1 (fun x hx => by
    rw [P7.1.1 14 (by omega), P7.1.1 15 (by omega)]
    exact ⟨(hO.2.2.2.2.1 x hx).1, (hO.2.2.2.2.1 x hx).2.1⟩)
  rw [← e8, ← f8] at P8
  have Q8 := tilt_i s7 (cpN σ 0)
  rw [← e8] at Q8
  obtain ⟨⟨q8, q8l⟩, q17⟩ := Q8
  obtain ⟨A8, ⟨k8, l8⟩, h17⟩ := P8
  have V8 : CV D S' M' s8 := V7.of q8l (fun k u1 u2 j _ => by rw [q8 k (by omega)]) (fun c _ => by rw [q8 3 (by decide)])
  have hF : ∀ k, (k = 1 ∨ 13 ≤ k ∧ k ≠ 32 ∧ k ≠ 33 ∧ k ≠ 17) → s8.1 k = σ.1 k := fun k hk => (k8 k (by omega)).trans (P7.1.1 k (by omega))
  have hG : ∀ k, (k = 1 ∨ 13 ≤ k ∧ k ≠ 32 ∧ k ≠ 33 ∧ k ≠ 17) → t8.1 k = μ.1 k := fun k hk => (l8 k (by omega)).trans (P7.1.2 k (by omega))
  obtain ⟨s9, e9⟩ : ∃ s : Sg, s = lp k_readBoreholes_b2 (cpN σ 1) s8 := ⟨_, rfl⟩
  obtain ⟨t9, f9⟩ : ∃ s : Sg, s = lp m_passOne_b169 (cpN σ 1) t8 := ⟨_, rfl⟩
  have hsk : ∀ b, sk s8 b = (σ.1 22 b).toNatClampNeg := fun b => by
    unfold sk
    rw [hF 22 (by omega)]
  have P9 := ph_read (M := mon σ) A8 (by omega) (by rw [hF 1 (by omega)]; exact vp_self hO.2.2.2.1) hm (fun b hb => by
    rw [hF 22 (by omega), hsk]
    exact ⟨(h.rb hb).1, (h.rb hb).2.1⟩) (fun b hb => by
    rw [hF 20 (by omega)]
    exact hO.2.2.2.2.2 b hb) (fun b hb => by
    rw [hF 35 (by omega), hsk]
    exact (h.rb hb).2.2) (fun b hb m l b1 b2 b3 => by
    rw [hF _ (by omega), hG 23 (by omega), hsk]
    rw [hsk] at b1
    exact (h.2.2.2.2.1 b hb).2 m l b1 b2 b3)
  rw [← e9, ← f9] at P9
  obtain ⟨⟨hz, hz2⟩, -⟩ := P9
  have ek : k_passOneMonth_s σ air snow = si s9 1 0 (s9.1 1 0 + nI 1) := by
    have q7 : (s7.1 13 0).toNatClampNeg = cpN σ 0 := by rw [P7.1.1 13 (by omega)]; rfl
    have q8' : (s8.1 19 0).toNatClampNeg = cpN σ 1 := by rw [hF 19 (by omega)]; rfl
    rw [e9, ← q8', e8, ← q7, e7, e6, e5, e4, e3, e2, e1]
    rfl
  rw [ek] at hmon ⊢
  refine ⟨⟨S', M', V8.of (by rw [si_2]; exact hz2) (fun k u1 u2 j _ => by rw [si_ne (by omega), hz k (by omega) (by omega)]) (fun c _ => by rw [si_ne (by decide), hz 3 (by decide) (by decide)]), mm1, mm2⟩, ⟨fun x hx => ?_, fun k hk => ?_⟩, fun k hk => by rw [si_ne (by omega), hz k (by omega) (by omega), hF k (by omega)]⟩
  rotate_left
  · have hN2 : cpN (si s9 1 0 (s9.1 1 0 + nI 1)) 2 = cpN σ 2 := by
      show ((si s9 1 0 (s9.1 1 0 + nI 1)).1 24 0).toNatClampNeg = (σ.1 24 0).toNatClampNeg
      rw [si_ne (by decide), hz 24 (by decide) (by decide), hF 24 (by omega)]
    rw [hN2] at hk
    rw [si_ne (by decide), hz 25 (by decide) (by decide), hF 25 (by omega)]
    exact ht.2 k hk
  have hN : cpN (si s9 1 0 (s9.1 1 0 + nI 1)) 0 = cpN σ 0 := by
    show ((si s9 1 0 (s9.1 1 0 + nI 1)).1 13 0).toNatClampNeg = (σ.1 13 0).toNatClampNeg
    rw [si_ne (by decide), hz 13 (by decide) (by decide), hF 13 (by omega)]
  rw [hN] at hx
  have q := ht.1 x hx
  have e18 : (si s9 1 0 (s9.1 1 0 + nI 1)).1 18 x = σ.1 18 x := by rw [si_ne (by decide), hz 18 (by decide) (by decide), hF 18 (by omega)]
  have e17 : (si s9 1 0 (s9.1 1 0 + nI 1)).1 17 x = s8.1 17 x := by rw [si_ne (by decide), hz 17 (by decide) (by decide)]
  have e17' : s7.1 17 x = σ.1 17 x := by rw [P7.1.1 17 (by omega)]
  rw [e18, e17, hmon]
  rcases q17 x with y | y
  · rw [y, e17']
    omega
  · rw [y.2, e17', i_add (by rw [k_1]; omega) (by rw [k_1]; omega), k_1]
    omega
theorem IV.mo {σ : Sg} (h : IV σ) : σ.1 1 0 = nI (mon σ) ∧ mon σ ≤ 600 := by
  obtain ⟨⟨μ, hR⟩, -⟩ := h
  have q := (Rel_c hR).2.2.2.1
  have q2 := vp_lt q
  exact ⟨vp_self q, by unfold mon; omega⟩
/-- months pass -/
theorem IV_pass {σ : Sg} (h : IV σ) {n w : Nat} {air : Int32} (hn : 1 ≤ n ∧ n ≤ 24) (hm : mon σ + n ≤ 600) (a0 : -50 ≤ air.toInt) (a1 : air.toInt ≤ 30) (w9 : w ≤ 9) : kx_pass σ (nI n) air (nI w) = 0 ∧ IV (k_pass_s σ (nI n) air (nI w)) ∧ k_pass σ (nI n) air (nI w) = nI (mon σ + n) ∧ mon (k_pass_s σ (nI n) air (nI w)) = mon σ + n ∧ (∀ L, cpN (k_pass_s σ (nI n) air (nI w)) L = cpN σ L) ∧ (k_pass_s σ (nI n) air (nI w)).1 22 = σ.1 22 := by
  have hmo := h.mo
  obtain ⟨⟨μ, hR⟩, ⟨D, S, M, hv, hM0, hM1⟩, ht⟩ := h
  have kn : (nI n).toInt = n := nI_toInt (by omega)
  have kw : (nI w).toInt = w := nI_toInt (by omega)
  have kN : ((-50 : Int32)).toInt = -50 := by decide
  have k24 : (nI 24).toInt = 24 := by decide
  have b1 : xRg (nI n) (nI 1) (nI 24) = 0 := by
    unfold xRg
    rw [if_neg (by rw [i_lt, kn, k_1]; omega), if_pos (by rw [i_le, kn, k24]; omega)]
  have b2 : xRg air (-50) (nI 30) = 0 := by
    unfold xRg
    rw [if_neg (by rw [i_lt, kN]; omega), if_pos (by rw [i_le, k_30]; omega)]
  have b3 : xRg (nI w) (nI 0) (nI 9) = 0 := by
    unfold xRg
    rw [if_neg (by rw [i_lt, kw, k_0]; omega), if_pos (by rw [i_le, kw, k_9]; omega)]
  have hsum : σ.1 1 0 + nI n = nI (mon σ + n) := by rw [hmo.1, nI_add]
  have q1 : ¬ nI 600 < σ.1 1 0 + nI n := by
    rw [hsum]
    exact fun y => by have := (nI_ltI (by omega) (by omega)).mp y; omega
  have ex : kx_pass σ (nI n) air (nI w) = 0 := by simp only [kx_pass, b1, b2, b3, xs_0, if_neg q1, xSt, n1f, if_false]
  have cl : (nI n).toNatClampNeg = n := nI_clamp (by omega)
  have ks : k_pass_s σ (nI n) air (nI w) = lp (k_pass_b45 air (nI w)) n σ := by
    have e : k_pass_s σ (nI n) air (nI w) = lp (k_pass_b45 air (nI w)) (nI n).toNatClampNeg σ := rfl
    rw [e, cl]
  have kv : k_pass σ (nI n) air (nI w) = (lp (k_pass_b45 air (nI w)) n σ).1 1 0 := by
    have e : k_pass σ (nI n) air (nI w) = (lp (k_pass_b45 air (nI w)) (nI n).toNatClampNeg σ).1 1 0 := rfl
    rw [e, cl]
  have key := lp_inv (P := fun i z => i ≤ n → (IV z ∧ mon z = mon σ + i) ∧ (∀ L, cpN z L = cpN σ L) ∧ z.1 22 = σ.1 22) (f := k_pass_b45 air (nI w)) (z := σ) (fun _ => ⟨⟨⟨⟨μ, hR⟩, ⟨D, S, M, hv, hM0, hM1⟩, ht⟩, rfl⟩, fun _ => rfl, rfl⟩) (fun i z hz hi => by
    have ez : k_pass_b45 air (nI w) i z = k_passOneMonth_s z air (nI w) := rfl
    rw [ez]
    obtain ⟨⟨⟨⟨ν, hR⟩, ⟨D, S, M, hv, hM0, hM1⟩, ht⟩, hm1⟩, hN, h22⟩ := hz (by omega)
    obtain ⟨g1, g2⟩ := Rel_passOne hR (by rw [hm1]; omega) a0 a1 (by rw [kw]; omega) (by rw [kw]; omega)
    obtain ⟨⟨S', M', p1, p2, p3⟩, p4, p5⟩ := passOne_IV hR (by rw [hm1]; omega) a0 a1 (snow := nI w) (by rw [kw]; omega) (by rw [kw]; omega) hv ht
    exact ⟨⟨⟨⟨_, g1⟩, ⟨D, S', M', p1, by omega, by rw [g2]; omega⟩, p4⟩, by rw [g2, hm1, Nat.add_assoc]⟩, fun L => Eq.trans (by
      unfold cpN
      rcases cpF_3 L with q | q | q <;> rw [q, p5 _ (by omega)]) (hN L), (p5 22 (by omega)).trans h22⟩) n (Nat.le_refl _)
  refine ⟨ex, ?_⟩
  rw [ks, kv]
  exact ⟨key.1.1, by rw [key.1.1.mo.1, key.1.2], key.1.2, key.2⟩
