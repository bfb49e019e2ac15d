/-! houses, boreholes, claims: what they do to what balances -/
theorem upd_i {f : Nat → Int32} {n j : Nat} {v : Int32} : upd f n v j = if j = n then v else f j := by
  unfold upd
  rfl
theorem HS.neg {σ μ : Sg} (h : Rel σ μ) {c : Nat} (hc : c < 25) (hf : (σ.1 36 c).toInt < 0) : σ.1 36 c = -1 := by
  rcases h.2.2.2.2.2.1.1 c hc with ⟨q, -⟩ | ⟨x, hx, q, -⟩
  · exact q
  · have l := vp_lt (Rel_c h).1
    have en : (σ.1 13 0).toNatClampNeg = cpN σ 0 := rfl
    rw [q, nI_toInt (by omega)] at hf
    omega
theorem HS.pos {σ μ : Sg} (h : Rel σ μ) {c : Nat} (hc : c < 25) (hf : ¬ (σ.1 36 c).toInt < 0) : ¬ σ.1 36 c = -1 := fun q => hf (by rw [q]; decide)
theorem pile_0 {p : Nat} (h1 : 1 ≤ p) (h4 : p ≤ 4) : xIx (nI p - nI 1) (nI 4) = 0 := by
  rw [pk_sub (by omega)]
  exact ix_0 (by decide) (by omega)
theorem IV_house {σ : Sg} (h : IV σ) {c p : Nat} {ic : Int32} (hc : c < 25) (hp : 1 ≤ p ∧ p ≤ 4) (hic : ic = 0 ∨ ic = 1) (hf : (σ.1 36 c).toInt < 0) (h3 : (σ.1 3 c).toInt < 3) (hn : cpN σ 0 < 10) : kx_house σ (nI c) (nI p) ic = 0 ∧ IV (k_house_s σ (nI c) (nI p) ic) ∧ k_house σ (nI c) (nI p) ic = nI (cpN σ 0) ∧ mon (k_house_s σ (nI c) (nI p) ic) = mon σ ∧ cpN (k_house_s σ (nI c) (nI p) ic) 0 = cpN σ 0 + 1 ∧ cpN (k_house_s σ (nI c) (nI p) ic) 1 = cpN σ 1 ∧ cpN (k_house_s σ (nI c) (nI p) ic) 2 = cpN σ 2 ∧ (k_house_s σ (nI c) (nI p) ic).1 22 = σ.1 22 := by
  have cl : (nI c).toNatClampNeg = c := nI_clamp (by omega)
  obtain ⟨μ, hR⟩ := h.1
  have hO := Rel_c hR
  have s13 := vp_self hO.1
  have en : (σ.1 13 0).toNatClampNeg = cpN σ 0 := rfl
  rw [en] at s13
  have t1 := HS.neg hR hc hf
  have t2 : c_isLake σ c = 0 := by rw [lake_w, if_pos h3]; exact n0_eq
  have t3 : ¬ nI 10 ≤ σ.1 13 0 := by rw [s13]; exact fun q => by have := (nI_leI (by decide) (by omega)).mp q; omega
  have ex : kx_house σ (nI c) (nI p) ic = 0 := by simp only [kx_house, ix_0 (n := 25) (by decide) hc, pile_0 hp.1 hp.2, cl, xs_0, if_pos t1, if_pos t2, if_neg t3, xSt, n1f, if_false]
  have ks : k_house_s σ (nI c) (nI p) ic = gH (si σ 36 c (σ.1 13 0)) (nI c) (nI p) ic (σ.1 1 0) := by
    simp only [k_house_k91_s, k_house_k70_s, k_house_j55_s, k_house_s, cl, si_at, sl_at, sl_1, si_2, Nat.reduceEqDiff, false_and, and_self, true_and, and_true, if_false, if_true]
  have kv : k_house σ (nI c) (nI p) ic = nI (cpN σ 0) := by
    simp only [k_house_k91, k_house_k91_s, k_house_k70, k_house_k70_s, k_house_j55, k_house_j55_s, k_house, k_house_s, cl]
    rw [gH_k (by decide), si_eq, s13]
  have q := (q_house σ μ (nI c) (nI p) ic hR hic).1
  rw [ex, if_pos rfl] at q
  have hN0 : ∀ L, cpN (si σ 36 c (σ.1 13 0)) L = cpN σ L := fun L => by
    unfold cpN
    rcases cpF_3 L with q | q | q <;> rw [q, si_ne (by decide)]
  have gN := gH_N (σ := si σ 36 c (σ.1 13 0)) (ce := nI c) (pi := nI p) (ic := ic) (mo := σ.1 1 0) (by rw [hN0]; omega)
  have g1 := gH_M (σ := si σ 36 c (σ.1 13 0)) (ce := nI c) (pi := nI p) (ic := ic) (mo := σ.1 1 0) (M := 1) (by decide) (by decide)
  have g2 := gH_M (σ := si σ 36 c (σ.1 13 0)) (ce := nI c) (pi := nI p) (ic := ic) (mo := σ.1 1 0) (M := 2) (by decide) (by decide)
  rw [hN0] at gN g1 g2
  have em : mon (gH (si σ 36 c (σ.1 13 0)) (nI c) (nI p) ic (σ.1 1 0)) = mon σ := by
    unfold mon
    rw [gH_k (by decide), si_ne (by decide)]
  obtain ⟨-, ⟨D, S, M, hv, h1, h2⟩, ht⟩ := h
  rw [ks] at q
  rw [ks, kv]
  refine ⟨ex, ⟨⟨_, q⟩, ⟨D, S, M, hv.of (by rw [gH_2, si_2]) (fun k k1 k2 j _ => by rw [gH_k (by omega), si_ne (by omega)]) (fun x _ => by rw [gH_k (by decide), si_ne (by decide)]), h1, by rw [em]; exact h2⟩, fun x hx => ?_, fun k hk => ?_⟩, rfl, em, gN, g1, g2, by rw [gH_k (by decide), si_ne (by decide)]⟩
  rotate_left
  · rw [g2] at hk
    rw [gH_k (by decide), si_ne (by decide)]
    exact ht.2 k hk
  rw [gN] at hx
  rw [em, gH_17, gH_18, upd_i, upd_i, hN0]
  by_cases e : x = cpN σ 0
  · rw [if_pos e, if_pos e, z_0]
    unfold mon
    omega
  · rw [if_neg e, if_neg e, si_ne (by decide), si_ne (by decide)]
    exact ht.1 x (by omega)
theorem house_no {σ : Sg} (h : IV σ) {c p : Nat} {ic : Int32} (hc : c < 25) (hp : 1 ≤ p ∧ p ≤ 4) (hn : ¬ ((σ.1 36 c).toInt < 0 ∧ (σ.1 3 c).toInt < 3 ∧ cpN σ 0 < 10)) : kx_house σ (nI c) (nI p) ic = 3 := by
  have cl : (nI c).toNatClampNeg = c := nI_clamp (by omega)
  obtain ⟨μ, hR⟩ := h.1
  have hO := Rel_c hR
  have s13 := vp_self hO.1
  have l13 := vp_lt hO.1
  have en : (σ.1 13 0).toNatClampNeg = cpN σ 0 := rfl
  rw [en] at s13 l13
  by_cases hf : (σ.1 36 c).toInt < 0
  · have t1 := HS.neg hR hc hf
    by_cases h3 : (σ.1 3 c).toInt < 3
    · have t2 : c_isLake σ c = 0 := by rw [lake_w, if_pos h3]; exact n0_eq
      have t3 : nI 10 ≤ σ.1 13 0 := by
        rw [s13]
        exact (nI_leI (by decide) (by omega)).mpr (Nat.le_of_not_lt (fun q => hn ⟨hf, h3, q⟩))
      simp only [kx_house, ix_0 (n := 25) (by decide) hc, pile_0 hp.1 hp.2, cl, xs_0, if_pos t1, if_pos t2, if_pos t3, xSt, n0t, if_true, xs_3]
    · have t2 : ¬ c_isLake σ c = 0 := by rw [lake_w, if_neg h3]; exact n1_ne
      simp only [kx_house, ix_0 (n := 25) (by decide) hc, pile_0 hp.1 hp.2, cl, xs_0, if_pos t1, if_neg t2, xSt, n0t, if_true, xs_3]
  · have t1 := HS.pos hR hc hf
    simp only [kx_house, ix_0 (n := 25) (by decide) hc, pile_0 hp.1 hp.2, cl, xs_0, if_neg t1, xSt, n0t, if_true, xs_3]
theorem IV_hole {σ : Sg} (h : IV σ) {c : Nat} {dr : Int32} (hc : c < 25) (d0 : -12 ≤ dr.toInt) (d1 : dr.toInt ≤ 12) (hn : cpN σ 1 < 10) : kx_borehole σ (nI c) dr = 0 ∧ IV (k_borehole_s σ (nI c) dr) ∧ k_borehole σ (nI c) dr = nI (cpN σ 1) ∧ mon (k_borehole_s σ (nI c) dr) = mon σ ∧ cpN (k_borehole_s σ (nI c) dr) 0 = cpN σ 0 ∧ cpN (k_borehole_s σ (nI c) dr) 1 = cpN σ 1 + 1 ∧ cpN (k_borehole_s σ (nI c) dr) 2 = cpN σ 2 ∧ ∀ b, (k_borehole_s σ (nI c) dr).1 22 b = if b = cpN σ 1 then nI (mon σ) else σ.1 22 b := by
  have cl : (nI c).toNatClampNeg = c := nI_clamp (by omega)
  obtain ⟨μ, hR⟩ := h.1
  have hO := Rel_c hR
  have s19 := vp_self hO.2.1
  have en : (σ.1 19 0).toNatClampNeg = cpN σ 1 := rfl
  rw [en] at s19
  have t1 : ¬ nI 10 ≤ σ.1 19 0 := by rw [s19]; exact fun q => by have := (nI_leI (by decide) (by omega)).mp q; omega
  have b2 : xRg dr (-12) (nI 12) = 0 := rg_0 (by have e : ((-12 : Int32)).toInt = -12 := by decide
                                                 rw [e]; exact d0) (by have e : (nI 12).toInt = 12 := by decide
                                                                       rw [e]; exact d1)
  have ex : kx_borehole σ (nI c) dr = 0 := by simp only [kx_borehole, ix_0 (n := 25) (by decide) hc, b2, xs_0, if_neg t1, xSt, n1f, if_false]
  have ks : k_borehole_s σ (nI c) dr = gB σ (nI c) dr (nI (mon σ)) := rfl
  have kv : k_borehole σ (nI c) dr = nI (cpN σ 1) := by
    show (gB σ (nI c) dr (nI (mon σ))).1 19 0 - nI 1 = _
    rw [gB_19, upd_eq, pk_sub (by omega), Nat.add_sub_cancel]
  have q := (q_borehole σ μ (nI c) dr hR).1
  rw [ex, if_pos rfl] at q
  have gN := gB_N (σ := σ) (ce := nI c) (dr := dr) (mo := nI (mon σ)) (by omega)
  have g0 := gB_M (σ := σ) (ce := nI c) (dr := dr) (mo := nI (mon σ)) (M := 0) (by decide) (by decide)
  have g2 := gB_M (σ := σ) (ce := nI c) (dr := dr) (mo := nI (mon σ)) (M := 2) (by decide) (by decide)
  have em : mon (gB σ (nI c) dr (nI (mon σ))) = mon σ := by
    unfold mon
    rw [gB_k (by omega)]
  obtain ⟨-, ⟨D, S, M, hv, h1, h2⟩, ht⟩ := h
  rw [ks] at q
  rw [ks, kv]
  refine ⟨ex, ⟨⟨_, q⟩, ⟨D, S, M, hv.of gB_2 (fun k k1 k2 j _ => by rw [gB_k (by omega)]) (fun x _ => by rw [gB_k (by omega)]), h1, by rw [em]; exact h2⟩, TLo_of (fun k hk => by rw [gB_k (by omega)]) ht⟩, rfl, em, g0, gN, g2, fun b => by rw [gB_22, upd_i]⟩
theorem hole_no {σ : Sg} (h : IV σ) {c : Nat} {dr : Int32} (hc : c < 25) (d0 : -12 ≤ dr.toInt) (d1 : dr.toInt ≤ 12) (hn : cpN σ 1 = 10) : kx_borehole σ (nI c) dr = 3 := by
  obtain ⟨μ, hR⟩ := h.1
  have s19 := vp_self (Rel_c hR).2.1
  have en : (σ.1 19 0).toNatClampNeg = cpN σ 1 := rfl
  rw [en, hn] at s19
  have t1 : nI 10 ≤ σ.1 19 0 := by rw [s19]; decide
  have b2 : xRg dr (-12) (nI 12) = 0 := rg_0 (by have e : ((-12 : Int32)).toInt = -12 := by decide
                                                 rw [e]; exact d0) (by have e : (nI 12).toInt = 12 := by decide
                                                                       rw [e]; exact d1)
  simp only [kx_borehole, ix_0 (n := 25) (by decide) hc, b2, xs_0, if_pos t1, xSt, n0t, if_true, xs_3]
theorem xIx_c {σ : Sg} {x : Int32} {n k : Nat} (hs : x = nI n) (hn : n < 2 ^ 31) (hk : k < n) : xIx (nI k) x = 0 := by
  rw [hs]
  exact ix_0 hn hk
theorem months_b {σ : Sg} {h : Nat} {u : Int32} (hu : u.toNatClampNeg ≤ 600) : 0 ≤ (k_monthsReadThawed σ h u).toInt ∧ (k_monthsReadThawed σ h u).toInt ≤ 600 := by
  have e : k_monthsReadThawed σ h u = lp (k_monthsReadThawed_b8 σ h) (u.toNatClampNeg - (σ.1 18 h).toNatClampNeg) (nI 0) := rfl
  rw [e]
  have key := lp_invB (P := fun i (w : Int32) => 0 ≤ w.toInt ∧ w.toInt ≤ (i : Int)) (f := k_monthsReadThawed_b8 σ h) (z := nI 0) (N := 600) ⟨by decide, by decide⟩ (fun i w hi hw => by
    obtain ⟨v, hv⟩ : ∃ v : Int32, k_monthsReadThawed_b8 σ h i w = if v = 0 then w else w + Int32.ofInt 1 := ⟨_, rfl⟩
    have o1 : Int32.ofInt 1 = nI 1 := by decide
    rw [hv, o1]
    by_cases q : v = 0
    · rw [if_pos q]
      exact ⟨hw.1, by omega⟩
    · rw [if_neg q, i_add (by rw [k_1]; omega) (by rw [k_1]; omega), k_1]
      exact ⟨by omega, by omega⟩) (u.toNatClampNeg - (σ.1 18 h).toNatClampNeg) (by omega)
  exact ⟨key.1, by omega⟩
theorem amt_b {σ : Sg} {h : Nat} {t u : Int32} (hu : u.toNatClampNeg ≤ 600) (t0 : 0 ≤ t.toInt) (t1 : t.toInt ≤ 600) : ∃ q : Int, (k_claimAmount σ h t u).toInt = 100 * q ∧ 0 ≤ q ∧ q ≤ t.toInt := by
  obtain ⟨m0, m1⟩ := months_b (σ := σ) (h := h) hu
  have e : (w_min t (k_monthsReadThawed σ h u)).toInt = min t.toInt (k_monthsReadThawed σ h u).toInt := w_min_i _ _
  refine ⟨min t.toInt (k_monthsReadThawed σ h u).toInt, ?_, by omega, by omega⟩
  unfold k_claimAmount
  rw [i_mul (by rw [k_100, e]; omega) (by rw [k_100, e]; omega), k_100, e]
theorem IV_claim {σ : Sg} (h : IV σ) {k : Nat} (hk : k < cpN σ 0) (hn : cpN σ 2 < 40) : kx_claim σ (nI k) = 0 ∧ IV (k_claim_s σ (nI k)) ∧ k_claim σ (nI k) = nI (cpN σ 2) ∧ mon (k_claim_s σ (nI k)) = mon σ ∧ cpN (k_claim_s σ (nI k)) 0 = cpN σ 0 ∧ cpN (k_claim_s σ (nI k)) 1 = cpN σ 1 ∧ cpN (k_claim_s σ (nI k)) 2 = cpN σ 2 + 1 ∧ (k_claim_s σ (nI k)).1 22 = σ.1 22 ∧ (k_claim_s σ (nI k)).1 25 (cpN σ 2) = k_claimAmount σ k (σ.1 17 k) (σ.1 1 0) := by
  obtain ⟨μ, hR⟩ := h.1
  have hO := Rel_c hR
  have s13 := vp_self hO.1
  have l13 := vp_lt hO.1
  have s24 := vp_self hO.2.2.1
  have en : (σ.1 13 0).toNatClampNeg = cpN σ 0 := rfl
  have en2 : (σ.1 24 0).toNatClampNeg = cpN σ 2 := rfl
  rw [en] at s13 l13
  rw [en2] at s24
  have cl : (nI k).toNatClampNeg = k := nI_clamp (by omega)
  have b1 : xIx (nI k) (σ.1 13 0) = 0 := xIx_c (σ := σ) s13 (by omega) hk
  have t1 : ¬ nI 40 ≤ σ.1 24 0 := by rw [s24]; exact fun q => by have := (nI_leI (by decide) (by omega)).mp q; omega
  have ex : kx_claim σ (nI k) = 0 := by simp only [kx_claim, b1, xs_0, if_neg t1, xSt, n1f, if_false]
  have ks : k_claim_s σ (nI k) = gC σ (nI k) (σ.1 17 k) (σ.1 1 0) (k_claimAmount σ k (σ.1 17 k) (σ.1 1 0)) := by
    have e : k_claim_s σ (nI k) = gC σ (nI k) (σ.1 17 (nI k).toNatClampNeg) (σ.1 1 0) (k_claimAmount σ (nI k).toNatClampNeg (σ.1 17 (nI k).toNatClampNeg) (σ.1 1 0)) := rfl
    rw [e, cl]
  have kv : k_claim σ (nI k) = nI (cpN σ 2) := by
    show (gC σ (nI k) (σ.1 17 (nI k).toNatClampNeg) (σ.1 1 0) (k_claimAmount σ (nI k).toNatClampNeg (σ.1 17 (nI k).toNatClampNeg) (σ.1 1 0))).1 24 0 - nI 1 = _
    rw [gC_24, upd_eq, pk_sub (by omega), Nat.add_sub_cancel]
  have q := (q_claim σ μ (nI k) hR).1
  rw [ex, if_pos rfl] at q
  rw [ks] at q
  rw [ks, kv]
  have hmo := h.mo
  have hta := h.2.2.1 k hk
  obtain ⟨qq, am1, am2, -⟩ := amt_b (σ := σ) (h := k) (t := σ.1 17 k) (u := σ.1 1 0) (by have q9 := hmo.2; unfold mon at q9; exact q9) hta.1 (by omega)
  have am0 : 0 ≤ (k_claimAmount σ k (σ.1 17 k) (σ.1 1 0)).toInt := by omega
  clear am1 am2
  generalize k_claimAmount σ k (σ.1 17 k) (σ.1 1 0) = am at q am0 ⊢
  have gN := gC_N (σ := σ) (ho := nI k) (ti := σ.1 17 k) (fi := σ.1 1 0) (am := am) hn
  have g0 := gC_M (σ := σ) (ho := nI k) (ti := σ.1 17 k) (fi := σ.1 1 0) (am := am) (M := 0) (by decide) (by decide)
  have g1 := gC_M (σ := σ) (ho := nI k) (ti := σ.1 17 k) (fi := σ.1 1 0) (am := am) (M := 1) (by decide) (by decide)
  have em : mon (gC σ (nI k) (σ.1 17 k) (σ.1 1 0) am) = mon σ := by
    unfold mon
    rw [gC_k (by omega)]
  obtain ⟨-, ⟨D, S, M, hv, h1, h2⟩, ht⟩ := h
  refine ⟨ex, ⟨⟨_, q⟩, ⟨D, S, M, hv.of gC_2 (fun k k1 k2 j _ => by rw [gC_k (by omega)]) (fun x _ => by rw [gC_k (by omega)]), h1, by rw [em]; exact h2⟩, fun x hx => ?_, fun x hx => ?_⟩, rfl, em, g0, g1, gN, by rw [gC_k (by omega)], by rw [gC_25, upd_eq]⟩
  · rw [g0] at hx
    rw [em, gC_k (by omega), gC_k (by omega)]
    exact ht.1 x hx
  · rw [gN] at hx
    rw [gC_25, upd_i]
    by_cases e9 : x = cpN σ 2
    · rw [if_pos e9]
      exact am0
    · rw [if_neg e9]
      exact ht.2 x (by omega)
theorem claim_no {σ : Sg} (h : IV σ) {k : Nat} (hk : k < cpN σ 0) (hn : cpN σ 2 = 40) : kx_claim σ (nI k) = 3 := by
  obtain ⟨μ, hR⟩ := h.1
  have hO := Rel_c hR
  have s13 := vp_self hO.1
  have l13 := vp_lt hO.1
  have s24 := vp_self hO.2.2.1
  have en : (σ.1 13 0).toNatClampNeg = cpN σ 0 := rfl
  have en2 : (σ.1 24 0).toNatClampNeg = cpN σ 2 := rfl
  rw [en] at s13 l13
  rw [en2, hn] at s24
  have b1 : xIx (nI k) (σ.1 13 0) = 0 := xIx_c (σ := σ) s13 (by omega) hk
  have t1 : nI 40 ≤ σ.1 24 0 := by rw [s24]; decide
  simp only [kx_claim, b1, xs_0, if_pos t1, xSt, n0t, if_true, xs_3]
/-- at first -/
theorem k_init_he : HE k_init_s = -125000 ∧ WA k_init_s = 800 ∧ CA k_init_s = 50000 := by
  have e : k_init_s.1 = s00.1 := k_init_1
  unfold HE WA CA
  rw [e, sw_of (τ := k_init_s) (σ := s00) 25 (fun c _ => by rw [e])]
  decide +kernel
theorem k_init_l : k_init_s.2 29 = 0 ∧ k_init_s.2 30 = 0 ∧ k_init_s.2 31 = 0 := by decide +kernel
theorem IV_first : IV k_init_s := by
  have hm : mon k_init_s = 0 := by decide +kernel
  refine ⟨⟨_, Rel_first⟩, ⟨0, 0, 0, ⟨k_init_l.1, k_init_l.2.1, k_init_l.2.2, ?_, ?_, ?_⟩, Int.le_refl _, by rw [hm]; decide⟩, fun x hx => ?_, fun x hx => ?_⟩
  · rw [r0_k.1, k_init_he.1]; decide
  · rw [r0_k.2.1, k_init_he.2.1]; decide
  · rw [r0_k.2.2, k_init_he.2.2]; decide
  · rw [k_init_N] at hx
    exact absurd hx (Nat.not_lt_zero _)
  · rw [k_init_N] at hx
    exact absurd hx (Nat.not_lt_zero _)
