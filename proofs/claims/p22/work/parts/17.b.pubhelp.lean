/-! what the public methods lean on -/
theorem xIx_inI {i v : Int32} {N : Nat} (hv : vp_in v N) (h : xIx i v = 0) : vp_in i v.toNatClampNeg := by
  have e := vp_self hv
  rw [e] at h
  exact xIx_in (by have := vp_toInt hv; have := Int32.toInt_lt v; omega) h
theorem pass_mo {x : Int32} (h : xRg x (nI 1) (nI 24) = 0) : vp_in x 25 ∧ 0 < x.toNatClampNeg := by
  obtain ⟨h1, h2⟩ := xRg_in h
  rw [i_lt, nI_toInt (by decide)] at h1
  rw [i_le, nI_toInt (by decide)] at h2
  have q : vp_in x 25 := vp_in_iff.mpr ⟨by omega, by omega⟩
  have e := vp_toInt q
  exact ⟨q, by omega⟩
theorem pass_600 {mo ms x : Int32} (hmo : vp_in mo 601) (hms : vp_in ms 25) (hx : x = if nI 600 < mo + ms then nI 0 else nI 1) (hne : ¬ x = 0) : mo.toNatClampNeg + ms.toNatClampNeg ≤ 600 := by
  by_cases h : nI 600 < mo + ms
  · rw [if_pos h] at hx; exact absurd hx hne
  · have e1 := vp_self hmo
    have e2 := vp_self hms
    have l1 := vp_lt hmo
    have l2 := vp_lt hms
    rw [e1, e2, nI_add] at h
    have q : ¬ 600 < mo.toNatClampNeg + ms.toNatClampNeg := fun z => h ((nI_ltI (a := 600) (b := mo.toNatClampNeg + ms.toNatClampNeg) (by decide) (by omega)).mpr z)
    omega
/-- what a lake's gathering leaves: how many, and that they are cells -/
def gOK (q : Int32 × Sg) : Prop := vp_in q.1 26 ∧ ∀ j, j < q.1.toNatClampNeg → vp_in (q.2.1 32 j) 25
theorem k_gatherCell_ok {σ : Sg} {cell size : Int32} (hs : gOK (size, σ)) (hc : ¬ cell = -1 → vp_in cell 25) : gOK (k_gatherCell σ cell size, k_gatherCell_s σ cell size) := by
  unfold k_gatherCell k_gatherCell_s
  by_cases h1 : cell = -1
  · rw [if_pos h1, if_pos h1]; exact hs
  · rw [if_neg h1, if_neg h1]
    by_cases h2 : σ.1 3 cell.toNatClampNeg ≤ 0
    · rw [if_pos h2, if_pos h2]; exact hs
    · rw [if_neg h2, if_neg h2]
      by_cases h3 : σ.1 33 cell.toNatClampNeg = 0
      · rw [if_pos h3, if_pos h3]
        by_cases h4 : size < nI 25
        · rw [if_pos h4, if_pos h4]
          have h25 : vp_in size 25 := vp_26 hs.1 h4
          have e := vp_self h25
          have hlt := vp_lt h25
          show gOK (size + nI 1, si (si σ 33 cell.toNatClampNeg (vp_nar .boolean (nI 1))) 32 size.toNatClampNeg cell)
          have e1 : size + nI 1 = nI (size.toNatClampNeg + 1) := by
            conv => lhs; rw [e]
            rw [nI_add]
          rw [e1]
          refine ⟨vp_in_nI (by omega) (by decide), fun j hj => ?_⟩
          have hj' : j < size.toNatClampNeg + 1 := by
            have q : j < (nI (size.toNatClampNeg + 1)).toNatClampNeg := hj
            rw [nI_clamp (by omega)] at q
            exact q
          by_cases hjq : j = size.toNatClampNeg
          · subst hjq
            show vp_in ((si (si σ 33 cell.toNatClampNeg (vp_nar .boolean (nI 1))) 32 size.toNatClampNeg cell).1 32 size.toNatClampNeg) 25
            rw [si_eq]
            exact hc h1
          · show vp_in ((si (si σ 33 cell.toNatClampNeg (vp_nar .boolean (nI 1))) 32 size.toNatClampNeg cell).1 32 j) 25
            rw [si_nj (fun q => hjq q.2), si_ne (by decide)]
            exact hs.2 j (by show j < size.toNatClampNeg; omega)
        · rw [if_neg h4, if_neg h4]; exact hs
      · rw [if_neg h3, if_neg h3]; exact hs
theorem k_gl26_ok (i9 : Nat) (z : Int32 × Sg) (hz : gOK z) (i : Nat) : gOK (lp (k_gatherLake_b26 i9) i z) := by
  refine lp_inv (f := k_gatherLake_b26 i9) (z := z) (P := fun _ w => gOK w) hz (fun i w hw => ?_) i
  simp only [k_gatherLake_b26, k_gatherLake_x9, k_gatherLake_x9_s, k_gatherLake_x26, k_gatherLake_k55, k_gatherLake_k6, k_gatherLake_k6_s, k_gatherLake, k_gatherLake_s]
  exact k_gatherCell_ok (σ := w.2) (size := w.1) hw (fun h => k_stepFrom_in h)
theorem k_gl9_ok {z : Int32 × Sg} (hz : gOK z) (i : Nat) : gOK (lp k_gatherLake_b9 i z) := by
  refine lp_inv (f := k_gatherLake_b9) (z := z) (P := fun _ w => gOK w) hz (fun i w hw => ?_) i
  show gOK (k_gatherLake_b9 i w)
  rw [k_gl9b]
  by_cases h : w.1 ≤ nI i
  · rw [if_pos h]; exact hw
  · rw [if_neg h]; exact k_gl26_ok i w hw 4
theorem gOK_1 {x : Int32} {σ : Sg} (h : gOK (x, σ)) : vp_in x 26 := h.1
theorem gOK_2 {x : Int32} {σ : Sg} (h : gOK (x, σ)) : ∀ j, j < x.toNatClampNeg → vp_in (σ.1 32 j) 25 := h.2
theorem gOK_eta {q : Int32 × Sg} (h : gOK q) : gOK (q.1, q.2) := h
theorem gOK_0 {σ : Sg} : gOK (nI 0, σ) := ⟨vp_in_nI (by decide) (by decide), fun j hj => absurd (show j < (nI 0).toNatClampNeg from hj) (by rw [nI_clamp (by decide)]; omega)⟩
theorem k_gatherLake_ok {σ : Sg} {cell : Int32} (hc : ¬ cell = -1 → vp_in cell 25) : gOK (k_gatherLake σ cell, k_gatherLake_s σ cell) := by
  simp only [k_gatherLake_x9, k_gatherLake_x9_s, k_gatherLake_x26, k_gatherLake_k55, k_gatherLake_k6, k_gatherLake_k6_s, k_gatherLake, k_gatherLake_s]
  exact gOK_eta (k_gl9_ok (k_gatherCell_ok gOK_0 hc) 25)
theorem k_gatherOneLake_ok {σ : Sg} {cell : Int32} (hc : ¬ cell = -1 → vp_in cell 25) : gOK (k_gatherOneLake σ cell, k_gatherOneLake_s σ cell) := by
  simp only [k_gatherOneLake_k9, k_gatherOneLake_k9_s, k_gatherOneLake_k4, k_gatherOneLake_k4_s, k_gatherOneLake, k_gatherOneLake_s]
  exact k_gatherLake_ok hc
/-- how many months the boreholes have read -/
def cRd (σ : Sg) : Prop := ∀ b, b < cpN σ 1 → vp_in (σ.1 22 b) 601 ∧ (σ.1 22 b).toNatClampNeg ≤ (σ.1 1 0).toNatClampNeg ∧ σ.1 35 b = nI ((σ.1 1 0).toNatClampNeg - (σ.1 22 b).toNatClampNeg)
theorem cRd_R {σ : Sg} (hO : cOK σ) (hR : cRd σ) (hm : (σ.1 1 0).toNatClampNeg < 600) : ∀ b, b < cpN σ 1 → vp_in (σ.1 35 b) 601 ∧ (σ.1 35 b).toNatClampNeg < 600 - (σ.1 22 b).toNatClampNeg := fun b hb => by
  obtain ⟨h1, h2, h3⟩ := hR b hb
  rw [h3]
  exact ⟨vp_in_nI (by omega) (by decide), by rw [nI_clamp (by omega)]; omega⟩
theorem h_readLayers_35b {σ : Sg} {b ci : Nat} : (h_readLayers_s σ b ci).1 35 b = σ.1 35 b + nI 1 := by
  simp only [h_readLayers_x33_s, h_readLayers_k70, h_readLayers_k17_s, h_readLayers_s]
  rw [h_rlk 35 (by omega), si_eq]
theorem k_rb35i (n : Nat) (z : Sg) : (∀ j, j < n → (lp k_readBoreholes_b2 n z).1 35 j = z.1 35 j + nI 1) ∧ ∀ j, n ≤ j → (lp k_readBoreholes_b2 n z).1 35 j = z.1 35 j := by
  refine lp_inv (f := k_readBoreholes_b2) (z := z) (P := fun i (w : Sg) => (∀ j, j < i → w.1 35 j = z.1 35 j + nI 1) ∧ ∀ j, i ≤ j → w.1 35 j = z.1 35 j) ⟨fun j hj => absurd hj (by omega), fun j _ => rfl⟩ (fun i w hw => ?_) n
  simp only [k_readBoreholes_b2, k_readBoreholes_x2_s, k_readBoreholes_k41, k_readBoreholes_s]
  refine ⟨fun j hj => ?_, fun j hj => ?_⟩
  · by_cases e : j = i
    · subst e
      rw [h_readLayers_35b, hw.2 j (Nat.le_refl _)]
    · rw [h_readLayers_35 j e]
      exact hw.1 j (by omega)
  · rw [h_readLayers_35 j (by omega)]
    exact hw.2 j (by omega)
/-- the month as it is ahead of the boreholes' reading -/
def k_pre (σ : Sg) (air snow : Int32) : Sg := k_tiltHouses_s (k_wakeCarbon_s (k_crackColdest_s (k_letPondsFlow_s (k_letMeltedExcessOut_s (k_heatByHouses_s (k_leadHeat_s (k_letSnow_s σ air snow) air) air))) air) air)
theorem k_pre_k (k : Nat) (hk : k = 1 ∨ 12 ≤ k ∧ k ≠ 36) (h17 : k ≠ 17) {σ : Sg} {air snow : Int32} : (k_pre σ air snow).1 k = σ.1 k := by
  unfold k_pre
  rw [k_tiltHouses_k k h17, k_wakeCarbon_k k hk, k_crackColdest_k k hk, k_letPondsFlow_k k hk, k_letMelted_k k hk, k_heatByHouses_k k hk, k_leadHeat_k k hk, k_letSnow_k k hk]
theorem k_pom_eq {σ : Sg} {air snow : Int32} : k_passOneMonth_s σ air snow = si (k_readBoreholes_s (k_pre σ air snow)) 1 0 ((k_readBoreholes_s (k_pre σ air snow)).1 1 0 + nI 1) := by
  simp only [k_passOneMonth_k52_s, k_passOneMonth_k42_s, k_passOneMonth_k38_s, k_passOneMonth_k34_s, k_passOneMonth_k29_s, k_passOneMonth_k24_s, k_passOneMonth_k20_s, k_passOneMonth_k16_s, k_passOneMonth_k11_s, k_passOneMonth_k6_s, k_passOneMonth_s, k_pre]
theorem k_pom_k (k : Nat) (hk : 12 ≤ k ∧ k < 40 ∧ k ≠ 36 ∧ k ≠ 35 ∧ k ≠ 17) {σ : Sg} {air snow : Int32} : (k_passOneMonth_s σ air snow).1 k = σ.1 k := by
  rw [k_pom_eq, si_ne (by omega)]
  simp only [k_readBoreholes_x2_s, k_readBoreholes_k41, k_readBoreholes_s]
  rw [k_rbk k (by omega) (by omega), k_pre_k k (by omega) (by omega)]
theorem k_pom_1 {σ : Sg} {air snow : Int32} : (k_passOneMonth_s σ air snow).1 1 0 = σ.1 1 0 + nI 1 := by
  rw [k_pom_eq, si_eq]
  simp only [k_readBoreholes_x2_s, k_readBoreholes_k41, k_readBoreholes_s]
  rw [k_rbk 1 (by decide) (by decide), k_pre_k 1 (by decide) (by decide)]
theorem k_pom_35 {σ : Sg} {air snow : Int32} (b : Nat) (hb : b < cpN σ 1) : (k_passOneMonth_s σ air snow).1 35 b = σ.1 35 b + nI 1 := by
  rw [k_pom_eq, si_ne (by decide)]
  simp only [k_readBoreholes_x2_s, k_readBoreholes_k41, k_readBoreholes_s]
  rw [(k_rb35i _ _).1 b (by rw [k_pre_k 19 (by decide) (by decide)]; exact hb), k_pre_k 35 (by decide) (by decide)]
theorem k_pom {σ : Sg} {air snow : Int32} (hO : cOK σ) (hR : cRd σ) (hm : (σ.1 1 0).toNatClampNeg < 600) : cOK (k_passOneMonth_s σ air snow) ∧ cRd (k_passOneMonth_s σ air snow) ∧ ((k_passOneMonth_s σ air snow).1 1 0).toNatClampNeg = (σ.1 1 0).toNatClampNeg + 1 := by
  have e1 : (k_passOneMonth_s σ air snow).1 1 0 = nI ((σ.1 1 0).toNatClampNeg + 1) := by
    rw [k_pom_1]
    conv => lhs; rw [vp_self hO.2.2.2.1]
    rw [nI_add]
  have e2 : ((k_passOneMonth_s σ air snow).1 1 0).toNatClampNeg = (σ.1 1 0).toNatClampNeg + 1 := by rw [e1, nI_clamp (by omega)]
  have k13 := k_pom_k (σ := σ) (air := air) (snow := snow) 13 (by decide)
  have k14 := k_pom_k (σ := σ) (air := air) (snow := snow) 14 (by decide)
  have k15 := k_pom_k (σ := σ) (air := air) (snow := snow) 15 (by decide)
  have k18 := k_pom_k (σ := σ) (air := air) (snow := snow) 18 (by decide)
  have k19 := k_pom_k (σ := σ) (air := air) (snow := snow) 19 (by decide)
  have k20 := k_pom_k (σ := σ) (air := air) (snow := snow) 20 (by decide)
  have k22 := k_pom_k (σ := σ) (air := air) (snow := snow) 22 (by decide)
  have k24 := k_pom_k (σ := σ) (air := air) (snow := snow) 24 (by decide)
  refine ⟨⟨by rw [k13]; exact hO.1, by rw [k19]; exact hO.2.1, by rw [k24]; exact hO.2.2.1, by rw [e1]; exact vp_in_nI (by omega) (by decide), fun h hh => ?_, fun b hb => ?_⟩, fun b hb => ?_, e2⟩
  · rw [k13] at hh
    obtain ⟨q1, q2, q3, q4⟩ := hO.2.2.2.2.1 h hh
    rw [k14, k15, k18, e2]
    exact ⟨q1, q2, q3, by omega⟩
  · rw [k19] at hb
    rw [k20]
    exact hO.2.2.2.2.2 b hb
  · have hb' : b < cpN σ 1 := by
      have q : b < ((k_passOneMonth_s σ air snow).1 19 0).toNatClampNeg := hb
      rw [k19] at q
      exact q
    obtain ⟨q1, q2, q3⟩ := hR b hb'
    rw [k22, e2, k_pom_35 b hb', q3, nI_add]
    exact ⟨q1, by omega, congrArg nI (by omega)⟩
theorem k_pass_lp {σ : Sg} {air snow : Int32} (f : Nat → Sg → Sg) (hf : ∀ i z, f i z = k_passOneMonth_s z air snow) (hO : cOK σ) (hR : cRd σ) {N : Nat} (hN : (σ.1 1 0).toNatClampNeg + N ≤ 600) : ∀ i, i ≤ N → cOK (lp f i σ) ∧ cRd (lp f i σ) ∧ ((lp f i σ).1 1 0).toNatClampNeg = (σ.1 1 0).toNatClampNeg + i := by
  intro i
  induction i with
  | zero => exact fun _ => ⟨hO, hR, rfl⟩
  | succ i ih =>
    intro hi
    obtain ⟨a1, a2, a3⟩ := ih (by omega)
    obtain ⟨b1, b2, b3⟩ := k_pom (air := air) (snow := snow) a1 a2 (by omega)
    show cOK (f i (lp f i σ)) ∧ cRd (f i (lp f i σ)) ∧ ((f i (lp f i σ)).1 1 0).toNatClampNeg = _
    rw [hf]
    exact ⟨b1, b2, by omega⟩
/-- claims speak of houses that are there, filed after they were built -/
def cCl (σ : Sg) : Prop := ∀ k, k < cpN σ 2 → (σ.1 37 k).toNatClampNeg < cpN σ 0 ∧ vp_in (σ.1 39 k) 601 ∧ (σ.1 18 (σ.1 37 k).toNatClampNeg).toNatClampNeg ≤ (σ.1 39 k).toNatClampNeg
