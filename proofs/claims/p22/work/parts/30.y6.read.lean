/-! a month: houses tilt, boreholes read -/
def TI (s s' : Sg) (nh nb nc i : Nat) (z ζ : Sg) : Prop := AG nh nb nc z ζ ∧ ((∀ k, k ≠ 17 → z.1 k = s.1 k) ∧ ∀ k, k ≠ 17 → ζ.1 k = s'.1 k) ∧ ∀ x, i ≤ x → ζ.1 17 x = s'.1 17 x
/-- 7: houses tilt -/
theorem ph_tilt {s s' : Sg} {nh nb nc : Nat} (hA : AG nh nb nc s s') (hc : ∀ x, x < nh → vp_in (s.1 14 x) 25 ∧ vp_in (s.1 15 x) 5) : TI s s' nh nb nc nh (lp k_tiltHouses_b2 nh s) (lp m_passOne_b116 nh s') := by
  refine lp_rel (P := fun i z ζ => TI s s' nh nb nc i z ζ) (f := k_tiltHouses_b2) (g := m_passOne_b116) (N := nh) ⟨hA, ⟨fun _ _ => rfl, fun _ _ => rfl⟩, fun _ _ => rfl⟩ (fun i z ζ hi h => ?_) nh (Nat.le_refl _)
  obtain ⟨h1, ⟨hz, hζ⟩, h17⟩ := h
  have vc : vp_in (z.1 14 i) 25 := by
    rw [hz 14 (by decide)]
    exact (hc i hi).1
  have vp : vp_in (z.1 15 i) 5 := by
    rw [hz 15 (by decide)]
    exact (hc i hi).2
  have e14 : ζ.1 14 i = z.1 14 i := (h1.hou (k := 14) (by omega) hi).symm
  have e15 : ζ.1 15 i = z.1 15 i := (h1.hou (k := 15) (by omega) hi).symm
  have e17 : z.1 17 i = ζ.1 17 i := h1.hou (k := 17) (by omega) hi
  have lc := vp_lt vc
  have l5 := vp_lt vp
  obtain ⟨k, hk⟩ : ∃ k : Nat, k = 5 * (z.1 14 i).toNatClampNeg + (z.1 15 i).toNatClampNeg := ⟨_, rfl⟩
  have e10 := h1.lay (k := 10) (j := k) (by omega) (by omega)
  have kz : k_tiltHouses_b2 i z = if z.1 10 k < 0 then z else si z 17 i (z.1 17 i + nI 1) := by
    unfold k_tiltHouses_b2 k_tiltHouses_j58 l_isThawed l_isThawed_j12
    rw [← hk]
    by_cases q : z.1 10 k < 0
    · rw [if_pos q, if_pos n0_eq, if_pos q]
    · rw [if_neg q, if_neg n1_ne, if_neg q]
  have kζ : m_passOne_b116 i ζ = si ζ 17 i (ζ.1 17 i + (if z.1 10 k < 0 then nI 0 else nI 1)) := by
    unfold m_passOne_b116 m_passOne_j159 m_passOne_k161
    rw [e14, e15, idx5n vc vp, ← hk, ← e10]
  rw [kz, kζ]
  by_cases q : z.1 10 k < 0
  · rw [if_pos q, if_pos q, n0_eq, Int32.add_zero]
    refine ⟨⟨fun k' j hv => ?_, h1.2⟩, ⟨hz, fun k' hk' => by rw [si_ne hk']; exact hζ k' hk'⟩, fun x hx => ?_⟩
    · rw [si_at]
      by_cases q2 : k' = 17 ∧ j = i
      · rw [if_pos q2, q2.1, q2.2]
        exact e17
      · rw [if_neg q2]
        exact h1.1 k' j hv
    · rw [si_pj _ (by omega)]
      exact h17 x (by omega)
  · rw [if_neg q, if_neg q]
    refine ⟨h1.wr 17 i (by rw [e17]), ⟨fun k' hk' => by rw [si_ne hk']; exact hz k' hk', fun k' hk' => by rw [si_ne hk']; exact hζ k' hk'⟩, fun x hx => ?_⟩
    rw [si_pj _ (by omega)]
    exact h17 x (by omega)
theorem read_c {z s1 : Sg} {i ci D : Nat} (hD : z.1 35 i = nI D) (hD6 : D ≤ 600) : ∀ l, l ≤ 5 → ((∀ k, k ≠ 40 + i → (lp (h_readLayers_b33 z i ci s1) l s1).1 k = s1.1 k) ∧ (lp (h_readLayers_b33 z i ci s1) l s1).2 = s1.2) ∧ ∀ x, (lp (h_readLayers_b33 z i ci s1) l s1).1 (40 + i) x = if 5 * D ≤ x ∧ x < 5 * D + l then l_temperature s1 (5 * ci + (x - 5 * D)) + s1.1 21 i * s1.1 35 i / nI 12 else s1.1 (40 + i) x := fun l => by
  induction l with
  | zero => exact fun _ => ⟨⟨fun _ _ => rfl, rfl⟩, fun x => by rw [if_neg (by omega)]; rfl⟩
  | succ l ih =>
    intro hl
    obtain ⟨⟨h1, h2⟩, h3⟩ := ih (by omega)
    have e : lp (h_readLayers_b33 z i ci s1) (l + 1) s1 = h_readLayers_b33 z i ci s1 l (lp (h_readLayers_b33 z i ci s1) l s1) := rfl
    rw [e]
    generalize lp (h_readLayers_b33 z i ci s1) l s1 = w at h1 h2 h3 ⊢
    have eT : l_temperature w (5 * ci + l) = l_temperature s1 (5 * ci + l) := temp_cg (by rw [h1 8 (by omega)]) (by rw [h1 9 (by omega)]) (by rw [h1 10 (by omega)])
    have ew : h_readLayers_b33 z i ci s1 l w = si w (40 + i) (5 * D + l) (l_temperature s1 (5 * ci + l) + s1.1 21 i * s1.1 35 i / nI 12) := by
      unfold h_readLayers_b33 h_readLayers_k70
      rw [eT, hD, pk_mul, nI_add, nI_clamp (by omega), Nat.mul_comm D 5]
    rw [ew]
    refine ⟨⟨fun k hk => ?_, h2⟩, fun x => ?_⟩
    · rw [si_ne hk]
      exact h1 k hk
    · by_cases q : x = 5 * D + l
      · subst q
        rw [si_eq, if_pos (by omega), show 5 * D + l - 5 * D = l by omega]
      · rw [si_pj _ q, h3]
        by_cases q2 : 5 * D ≤ x ∧ x < 5 * D + l
        · rw [if_pos q2, if_pos ⟨q2.1, by omega⟩]
        · rw [if_neg q2, if_neg (fun y => q2 ⟨y.1, by omega⟩)]
theorem read_m {ζ : Sg} {i M c : Nat} (hM : ζ.1 1 0 = nI M) (hM6 : M < 600) (hi : i < 10) (hcell : ζ.1 20 i = nI c) (hc : c < 25) : ∀ l, l ≤ 5 → ((∀ k, k ≠ 23 → (lp (m_passOne_b180 i) l ζ).1 k = ζ.1 k) ∧ (lp (m_passOne_b180 i) l ζ).2 = ζ.2) ∧ ∀ y, (lp (m_passOne_b180 i) l ζ).1 23 y = if 3000 * i + 5 * M ≤ y ∧ y < 3000 * i + 5 * M + l then m_degreesOf ζ (nI (5 * c + (y - (3000 * i + 5 * M)))) + ζ.1 21 i * (nI (M + 1) - ζ.1 22 i) / nI 12 else ζ.1 23 y := fun l => by
  induction l with
  | zero => exact fun _ => ⟨⟨fun _ _ => rfl, rfl⟩, fun x => by rw [if_neg (by omega)]; rfl⟩
  | succ l ih =>
    intro hl
    obtain ⟨⟨h1, h2⟩, h3⟩ := ih (by omega)
    have e : lp (m_passOne_b180 i) (l + 1) ζ = m_passOne_b180 i l (lp (m_passOne_b180 i) l ζ) := rfl
    rw [e]
    generalize lp (m_passOne_b180 i) l ζ = w at h1 h2 h3 ⊢
    have eT : m_degreesOf w (nI (5 * c + l)) = m_degreesOf ζ (nI (5 * c + l)) := by
      unfold m_degreesOf m_degreesOf_j62
      rw [h1 8 (by decide), h1 9 (by decide), h1 10 (by decide)]
    have ew : m_passOne_b180 i l w = si w 23 (3000 * i + 5 * M + l) (m_degreesOf ζ (nI (5 * c + l)) + ζ.1 21 i * (nI (M + 1) - ζ.1 22 i) / nI 12) := by
      unfold m_passOne_b180 m_passOne_k245
      rw [h1 1 (by decide), h1 20 (by decide), h1 21 (by decide), h1 22 (by decide), hM, hcell, pk_mul, pk_mul, nI_add, nI_add, nI_add, nI_add, nI_clamp (by omega), eT]
    rw [ew]
    refine ⟨⟨fun k hk => ?_, h2⟩, fun x => ?_⟩
    · rw [si_ne hk]
      exact h1 k hk
    · by_cases q : x = 3000 * i + 5 * M + l
      · subst q
        rw [si_eq, if_pos (by omega), show 3000 * i + 5 * M + l - (3000 * i + 5 * M) = l by omega]
      · rw [si_pj _ q, h3]
        by_cases q2 : 3000 * i + 5 * M ≤ x ∧ x < 3000 * i + 5 * M + l
        · rw [if_pos q2, if_pos ⟨q2.1, by omega⟩]
        · rw [if_neg q2, if_neg (fun y => q2 ⟨y.1, by omega⟩)]
/-- boreholes, one behind the other -/
def sk (s : Sg) (b : Nat) : Nat := (s.1 22 b).toNatClampNeg
def RI (s s' : Sg) (nb M i : Nat) (z ζ : Sg) : Prop := ((∀ k, k ≠ 35 → k < 40 → z.1 k = s.1 k) ∧ z.2 = s.2) ∧ ((∀ k, k ≠ 23 → ζ.1 k = s'.1 k) ∧ ζ.2 = s'.2) ∧ (∀ b, b < nb → z.1 35 b = nI (M - sk s b + (if b < i then 1 else 0))) ∧ (∀ b, b < nb → ∀ x, x < 5 * (M - sk s b) → z.1 (40 + b) x = s.1 (40 + b) x) ∧ ∀ b, b < nb → ∀ m l, sk s b ≤ m → m < M + (if b < i then 1 else 0) → l < 5 → z.1 (40 + b) (5 * (m - sk s b) + l) = ζ.1 23 (3000 * b + 5 * m + l)
theorem RI_step {s s' : Sg} {nh nb nc M : Nat} (hA : AG nh nb nc s s') (hn : nb ≤ 10) (hM : s.1 1 0 = nI M) (hM6 : M < 600) (hs : ∀ b, b < nb → vp_in (s.1 22 b) 601 ∧ sk s b ≤ M) (hcl : ∀ b, b < nb → vp_in (s.1 20 b) 25) {i : Nat} (hi : i < nb) {z ζ : Sg} (h : RI s s' nb M i z ζ) : RI s s' nb M (i + 1) (k_readBoreholes_b2 i z) (m_passOne_b169 i ζ) := by
  obtain ⟨⟨hz, hz2⟩, ⟨hζ, hζ2⟩, h35, hold, hrd⟩ := h
  obtain ⟨D, hD⟩ : ∃ D : Nat, D = M - sk s i := ⟨_, rfl⟩
  obtain ⟨v22, hsk⟩ := hs i hi
  have vc := hcl i hi
  have lc := vp_lt vc
  have hDi : z.1 35 i = nI D := by
    rw [h35 i hi, if_neg (by omega), hD]
    first | done | rfl
  have g1 : ζ.1 1 0 = nI M := by
    rw [hζ 1 (by decide), ← hA.cnt (k := 1) (by omega)]
    exact hM
  have g20 : ζ.1 20 i = nI (s.1 20 i).toNatClampNeg := by
    rw [hζ 20 (by decide), ← hA.hol (k := 20) (by omega) hi]
    exact vp_self vc
  have g21 : ζ.1 21 i = s.1 21 i := by rw [hζ 21 (by decide), ← hA.hol (k := 21) (by omega) hi]
  have g22 : ζ.1 22 i = nI (sk s i) := by
    rw [hζ 22 (by decide), ← hA.hol (k := 22) (by omega) hi]
    exact vp_self v22
  obtain ⟨ci, hci⟩ : ∃ ci : Nat, ci = (s.1 20 i).toNatClampNeg := ⟨_, rfl⟩
  rw [← hci] at g20 lc
  have z20 : (z.1 20 i).toNatClampNeg = ci := by rw [hz 20 (by decide) (by decide), hci]
  obtain ⟨s1, hs1⟩ : ∃ s1 : Sg, s1 = si z 35 i (nI (D + 1)) := ⟨_, rfl⟩
  have kz : k_readBoreholes_b2 i z = lp (h_readLayers_b33 z i ci s1) 5 s1 := by
    unfold k_readBoreholes_b2 k_readBoreholes_k41 h_readLayers_s h_readLayers_k17_s h_readLayers_x33_s
    rw [z20, hDi, nI_add, ← hs1]
  have kζ : m_passOne_b169 i ζ = lp (m_passOne_b180 i) 5 ζ := rfl
  obtain ⟨⟨c1, c2⟩, c3⟩ := read_c (s1 := s1) (ci := ci) hDi (by omega) 5 (Nat.le_refl _)
  obtain ⟨⟨m1, m2⟩, m3⟩ := read_m g1 hM6 (by omega) g20 lc 5 (Nat.le_refl _)
  rw [kz, kζ]
  generalize lp (h_readLayers_b33 z i ci s1) 5 s1 = w at c1 c2 c3 ⊢
  generalize lp (m_passOne_b180 i) 5 ζ = t at m1 m2 m3 ⊢
  have s35 : s1.1 35 i = nI (D + 1) := by rw [hs1, si_eq]
  have sK : ∀ k, k ≠ 35 → s1.1 k = z.1 k := fun k hk => by rw [hs1, si_ne hk]
  have hV : ∀ l, l < 5 → w.1 (40 + i) (5 * D + l) = t.1 23 (3000 * i + 5 * M + l) := fun l hl => by
    have eT : l_temperature s1 (5 * ci + l) = m_degreesOf ζ (nI (5 * ci + l)) := temp_eq (by rw [sK 8 (by decide), hz 8 (by decide) (by decide), hζ 8 (by decide)]; exact hA.lay (by omega) (by omega)) (by rw [sK 9 (by decide), hz 9 (by decide) (by decide), hζ 9 (by decide)]; exact hA.lay (by omega) (by omega)) (by rw [sK 10 (by decide), hz 10 (by decide) (by decide), hζ 10 (by decide)]; exact hA.lay (by omega) (by omega)) (by omega)
    rw [c3, if_pos (by omega), m3, if_pos (by omega), show 5 * D + l - 5 * D = l by omega, show 3000 * i + 5 * M + l - (3000 * i + 5 * M) = l by omega, eT, sK 21 (by decide), hz 21 (by decide) (by decide), s35, g21, g22, pk_sub (by omega), show M + 1 - sk s i = D + 1 by omega]
  refine ⟨⟨fun k k1 k2 => ?_, by rw [c2, hs1]; exact hz2⟩, ⟨fun k hk => by rw [m1 k hk]; exact hζ k hk, by rw [m2]; exact hζ2⟩, fun b hb => ?_, fun b hb x hx => ?_, fun b hb m l b1 b2 b3 => ?_⟩
  · rw [c1 k (by omega), sK k k1]
    exact hz k k1 k2
  · rw [c1 35 (by omega)]
    by_cases q : b = i
    · subst q
      rw [s35, if_pos (by omega), hD]
    · rw [hs1, si_pj _ q, h35 b hb]
      by_cases q2 : b < i
      · rw [if_pos q2, if_pos (by omega)]
      · rw [if_neg q2, if_neg (by omega)]
  · by_cases q : b = i
    · subst q
      rw [c3, if_neg (by omega), sK _ (by omega)]
      exact hold b hb x hx
    · rw [c1 _ (by omega), sK _ (by omega)]
      exact hold b hb x hx
  · by_cases q : b = i
    · subst q
      rw [if_pos (by omega)] at b2
      by_cases q2 : m = M
      · subst q2
        rw [← hD]
        exact hV l b3
      · have e1 := hrd b hb m l b1 (by rw [if_neg (by omega)]; omega) b3
        rw [c3, if_neg (by omega), sK _ (by omega), m3, if_neg (by omega)]
        exact e1
    · have hb2 : m < M + (if b < i then 1 else 0) := by
        by_cases q2 : b < i
        · rw [if_pos q2]
          rw [if_pos (by omega)] at b2
          exact b2
        · rw [if_neg q2]
          rw [if_neg (by omega)] at b2
          exact b2
      have e1 := hrd b hb m l b1 hb2 b3
      have hm6 : m < 600 := by
        by_cases q2 : b < i
        · rw [if_pos q2] at hb2
          omega
        · rw [if_neg q2] at hb2
          omega
      rw [c1 _ (by omega), sK _ (by omega), m3, if_neg (by omega)]
      exact e1
/-- 8: boreholes read -/
theorem ph_read {s s' : Sg} {nh nb nc M : Nat} (hA : AG nh nb nc s s') (hn : nb ≤ 10) (hM : s.1 1 0 = nI M) (hM6 : M < 600) (hs : ∀ b, b < nb → vp_in (s.1 22 b) 601 ∧ sk s b ≤ M) (hcl : ∀ b, b < nb → vp_in (s.1 20 b) 25) (h35 : ∀ b, b < nb → s.1 35 b = nI (M - sk s b)) (hrd : ∀ b, b < nb → ∀ m l, sk s b ≤ m → m < M → l < 5 → s.1 (40 + b) (5 * (m - sk s b) + l) = s'.1 23 (3000 * b + 5 * m + l)) : RI s s' nb M nb (lp k_readBoreholes_b2 nb s) (lp m_passOne_b169 nb s') := by
  refine lp_rel (P := fun i z ζ => RI s s' nb M i z ζ) (f := k_readBoreholes_b2) (g := m_passOne_b169) (N := nb) ⟨⟨fun _ _ _ => rfl, rfl⟩, ⟨fun _ _ => rfl, rfl⟩, fun b hb => ?_, fun _ _ _ _ => rfl, fun b hb m l b1 b2 b3 => ?_⟩ (fun i z ζ hi h => RI_step hA hn hM hM6 hs hcl hi h) nb (Nat.le_refl _)
  · rw [if_neg (Nat.not_lt_zero _)]
    exact h35 b hb
  · rw [if_neg (Nat.not_lt_zero _)] at b2
    exact hrd b hb m l b1 b2 b3
