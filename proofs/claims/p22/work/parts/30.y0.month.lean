/-! a month: temperatures as whole numbers; what each phase keeps; snow -/
theorem tdiv_c (a : Int) (h : a ≤ 0) (n : Int) : a.tdiv n = -((-a) / n) := by
  obtain ⟨b, rfl⟩ : ∃ b : Int, a = -b := ⟨-a, by omega⟩
  rw [Int.neg_tdiv, Int.tdiv_eq_ediv_of_nonneg (by omega), Int.neg_neg]
theorem k_0 : (nI 0).toInt = 0 := by decide
theorem k_1 : (nI 1).toInt = 1 := by decide
theorem k_2 : (nI 2).toInt = 2 := by decide
theorem k_3 : (nI 3).toInt = 3 := by decide
theorem k_9 : (nI 9).toInt = 9 := by decide
theorem k_10 : (nI 10).toInt = 10 := by decide
theorem k_20 : (nI 20).toInt = 20 := by decide
theorem k_30 : (nI 30).toInt = 30 := by decide
theorem k_60 : (nI 60).toInt = 60 := by decide
theorem k_100 : (nI 100).toInt = 100 := by decide
theorem k_300 : (nI 300).toInt = 300 := by decide
theorem k_1000 : (nI 1000).toInt = 1000 := by decide
theorem z_0 : ((0 : Int32)).toInt = 0 := by decide
/-- an energy, a temperature and the units of a layer, as whole numbers -/
def TE (e t u : Int) : Prop := (e < 0 ∧ t ≤ 0 ∧ 100 * t - 99 ≤ e ∧ e ≤ 100 * t) ∨ (0 ≤ e ∧ e ≤ 1000 * u ∧ t = 0) ∨ (1000 * u < e ∧ 0 ≤ t ∧ 100 * t ≤ e - 1000 * u ∧ e - 1000 * u ≤ 100 * t + 99)
theorem temp_i {T C : Int} {σ : Sg} (hB : BL T C σ) (hT : T ≤ 20000) {j : Nat} (hj : j < 125) : TE (σ.1 10 j).toInt (l_temperature σ j).toInt ((σ.1 8 j).toInt + (σ.1 9 j).toInt) := by
  obtain ⟨⟨p0, p9⟩, ⟨x0, x9⟩, ⟨e1, e2⟩, -⟩ := hB j hj
  have hu : (l_units σ j).toInt = (σ.1 8 j).toInt + (σ.1 9 j).toInt := by
    unfold l_units
    exact i_add (by omega) (by omega)
  have hm : (nI 1000 * l_units σ j).toInt = 1000 * ((σ.1 8 j).toInt + (σ.1 9 j).toInt) := by rw [i_mul (by rw [k_1000, hu]; omega) (by rw [k_1000, hu]; omega), k_1000, hu]
  unfold TE l_temperature l_temperature_j45
  by_cases q : 0 ≤ σ.1 10 j
  · rw [if_pos q]
    rw [i_le, z_0] at q
    by_cases q2 : σ.1 10 j ≤ nI 1000 * l_units σ j
    · rw [if_pos q2, k_0]
      rw [i_le, hm] at q2
      exact Or.inr (Or.inl ⟨q, q2, rfl⟩)
    · rw [if_neg q2]
      rw [i_le, hm] at q2
      have hs : (σ.1 10 j - nI 1000 * l_units σ j).toInt = (σ.1 10 j).toInt - 1000 * ((σ.1 8 j).toInt + (σ.1 9 j).toInt) := by rw [i_sub (by rw [hm]; omega) (by rw [hm]; omega), hm]
      have hd : ((σ.1 10 j - nI 1000 * l_units σ j) / nI 100).toInt = ((σ.1 10 j).toInt - 1000 * ((σ.1 8 j).toInt + (σ.1 9 j).toInt)) / 100 := by rw [i_div (by rw [k_100]; decide), k_100, hs, Int.tdiv_eq_ediv_of_nonneg (by omega)]
      rw [hd]
      exact Or.inr (Or.inr ⟨by omega, by omega, by omega, by omega⟩)
  · rw [if_neg q]
    rw [i_le, z_0] at q
    have hd : (σ.1 10 j / nI 100).toInt = -((-(σ.1 10 j).toInt) / 100) := by rw [i_div (by rw [k_100]; decide), k_100, tdiv_c _ (by omega)]
    rw [hd]
    exact Or.inl ⟨by omega, by omega, by omega, by omega⟩
theorem temp_b {T C : Int} {σ : Sg} (hB : BL T C σ) (h0 : 0 ≤ T) (hT : T ≤ 20000) {j : Nat} (hj : j < 125) : -50 ≤ (l_temperature σ j).toInt ∧ (l_temperature σ j).toInt ≤ T := by
  have h := temp_i hB hT hj
  obtain ⟨⟨p0, p9⟩, ⟨x0, x9⟩, ⟨e1, e2⟩, -⟩ := hB j hj
  unfold TE at h
  omega
theorem temp_cg {σ τ : Sg} {j : Nat} (h8 : τ.1 8 j = σ.1 8 j) (h9 : τ.1 9 j = σ.1 9 j) (h10 : τ.1 10 j = σ.1 10 j) : l_temperature τ j = l_temperature σ j := by
  unfold l_temperature l_temperature_j45 l_units
  rw [h8, h9, h10]
/-- what holds between the phases of a month that began at σ0 and μ0 -/
def PH (σ0 μ0 : Sg) (T C N : Int) (σ μ : Sg) : Prop := (FF σ σ0 ∧ FF μ μ0) ∧ AG (cpN σ0 0) (cpN σ0 1) (cpN σ0 2) σ μ ∧ (∀ c, c < 25 → vp_in (μ.1 4 c) 10 ∧ vp_in (μ.1 5 c) 4) ∧ BL T C σ ∧ BW N σ
theorem BL.mono {T T' C C' : Int} {σ : Sg} (h : BL T C σ) (h1 : T ≤ T') (h2 : C ≤ C') : BL T' C' σ := fun j hj => by
  obtain ⟨a, b, ⟨c1, c2⟩, d1, d2⟩ := h j hj
  exact ⟨a, b, ⟨c1, by omega⟩, d1, by omega⟩
theorem PH.mono {σ0 μ0 : Sg} {T T' C C' N N' : Int} {σ μ : Sg} (h : PH σ0 μ0 T C N σ μ) (h1 : T ≤ T') (h2 : C ≤ C') (h3 : N ≤ N') : PH σ0 μ0 T' C' N' σ μ := ⟨h.1, h.2.1, h.2.2.1, h.2.2.2.1.mono h1 h2, h.2.2.2.2.1, Int.le_trans h.2.2.2.2.2 h3⟩
theorem PH.start {σ μ : Sg} (h : Rel σ μ) : PH σ μ (300 + 31 * (mon σ : Int)) (1000 + 3 * (mon σ : Int)) (1125 * (mon σ : Int)) σ μ := ⟨⟨FF.rf, FF.rf⟩, h.1, h.snow, h.2.2.1, h.2.2.2.1⟩
/-- a phase that leaves layers and ponds -/
theorem PH.same {σ0 μ0 : Sg} {T C N : Int} {σ μ τ ν : Sg} (h : PH σ0 μ0 T C N σ μ) (F : FF τ σ) (G : FF ν μ) (ha : AG (cpN σ0 0) (cpN σ0 1) (cpN σ0 2) τ ν) (hc : ∀ c, c < 25 → vp_in (ν.1 4 c) 10 ∧ vp_in (ν.1 5 c) 4) (hB : ∀ k, 8 ≤ k → k ≤ 11 → ∀ j, j < 125 → τ.1 k j = σ.1 k j) (hW : ∀ c, c < 25 → τ.1 3 c = σ.1 3 c) : PH σ0 μ0 T C N τ ν := ⟨⟨fun k hk => (F k hk).trans (h.1.1 k hk), fun k hk => (G k hk).trans (h.1.2 k hk)⟩, ha, hc, BL_of hB h.2.2.2.1, BW_of hW h.2.2.2.2⟩
theorem PH.wl {σ0 μ0 : Sg} {T C N : Int} {σ μ : Sg} (h : PH σ0 μ0 T C N σ μ) (k : Nat) {v v' : Int64} (e : v = v') : PH σ0 μ0 T C N (sl σ k v) (sl μ k v') := ⟨h.1, h.2.1.wl k e, h.2.2⟩
theorem PH.w26 {σ0 μ0 : Sg} {T C N : Int} {σ μ : Sg} (h : PH σ0 μ0 T C N σ μ) {k : Nat} (hk : k = 2 ∨ k = 6) (j : Nat) {v v' : Int32} (e : v = v') : PH σ0 μ0 T C N (si σ k j v) (si μ k j v') := by
  refine h.same (FF.rf.si (by omega)) (FF.rf.si (by omega)) (h.2.1.wr k j e) (fun c hc => ?_) (fun k' h1 h2 j' _ => by rw [si_ne (by omega)]) (fun c _ => by rw [si_ne (by omega)])
  rw [si_ne (by omega), si_ne (by omega)]
  exact h.2.2.1 c hc
theorem PH.w4 {σ0 μ0 : Sg} {T C N : Int} {σ μ : Sg} (h : PH σ0 μ0 T C N σ μ) (j : Nat) {v v' : Int32} (e : v = v') (hv : vp_in v' 10) : PH σ0 μ0 T C N (si σ 4 j v) (si μ 4 j v') := by
  refine h.same (FF.rf.si (by omega)) (FF.rf.si (by omega)) (h.2.1.wr 4 j e) (fun c hc => ?_) (fun k' h1 h2 j' _ => by rw [si_ne (by omega)]) (fun c _ => by rw [si_ne (by omega)])
  rw [si_ne (k' := 5) (by omega), si_at]
  by_cases q : c = j
  · rw [if_pos ⟨rfl, q⟩]
    exact ⟨hv, (h.2.2.1 c hc).2⟩
  · rw [if_neg (fun z => q z.2)]
    exact h.2.2.1 c hc
/-- 1: snow -/
theorem ph_snow {σ0 μ0 : Sg} {T C N : Int} {σ μ : Sg} (h : PH σ0 μ0 T C N σ μ) {air snow : Int32} (h0 : 0 ≤ snow.toInt) (h9 : snow.toInt ≤ 9) : PH σ0 μ0 T C N (k_letSnow_s σ air snow) (lp (m_passOne_b2 air snow) 25 μ) := by
  have es : k_letSnow_s σ air snow = lp (k_letSnow_b2 air snow) 25 σ := rfl
  rw [es]
  refine lp_rel (P := fun _ z ζ => PH σ0 μ0 T C N z ζ) (N := 25) h (fun i z ζ hi hz => ?_) 25 (Nat.le_refl _)
  have e1 : k_letSnow_b2 air snow i z = si z 4 i (if 0 ≤ air then nI 0 else w_min (z.1 4 i + snow) (nI 9)) := rfl
  have e2 : m_passOne_b2 air snow i ζ = si ζ 4 i (if 0 ≤ air then nI 0 else m_lesser (nI 9) (ζ.1 4 i + snow)) := rfl
  rw [e1, e2]
  refine hz.w4 i (by rw [min_2, hz.2.1.cell (k := 4) (by omega) hi]) ?_
  by_cases q : 0 ≤ air
  · rw [if_pos q]
    exact vp_in_nI (by decide) (by decide)
  · rw [if_neg q]
    have hs := vp_in_iff.mp (hz.2.2.1 i hi).1
    refine vp_in_iff.mpr ?_
    rw [m_lesser_i, i_add (by omega) (by omega), k_9]
    omega
