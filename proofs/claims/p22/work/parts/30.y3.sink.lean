/-! a month: what has melted leaves; ponds flow -/
theorem FF.trans {a b c : Sg} (h : FF a b) (g : FF b c) : FF a c := fun k hk => (h k hk).trans (g k hk)
theorem PH.upd {σ0 μ0 : Sg} {T C N N' : Int} {σ μ τ ν : Sg} (h : PH σ0 μ0 T C N σ μ) (F : FF τ σ) (G : FF ν μ) (ha : AG (cpN σ0 0) (cpN σ0 1) (cpN σ0 2) τ ν) (h4 : ν.1 4 = μ.1 4) (h5 : ν.1 5 = μ.1 5) (j : Nat) (hB : ∀ k, 8 ≤ k → k ≤ 11 → ∀ x, x ≠ j → τ.1 k x = σ.1 k x) (hj : j < 125 → (0 ≤ (τ.1 8 j).toInt ∧ (τ.1 8 j).toInt ≤ 9) ∧ (0 ≤ (τ.1 9 j).toInt ∧ (τ.1 9 j).toInt ≤ 9) ∧ (-5099 ≤ (τ.1 10 j).toInt ∧ (τ.1 10 j).toInt ≤ 1000 * ((τ.1 8 j).toInt + (τ.1 9 j).toInt) + 100 * T + 99) ∧ 0 ≤ (τ.1 11 j).toInt ∧ (τ.1 11 j).toInt ≤ C) (hW : BW N' τ) : PH σ0 μ0 T C N' τ ν := by
  refine ⟨⟨fun k hk => (F k hk).trans (h.1.1 k hk), fun k hk => (G k hk).trans (h.1.2 k hk)⟩, ha, fun c hc => ?_, fun x hx => ?_, hW⟩
  · rw [h4, h5]
    exact h.2.2.1 c hc
  · by_cases q : x = j
    · rw [q]
      exact hj (by omega)
    · rw [hB 8 (by decide) (by decide) x q, hB 9 (by decide) (by decide) x q, hB 10 (by decide) (by decide) x q, hB 11 (by decide) (by decide) x q]
      exact h.2.2.2.1 x hx
theorem sw_at {τ σ : Sg} {c : Nat} (h : ∀ x, x ≠ c → τ.1 3 x = σ.1 3 x) (n : Nat) (hc : c < n) : sw τ n = sw σ n + ((τ.1 3 c).toInt - (σ.1 3 c).toInt) := by
  induction n with
  | zero => exact absurd hc (Nat.not_lt_zero _)
  | succ n ih =>
    show sw τ n + (τ.1 3 n).toInt = sw σ n + (σ.1 3 n).toInt + _
    by_cases q : c = n
    · subst q
      rw [sw_of c (fun x hx => h x (by omega))]
      omega
    · rw [ih (by omega), h n (fun y => q y.symm)]
      omega
theorem sw_0 {σ : Sg} (n : Nat) (h : ∀ c, c < n → 0 ≤ (σ.1 3 c).toInt) : 0 ≤ sw σ n := by
  induction n with
  | zero => exact Int.le_refl _
  | succ n ih =>
    show 0 ≤ sw σ n + (σ.1 3 n).toInt
    have a := ih (fun c hc => h c (by omega))
    have b := h n (by omega)
    omega
theorem sw_1 {σ : Sg} (n : Nat) (h : ∀ c, c < n → 0 ≤ (σ.1 3 c).toInt) {c : Nat} (hc : c < n) : (σ.1 3 c).toInt ≤ sw σ n := by
  induction n with
  | zero => exact absurd hc (Nat.not_lt_zero _)
  | succ n ih =>
    show _ ≤ sw σ n + (σ.1 3 n).toInt
    have b := h n (by omega)
    by_cases q : c = n
    · subst q
      have a := sw_0 c (fun x hx => h x (by omega))
      omega
    · have a := ih (fun c hc => h c (by omega)) (by omega)
      omega
theorem BW.wat {N N' : Int} {σ : Sg} (h : BW N σ) {c : Nat} (hc : c < 25) {τ : Sg} (hx : ∀ x, x ≠ c → τ.1 3 x = σ.1 3 x) (h0 : 0 ≤ (τ.1 3 c).toInt) (hN : N + ((τ.1 3 c).toInt - (σ.1 3 c).toInt) ≤ N') : BW N' τ := by
  refine ⟨fun x h' => ?_, ?_⟩
  · by_cases q : x = c
    · rw [q]; exact h0
    · rw [hx x q]; exact h.1 x h'
  · rw [sw_at hx 25 hc]
    have a := h.2
    omega
theorem BW.one {N : Int} {σ : Sg} (h : BW N σ) {c : Nat} (hc : c < 25) : 0 ≤ (σ.1 3 c).toInt ∧ (σ.1 3 c).toInt ≤ N := ⟨h.1 c hc, Int.le_trans (sw_1 25 h.1 hc) h.2⟩
theorem PH.w3 {σ0 μ0 : Sg} {T C N N' : Int} {σ μ : Sg} (h : PH σ0 μ0 T C N σ μ) {c : Nat} (hc : c < 25) {v v' : Int32} (e : v = v') (h0 : 0 ≤ v.toInt) (hN : N + (v.toInt - (σ.1 3 c).toInt) ≤ N') : PH σ0 μ0 T C N' (si σ 3 c v) (si μ 3 c v') := by
  refine ⟨⟨(FF.rf.si (by omega) : FF (si σ 3 c v) σ).trans h.1.1, (FF.rf.si (by omega) : FF (si μ 3 c v') μ).trans h.1.2⟩, h.2.1.wr 3 c e, fun x hx => ?_, BL_of (fun k h1 h2 j hj => by rw [si_ne (by omega)]) h.2.2.2.1, h.2.2.2.2.wat hc (fun x hx => si_pj 3 hx) (by rw [si_eq]; exact h0) (by rw [si_eq]; exact hN)⟩
  rw [si_ne (by omega), si_ne (by omega)]
  exact h.2.2.1 x hx
/-- what has melted of a layer -/
theorem melt_i {T C : Int} {σ : Sg} (hB : BL T C σ) (hT : T ≤ 20000) {j : Nat} (hj : j < 125) : (l_melted σ j).toInt = min (max (σ.1 10 j).toInt 0 / 1000) ((σ.1 8 j).toInt + (σ.1 9 j).toInt) := by
  obtain ⟨⟨p0, p9⟩, ⟨x0, x9⟩, ⟨e1, e2⟩, -⟩ := hB j hj
  have hu : (l_units σ j).toInt = (σ.1 8 j).toInt + (σ.1 9 j).toInt := by
    unfold l_units
    exact i_add (by omega) (by omega)
  unfold l_melted
  rw [w_min_i, hu, i_div (by rw [k_1000]; decide), k_1000, w_max_i, k_0, Int.tdiv_eq_ediv_of_nonneg (by omega)]
theorem melt_m {T C : Int} {σ μ : Sg} {nh nb nc : Nat} (h : AG nh nb nc σ μ) (hB : BL T C σ) (hT : T ≤ 20000) {j : Nat} (hj : j < 125) : l_melted σ j = m_melted μ (nI j) := by
  have hm := melt_i hB hT hj
  obtain ⟨⟨p0, p9⟩, ⟨x0, x9⟩, ⟨e1, e2⟩, -⟩ := hB j hj
  have e8 := h.lay (k := 8) (by omega) hj
  have e9 := h.lay (k := 9) (by omega) hj
  have e10 := h.lay (k := 10) (by omega) hj
  unfold m_melted m_melted_j42
  rw [nI_clamp (by omega), ← e8, ← e9, ← e10]
  by_cases q : nI 1000 ≤ σ.1 10 j
  · rw [if_pos q]
    rw [i_le, k_1000] at q
    have hw : w_max (σ.1 10 j) (nI 0) = σ.1 10 j := Int32.toInt_inj.mp (by rw [w_max_i, k_0]; omega)
    unfold l_melted l_units
    rw [hw, min_2]
  · rw [if_neg q]
    rw [i_le, k_1000] at q
    exact Int32.toInt_inj.mp (by rw [hm, k_0]; omega)
theorem sink_step {σ0 μ0 : Sg} {T C N : Int} {z ζ : Sg} (h : PH σ0 μ0 T C N z ζ) (hT : T ≤ 20000) (hN : N ≤ 1000000) {c l : Nat} (hc : c < 25) (hl : l < 5) : PH σ0 μ0 T C (N + 9) (c_letMeltedExcessOut_b2 c l z) (m_sink_s ζ (5 * c + l)) := by
  have hm := melt_i h.2.2.2.1 hT (j := 5 * c + l) (by omega)
  have me := melt_m h.2.1 h.2.2.2.1 hT (j := 5 * c + l) (by omega)
  have kd : (5 * c + l) / 5 = c := by omega
  obtain ⟨k, hk⟩ : ∃ k : Nat, k = 5 * c + l := ⟨_, rfl⟩
  have hk5 : k < 125 := by omega
  rw [← hk] at hm me kd
  obtain ⟨⟨p0, p9⟩, ⟨x0, x9⟩, ⟨e1, e2⟩, d1, d2⟩ := h.2.2.2.1 k hk5
  have e8 := h.2.1.lay (k := 8) (j := k) (by omega) hk5
  have e9 := h.2.1.lay (k := 9) (j := k) (by omega) hk5
  have e10 := h.2.1.lay (k := 10) (j := k) (by omega) hk5
  have f2 := h.2.1.cell (k := 2) (by omega) hc
  have f3 := h.2.1.cell (k := 3) (by omega) hc
  obtain ⟨O, hO⟩ : ∃ O : Int32, O = w_max (l_melted z k - z.1 8 k) (nI 0) := ⟨_, rfl⟩
  have hOm : m_greater (nI 0) (m_melted ζ (nI k) - ζ.1 8 k) = O := by rw [← me, ← e8, hO, max_2]
  have hOi : O.toInt = max ((l_melted z k).toInt - (z.1 8 k).toInt) 0 := by
    rw [hO, w_max_i, k_0, i_sub (by omega) (by omega)]
  have wb := h.2.2.2.2.one hc
  have kz : c_letMeltedExcessOut_b2 c l z = si (si (si (si z 9 k (z.1 9 k - O)) 10 k (z.1 10 k - nI 1000 * O)) 2 c (z.1 2 c - O)) 3 c (z.1 3 c + O) := by
    unfold c_letMeltedExcessOut_b2 c_letMeltedExcessOut_k20 c_letMeltedExcessOut_k31 c_letMeltedExcessOut_k41 l_letMeltedExcessOut_s l_letMeltedExcessOut_k24_s l_letMeltedExcessOut_k38_s l_letMeltedExcessOut l_letMeltedExcessOut_k24 l_letMeltedExcessOut_k38
    rw [← hk, ← hO]
    simp only [si_at, Nat.reduceEqDiff, false_and, if_false]
  have kζ : m_sink_s ζ k = si (si (si (si ζ 9 k (ζ.1 9 k - O)) 10 k (ζ.1 10 k - nI 1000 * O)) 2 c (ζ.1 2 c - O)) 3 c (ζ.1 3 c + O) := by
    unfold m_sink_s m_sink_k27_s m_sink_k41_s m_sink_k53_s m_sink_k65_s
    rw [hOm, kd]
    simp only [si_at, Nat.reduceEqDiff, false_and, if_false]
  have hx : (z.1 9 k - O).toInt = (z.1 9 k).toInt - O.toInt := i_sub (by omega) (by omega)
  have hmO : (nI 1000 * O).toInt = 1000 * O.toInt := by rw [i_mul (by rw [k_1000]; omega) (by rw [k_1000]; omega), k_1000]
  have he : (z.1 10 k - nI 1000 * O).toInt = (z.1 10 k).toInt - 1000 * O.toInt := by rw [i_sub (by rw [hmO]; omega) (by rw [hmO]; omega), hmO]
  have hw : (z.1 3 c + O).toInt = (z.1 3 c).toInt + O.toInt := i_add (by omega) (by omega)
  rw [← hk, kz, kζ]
  refine h.upd (FF.rf.si (by omega) |>.si (by omega) |>.si (by omega) |>.si (by omega)) (FF.rf.si (by omega) |>.si (by omega) |>.si (by omega) |>.si (by omega)) ((((h.2.1.wr 9 k (by rw [e9])).wr 10 k (by rw [e10])).wr 2 c (by rw [f2])).wr 3 c (by rw [f3])) (by rw [si_ne (by decide), si_ne (by decide), si_ne (by decide), si_ne (by decide)]) (by rw [si_ne (by decide), si_ne (by decide), si_ne (by decide), si_ne (by decide)]) k (fun k' h1 h2 x hx => ?_) (fun _ => ?_) (h.2.2.2.2.wat hc (fun x hx => ?_) ?_ ?_)
  · rw [si_ne (by omega), si_ne (by omega), si_pj _ hx, si_pj _ hx]
  · simp only [si_at, Nat.reduceEqDiff, false_and, and_self, if_false, if_true, hx, he]
    exact ⟨⟨p0, p9⟩, ⟨by omega, by omega⟩, ⟨by omega, by omega⟩, d1, d2⟩
  · rw [si_pj _ hx, si_ne (by decide), si_ne (by decide), si_ne (by decide)]
  · rw [si_eq, hw]
    omega
  · rw [si_eq, hw]
    omega
/-- 3: what has melted leaves -/
theorem ph_sink {σ0 μ0 : Sg} {T C N : Int} {σ μ : Sg} (h : PH σ0 μ0 T C N σ μ) (hT : T ≤ 20000) (hN : N ≤ 900000) : PH σ0 μ0 T C (N + 1125) (k_letMeltedExcessOut_s σ) (lp m_passOne_b48 125 μ) := by
  have es : k_letMeltedExcessOut_s σ = lp k_letMeltedExcessOut_b2 25 σ := rfl
  have em : lp m_passOne_b48 125 μ = lp (fun c z => lp (fun l => m_passOne_b48 (5 * c + l)) 5 z) 25 μ := lp_mul5 25
  rw [es, em]
  refine PH.mono (lp_rel (P := fun i z ζ => PH σ0 μ0 T C (N + 45 * (i : Int)) z ζ) (N := 25) (h.mono (Int.le_refl _) (Int.le_refl _) (by omega)) (fun i z ζ hi hz => ?_) 25 (Nat.le_refl _)) (Int.le_refl _) (Int.le_refl _) (by omega)
  have e1 : k_letMeltedExcessOut_b2 i z = lp (c_letMeltedExcessOut_b2 i) 5 z := rfl
  rw [e1]
  refine PH.mono (lp_rel (P := fun l z ζ => PH σ0 μ0 T C (N + 45 * (i : Int) + 9 * (l : Int)) z ζ) (N := 5) (hz.mono (Int.le_refl _) (Int.le_refl _) (by omega)) (fun l z ζ hl hz => ?_) 5 (Nat.le_refl _)) (Int.le_refl _) (Int.le_refl _) (by omega)
  exact PH.mono (sink_step hz hT (by omega) hi hl) (Int.le_refl _) (Int.le_refl _) (by omega)
/-- the lowest neighbour -/
theorem low_eq {σ μ : Sg} {nh nb nc : Nat} (h : AG nh nb nc σ μ) {c : Nat} (hc : c < 25) : k_lowestNeighbour σ (nI c) = lp (m_flow_b4 μ c) 4 (-1) := by
  have es : k_lowestNeighbour σ (nI c) = lp (k_lowestNeighbour_b4 σ (nI c)) 4 (-1) := rfl
  rw [es]
  refine (lp_rel (P := fun _ (a b : Int32) => a = b ∧ (¬ a = -1 → vp_in a 25)) (f := k_lowestNeighbour_b4 σ (nI c)) (g := m_flow_b4 μ c) (x := -1) (y := -1) (N := 4) ⟨rfl, fun q => absurd rfl q⟩ (fun s a b hs hab => ?_) 4 (Nat.le_refl _)).1
  obtain ⟨rfl, ha⟩ := hab
  have hb := m_beside_tab c hc s hs
  unfold k_lowestNeighbour_b4 k_lowestNeighbour_j59 m_flow_b4 m_flow_j63 m_flow_j76
  rw [side_eq c hc s hs]
  generalize m_beside (nI c) (nI s) = b at hb ⊢
  by_cases q1 : b = -1
  · rw [if_pos q1, if_pos q1, if_pos n0_eq]
    exact ⟨rfl, ha⟩
  · rw [if_neg q1, if_neg q1]
    by_cases q2 : a = -1
    · rw [if_pos q2, if_pos q2, if_neg n1_ne]
      exact ⟨rfl, hb⟩
    · rw [if_neg q2, if_neg q2]
      have la := vp_lt (ha q2)
      have lb := vp_lt (hb q1)
      have ea : c_level σ a.toNatClampNeg = μ.1 2 a.toNatClampNeg + μ.1 3 a.toNatClampNeg := by
        unfold c_level
        rw [h.cell (k := 2) (by omega) la, h.cell (k := 3) (by omega) la]
      have eb : c_level σ b.toNatClampNeg = μ.1 2 b.toNatClampNeg + μ.1 3 b.toNatClampNeg := by
        unfold c_level
        rw [h.cell (k := 2) (by omega) lb, h.cell (k := 3) (by omega) lb]
      rw [ea, eb]
      by_cases q3 : μ.1 2 a.toNatClampNeg + μ.1 3 a.toNatClampNeg ≤ μ.1 2 b.toNatClampNeg + μ.1 3 b.toNatClampNeg
      · rw [if_pos q3, if_pos q3, if_pos n0_eq]
        exact ⟨rfl, ha⟩
      · rw [if_neg q3, if_neg q3, if_neg n1_ne]
        exact ⟨rfl, hb⟩
theorem flow_step {σ0 μ0 : Sg} {T C N : Int} {z ζ : Sg} (h : PH σ0 μ0 T C N z ζ) (hN : N ≤ 1000000) {i : Nat} (hi : i < 25) : PH σ0 μ0 T C N (k_letPondsFlow_b2 i z) (m_flow_s ζ i) := by
  have hlow := low_eq h.2.1 hi
  have hin := m_flow_end hi (m_flow_inv ζ hi 4 (Nat.le_refl _))
  obtain ⟨v, hv⟩ : ∃ v : Int32, v = lp (m_flow_b4 ζ i) 4 (-1) := ⟨_, rfl⟩
  rw [← hv] at hlow hin
  have hne : ¬ v = -1 := fun q => by
    rw [q] at hin
    exact absurd hin (by unfold vp_in; decide)
  have lo := vp_lt hin
  have a2 := h.2.1.cell (k := 2) (by omega) hi
  have a3 := h.2.1.cell (k := 3) (by omega) hi
  have b2 := h.2.1.cell (k := 2) (by omega) lo
  have b3 := h.2.1.cell (k := 3) (by omega) lo
  obtain ⟨w, hw⟩ : ∃ w : Nat, w = v.toNatClampNeg := ⟨_, rfl⟩
  rw [← hw] at lo b2 b3
  obtain ⟨A, hA⟩ : ∃ A : Int32, A = z.1 2 i + z.1 3 i - z.1 2 w - z.1 3 w := ⟨_, rfl⟩
  have hAk : c_level z i - c_level z w = A := by
    unfold c_level
    rw [hA, i_ring1]
  have kz : k_letPondsFlow_b2 i z = if A < nI 2 then z else si (si z 3 i (z.1 3 i - w_min (A / nI 2) (z.1 3 i))) 3 w ((si z 3 i (z.1 3 i - w_min (A / nI 2) (z.1 3 i))).1 3 w + w_min (A / nI 2) (z.1 3 i)) := by
    unfold k_letPondsFlow_b2 k_letPondsFlow_j93 k_letPondsFlow_t16n k_letPondsFlow_k77
    rw [hlow, if_neg hne, ← hw, hAk]
  have kζ : m_flow_s ζ i = if A ≤ nI 1 then ζ else si (si ζ 3 i (ζ.1 3 i - w_min (A / nI 2) (z.1 3 i))) 3 w ((si ζ 3 i (ζ.1 3 i - w_min (A / nI 2) (z.1 3 i))).1 3 w + w_min (A / nI 2) (z.1 3 i)) := by
    unfold m_flow_s m_flow_x4_s m_flow_j152_s m_flow_t113n m_flow_k141
    rw [← hv, ← hw, ← a2, ← a3, ← b2, ← b3, ← hA, min_2]
  rw [kz, kζ]
  by_cases q : A < nI 2
  · have q2 : A ≤ nI 1 := by
      rw [i_lt, k_2] at q
      rw [i_le, k_1]
      omega
    rw [if_pos q, if_pos q2]
    exact h
  · have q2 : ¬ A ≤ nI 1 := fun y => by
      rw [i_lt, k_2] at q
      rw [i_le, k_1] at y
      omega
    rw [if_neg q, if_neg q2]
    rw [i_lt, k_2] at q
    have wi := h.2.2.2.2.one hi
    have ww := h.2.2.2.2.one lo
    have hf : (w_min (A / nI 2) (z.1 3 i)).toInt = min (A.toInt / 2) (z.1 3 i).toInt := by
      rw [w_min_i, i_div (by rw [k_2]; decide), k_2, Int.tdiv_eq_ediv_of_nonneg (by omega)]
    generalize w_min (A / nI 2) (z.1 3 i) = f at hf ⊢
    have hs : (z.1 3 i - f).toInt = (z.1 3 i).toInt - f.toInt := i_sub (by omega) (by omega)
    have h1 : PH σ0 μ0 T C (N - f.toInt) (si z 3 i (z.1 3 i - f)) (si ζ 3 i (ζ.1 3 i - f)) := h.w3 hi (by rw [a3]) (by rw [hs]; omega) (by rw [hs]; omega)
    have e3 := h1.2.1.cell (k := 3) (by omega) lo
    have w1 := h1.2.2.2.2.one lo
    have hs2 : ((si z 3 i (z.1 3 i - f)).1 3 w + f).toInt = ((si z 3 i (z.1 3 i - f)).1 3 w).toInt + f.toInt := i_add (by omega) (by omega)
    exact h1.w3 lo (by rw [e3]) (by rw [hs2]; omega) (by rw [hs2]; omega)
/-- 4: ponds flow -/
theorem ph_flow {σ0 μ0 : Sg} {T C N : Int} {σ μ : Sg} (h : PH σ0 μ0 T C N σ μ) (hN : N ≤ 1000000) : PH σ0 μ0 T C N (k_letPondsFlow_s σ) (lp m_passOne_b67 25 μ) := by
  have es : k_letPondsFlow_s σ = lp k_letPondsFlow_b2 25 σ := by
    unfold k_letPondsFlow_s k_letPondsFlow_x2_s
    exact Eq.refl _
  rw [es]
  refine lp_rel (P := fun _ z ζ => PH σ0 μ0 T C N z ζ) (f := k_letPondsFlow_b2) (g := m_passOne_b67) (x := σ) (y := μ) (N := 25) h (fun i z ζ hi hz => ?_) 25 (Nat.le_refl _)
  have eb : m_passOne_b67 i ζ = m_flow_s ζ i := by
    unfold m_passOne_b67 m_passOne_k78
    exact Eq.refl _
  rw [eb]
  exact flow_step hz hN hi
