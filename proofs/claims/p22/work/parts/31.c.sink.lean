/-! what melts, flows and cracks balances -/
theorem cv_sink_step {σ0 μ0 : Sg} {T C N D S M : Int} {z ζ : Sg} (h : PH σ0 μ0 T C N z ζ) (hT : T ≤ 20000) (hN : N ≤ 1000000) {c l : Nat} (hc : c < 25) (hl : l < 5) (hv : CV D S M z) : CV D S M (c_letMeltedExcessOut_b2 c l z) := by
  have hm := melt_i h.2.2.2.1 hT (j := 5 * c + l) (by omega)
  obtain ⟨k, hk⟩ : ∃ k : Nat, k = 5 * c + l := ⟨_, rfl⟩
  have hk5 : k < 125 := by omega
  rw [← hk] at hm
  obtain ⟨⟨p0, p9⟩, ⟨x0, x9⟩, ⟨e1, e2⟩, d1, d2⟩ := h.2.2.2.1 k hk5
  obtain ⟨O, hO⟩ : ∃ O : Int32, O = w_max (l_melted z k - z.1 8 k) (nI 0) := ⟨_, rfl⟩
  have hOi : O.toInt = max ((l_melted z k).toInt - (z.1 8 k).toInt) 0 := by
    rw [hO, w_max_i, k_0, i_sub (by omega) (by omega)]
  have wb := h.2.2.2.2.one hc
  have kz : c_letMeltedExcessOut_b2 c l z = si (si (si (si z 9 k (z.1 9 k - O)) 10 k (z.1 10 k - nI 1000 * O)) 2 c (z.1 2 c - O)) 3 c (z.1 3 c + O) := by
    unfold c_letMeltedExcessOut_b2 c_letMeltedExcessOut_k20 c_letMeltedExcessOut_k31 c_letMeltedExcessOut_k41 l_letMeltedExcessOut_s l_letMeltedExcessOut_k24_s l_letMeltedExcessOut_k38_s l_letMeltedExcessOut l_letMeltedExcessOut_k24 l_letMeltedExcessOut_k38
    rw [← hk, ← hO]
    simp only [si_at, Nat.reduceEqDiff, false_and, if_false]
  have hx : (z.1 9 k - O).toInt = (z.1 9 k).toInt - O.toInt := i_sub (by omega) (by omega)
  have hmO : (nI 1000 * O).toInt = 1000 * O.toInt := by rw [i_mul (by rw [k_1000]; omega) (by rw [k_1000]; omega), k_1000]
  have he : (z.1 10 k - nI 1000 * O).toInt = (z.1 10 k).toInt - 1000 * O.toInt := by rw [i_sub (by rw [hmO]; omega) (by rw [hmO]; omega), hmO]
  have hw : (z.1 3 c + O).toInt = (z.1 3 c).toInt + O.toInt := i_add (by omega) (by omega)
  rw [kz]
  refine hv.same rfl ?_ ?_ ?_
  · rw [HE_at (k := k) (c := c) (σ := z) hk5 hc (fun j hj => by rw [si_ne (by decide), si_ne (by decide), si_pj _ hj, si_ne (by decide)]) (fun x hx => by rw [si_pj _ hx, si_ne (by decide), si_ne (by decide), si_ne (by decide)])]
    simp only [si_at, Nat.reduceEqDiff, false_and, and_self, if_false, if_true, hx, he, hw]
    omega
  · rw [WA_at (k := k) (c := c) (σ := z) hk5 hc (fun j hj => by rw [si_ne (by decide), si_ne (by decide), si_ne (by decide), si_ne (by decide)]) (fun j hj => by rw [si_ne (by decide), si_ne (by decide), si_ne (by decide), si_pj _ hj]) (fun x hx => by rw [si_pj _ hx, si_ne (by decide), si_ne (by decide), si_ne (by decide)])]
    simp only [si_at, Nat.reduceEqDiff, false_and, and_self, if_false, if_true, hx, he, hw]
    omega
  · exact CA_of (fun j _ => by rw [si_ne (by decide), si_ne (by decide), si_ne (by decide), si_ne (by decide)])
/-- 3: what has melted leaves -/
theorem cv_sink {σ0 μ0 : Sg} {T C N D S M : Int} {σ μ : Sg} (h : PH σ0 μ0 T C N σ μ) (hT : T ≤ 20000) (hN : N ≤ 900000) (hv : CV D S M σ) : CV D S M (k_letMeltedExcessOut_s σ) := by
  have es : k_letMeltedExcessOut_s σ = lp k_letMeltedExcessOut_b2 25 σ := rfl
  rw [es]
  refine (lp_rel (P := fun i z ζ => PH σ0 μ0 T C (N + 45 * (i : Int)) z ζ ∧ CV D S M z) (f := k_letMeltedExcessOut_b2) (g := fun c z => lp (fun l => m_passOne_b48 (5 * c + l)) 5 z) (x := σ) (y := μ) (N := 25) ⟨h.mono (Int.le_refl _) (Int.le_refl _) (by omega), hv⟩ (fun i z ζ hi hz => ?_) 25 (Nat.le_refl _)).2
  have e1 : k_letMeltedExcessOut_b2 i z = lp (c_letMeltedExcessOut_b2 i) 5 z := rfl
  rw [e1]
  have key := lp_rel (P := fun l z ζ => PH σ0 μ0 T C (N + 45 * (i : Int) + 9 * (l : Int)) z ζ ∧ CV D S M z) (f := c_letMeltedExcessOut_b2 i) (g := fun l => m_passOne_b48 (5 * i + l)) (x := z) (y := ζ) (N := 5) ⟨hz.1.mono (Int.le_refl _) (Int.le_refl _) (by omega), hz.2⟩ (fun l z ζ hl hz => ⟨PH.mono (sink_step hz.1 hT (by omega) hi hl) (Int.le_refl _) (Int.le_refl _) (by omega), cv_sink_step hz.1 hT (by omega) hi hl hz.2⟩) 5 (Nat.le_refl _)
  exact ⟨PH.mono key.1 (Int.le_refl _) (Int.le_refl _) (by omega), key.2⟩
theorem cv_flow_step {σ0 μ0 : Sg} {T C N D S M : Int} {z ζ : Sg} (h : PH σ0 μ0 T C N z ζ) (hN : N ≤ 1000000) {i : Nat} (hi : i < 25) (hv : CV D S M z) : CV D S M (k_letPondsFlow_b2 i z) := by
  have hlow := low_eq h.2.1 hi
  have hin := m_flow_end hi (m_flow_inv ζ hi 4 (Nat.le_refl _))
  obtain ⟨v, hv0⟩ : ∃ v : Int32, v = lp (m_flow_b4 ζ i) 4 (-1) := ⟨_, rfl⟩
  rw [← hv0] at hlow hin
  have hne : ¬ v = -1 := fun q => by
    rw [q] at hin
    exact absurd hin (by unfold vp_in; decide)
  have lo := vp_lt hin
  obtain ⟨w, hw⟩ : ∃ w : Nat, w = v.toNatClampNeg := ⟨_, rfl⟩
  rw [← hw] at lo
  obtain ⟨A, hA⟩ : ∃ A : Int32, A = c_level z i - c_level z w := ⟨_, rfl⟩
  have kz : k_letPondsFlow_b2 i z = if A < nI 2 then z else si (si z 3 i (z.1 3 i - w_min (A / nI 2) (z.1 3 i))) 3 w ((si z 3 i (z.1 3 i - w_min (A / nI 2) (z.1 3 i))).1 3 w + w_min (A / nI 2) (z.1 3 i)) := by
    unfold k_letPondsFlow_b2 k_letPondsFlow_j93 k_letPondsFlow_t16n k_letPondsFlow_k77
    rw [hlow, if_neg hne, ← hw, ← hA]
  rw [kz]
  by_cases q : A < nI 2
  · rw [if_pos q]
    exact hv
  · rw [if_neg q]
    rw [i_lt, k_2] at q
    have wi := h.2.2.2.2.one hi
    have ww := h.2.2.2.2.one lo
    have hf : (w_min (A / nI 2) (z.1 3 i)).toInt = min (A.toInt / 2) (z.1 3 i).toInt := by
      rw [w_min_i, i_div (by rw [k_2]; decide), k_2, Int.tdiv_eq_ediv_of_nonneg (by omega)]
    generalize w_min (A / nI 2) (z.1 3 i) = f at hf ⊢
    have hs : (z.1 3 i - f).toInt = (z.1 3 i).toInt - f.toInt := i_sub (by omega) (by omega)
    have s1 := sw_at (τ := si z 3 i (z.1 3 i - f)) (σ := z) (c := i) (fun x hx => si_pj _ hx) 25 hi
    rw [si_eq, hs] at s1
    have b1 : 0 ≤ ((si z 3 i (z.1 3 i - f)).1 3 w).toInt ∧ ((si z 3 i (z.1 3 i - f)).1 3 w).toInt ≤ N := by
      rw [si_at]
      by_cases e : w = i
      · rw [if_pos ⟨rfl, e⟩, hs]
        omega
      · rw [if_neg (fun y => e y.2)]
        exact ww
    have hs2 : ((si z 3 i (z.1 3 i - f)).1 3 w + f).toInt = ((si z 3 i (z.1 3 i - f)).1 3 w).toInt + f.toInt := i_add (by omega) (by omega)
    have s2 := sw_at (τ := si (si z 3 i (z.1 3 i - f)) 3 w ((si z 3 i (z.1 3 i - f)).1 3 w + f)) (σ := si z 3 i (z.1 3 i - f)) (c := w) (fun x hx => si_pj _ hx) 25 lo
    rw [si_eq, hs2] at s2
    have s3 : sw (si (si z 3 i (z.1 3 i - f)) 3 w ((si z 3 i (z.1 3 i - f)).1 3 w + f)) 25 = sw z 25 := by omega
    exact hv.same rfl (HE_of (fun j _ => by rw [si_ne (by decide), si_ne (by decide)]) s3) (WA_of (fun j _ => by rw [si_ne (by decide), si_ne (by decide)]) (fun j _ => by rw [si_ne (by decide), si_ne (by decide)]) s3) (CA_of (fun j _ => by rw [si_ne (by decide), si_ne (by decide)]))
/-- 4: ponds flow -/
theorem cv_flow {σ0 μ0 : Sg} {T C N D S M : Int} {σ μ : Sg} (h : PH σ0 μ0 T C N σ μ) (hN : N ≤ 1000000) (hv : CV D S M σ) : CV D S M (k_letPondsFlow_s σ) := by
  have es : k_letPondsFlow_s σ = lp k_letPondsFlow_b2 25 σ := by
    unfold k_letPondsFlow_s k_letPondsFlow_x2_s
    exact Eq.refl _
  rw [es]
  refine (lp_rel (P := fun _ z ζ => PH σ0 μ0 T C N z ζ ∧ CV D S M z) (f := k_letPondsFlow_b2) (g := m_passOne_b67) (x := σ) (y := μ) (N := 25) ⟨h, hv⟩ (fun i z ζ hi hz => ?_) 25 (Nat.le_refl _)).2
  have eb : m_passOne_b67 i ζ = m_flow_s ζ i := by
    unfold m_passOne_b67 m_passOne_k78
    exact Eq.refl _
  rw [eb]
  exact ⟨flow_step hz.1 hN hi, cv_flow_step hz.1 hN hi hz.2⟩
theorem cv_crack_one {σ0 μ0 : Sg} {T C N D S M : Int} {z ζ : Sg} (h : PH σ0 μ0 T C N z ζ) (hT : T ≤ 20000) (hN : N ≤ 1000000) {i : Nat} (hi : i < 25) (hv : CV D S M z) : CV D S M (c_crack_s z i) := by
  have e6 := h.2.1.cell (k := 6) (by omega) hi
  have h1 : PH σ0 μ0 T C N (si z 6 i (z.1 6 i + nI 1)) (si ζ 6 i (ζ.1 6 i + nI 1)) := h.w26 (Or.inr rfl) i (by rw [e6])
  have v1 : CV D S M (si z 6 i (z.1 6 i + nI 1)) := hv.of rfl (fun k h8 h11 j hj => by rw [si_ne (by omega)]) (fun c hc => by rw [si_ne (by decide)])
  have kz : c_crack_s z i = c_crack_k10_s z i (si z 6 i (z.1 6 i + nI 1)) := rfl
  rw [kz]
  generalize si z 6 i (z.1 6 i + nI 1) = s at h1 v1 ⊢
  generalize si ζ 6 i (ζ.1 6 i + nI 1) = t at h1
  obtain ⟨k, hk⟩ : ∃ k : Nat, k = 5 * i + 1 := ⟨_, rfl⟩
  have hk5 : k < 125 := by omega
  unfold c_crack_k10_s c_crack_j75_s c_crack_t21n c_crack_k43 c_crack_k53 c_crack_k63
  rw [← hk]
  by_cases q1 : s.1 3 i ≤ 0
  · rw [if_pos q1]
    exact v1
  · rw [if_neg q1]
    by_cases q2 : nI 9 ≤ s.1 9 k
    · rw [if_pos q2]
      exact v1
    · rw [if_neg q2]
      rw [i_le, z_0] at q1
      rw [i_le, k_9] at q2
      obtain ⟨⟨p0, p9⟩, ⟨x0, x9⟩, ⟨e1, e2⟩, d1, d2⟩ := h1.2.2.2.1 k hk5
      have wb := h1.2.2.2.2.one hi
      have hw : (s.1 3 i - nI 1).toInt = (s.1 3 i).toInt - 1 := by rw [i_sub (by rw [k_1]; omega) (by rw [k_1]; omega), k_1]
      have hx : (s.1 9 k + nI 1).toInt = (s.1 9 k).toInt + 1 := by rw [i_add (by rw [k_1]; omega) (by rw [k_1]; omega), k_1]
      have he : (s.1 10 k + nI 1000).toInt = (s.1 10 k).toInt + 1000 := by rw [i_add (by rw [k_1000]; omega) (by rw [k_1000]; omega), k_1000]
      have es : ∀ A : Int32, si (si (si (si s 3 i A) 2 i ((si s 3 i A).1 2 i + nI 1)) 9 k ((si (si s 3 i A) 2 i ((si s 3 i A).1 2 i + nI 1)).1 9 k + nI 1)) 10 k ((si (si (si s 3 i A) 2 i ((si s 3 i A).1 2 i + nI 1)) 9 k ((si (si s 3 i A) 2 i ((si s 3 i A).1 2 i + nI 1)).1 9 k + nI 1)).1 10 k + nI 1000) = si (si (si (si s 3 i A) 2 i (s.1 2 i + nI 1)) 9 k (s.1 9 k + nI 1)) 10 k (s.1 10 k + nI 1000) := fun A => by
        simp only [si_at, Nat.reduceEqDiff, false_and, if_false]
      rw [es]
      refine v1.same rfl ?_ ?_ ?_
      · rw [HE_at (k := k) (c := i) (σ := s) hk5 hi (fun j hj => by rw [si_pj _ hj, si_ne (by decide), si_ne (by decide), si_ne (by decide)]) (fun x hx => by rw [si_ne (by decide), si_ne (by decide), si_ne (by decide), si_pj _ hx])]
        simp only [si_at, Nat.reduceEqDiff, false_and, and_self, if_false, if_true, hx, he, hw]
        omega
      · rw [WA_at (k := k) (c := i) (σ := s) hk5 hi (fun j hj => by rw [si_ne (by decide), si_ne (by decide), si_ne (by decide), si_ne (by decide)]) (fun j hj => by rw [si_ne (by decide), si_pj _ hj, si_ne (by decide), si_ne (by decide)]) (fun x hx => by rw [si_ne (by decide), si_ne (by decide), si_ne (by decide), si_pj _ hx])]
        simp only [si_at, Nat.reduceEqDiff, false_and, and_self, if_false, if_true, hx, he, hw]
        omega
      · exact CA_of (fun j _ => by rw [si_ne (by decide), si_ne (by decide), si_ne (by decide), si_ne (by decide)])
/-- 5: the coldest cell cracks -/
theorem cv_crack {σ0 μ0 : Sg} {T C N D S M : Int} {z ζ : Sg} (h : PH σ0 μ0 T C N z ζ) (hT : T ≤ 20000) (hN : N ≤ 1000000) (air : Int32) (hv : CV D S M z) : CV D S M (k_crackColdest_s z air) := by
  obtain ⟨-, hc2⟩ := cold_eq h.2.1
  unfold k_crackColdest_s
  generalize lp (k_crackColdest_b16 z) 24 0 = i at hc2 ⊢
  by_cases q : air ≤ -20
  · rw [if_pos q]
    unfold k_crackColdest_x16_s k_crackColdest_j67_s
    by_cases q3 : (-10) < c_crackingTemperature z i
    · rw [if_pos q3]
      exact hv
    · rw [if_neg q3]
      exact cv_crack_one h hT hN (by omega) hv
  · rw [if_neg q]
    exact hv
