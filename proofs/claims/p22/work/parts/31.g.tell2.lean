/-! fire and breach: what they do to what balances -/
theorem lake_w {σ : Sg} {c : Nat} : c_isLake σ c = if (σ.1 3 c).toInt < 3 then nI 0 else nI 1 := by
  unfold c_isLake c_isLake_j13
  by_cases q : σ.1 3 c < nI 3
  · rw [if_pos q, if_pos (by rw [i_lt, k_3] at q; exact q)]
  · rw [if_neg q, if_neg (by rw [i_lt, k_3] at q; exact q)]
theorem IV_fire {σ : Sg} (h : IV σ) {c : Nat} (hc : c < 25) (h3 : (σ.1 3 c).toInt < 3) (h4 : (σ.1 4 c).toInt = 0) : kx_fire σ (nI c) = 0 ∧ IV (k_fire_s σ (nI c)) ∧ SM (k_fire_s σ (nI c)) σ ∧ k_fire σ (nI c) = σ.1 11 (5 * c) / nI 2 ∧ (k_fire_s σ (nI c)).1 11 (5 * c) = σ.1 11 (5 * c) - σ.1 11 (5 * c) / nI 2 ∧ (k_fire_s σ (nI c)).2 30 = σ.2 30 + (σ.1 11 (5 * c) / nI 2).toInt64 ∧ (k_fire_s σ (nI c)).1 5 c = nI 0 := by
  have cl : (nI c).toNatClampNeg = c := nI_clamp (by omega)
  have e4 : σ.1 4 c = 0 := Int32.toInt_inj.mp (by rw [h4, z_0])
  have eL : c_isLake σ c = 0 := by rw [lake_w, if_pos h3]; exact n0_eq
  have ex : kx_fire σ (nI c) = 0 := by simp only [kx_fire, ix_0 (n := 25) (by decide) hc, cl, xs_0, if_pos eL, if_pos e4, xSt, n1f, if_false]
  have ks : k_fire_s σ (nI c) = sl (si (si σ 5 c (nI 0)) 11 (5 * c) (σ.1 11 (5 * c) - σ.1 11 (5 * c) / nI 2)) 30 (σ.2 30 + (σ.1 11 (5 * c) / nI 2).toInt64) := by
    simp only [k_fire_k78_s, k_fire_k66_s, k_fire_k55_s, k_fire_j32_s, k_fire_s, cl, Nat.add_zero, si_at, sl_at, sl_1, si_2, Nat.reduceEqDiff, false_and, and_self, true_and, and_true, if_false, if_true]
  have kv : k_fire σ (nI c) = σ.1 11 (5 * c) / nI 2 := by
    simp only [k_fire_k78, k_fire_k66, k_fire_k55, k_fire_j32, k_fire, cl, Nat.add_zero]
  obtain ⟨μ, hR⟩ := h.1
  have q := (q_fire σ μ (nI c) hR).1
  rw [ex, if_pos rfl] at q
  have hB := hR.2.2.1 (5 * c) (by omega)
  have hm : mon σ ≤ 600 := h.mo.2
  have e2 := i_half hB.2.2.2.1
  have hsub : (σ.1 11 (5 * c) - σ.1 11 (5 * c) / nI 2).toInt = (σ.1 11 (5 * c)).toInt - (σ.1 11 (5 * c)).toInt / 2 := by
    rw [i_sub (by rw [e2]; omega) (by rw [e2]; omega), e2]
  refine ⟨ex, h.of ⟨_, q⟩ (fun k hk => ?_) (fun D S M hv => ⟨D, S + (σ.1 11 (5 * c)).toInt / 2, ?_⟩), ?_, kv, ?_, ?_, ?_⟩
  · rw [ks, sl_1, si_ne (by omega), si_ne (by omega)]
  · rw [ks]
    obtain ⟨v29, v30, v31, v26, v27, v28⟩ := id hv
    refine hv.go (dE := 0) (dW := 0) (dC := -((σ.1 11 (5 * c)).toInt / 2)) (x := 0) (y := 0) (w := 0) ?_ ?_ ?_ ?_ ?_ ?_ ?_ ?_ ?_ (by omega) (by omega) (by omega)
    · rw [Int.add_zero]
      exact HE_of (fun j _ => by rw [sl_1, si_ne (by decide), si_ne (by decide)]) (sw_of 25 (fun x _ => by rw [sl_1, si_ne (by decide), si_ne (by decide)]))
    · rw [Int.add_zero]
      exact WA_of (fun j _ => by rw [sl_1, si_ne (by decide), si_ne (by decide)]) (fun j _ => by rw [sl_1, si_ne (by decide), si_ne (by decide)]) (sw_of 25 (fun x _ => by rw [sl_1, si_ne (by decide), si_ne (by decide)]))
    · rw [CA_at (k := 5 * c) (σ := σ) (by omega) (fun j hj => by rw [sl_1, si_pj _ hj, si_ne (by decide)]), sl_1, si_eq, hsub]
      omega
    · exact v29
    · rw [sl_at, if_pos rfl, v30, oi_32, oi_add, e2]
    · exact v31
    · exact oi_z rfl
    · exact oi_z rfl
    · exact oi_z rfl
  · rw [ks]
    exact SM.of (fun k hk => by rw [sl_1, si_ne (by omega), si_ne (by omega)])
  · rw [ks, sl_1, si_eq]
  · rw [ks, sl_at, if_pos rfl]
  · rw [ks, sl_1, si_ne (by decide), si_eq]
theorem fire_no {σ : Sg} {c : Nat} (hc : c < 25) (hn : ¬ ((σ.1 3 c).toInt < 3 ∧ (σ.1 4 c).toInt = 0)) : kx_fire σ (nI c) = 3 := by
  have cl : (nI c).toNatClampNeg = c := nI_clamp (by omega)
  by_cases h3 : (σ.1 3 c).toInt < 3
  · have e4 : ¬ σ.1 4 c = 0 := fun q => hn ⟨h3, by rw [q, z_0]⟩
    have eL : c_isLake σ c = 0 := by rw [lake_w, if_pos h3]; exact n0_eq
    simp only [kx_fire, ix_0 (n := 25) (by decide) hc, cl, xs_0, if_pos eL, if_neg e4, xSt, n0t, if_true, xs_3]
  · have eL : ¬ c_isLake σ c = 0 := by rw [lake_w, if_neg h3]; exact n1_ne
    simp only [kx_fire, ix_0 (n := 25) (by decide) hc, cl, xs_0, if_neg eL, xSt, n0t, if_true, xs_3]
theorem kb_sum {τ : Sg} {n : Nat} (hi : ∀ i, i < n → (τ.1 32 i).toNatClampNeg < 25) (h0 : ∀ c, c < 25 → 0 ≤ (τ.1 3 c).toInt) (hs : sw τ 25 ≤ 1000000) : ∀ m, m ≤ n → (lp k_breach_b37 m (nI 0, τ)).1.toInt + sw (lp k_breach_b37 m (nI 0, τ)).2 25 = sw τ 25 ∧ 0 ≤ (lp k_breach_b37 m (nI 0, τ)).1.toInt ∧ (∀ c, c < 25 → 0 ≤ ((lp k_breach_b37 m (nI 0, τ)).2.1 3 c).toInt) ∧ (lp k_breach_b37 m (nI 0, τ)).2.1 32 = τ.1 32 := fun m => by
  induction m with
  | zero => exact fun _ => ⟨by show (nI 0).toInt + sw τ 25 = sw τ 25; rw [k_0]; omega, by show 0 ≤ (nI 0).toInt; decide, h0, rfl⟩
  | succ m ih =>
    intro hm
    obtain ⟨g1, g2, g3, g4⟩ := ih (by omega)
    have e : lp k_breach_b37 (m + 1) (nI 0, τ) = k_breach_b37 m (lp k_breach_b37 m (nI 0, τ)) := rfl
    rw [e]
    generalize lp k_breach_b37 m (nI 0, τ) = z at g1 g2 g3 g4 ⊢
    have hj := hi m (by omega)
    have ez : k_breach_b37 m z = (z.1 + z.2.1 3 (τ.1 32 m).toNatClampNeg, si z.2 3 (τ.1 32 m).toNatClampNeg (nI 0)) := by
      unfold k_breach_b37 k_breach_k71
      rw [g4]
    rw [ez]
    generalize (τ.1 32 m).toNatClampNeg = j at hj ⊢
    have g3j := g3 j hj
    have w1 := sw_1 25 g3 hj
    have s1 := sw_at (τ := si z.2 3 j (nI 0)) (σ := z.2) (c := j) (fun x hx => si_pj _ hx) 25 hj
    rw [si_eq, k_0] at s1
    have hadd : (z.1 + z.2.1 3 j).toInt = z.1.toInt + (z.2.1 3 j).toInt := i_add (by omega) (by omega)
    refine ⟨?_, ?_, fun c hc => ?_, ?_⟩
    · show (z.1 + z.2.1 3 j).toInt + sw (si z.2 3 j (nI 0)) 25 = sw τ 25
      omega
    · show 0 ≤ (z.1 + z.2.1 3 j).toInt
      omega
    · show 0 ≤ ((si z.2 3 j (nI 0)).1 3 c).toInt
      rw [si_at]
      by_cases q : c = j
      · rw [if_pos ⟨rfl, q⟩, k_0]
        omega
      · rw [if_neg (fun y => q y.2)]
        exact g3 c hc
    · show (si z.2 3 j (nI 0)).1 32 = _
      rw [si_ne (by decide)]
      exact g4
theorem breach_no {σ : Sg} {c : Nat} (hc : c < 25) (hn : (σ.1 3 c).toInt ≤ 0) : kx_breach σ (nI c) = 3 := by
  have cl : (nI c).toNatClampNeg = c := nI_clamp (by omega)
  have q : σ.1 3 c ≤ 0 := by rw [i_le, z_0]; exact hn
  simp only [kx_breach, ix_0 (n := 25) (by decide) hc, cl, xs_0, if_pos q, xSt, n0t, if_true, xs_3]
theorem IV_breach {σ : Sg} (h : IV σ) {c : Nat} (hc : c < 25) (hn : ¬ (σ.1 3 c).toInt ≤ 0) : kx_breach σ (nI c) = 0 ∧ IV (k_breach_s σ (nI c)) ∧ SM (k_breach_s σ (nI c)) σ ∧ (σ.1 3 c).toInt ≤ (k_breach σ (nI c)).toInt ∧ ((k_breach_s σ (nI c)).1 3 c).toInt = 0 ∧ (k_breach_s σ (nI c)).2 29 = σ.2 29 + (k_breach σ (nI c)).toInt64 := by
  have cl : (nI c).toNatClampNeg = c := nI_clamp (by omega)
  have w : wet σ c := fun q => hn (by rw [i_le, z_0] at q; exact q)
  have w' : ¬ σ.1 3 c ≤ 0 := w
  have ex : kx_breach σ (nI c) = 0 := by simp only [kx_breach, ix_0 (n := 25) (by decide) hc, cl, xs_0, if_neg w', xSt, n1f, if_false]
  obtain ⟨μ, hR⟩ := h.1
  have qq := (q_breach σ μ (nI c) hR).1
  rw [ex, if_pos rfl] at qq
  have hm : mon σ ≤ 600 := h.mo.2
  have hW := hR.2.2.2.1
  have hW2 := hW.2
  have ks : k_breach_s σ (nI c) = sl (lp k_breach_b37 (k_gatherOneLake σ (nI c)).toNatClampNeg (nI 0, k_gatherOneLake_s σ (nI c))).2 29 ((lp k_breach_b37 (k_gatherOneLake σ (nI c)).toNatClampNeg (nI 0, k_gatherOneLake_s σ (nI c))).2.2 29 + (lp k_breach_b37 (k_gatherOneLake σ (nI c)).toNatClampNeg (nI 0, k_gatherOneLake_s σ (nI c))).1.toInt64) := rfl
  have kv : k_breach σ (nI c) = (lp k_breach_b37 (k_gatherOneLake σ (nI c)).toNatClampNeg (nI 0, k_gatherOneLake_s σ (nI c))).1 := rfl
  obtain ⟨n, e, hS, hL⟩ := one_lake (σ := σ) hc
  have hm0 := SU_0 (k_gatherOneLake_s σ (nI c))
  have hn5 := hS.2.2.2.2
  rw [ks] at qq
  rw [ks, kv]
  rw [e, nI_clamp (by omega)] at qq ⊢
  have hSl := fun i (hi : i < n) => SR_l hS hi
  generalize k_gatherOneLake_s σ (nI c) = τ at hS hL hm0 hn5 hSl qq ⊢
  have hd : ∀ i j, i < n → j < n → (τ.1 32 i).toNatClampNeg = (τ.1 32 j).toNatClampNeg → i = j := fun i j hi hj q => hS.2.2.1 i j hi hj (by rw [(hSl i hi).2, (hSl j hj).2]; exact congrArg nI q)
  have e3 : τ.1 3 = σ.1 3 := hS.1.1 3 (by decide) (by decide)
  have swe : sw τ 25 = sw σ 25 := sw_of 25 (fun x _ => by rw [e3])
  have kb := kb_loop hd n (Nat.le_refl _)
  have ksum := kb_sum (τ := τ) (n := n) (fun i hi => (hSl i hi).1) (fun x hx => by rw [e3]; exact hW.1 x hx) (by rw [swe]; omega) n (Nat.le_refl _)
  generalize lp k_breach_b37 n (nI 0, τ) = z at kb ksum qq ⊢
  obtain ⟨⟨-, k2, k3⟩, k4, k5⟩ := kb
  obtain ⟨s1, s2, s3, -⟩ := ksum
  have hz : ∀ k, k ≠ 3 → k ≠ 32 → k ≠ 33 → z.2.1 k = σ.1 k := fun k q1 q2 q3 => (k2 k q1).trans (hS.1.1 k q2 q3)
  have hz2 : z.2.2 = σ.2 := k3.trans hS.1.2
  obtain ⟨i, hi, ei⟩ := (hL c hc).mpr ⟨w, Rch.rf⟩
  have zc : z.2.1 3 c = 0 := by
    have q2 := k4 i hi
    rw [ei, nI_clamp (by omega)] at q2
    exact q2
  have hle : ∀ x, x < 25 → (z.2.1 3 x).toInt ≤ (σ.1 3 x).toInt := fun x hx => by
    by_cases q : ∃ i, i < n ∧ (τ.1 32 i).toNatClampNeg = x
    · obtain ⟨j, hj, ej⟩ := q
      have q2 := k4 j hj
      rw [ej] at q2
      rw [q2, z_0]
      exact hW.1 x hx
    · rw [k5 x q, e3]
      exact Int.le_refl _
  have sA := sw_at (τ := si σ 3 c 0) (σ := σ) (c := c) (fun x hx => si_pj _ hx) 25 hc
  rw [si_eq, z_0] at sA
  have sB : sw z.2 25 ≤ sw (si σ 3 c 0) 25 := sw_le (fun x hx => by
    rw [si_at]
    by_cases q : x = c
    · rw [if_pos ⟨rfl, q⟩, q, zc]
      exact Int.le_refl _
    · rw [if_neg (fun y => q y.2)]
      exact hle x hx)
  refine ⟨ex, h.of ⟨_, qq⟩ (fun k hk => ?_) (fun D S M hv => ⟨D + z.1.toInt, S, ?_⟩), ?_, by omega, ?_, ?_⟩
  · rw [sl_1]
    exact hz k (by omega) (by omega) (by omega)
  · obtain ⟨v29, v30, v31, v26, v27, v28⟩ := id hv
    refine hv.go (dE := -(1000 * z.1.toInt)) (dW := -z.1.toInt) (dC := 0) (x := 0) (y := 0) (w := 0) ?_ ?_ ?_ ?_ ?_ ?_ ?_ ?_ ?_ (by omega) (by omega) (by omega)
    · show HE z.2 = _
      unfold HE
      rw [hz 10 (by decide) (by decide) (by decide)]
      omega
    · show WA z.2 = _
      unfold WA
      rw [hz 8 (by decide) (by decide) (by decide), hz 9 (by decide) (by decide) (by decide)]
      omega
    · show CA z.2 = _
      unfold CA
      rw [hz 11 (by decide) (by decide) (by decide)]
      omega
    · rw [sl_at, if_pos rfl, hz2, v29, oi_32, oi_add]
    · rw [sl_at, if_neg (by decide), hz2]; exact v30
    · rw [sl_at, if_neg (by decide), hz2]; exact v31
    · rw [sl_at, if_neg (by decide), hz2]; exact oi_z rfl
    · rw [sl_at, if_neg (by decide), hz2]; exact oi_z rfl
    · rw [sl_at, if_neg (by decide), hz2]; exact oi_z rfl
  · exact SM.of (fun k hk => by rw [sl_1]; exact hz k (by omega) (by omega) (by omega))
  · rw [sl_1, zc, z_0]
  · rw [sl_at, if_pos rfl, hz2]
