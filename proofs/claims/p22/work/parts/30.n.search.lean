/-! the class's search for one lake -/
def SU (τ : Sg) : Int := isum (fun c => if τ.1 33 c = 0 then 1 else 0) 25
def SR (σ : Sg) (M : Nat → Prop) (c0 n : Nat) (τ : Sg) : Prop := ((∀ k, k ≠ 32 → k ≠ 33 → τ.1 k = σ.1 k) ∧ τ.2 = σ.2) ∧ (∀ i, i < n → ∃ c, c < 25 ∧ τ.1 32 i = nI c ∧ wet σ c ∧ Rch σ c0 c ∧ ¬ M c) ∧ (∀ i j, i < n → j < n → τ.1 32 i = τ.1 32 j → i = j) ∧ (∀ c, c < 25 → (¬ τ.1 33 c = 0 ↔ M c ∨ ∃ i, i < n ∧ τ.1 32 i = nI c)) ∧ (n : Int) + SU τ ≤ 25
def EX (n : Nat) (τ : Sg) (n' : Nat) (τ' : Sg) : Prop := n ≤ n' ∧ (∀ i, i < n → τ'.1 32 i = τ.1 32 i) ∧ ∀ c, ¬ τ.1 33 c = 0 → ¬ τ'.1 33 c = 0
theorem EX.rf {n : Nat} {τ : Sg} : EX n τ n τ := ⟨Nat.le_refl _, fun _ _ => rfl, fun _ h => h⟩
theorem EX.tr {n m p : Nat} {τ τ' τ'' : Sg} (h : EX n τ m τ') (g : EX m τ' p τ'') : EX n τ p τ'' := ⟨Nat.le_trans h.1 g.1, fun i hi => (g.2.1 i (Nat.lt_of_lt_of_le hi h.1)).trans (h.2.1 i hi), fun c hc => g.2.2 c (h.2.2 c hc)⟩
theorem SU_0 (τ : Sg) : 0 ≤ SU τ := by
  have q := isum_le (f := fun _ => 0) (g := fun c => if τ.1 33 c = 0 then 1 else 0) (n := 25) (fun c _ => by split <;> decide)
  rw [isum_c] at q
  unfold SU
  omega
theorem SU_1 {τ : Sg} {y : Nat} (hy : y < 25) (h : τ.1 33 y = 0) : 1 ≤ SU τ := by
  have q := isum_lt (f := fun _ => 0) (g := fun c => if τ.1 33 c = 0 then 1 else 0) hy (fun c _ => by split <;> decide) (by rw [if_pos h]; decide)
  rw [isum_c] at q
  unfold SU
  omega
theorem SR_cell {σ : Sg} {M : Nat → Prop} {c0 n : Nat} {τ : Sg} {y : Nat} (hy : y < 25) (h : SR σ M c0 n τ) (hr : wet σ y → Rch σ c0 y) : ∃ n', k_gatherCell τ (nI y) (nI n) = nI n' ∧ (SR σ M c0 n' (k_gatherCell_s τ (nI y) (nI n)) ∧ EX n τ n' (k_gatherCell_s τ (nI y) (nI n))) ∧ (wet σ y → ¬ (k_gatherCell_s τ (nI y) (nI n)).1 33 y = 0) := by
  have hw : τ.1 3 y = σ.1 3 y := by rw [h.1.1 3 (by decide) (by decide)]
  have hn := SU_0 τ
  have h5 := h.2.2.2.2
  by_cases q1 : σ.1 3 y ≤ 0
  · have ev : k_gatherCell τ (nI y) (nI n) = nI n := by
      unfold k_gatherCell
      rw [if_neg (nI_m1 (by omega)), nI_clamp (by omega), hw, if_pos q1]
    have es : k_gatherCell_s τ (nI y) (nI n) = τ := by
      unfold k_gatherCell_s
      rw [if_neg (nI_m1 (by omega)), nI_clamp (by omega), hw, if_pos q1]
    rw [ev, es]
    exact ⟨n, rfl, ⟨h, EX.rf⟩, fun w => absurd q1 w⟩
  · by_cases q2 : τ.1 33 y = 0
    · have h1 := SU_1 hy q2
      have h6 : nI n < nI 25 := by rw [i_lt, nI_toInt (by omega), nI_toInt (by omega)]; omega
      have ev : k_gatherCell τ (nI y) (nI n) = nI (n + 1) := by
        unfold k_gatherCell k_gatherCell_k44 k_gatherCell_k51
        rw [if_neg (nI_m1 (by omega)), nI_clamp (by omega), hw, if_neg q1, if_pos q2, if_pos h6, nI_add]
      have es : k_gatherCell_s τ (nI y) (nI n) = si (si τ 33 y (vp_nar .boolean (nI 1))) 32 n (nI y) := by
        unfold k_gatherCell_s k_gatherCell_k44_s k_gatherCell_k51_s
        rw [if_neg (nI_m1 (by omega)), nI_clamp (by omega), hw, if_neg q1, if_pos q2, if_pos h6, nI_clamp (by omega)]
      rw [ev, es]
      have n1 : ¬ vp_nar .boolean (nI 1) = 0 := by decide
      generalize vp_nar .boolean (nI 1) = v at n1
      have f32 : ∀ i, (si (si τ 33 y v) 32 n (nI y)).1 32 i = if i = n then nI y else τ.1 32 i := fun i => by
        by_cases e : i = n
        · rw [if_pos e, e, si_eq]
        · rw [if_neg e, si_pj _ e, si_ne (by decide)]
      have f33 : ∀ c, (si (si τ 33 y v) 32 n (nI y)).1 33 c = if c = y then v else τ.1 33 c := fun c => by
        rw [si_ne (by decide)]
        by_cases e : c = y
        · rw [if_pos e, e, si_eq]
        · rw [if_neg e, si_pj _ e]
      have nM : ¬ M y := fun z => ((h.2.2.2.1 y hy).mpr (Or.inl z)) q2
      have nL : ∀ i, i < n → ¬ τ.1 32 i = nI y := fun i hi z => ((h.2.2.2.1 y hy).mpr (Or.inr ⟨i, hi, z⟩)) q2
      refine ⟨n + 1, rfl, ⟨⟨⟨fun k k1 k2 => ?_, h.1.2⟩, fun i hi => ?_, fun i j hi hj e => ?_, fun c hc => ?_, ?_⟩, by omega, fun i hi => ?_, fun c hc => ?_⟩, fun _ => ?_⟩
      · rw [si_ne k1, si_ne k2]
        exact h.1.1 k k1 k2
      · rw [f32]
        by_cases e : i = n
        · rw [if_pos e]
          exact ⟨y, hy, rfl, q1, hr q1, nM⟩
        · rw [if_neg e]
          exact h.2.1 i (by omega)
      · rw [f32, f32] at e
        by_cases ei : i = n
        · by_cases ej : j = n
          · omega
          · rw [if_pos ei, if_neg ej] at e
            exact absurd e.symm (nL j (by omega))
        · by_cases ej : j = n
          · rw [if_neg ei, if_pos ej] at e
            exact absurd e (nL i (by omega))
          · rw [if_neg ei, if_neg ej] at e
            exact h.2.2.1 i j (by omega) (by omega) e
      · rw [f33]
        by_cases e : c = y
        · rw [if_pos e]
          exact ⟨fun _ => Or.inr ⟨n, by omega, by rw [f32, if_pos rfl, e]⟩, fun _ => n1⟩
        · rw [if_neg e]
          refine (h.2.2.2.1 c hc).trans ⟨fun z => z.imp id (fun ⟨i, hi, z⟩ => ⟨i, by omega, by rw [f32, if_neg (by omega)]; exact z⟩), fun z => z.imp id (fun ⟨i, hi, z⟩ => ?_)⟩
          rw [f32] at z
          by_cases ei : i = n
          · rw [if_pos ei] at z
            have z2 := congrArg Int32.toNatClampNeg z
            rw [nI_clamp (by omega), nI_clamp (by omega)] at z2
            exact absurd z2.symm e
          · rw [if_neg ei] at z
            exact ⟨i, by omega, z⟩
      · have q : SU (si (si τ 33 y v) 32 n (nI y)) < SU τ := by
          refine isum_lt hy (fun c _ => ?_) ?_
          · rw [f33]
            by_cases e : c = y
            · rw [if_pos e, if_neg n1]; split <;> decide
            · rw [if_neg e]; exact Int.le_refl _
          · rw [f33, if_pos rfl, if_neg n1, if_pos q2]
            decide
        omega
      · rw [f32, if_neg (by omega)]
      · rw [f33]
        by_cases e : c = y
        · rw [if_pos e]; exact n1
        · rw [if_neg e]; exact hc
      · rw [f33, if_pos rfl]; exact n1
    · have ev : k_gatherCell τ (nI y) (nI n) = nI n := by
        unfold k_gatherCell
        rw [if_neg (nI_m1 (by omega)), nI_clamp (by omega), hw, if_neg q1, if_neg q2]
      have es : k_gatherCell_s τ (nI y) (nI n) = τ := by
        unfold k_gatherCell_s
        rw [if_neg (nI_m1 (by omega)), nI_clamp (by omega), hw, if_neg q1, if_neg q2]
      rw [ev, es]
      exact ⟨n, rfl, ⟨h, EX.rf⟩, fun _ => q2⟩
