/-! the relation holds on when a lake is drained -/
theorem sw_le {τ σ : Sg} {n : Nat} (h : ∀ c, c < n → (τ.1 3 c).toInt ≤ (σ.1 3 c).toInt) : sw τ n ≤ sw σ n := by
  induction n with
  | zero => exact Int.le_refl _
  | succ n ih =>
    show sw τ n + (τ.1 3 n).toInt ≤ sw σ n + (σ.1 3 n).toInt
    have h1 := ih (fun c hc => h c (by omega))
    have h2 := h n (by omega)
    omega
theorem Rel_drain {σ μ τ ν : Sg} (h : Rel σ μ) (F : ∀ k, k ≠ 3 → k ≠ 32 → k ≠ 33 → τ.1 k = σ.1 k) (G : ∀ k, k ≠ 3 → k ≠ 7 → k ≠ 0 → ν.1 k = μ.1 k) (L : ∀ k, 26 ≤ k → k ≤ 31 → τ.2 k = ν.2 k) (A : ∀ c, c < 25 → (τ.1 3 c = 0 ∧ ν.1 3 c = 0) ∨ (τ.1 3 c = σ.1 3 c ∧ ν.1 3 c = μ.1 3 c)) : Rel τ ν := by
  have z : ((0 : Int32)).toInt = 0 := by decide
  refine Rel_land h (fun k hk => F k (by omega) (by omega) (by omega)) (fun k hk => G k (by omega) (by omega) (by omega)) (fun h1 => ⟨fun k j hv => ?_, L⟩) (fun c hc => ?_) (BL_of (fun k q1 q2 j hj => by rw [F k (by omega) (by omega) (by omega)]) h.2.2.1) ⟨fun c hc => ?_, ?_⟩
  · by_cases q : k = 3
    · subst q
      have hj : j < 25 := by unfold vis at hv; omega
      rcases A j hj with ⟨a1, a2⟩ | ⟨a1, a2⟩
      · rw [a1, a2]
      · rw [a1, a2]
        exact h1.1 3 j hv
    · have hk : k ≠ 7 ∧ k ≠ 32 ∧ k ≠ 33 ∧ k ≠ 0 := by unfold vis at hv; omega
      rw [F k q hk.2.1 hk.2.2.1, G k q hk.1 hk.2.2.2]
      exact h1.1 k j hv
  · rw [G 4 (by decide) (by decide) (by decide), G 5 (by decide) (by decide) (by decide)]
    exact h.snow c hc
  · rcases A c hc with ⟨a1, -⟩ | ⟨a1, -⟩
    · rw [a1, z]; exact Int.le_refl _
    · rw [a1]; exact h.2.2.2.1.1 c hc
  · refine Int.le_trans (sw_le (σ := σ) (fun c hc => ?_)) h.2.2.2.1.2
    have g := h.2.2.2.1.1 c hc
    rcases A c hc with ⟨a1, -⟩ | ⟨a1, -⟩
    · rw [a1, z]; exact g
    · rw [a1]; exact Int.le_refl _
