/-! the class's loop that drains a lake's list -/
theorem kb_loop {τ : Sg} {n : Nat} (hd : ∀ i j, i < n → j < n → (τ.1 32 i).toNatClampNeg = (τ.1 32 j).toNatClampNeg → i = j) : ∀ m, m ≤ n → ((lp k_breach_b37 m (nI 0, τ)).1 = s32 (fun i => τ.1 3 (τ.1 32 i).toNatClampNeg) m ∧ (∀ k, k ≠ 3 → (lp k_breach_b37 m (nI 0, τ)).2.1 k = τ.1 k) ∧ (lp k_breach_b37 m (nI 0, τ)).2.2 = τ.2) ∧ (∀ i, i < m → (lp k_breach_b37 m (nI 0, τ)).2.1 3 (τ.1 32 i).toNatClampNeg = 0) ∧ ∀ c, (¬ ∃ i, i < m ∧ (τ.1 32 i).toNatClampNeg = c) → (lp k_breach_b37 m (nI 0, τ)).2.1 3 c = τ.1 3 c := fun m => by
  induction m with
  | zero => exact fun _ => ⟨⟨rfl, fun _ _ => rfl, rfl⟩, fun i hi => absurd hi (Nat.not_lt_zero _), fun _ _ => rfl⟩
  | succ m ih =>
    intro hm
    obtain ⟨⟨h1, h2, h3⟩, h4, h5⟩ := ih (by omega)
    have e : lp k_breach_b37 (m + 1) (nI 0, τ) = k_breach_b37 m (lp k_breach_b37 m (nI 0, τ)) := rfl
    rw [e]
    generalize lp k_breach_b37 m (nI 0, τ) = z at h1 h2 h3 h4 h5 ⊢
    have ez : k_breach_b37 m z = (z.1 + z.2.1 3 (τ.1 32 m).toNatClampNeg, si z.2 3 (τ.1 32 m).toNatClampNeg (nI 0)) := by
      unfold k_breach_b37 k_breach_k71
      rw [h2 32 (by decide)]
    have ew : z.2.1 3 (τ.1 32 m).toNatClampNeg = τ.1 3 (τ.1 32 m).toNatClampNeg := h5 _ (fun ⟨i, hi, ei⟩ => by have := hd i m (by omega) (by omega) ei; omega)
    rw [ez]
    refine ⟨⟨?_, fun k hk => ?_, h3⟩, fun i hi => ?_, fun c hc => ?_⟩
    · show z.1 + z.2.1 3 (τ.1 32 m).toNatClampNeg = _
      rw [s32_s, h1, ew]
    · show (si z.2 3 (τ.1 32 m).toNatClampNeg (nI 0)).1 k = _
      rw [si_ne hk]
      exact h2 k hk
    · show (si z.2 3 (τ.1 32 m).toNatClampNeg (nI 0)).1 3 _ = 0
      by_cases q : (τ.1 32 i).toNatClampNeg = (τ.1 32 m).toNatClampNeg
      · rw [q, si_eq]; exact n0_eq
      · rw [si_pj _ q]
        exact h4 i (by have hne : i ≠ m := fun y => q (by rw [y]); omega)
    · show (si z.2 3 (τ.1 32 m).toNatClampNeg (nI 0)).1 3 c = _
      rw [si_pj _ (fun y => hc ⟨m, by omega, y.symm⟩)]
      exact h5 c (fun ⟨i, hi, ei⟩ => hc ⟨i, by omega, ei⟩)
