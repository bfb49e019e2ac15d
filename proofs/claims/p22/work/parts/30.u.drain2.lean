/-! the reference's loop that drains a lake -/
theorem mb_loop {ν : Sg} {c0 : Nat} (h0 : c0 < 25) : ∀ m, m ≤ 25 → ((lp (m_breach_b45 (nI c0)) m (nI 0, ν)).1 = s32 (fun c => if ν.1 7 c = ν.1 7 c0 then ν.1 3 c else 0) m ∧ (∀ k, k ≠ 3 → (lp (m_breach_b45 (nI c0)) m (nI 0, ν)).2.1 k = ν.1 k) ∧ (lp (m_breach_b45 (nI c0)) m (nI 0, ν)).2.2 = ν.2) ∧ ∀ c, (lp (m_breach_b45 (nI c0)) m (nI 0, ν)).2.1 3 c = if c < m ∧ ν.1 7 c = ν.1 7 c0 then 0 else ν.1 3 c := fun m => by
  induction m with
  | zero => exact fun _ => ⟨⟨rfl, fun _ _ => rfl, rfl⟩, fun c => by rw [if_neg (fun q => absurd q.1 (Nat.not_lt_zero _))]; rfl⟩
  | succ m ih =>
    intro hm
    obtain ⟨⟨h1, h2, h3⟩, h5⟩ := ih (by omega)
    have e : lp (m_breach_b45 (nI c0)) (m + 1) (nI 0, ν) = m_breach_b45 (nI c0) m (lp (m_breach_b45 (nI c0)) m (nI 0, ν)) := rfl
    rw [e]
    generalize lp (m_breach_b45 (nI c0)) m (nI 0, ν) = z at h1 h2 h3 h5 ⊢
    have ew : z.2.1 3 m = ν.1 3 m := by rw [h5, if_neg (fun q => by omega)]
    have ez : m_breach_b45 (nI c0) m z = (z.1 + (if ν.1 7 m = ν.1 7 c0 then ν.1 3 m else 0), si z.2 3 m (if ν.1 7 m = ν.1 7 c0 then 0 else ν.1 3 m)) := by
      unfold m_breach_b45 m_breach_j73 m_breach_j92 m_breach_j116 m_breach_k117
      rw [nI_clamp (by omega), h2 7 (by decide), ew]
      by_cases q : ν.1 7 m = ν.1 7 c0
      · rw [if_pos q, if_pos q, if_pos q, if_neg n1_ne, if_neg n1_ne, n0_eq]
      · rw [if_neg q, if_neg q, if_neg q, if_pos n0_eq, if_pos n0_eq, n0_eq]
    rw [ez]
    refine ⟨⟨?_, fun k hk => ?_, h3⟩, fun c => ?_⟩
    · rw [s32_s, h1]
    · show (si z.2 3 m _).1 k = _
      rw [si_ne hk]
      exact h2 k hk
    · show (si z.2 3 m _).1 3 c = _
      by_cases q : c = m
      · subst q
        rw [si_eq]
        by_cases q2 : ν.1 7 c = ν.1 7 c0
        · rw [if_pos q2, if_pos ⟨by omega, q2⟩]
        · rw [if_neg q2, if_neg (fun y => q2 y.2)]
      · rw [si_pj _ q, h5]
        by_cases q2 : c < m ∧ ν.1 7 c = ν.1 7 c0
        · rw [if_pos q2, if_pos ⟨by omega, q2.2⟩]
        · rw [if_neg q2, if_neg (fun y => q2 ⟨by omega, y.2⟩)]
