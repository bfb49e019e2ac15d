/-! the two sides as they begin -/
theorem r0_i {k : Nat} (h : k < 8 ∨ 11 < k) (i n : Nat) (z : Sg) : (lp (m_init_b219 i) n z).1 k = z.1 k := by
  induction n with
  | zero => rfl
  | succ n ih =>
    show (m_init_b219 i n (lp (m_init_b219 i) n z)).1 k = _
    unfold m_init_b219 m_init_k237 m_init_j266 m_init_k267 m_init_k276 m_init_k285
    rw [si_ne (by omega), si_ne (by omega), si_ne (by omega), si_ne (by omega)]
    exact ih
theorem r0_i2 (i n : Nat) (z : Sg) : (lp (m_init_b219 i) n z).2 = z.2 := by
  induction n with
  | zero => rfl
  | succ n ih => exact ih
theorem r0_o {k : Nat} (h : k < 8 ∨ 11 < k) (h2 : k ≠ 2) (h5 : k ≠ 5) (n : Nat) (z : Sg) : (lp m_init_b196 n z).1 k = z.1 k := by
  induction n with
  | zero => rfl
  | succ n ih =>
    show (m_init_b196 n (lp m_init_b196 n z)).1 k = _
    unfold m_init_b196 m_init_k210 m_init_k217 m_init_x219
    rw [r0_i h, si_ne h5, si_ne h2]
    exact ih
theorem r0_o2 (n : Nat) (z : Sg) : (lp m_init_b196 n z).2 = z.2 := by
  induction n with
  | zero => rfl
  | succ n ih =>
    show (m_init_b196 n (lp m_init_b196 n z)).2 = _
    unfold m_init_b196 m_init_k210 m_init_k217 m_init_x219
    rw [r0_i2]
    exact ih
theorem r0_m {k : Nat} (h : k < 8 ∨ 11 < k) (h2 : k ≠ 2) (h5 : k ≠ 5) (j : Nat) : m_init_s.1 k j = 0 := congrFun (r0_o h h2 h5 25 μ0) j
theorem r0_l : m_init_s.2 = μ0.2 := r0_o2 25 μ0
theorem r0_c : ∀ c, c < 25 → m_init_s.1 2 c = nI 100 ∧ m_init_s.1 5 c = nI 2 := by decide +kernel
theorem r0_u : ∀ j, j < 125 → (m_init_s.1 8 j = s00.1 8 j ∧ m_init_s.1 9 j = s00.1 9 j) ∧ m_init_s.1 10 j = s00.1 10 j ∧ m_init_s.1 11 j = s00.1 11 j := by decide +kernel
theorem r0_k : k_init_s.2 26 = -125000 ∧ k_init_s.2 27 = 800 ∧ k_init_s.2 28 = 50000 := by decide +kernel
theorem r0_b : ∀ j, j < 125 → (0 ≤ (s00.1 8 j).toInt ∧ (s00.1 8 j).toInt ≤ 9) ∧ (0 ≤ (s00.1 9 j).toInt ∧ (s00.1 9 j).toInt ≤ 9) ∧ (-5099 ≤ (s00.1 10 j).toInt ∧ (s00.1 10 j).toInt ≤ 1000 * ((s00.1 8 j).toInt + (s00.1 9 j).toInt) + 100 * 300 + 99) ∧ 0 ≤ (s00.1 11 j).toInt ∧ (s00.1 11 j).toInt ≤ 1000 := by decide +kernel
theorem r0_n (k j : Nat) (h : k ≠ 2 ∧ k ≠ 5 ∧ k ≠ 36 ∧ k ≠ 8 ∧ k ≠ 9 ∧ k ≠ 10 ∧ k ≠ 11) : k_init_s.1 k j = 0 := by
  rw [k_init_1]
  exact s00_0 h
theorem Rel_first : Rel k_init_s m_init_s := by
  have em : mon k_init_s = 0 := by unfold mon; rw [r0_n 1 0 (by decide)]; rfl
  refine ⟨⟨fun k j hv => ?_, fun k h1 h2 => ?_⟩, ?_, ?_, ?_, ?_, ⟨fun c hc => ?_, fun x y hx => ?_⟩, ⟨fun k hk => ?_, fun k hk => ?_⟩, fun x hx h10 => ?_⟩
  · rw [k_init_N, k_init_N, k_init_N] at hv
    by_cases q2 : k = 2
    · subst q2
      have hj : j < 25 := by unfold vis at hv; omega
      rw [(r0_c j hj).1]
      rfl
    · by_cases q5 : k = 5
      · subst q5
        have hj : j < 25 := by unfold vis at hv; omega
        rw [(r0_c j hj).2]
        rfl
      · by_cases q8 : 8 ≤ k ∧ k ≤ 11
        · have hj : j < 125 := by unfold vis at hv; omega
          rw [k_init_1]
          rcases (show k = 8 ∨ k = 9 ∨ k = 10 ∨ k = 11 by omega) with rfl | rfl | rfl | rfl
          · exact (r0_u j hj).1.1.symm
          · exact (r0_u j hj).1.2.symm
          · exact (r0_u j hj).2.1.symm
          · exact (r0_u j hj).2.2.symm
        · have h36 : k ≠ 36 := by unfold vis at hv; omega
          rw [r0_n k j (by omega), r0_m (by omega) q2 q5]
  · rw [r0_l]
    rcases (show k = 26 ∨ k = 27 ∨ k = 28 ∨ k = 29 ∨ k = 30 ∨ k = 31 by omega) with rfl | rfl | rfl | rfl | rfl | rfl
    · exact r0_k.1
    · exact r0_k.2.1
    · exact r0_k.2.2
    · rfl
    · rfl
    · rfl
  · unfold mOK
    rw [r0_m (k := 13) (by decide) (by decide) (by decide), r0_m (k := 19) (by decide) (by decide) (by decide), r0_m (k := 24) (by decide) (by decide) (by decide), r0_m (k := 1) (by decide) (by decide) (by decide)]
    have z : ((0 : Int32)).toNatClampNeg = 0 := rfl
    rw [z]
    refine ⟨(by unfold vp_in; decide), (by unfold vp_in; decide), (by unfold vp_in; decide), (by unfold vp_in; decide), fun x hx => absurd hx (Nat.not_lt_zero _), fun x hx => absurd hx (Nat.not_lt_zero _), fun c hc => ⟨?_, ?_⟩⟩
    · rw [r0_m (by decide) (by decide) (by decide)]; exact (by unfold vp_in; decide)
    · rw [(r0_c c hc).2]; exact (by unfold vp_in; decide)
  · rw [em]
    intro j hj
    rw [k_init_1]
    exact r0_b j hj
  · rw [em]
    have z : ((0 : Int32)).toInt = 0 := by decide
    refine ⟨fun c hc => by rw [r0_n 3 c (by decide), z]; exact Int.le_refl _, ?_⟩
    have key : ∀ n, sw k_init_s n = 0 := fun n => by
      induction n with
      | zero => rfl
      | succ n ih =>
        show sw k_init_s n + (k_init_s.1 3 n).toInt = 0
        rw [ih, r0_n 3 n (by decide), z]
        rfl
    rw [key]
    decide
  · intro b hb
    rw [k_init_N] at hb
    exact absurd hb (Nat.not_lt_zero _)
  · exact Or.inl ⟨by rw [k_init_1]; rfl, fun x hx => by rw [k_init_N] at hx; exact absurd hx (Nat.not_lt_zero _)⟩
  · rw [k_init_N] at hx
    exact absurd hx (Nat.not_lt_zero _)
  · rw [k_init_N] at hk
    exact absurd hk (Nat.not_lt_zero _)
  · rw [k_init_N] at hk
    exact absurd hk (Nat.not_lt_zero _)
  · exact r0_m (by decide) (by decide) (by decide) x
