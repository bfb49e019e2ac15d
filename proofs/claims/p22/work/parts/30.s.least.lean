/-! a lake's label is its least cell -/
def GL (z : Sg) : Prop := ∀ c : Nat, c < 25 → (z.1 7 c).toInt ≤ (c : Int)
theorem GL_b {i : Nat} {w : Int32 × Sg} (hi : i < 100) (h : GL w.2) : GL (m_gather_b44 i w).2 := by
  rcases m_gather_cases i w with q | ⟨hb, g1, g2, g3, q⟩
  · rw [q]; exact h
  · rw [q]
    generalize (m_beside (nI (i / 4)) (nI (i % 4))).toNatClampNeg = j at g2 g3 ⊢
    intro c hc
    show ((si w.2 7 (i / 4) (w.2.1 7 j)).1 7 c).toInt ≤ (c : Int)
    have h0 := h c hc
    by_cases e : c = i / 4
    · rw [e, si_eq]
      rw [i_le] at g3
      rw [e] at h0
      omega
    · rw [si_pj _ e]
      exact h0
theorem GL_36 {z : Int32 × Sg} (h : GL z.2) : GL (m_gather_b36 z).2 := by
  have key := lp_invB (f := m_gather_b44) (z := (nI 0, z.2)) (n := 100) (N := 100) (P := fun _ (w : Int32 × Sg) => GL w.2) h (fun i w hi hw => GL_b hi hw) (Nat.le_refl _)
  have e : m_gather_b36 z = lp (m_gather_b44) 100 (nI 0, z.2) := by simp only [m_gather_b36, m_gather_x44]
  rw [e]
  generalize lp m_gather_b44 100 (nI 0, z.2) = w at key
  exact key
theorem GL_w (n : Nat) : ∀ z : Int32 × Sg, GL z.2 → GL (m_gather_w36 n z).2 := by
  induction n with
  | zero => exact fun z h => h
  | succ n ih =>
    intro z h
    show GL (if z.1 = 0 then z else m_gather_w36 n (m_gather_b36 z)).2
    by_cases q : z.1 = 0
    · rw [if_pos q]; exact h
    · rw [if_neg q]; exact ih _ (GL_36 h)
theorem GL_s (σ : Sg) : GL (m_gather_s σ) := GL_w 700 (nI 1, lp m_gather_b2 25 σ) (fun c hc => by
  show ((lp m_gather_b2 25 σ).1 7 c).toInt ≤ (c : Int)
  rw [m_gather_lab0 σ 25 c hc hc]
  by_cases q : σ.1 3 c ≤ 0
  · rw [if_pos q]
    have z : ((-1 : Int32)).toInt = -1 := by decide
    omega
  · rw [if_neg q, nI_toInt (by omega)]
    exact Int.le_refl _)
theorem lab_least {σ : Sg} {i : Nat} (hi : i < 25) (w : wet σ i) : (m_gather_s σ).1 7 i = nI i ↔ ¬ ∃ j, j < i ∧ wet σ j ∧ Rch σ j i := by
  constructor
  · intro e ⟨j, hj, wj, r⟩
    have q := (lab_iff (by omega) hi wj w).mpr r
    have g := GL_s σ j (by omega)
    rw [q, e, nI_toInt (by omega)] at g
    omega
  · intro h
    rcases (GI_s σ).1.2 i hi with ⟨u1, -⟩ | ⟨u1, r, u2, u3, u4, u5⟩
    · exact absurd w u1
    · have g := GL_s σ i hi
      rw [u3, nI_toInt (by omega)] at g
      by_cases q : r = i
      · rw [u3, q]
      · exact absurd ⟨r, by omega, u4, u5⟩ h
