/-! a month: the coldest cell cracks -/
theorem si_comm {σ : Sg} {k j k' j' : Nat} {v v' : Int32} (h : k ≠ k') : si (si σ k j v) k' j' v' = si (si σ k' j' v') k j v := by
  refine Prod.ext (funext fun b => funext fun x => ?_) rfl
  show (si (si σ k j v) k' j' v').1 b x = (si (si σ k' j' v') k j v).1 b x
  rw [si_at, si_at, si_at, si_at]
  by_cases q : b = k' ∧ x = j'
  · rw [if_pos q, if_neg (fun y => h (y.1.symm.trans q.1)), if_pos q]
  · rw [if_neg q]
    by_cases q2 : b = k ∧ x = j
    · rw [if_pos q2, if_pos q2]
    · rw [if_neg q2, if_neg q2, if_neg q]
theorem cold_eq {σ μ : Sg} {nh nb nc : Nat} (h : AG nh nb nc σ μ) : lp (m_crack_b4 μ) 24 (nI 0) = nI (lp (k_crackColdest_b16 σ) 24 0) ∧ lp (k_crackColdest_b16 σ) 24 0 ≤ 24 := by
  refine lp_rel (P := fun i (a : Nat) (b : Int32) => b = nI a ∧ a ≤ i) (f := k_crackColdest_b16 σ) (g := m_crack_b4 μ) (x := 0) (y := nI 0) (N := 24) ⟨rfl, Nat.le_refl _⟩ (fun i a b hi hab => ?_) 24 (Nat.le_refl _)
  obtain ⟨rfl, ha⟩ := hab
  have t1 : m_degreesOf μ (nI 5 * nI a + nI 1) = l_temperature σ (5 * a + 1) := by
    rw [pk_mul, nI_add]
    exact (h.temp (by omega)).symm
  have t2 : m_degreesOf μ (nI (5 * (1 + i) + 1)) = l_temperature σ (5 * (1 + i) + 1) := (h.temp (by omega)).symm
  unfold k_crackColdest_b16 k_crackColdest_j48 m_crack_b4 m_crack_j36 c_crackingTemperature
  rw [t1, t2]
  by_cases q : l_temperature σ (5 * a + 1) ≤ l_temperature σ (5 * (1 + i) + 1)
  · rw [if_pos q, if_pos q]
    exact ⟨rfl, by omega⟩
  · rw [if_neg q, if_neg q]
    exact ⟨rfl, by omega⟩
/-- one cell cracks -/
theorem crack_one {σ0 μ0 : Sg} {T C N : Int} {z ζ : Sg} (h : PH σ0 μ0 T C N z ζ) (hT : T ≤ 20000) (hN : N ≤ 1000000) {i : Nat} (hi : i < 25) : PH σ0 μ0 T C N (c_crack_s z i) (m_crack_k70_s ζ (nI i) (si ζ 6 (nI i).toNatClampNeg (ζ.1 6 (nI i).toNatClampNeg + nI 1))) := by
  have ci : (nI i).toNatClampNeg = i := nI_clamp (by omega)
  have ck : (nI 5 * nI i + nI 1).toNatClampNeg = 5 * i + 1 := by rw [pk_mul, nI_add, nI_clamp (by omega)]
  have e6 := h.2.1.cell (k := 6) (by omega) hi
  have h1 : PH σ0 μ0 T C N (si z 6 i (z.1 6 i + nI 1)) (si ζ 6 i (ζ.1 6 i + nI 1)) := h.w26 (Or.inr rfl) i (by rw [e6])
  have kz : c_crack_s z i = c_crack_k10_s z i (si z 6 i (z.1 6 i + nI 1)) := rfl
  rw [kz, ci]
  generalize si z 6 i (z.1 6 i + nI 1) = s at h1 ⊢
  generalize si ζ 6 i (ζ.1 6 i + nI 1) = t at h1 ⊢
  obtain ⟨k, hk⟩ : ∃ k : Nat, k = 5 * i + 1 := ⟨_, rfl⟩
  have hk5 : k < 125 := by omega
  have f3 := h1.2.1.cell (k := 3) (by omega) hi
  have f2 := h1.2.1.cell (k := 2) (by omega) hi
  have f9 := h1.2.1.lay (k := 9) (j := k) (by omega) hk5
  have f10 := h1.2.1.lay (k := 10) (j := k) (by omega) hk5
  unfold c_crack_k10_s c_crack_j75_s c_crack_t21n c_crack_k43 c_crack_k53 c_crack_k63 m_crack_k70_s m_crack_j132_s m_crack_t76n m_crack_k100 m_crack_k110 m_crack_k120
  rw [ci, ck, ← hk, ← f3, ← f9]
  by_cases q1 : s.1 3 i ≤ 0
  · rw [if_pos q1, if_pos q1]
    exact h1
  · rw [if_neg q1, if_neg q1]
    by_cases q2 : nI 9 ≤ s.1 9 k
    · rw [if_pos q2, if_pos q2]
      exact h1
    · rw [if_neg q2, if_neg q2]
      rw [i_le, z_0] at q1
      rw [i_le, k_9] at q2
      obtain ⟨⟨p0, p9⟩, ⟨x0, x9⟩, ⟨e1, e2⟩, d1, d2⟩ := h1.2.2.2.1 k hk5
      have wb := h1.2.2.2.2.one hi
      have hw : (s.1 3 i - nI 1).toInt = (s.1 3 i).toInt - 1 := by rw [i_sub (by rw [k_1]; omega) (by rw [k_1]; omega), k_1]
      have hx : (s.1 9 k + nI 1).toInt = (s.1 9 k).toInt + 1 := by rw [i_add (by rw [k_1]; omega) (by rw [k_1]; omega), k_1]
      have he : (s.1 10 k + nI 1000).toInt = (s.1 10 k).toInt + 1000 := by rw [i_add (by rw [k_1000]; omega) (by rw [k_1000]; omega), k_1000]
      have es : ∀ A : Int32, si (si (si (si s 3 i A) 2 i ((si s 3 i A).1 2 i + nI 1)) 9 k ((si (si s 3 i A) 2 i ((si s 3 i A).1 2 i + nI 1)).1 9 k + nI 1)) 10 k ((si (si (si s 3 i A) 2 i ((si s 3 i A).1 2 i + nI 1)) 9 k ((si (si s 3 i A) 2 i ((si s 3 i A).1 2 i + nI 1)).1 9 k + nI 1)).1 10 k + nI 1000) = si (si (si (si s 3 i A) 2 i (s.1 2 i + nI 1)) 9 k (s.1 9 k + nI 1)) 10 k (s.1 10 k + nI 1000) := fun A => by
        simp only [si_at, Nat.reduceEqDiff, false_and, if_false]
      have et : ∀ A : Int32, si (si (si (si t 3 i A) 9 k ((si t 3 i A).1 9 k + nI 1)) 2 i ((si (si t 3 i A) 9 k ((si t 3 i A).1 9 k + nI 1)).1 2 i + nI 1)) 10 k ((si (si (si t 3 i A) 9 k ((si t 3 i A).1 9 k + nI 1)) 2 i ((si (si t 3 i A) 9 k ((si t 3 i A).1 9 k + nI 1)).1 2 i + nI 1)).1 10 k + nI 1000) = si (si (si (si t 3 i A) 2 i (s.1 2 i + nI 1)) 9 k (s.1 9 k + nI 1)) 10 k (s.1 10 k + nI 1000) := fun A => by
        rw [si_comm (σ := si t 3 i A) (k := 9) (k' := 2) (by decide), f2, f9, f10]
        simp only [si_at, Nat.reduceEqDiff, false_and, if_false]
      rw [es, et]
      refine h1.upd (FF.rf.si (by omega) |>.si (by omega) |>.si (by omega) |>.si (by omega)) (FF.rf.si (by omega) |>.si (by omega) |>.si (by omega) |>.si (by omega)) ((((h1.2.1.wr 3 i rfl).wr 2 i rfl).wr 9 k rfl).wr 10 k rfl) (by rw [si_ne (by decide), si_ne (by decide), si_ne (by decide), si_ne (by decide)]) (by rw [si_ne (by decide), si_ne (by decide), si_ne (by decide), si_ne (by decide)]) k (fun k' h1 h2 x hx => ?_) (fun _ => ?_) (h1.2.2.2.2.wat hi (fun x hx => ?_) ?_ ?_)
      · by_cases q : k' = 9 ∨ k' = 10
        · rw [si_pj _ hx, si_pj _ hx, si_ne (by omega), si_ne (by omega)]
        · rw [si_ne (by omega), si_ne (by omega), si_ne (by omega), si_ne (by omega)]
      · simp only [si_at, Nat.reduceEqDiff, false_and, and_self, if_false, if_true, hx, he]
        exact ⟨⟨p0, p9⟩, ⟨by omega, by omega⟩, ⟨by omega, by omega⟩, d1, d2⟩
      · rw [si_ne (by decide), si_ne (by decide), si_ne (by decide), si_pj _ hx]
      · rw [si_ne (by decide), si_ne (by decide), si_ne (by decide), si_eq, hw]
        omega
      · rw [si_ne (by decide), si_ne (by decide), si_ne (by decide), si_eq, hw]
        omega
/-- 5: the coldest cell cracks -/
theorem ph_crack {σ0 μ0 : Sg} {T C N : Int} {z ζ : Sg} (h : PH σ0 μ0 T C N z ζ) (hT : T ≤ 20000) (hN : N ≤ 1000000) (air : Int32) : PH σ0 μ0 T C N (k_crackColdest_s z air) (if (-20) < air then ζ else m_crack_s ζ) := by
  obtain ⟨hc1, hc2⟩ := cold_eq h.2.1
  have mC : m_crack_s ζ = m_crack_x4_s ζ (lp (m_crack_b4 ζ) 24 (nI 0)) := rfl
  rw [mC, hc1]
  unfold k_crackColdest_s
  generalize lp (k_crackColdest_b16 z) 24 0 = i at hc1 hc2 ⊢
  have k20 : ((-20 : Int32)).toInt = -20 := by decide
  have k10 : ((-10 : Int32)).toInt = -10 := by decide
  by_cases q : air ≤ -20
  · have q2 : ¬ (-20) < air := fun y => by
      rw [i_le, k20] at q
      rw [i_lt, k20] at y
      omega
    rw [if_pos q, if_neg q2]
    have t1 : m_degreesOf ζ (nI 5 * nI i + nI 1) = l_temperature z (5 * i + 1) := by
      rw [pk_mul, nI_add]
      exact (h.2.1.temp (by omega)).symm
    unfold k_crackColdest_x16_s k_crackColdest_j67_s m_crack_x4_s c_crackingTemperature
    rw [t1]
    by_cases q3 : (-10) < l_temperature z (5 * i + 1)
    · have q4 : ¬ l_temperature z (5 * i + 1) ≤ -10 := fun y => by
        rw [i_lt, k10] at q3
        rw [i_le, k10] at y
        omega
      rw [if_pos q3, if_neg q4]
      exact h
    · have q4 : l_temperature z (5 * i + 1) ≤ -10 := by
        rw [i_lt, k10] at q3
        rw [i_le, k10]
        omega
      rw [if_neg q3, if_pos q4]
      exact crack_one h hT hN (by omega)
  · have q2 : (-20) < air := by
      rw [i_le, k20] at q
      rw [i_lt, k20]
      omega
    rw [if_neg q, if_pos q2]
    exact h
