/-! the two sides in step: foundations -/
theorem si_at {σ : Sg} {k j : Nat} {v : Int32} {k' j' : Nat} : (si σ k j v).1 k' j' = if k' = k ∧ j' = j then v else σ.1 k' j' := by
  unfold si upd
  by_cases h : k' = k
  · subst h
    by_cases h2 : j' = j
    · simp [h2]
    · simp [h2]
  · simp [h]
theorem sl_at {σ : Sg} {k : Nat} {v : Int64} {k' : Nat} : (sl σ k v).2 k' = if k' = k then v else σ.2 k' := rfl
theorem si_nk {σ : Sg} {k j : Nat} {v : Int32} {k' : Nat} (h : k' ≠ k) (j' : Nat) : (si σ k j v).1 k' j' = σ.1 k' j' := by rw [si_at, if_neg (fun q => h q.1)]
theorem si_pj {σ : Sg} {k j : Nat} {v : Int32} {j' : Nat} (k' : Nat) (h : j' ≠ j) : (si σ k j v).1 k' j' = σ.1 k' j' := by rw [si_at, if_neg (fun q => h q.2)]
/-- places that both sides show -/
def vis (nh nb nc k j : Nat) : Prop := (k = 1 ∨ k = 13 ∨ k = 19 ∨ k = 24) ∧ j = 0 ∨ 2 ≤ k ∧ k ≤ 6 ∧ j < 25 ∨ 8 ≤ k ∧ k ≤ 11 ∧ j < 125 ∨ 14 ≤ k ∧ k ≤ 18 ∧ j < nh ∨ 20 ≤ k ∧ k ≤ 22 ∧ j < nb ∨ k = 25 ∧ j < nc
def AG (nh nb nc : Nat) (σ μ : Sg) : Prop := (∀ k j, vis nh nb nc k j → σ.1 k j = μ.1 k j) ∧ ∀ k, 26 ≤ k → k ≤ 31 → σ.2 k = μ.2 k
section AGS
variable {nh nb nc : Nat} {σ μ : Sg}
theorem AG.wr (h : AG nh nb nc σ μ) (k j : Nat) {v v' : Int32} (e : v = v') : AG nh nb nc (si σ k j v) (si μ k j v') := by
  subst e
  refine ⟨fun k' j' hv => ?_, h.2⟩
  rw [si_at, si_at, h.1 k' j' hv]
theorem AG.wrL (h : AG nh nb nc σ μ) {k j : Nat} (v : Int32) (hn : ¬ vis nh nb nc k j) : AG nh nb nc (si σ k j v) μ := by
  refine ⟨fun k' j' hv => ?_, h.2⟩
  rw [si_at, if_neg (fun q => hn (by rw [← q.1, ← q.2]; exact hv)), h.1 k' j' hv]
theorem AG.wrR (h : AG nh nb nc σ μ) {k j : Nat} (v : Int32) (hn : ¬ vis nh nb nc k j) : AG nh nb nc σ (si μ k j v) := by
  refine ⟨fun k' j' hv => ?_, h.2⟩
  rw [si_at, if_neg (fun q => hn (by rw [← q.1, ← q.2]; exact hv)), h.1 k' j' hv]
theorem AG.wl (h : AG nh nb nc σ μ) (k : Nat) {v v' : Int64} (e : v = v') : AG nh nb nc (sl σ k v) (sl μ k v') := by
  subst e
  refine ⟨h.1, fun k' h1 h2 => ?_⟩
  rw [sl_at, sl_at, h.2 k' h1 h2]
theorem AG.cell (h : AG nh nb nc σ μ) {k c : Nat} (h1 : 2 ≤ k ∧ k ≤ 6) (hc : c < 25) : σ.1 k c = μ.1 k c := h.1 k c (Or.inr (Or.inl ⟨h1.1, h1.2, hc⟩))
theorem AG.lay (h : AG nh nb nc σ μ) {k j : Nat} (h1 : 8 ≤ k ∧ k ≤ 11) (hj : j < 125) : σ.1 k j = μ.1 k j := h.1 k j (Or.inr (Or.inr (Or.inl ⟨h1.1, h1.2, hj⟩)))
theorem AG.cnt (h : AG nh nb nc σ μ) {k : Nat} (h1 : k = 1 ∨ k = 13 ∨ k = 19 ∨ k = 24) : σ.1 k 0 = μ.1 k 0 := h.1 k 0 (Or.inl ⟨h1, rfl⟩)
theorem AG.hou (h : AG nh nb nc σ μ) {k j : Nat} (h1 : 14 ≤ k ∧ k ≤ 18) (hj : j < nh) : σ.1 k j = μ.1 k j := h.1 k j (Or.inr (Or.inr (Or.inr (Or.inl ⟨h1.1, h1.2, hj⟩))))
theorem AG.hol (h : AG nh nb nc σ μ) {k j : Nat} (h1 : 20 ≤ k ∧ k ≤ 22) (hj : j < nb) : σ.1 k j = μ.1 k j := h.1 k j (Or.inr (Or.inr (Or.inr (Or.inr (Or.inl ⟨h1.1, h1.2, hj⟩)))))
theorem AG.clm (h : AG nh nb nc σ μ) {j : Nat} (hj : j < nc) : σ.1 25 j = μ.1 25 j := h.1 25 j (Or.inr (Or.inr (Or.inr (Or.inr (Or.inr ⟨rfl, hj⟩)))))
end AGS
theorem lp_rel {α β : Type} {P : Nat → α → β → Prop} {f : Nat → α → α} {g : Nat → β → β} {x : α} {y : β} {N : Nat} (h0 : P 0 x y) (h : ∀ i z ζ, i < N → P i z ζ → P (i + 1) (f i z) (g i ζ)) (n : Nat) (hn : n ≤ N) : P n (lp f n x) (lp g n y) := by
  induction n with
  | zero => exact h0
  | succ n ih => exact h n _ _ (by omega) (ih (by omega))
theorem lp_add {α : Type} {f : Nat → α → α} {x : α} (a b : Nat) : lp f (a + b) x = lp (fun i => f (a + i)) b (lp f a x) := by
  induction b with
  | zero => rfl
  | succ b ih =>
    show f (a + b) (lp f (a + b) x) = f (a + b) (lp (fun i => f (a + i)) b (lp f a x))
    rw [ih]
theorem lp_mul5 {α : Type} {f : Nat → α → α} {x : α} (n : Nat) : lp f (5 * n) x = lp (fun c z => lp (fun l => f (5 * c + l)) 5 z) n x := by
  induction n with
  | zero => rfl
  | succ n ih =>
    rw [show 5 * (n + 1) = 5 * n + 5 by omega, lp_add, ih]
    rfl
theorem w_min_i (a b : Int32) : (w_min a b).toInt = min a.toInt b.toInt := by
  unfold w_min
  by_cases h : b < a
  · rw [if_pos h]; rw [i_lt] at h; omega
  · rw [if_neg h]; rw [i_lt] at h; omega
theorem w_max_i (a b : Int32) : (w_max a b).toInt = max a.toInt b.toInt := by
  unfold w_max
  by_cases h : a < b
  · rw [if_pos h]; rw [i_lt] at h; omega
  · rw [if_neg h]; rw [i_lt] at h; omega
theorem m_lesser_i (a b : Int32) : (m_lesser a b).toInt = min a.toInt b.toInt := by
  unfold m_lesser m_lesser_j10
  by_cases h : b ≤ a
  · rw [if_pos h]; rw [i_le] at h; omega
  · rw [if_neg h]; rw [i_le] at h; omega
theorem m_greater_i (a b : Int32) : (m_greater a b).toInt = max a.toInt b.toInt := by
  unfold m_greater m_greater_j10
  by_cases h : a ≤ b
  · rw [if_pos h]; rw [i_le] at h; omega
  · rw [if_neg h]; rw [i_le] at h; omega
theorem min_1 (a b : Int32) : w_min a b = m_lesser a b := Int32.toInt_inj.mp (by rw [w_min_i, m_lesser_i])
theorem min_2 (a b : Int32) : w_min a b = m_lesser b a := Int32.toInt_inj.mp (by rw [w_min_i, m_lesser_i]; omega)
theorem max_1 (a b : Int32) : w_max a b = m_greater a b := Int32.toInt_inj.mp (by rw [w_max_i, m_greater_i])
theorem max_2 (a b : Int32) : w_max a b = m_greater b a := Int32.toInt_inj.mp (by rw [w_max_i, m_greater_i]; omega)
theorem temp_eq {σ μ : Sg} {j : Nat} (h8 : σ.1 8 j = μ.1 8 j) (h9 : σ.1 9 j = μ.1 9 j) (h10 : σ.1 10 j = μ.1 10 j) (hj : j < 2 ^ 31) : l_temperature σ j = m_degreesOf μ (nI j) := by
  unfold l_temperature l_temperature_j45 m_degreesOf m_degreesOf_j62 l_units
  rw [nI_clamp hj, h8, h9, h10]
theorem AG.temp {nh nb nc : Nat} {σ μ : Sg} (h : AG nh nb nc σ μ) {j : Nat} (hj : j < 125) : l_temperature σ j = m_degreesOf μ (nI j) := temp_eq (h.lay (by omega) hj) (h.lay (by omega) hj) (h.lay (by omega) hj) (by omega)
theorem AG.lake {nh nb nc : Nat} {σ μ : Sg} (h : AG nh nb nc σ μ) {c : Nat} (hc : c < 25) : c_isLake σ c = m_isLake μ (nI c) := by
  unfold c_isLake c_isLake_j13 m_isLake m_isLake_j15
  rw [nI_clamp (by omega), h.cell (by omega) hc]
  by_cases q : μ.1 3 c < nI 3
  · rw [if_pos q, if_pos (by rw [i_lt, nI_toInt (by decide)] at q; rw [i_le, nI_toInt (by decide)]; omega)]
  · rw [if_neg q, if_neg (by rw [i_lt, nI_toInt (by decide)] at q; rw [i_le, nI_toInt (by decide)]; omega)]
/-- a test of both sides -/
theorem wi_ix (n : Nat) (hn : n < 2 ^ 30) (v : Int32) : (m_within v (nI 0) (nI n) = nI 0 ∧ xIx v (nI (n + 1)) = 1) ∨ (m_within v (nI 0) (nI n) = nI 1 ∧ xIx v (nI (n + 1)) = 0 ∧ vp_in v (n + 1)) := by
  by_cases h : vp_in v (n + 1)
  · have h2 := vp_in_iff.mp h
    refine Or.inr ⟨?_, ?_, h⟩
    · unfold m_within m_within_j15
      rw [if_neg (by rw [i_lt, nI_toInt (by decide)]; omega), if_neg (by rw [i_lt, nI_toInt (by omega)]; omega)]
    · unfold xIx
      rw [if_neg (by rw [i_lt]; show ¬ v.toInt < 0; omega), if_pos (by rw [i_lt, nI_toInt (by omega)]; omega)]
  · have h2 : ¬ (0 ≤ v.toInt ∧ v.toInt < (n + 1 : Nat)) := fun q => h (vp_in_iff.mpr q)
    refine Or.inl ⟨?_, ?_⟩
    · unfold m_within m_within_j15
      by_cases q : v < nI 0
      · rw [if_pos q]
      · rw [if_neg q, if_pos (by rw [i_lt, nI_toInt (by decide)] at q; rw [i_lt, nI_toInt (by omega)]; omega)]
    · unfold xIx
      by_cases q : v < 0
      · rw [if_pos q]
      · rw [if_neg q, if_neg (by rw [i_lt] at q; have q2 : ¬ v.toInt < 0 := q; rw [i_lt, nI_toInt (by omega)]; omega)]
theorem wi_rg (v a b : Int32) : (m_within v a b = nI 0 ∧ xRg v a b = 2) ∨ (m_within v a b = nI 1 ∧ xRg v a b = 0 ∧ a.toInt ≤ v.toInt ∧ v.toInt ≤ b.toInt) := by
  unfold m_within m_within_j15 xRg
  by_cases h1 : v < a
  · rw [if_pos h1, if_pos h1]; exact Or.inl ⟨rfl, rfl⟩
  · rw [if_neg h1, if_neg h1]
    by_cases h2 : b < v
    · rw [if_pos h2, if_neg (by rw [i_lt] at h2; rw [i_le]; omega)]; exact Or.inl ⟨rfl, rfl⟩
    · rw [if_neg h2, if_pos (by rw [i_lt] at h2; rw [i_le]; omega)]
      refine Or.inr ⟨rfl, rfl, ?_, ?_⟩
      · rw [i_lt] at h1; omega
      · rw [i_lt] at h2; omega
