/-! small facts for the reference's walks: which way a check went, places in range, fields that a loop leaves -/
theorem n1_ne : ¬ nI 1 = 0 := by decide
theorem n2_ne : ¬ nI 2 = 0 := by decide
theorem n3_ne : ¬ nI 3 = 0 := by decide
theorem n0_eq : nI 0 = 0 := by decide
theorem ck_one {P : Prop} [Decidable P] {x t : Int32} (hx : x = if P then nI 1 else t) (h : x = 0) : ¬ P := by
  subst hx; intro hP; rw [if_pos hP] at h; exact n1_ne h
theorem ck_two {P Q : Prop} [Decidable P] [Decidable Q] {x : Int32} (hx : x = if P then nI 0 else (if Q then nI 0 else nI 1)) (h : ¬ x = 0) : ¬ P ∧ ¬ Q := by
  subst hx
  by_cases hP : P
  · rw [if_pos hP] at h; exact absurd n0_eq h
  · rw [if_neg hP] at h
    refine ⟨hP, fun hQ => ?_⟩
    rw [if_pos hQ] at h; exact absurd n0_eq h
theorem ck_tri {P Q : Prop} [Decidable P] [Decidable Q] {x : Int32} (hx : x = if P then nI 1 else (if Q then nI 2 else nI 0)) (h : x = 0) : ¬ P ∧ ¬ Q := by
  subst hx
  by_cases hP : P
  · rw [if_pos hP] at h; exact absurd h n1_ne
  · rw [if_neg hP] at h
    refine ⟨hP, fun hQ => ?_⟩
    rw [if_pos hQ] at h; exact absurd h n2_ne
theorem ck_four {P Q R : Prop} [Decidable P] [Decidable Q] [Decidable R] {x : Int32} (hx : x = if P then nI 1 else (if Q then nI 2 else (if R then nI 3 else nI 0))) (h : x = 0) : ¬ P ∧ ¬ Q ∧ ¬ R := by
  subst hx
  by_cases hP : P
  · rw [if_pos hP] at h; exact absurd h n1_ne
  · rw [if_neg hP] at h
    by_cases hQ : Q
    · rw [if_pos hQ] at h; exact absurd h n2_ne
    · rw [if_neg hQ] at h
      refine ⟨hP, hQ, fun hR => ?_⟩
      rw [if_pos hR] at h; exact absurd h n3_ne
theorem ck_house {P Q R S : Prop} [Decidable P] [Decidable Q] [Decidable R] [Decidable S] {x : Int32} (hx : x = if P then nI 1 else (if Q then (if R then (if S then nI 2 else nI 0) else nI 2) else nI 2)) (h : x = 0) : ¬ P ∧ Q ∧ R ∧ ¬ S := by
  subst hx
  by_cases hP : P
  · rw [if_pos hP] at h; exact absurd h n1_ne
  · rw [if_neg hP] at h
    by_cases hQ : Q
    · rw [if_pos hQ] at h
      by_cases hR : R
      · rw [if_pos hR] at h
        refine ⟨hP, hQ, hR, fun hS => ?_⟩
        rw [if_pos hS] at h; exact absurd h n2_ne
      · rw [if_neg hR] at h; exact absurd h n2_ne
    · rw [if_neg hQ] at h; exact absurd h n2_ne
theorem ck_zo {P Q : Prop} [Decidable P] [Decidable Q] {x : Int32} (hx : x = if P then nI 1 else (if Q then nI 1 else nI 0)) (h : x = 0) : ¬ P ∧ ¬ Q := by
  subst hx
  by_cases hP : P
  · rw [if_pos hP] at h; exact absurd h n1_ne
  · rw [if_neg hP] at h
    refine ⟨hP, fun hQ => ?_⟩
    rw [if_pos hQ] at h; exact absurd h n1_ne
theorem ck_b {P : Prop} [Decidable P] {x : Int32} (hx : x = if P then nI 1 else nI 0) (h : x = 0) : ¬ P := by
  subst hx; intro hP; rw [if_pos hP] at h; exact n1_ne h
theorem ck_c {P : Prop} [Decidable P] {x : Int32} (hx : x = if P then nI 0 else nI 1) (h : ¬ x = 0) : ¬ P := by
  subst hx; intro hP; rw [if_pos hP] at h; exact h n0_eq
theorem ck_d {P : Prop} [Decidable P] {x : Int32} (hx : x = if P then nI 0 else nI 1) (h : x = 0) : P := by
  subst hx
  by_cases hP : P
  · exact hP
  · rw [if_neg hP] at h; exact absurd h n1_ne
theorem ck_3 {P Q R : Prop} [Decidable P] [Decidable Q] [Decidable R] {x : Int32} (hx : x = if P then nI 0 else (if Q then nI 0 else (if R then nI 0 else nI 1))) (h : ¬ x = 0) : ¬ P ∧ ¬ Q ∧ ¬ R := by
  subst hx
  by_cases hP : P
  · rw [if_pos hP] at h; exact absurd n0_eq h
  · rw [if_neg hP] at h
    by_cases hQ : Q
    · rw [if_pos hQ] at h; exact absurd n0_eq h
    · rw [if_neg hQ] at h
      refine ⟨hP, hQ, fun hR => ?_⟩
      rw [if_pos hR] at h; exact absurd n0_eq h
theorem m_refused_0 {σ : Sg} {w : Int32} (h : m_refused σ w = 0) : w = 0 := by
  unfold m_refused m_refused_k5 at h
  by_cases hw : w = 0
  · exact hw
  · rw [if_neg hw] at h; exact absurd h n1_ne
theorem i_lt (a b : Int32) : a < b ↔ a.toInt < b.toInt := Int32.lt_iff_toInt_lt
theorem i_le (a b : Int32) : a ≤ b ↔ a.toInt ≤ b.toInt := Int32.le_iff_toInt_le
theorem w_within {v x y : Int32} (h : ¬ m_within v x y = 0) : x.toInt ≤ v.toInt ∧ v.toInt ≤ y.toInt := by
  unfold m_within at h
  by_cases h1 : v < x
  · rw [if_pos h1] at h; exact absurd n0_eq h
  · rw [if_neg h1] at h
    by_cases h2 : y < v
    · rw [if_pos h2] at h; exact absurd n0_eq h
    · rw [i_lt] at h1 h2
      omega
theorem w_in {v : Int32} {n : Nat} (h : ¬ m_within v (nI 0) (nI n) = 0) (hn : n < 2 ^ 31) : vp_in v (n + 1) := by
  obtain ⟨h1, h2⟩ := w_within h
  rw [nI_toInt (by omega)] at h1
  rw [nI_toInt hn] at h2
  exact vp_in_iff.mpr ⟨by omega, by omega⟩
theorem w_isCell {v : Int32} (h : ¬ m_isCell v = 0) : vp_in v 25 := w_in (n := 24) h (by decide)
theorem vp_lt {x : Int32} {n : Nat} (h : vp_in x n) : x.toNatClampNeg < n := Nat.not_le.mp fun q => h (Or.inr q)
theorem vp_self {x : Int32} {n : Nat} (h : vp_in x n) : x = nI x.toNatClampNeg := by
  obtain ⟨j, hj, rfl⟩ := nI_of (x := x) (fun q => h (Or.inl q))
  rw [nI_clamp hj]
theorem vp_toInt {x : Int32} {n : Nat} (h : vp_in x n) : x.toInt = (x.toNatClampNeg : Int) := by
  obtain ⟨j, hj, rfl⟩ := nI_of (x := x) (fun q => h (Or.inl q))
  rw [nI_clamp hj, nI_toInt hj]
theorem vp_wide {x : Int32} {n k : Nat} (h : vp_in x n) (hk : n ≤ k) : vp_in x k := fun q => h (q.elim Or.inl (fun z => Or.inr (Nat.le_trans hk z)))
/-- below a count that is a field -/
theorem w_below {v y : Int32} {n : Nat} (hy : vp_in y (n + 1)) (hn : n < 2 ^ 30) (h : ¬ m_within v (nI 0) (y - nI 1) = 0) : vp_in v y.toNatClampNeg := by
  obtain ⟨h1, h2⟩ := w_within h
  have hj := vp_lt hy
  have e := vp_self hy
  generalize y.toNatClampNeg = j at hj e
  subst e
  rw [pk_sub_toInt (by omega) (by omega)] at h2
  rw [nI_toInt (by omega)] at h1
  exact vp_in_iff.mpr ⟨by omega, by omega⟩
theorem vp_5 {x : Int32} (h : vp_in x 25) : vp_in (nI 5 * x) 125 := by
  obtain ⟨j, hj, rfl⟩ := vp_in_of h (by decide)
  rw [pk_mul]
  exact vp_in_nI (by omega) (by decide)
theorem vp_5l {x y : Int32} (h : vp_in x 25) (hl : vp_in y 5) : vp_in (nI 5 * x + y) 125 := by
  obtain ⟨j, hj, rfl⟩ := vp_in_of h (by decide)
  obtain ⟨k, hk, rfl⟩ := vp_in_of hl (by decide)
  rw [pk_mul, nI_add]
  exact vp_in_nI (by omega) (by decide)
theorem vp_rd {b x y : Int32} (hb : vp_in b 10) (hx : vp_in x 600) (hy : vp_in y 5) : vp_in (nI 3000 * b + nI 5 * x + y) 30000 := by
  obtain ⟨i, hi, rfl⟩ := vp_in_of hb (by decide)
  obtain ⟨j, hj, rfl⟩ := vp_in_of hx (by decide)
  obtain ⟨k, hk, rfl⟩ := vp_in_of hy (by decide)
  rw [pk_mul, pk_mul, nI_add, nI_add]
  exact vp_in_nI (by omega) (by decide)
theorem vp_rdN {i : Nat} {x y : Int32} (hb : i < 10) (hx : vp_in x 600) (hy : vp_in y 5) : vp_in (nI (3000 * i) + nI 5 * x + y) 30000 := by
  have h := vp_rd (b := nI i) (vp_in_nI hb (by decide)) hx hy
  rw [pk_mul 3000 i] at h
  exact h
theorem vp_rdM {i k : Nat} {y : Int32} (hb : i < 10) (hx : k < 600) (hy : vp_in y 5) : vp_in (nI (3000 * i + 5 * k) + y) 30000 := by
  have h := vp_rdN hb (vp_in_nI hx (by decide)) hy
  rw [pk_mul 5 k, nI_add] at h
  exact h
/-- what a loop leaves -/
theorem lp_kp {k : Nat} {f : Nat → Sg → Sg} (h : ∀ i z, (f i z).1 k = z.1 k) (n : Nat) (z : Sg) : (lp f n z).1 k = z.1 k := by
  induction n with
  | zero => rfl
  | succ n ih => exact (h n _).trans ih
theorem lp_kpB {α : Type} {β : Type} {P : α → β} {f : Nat → α → α} (h : ∀ i z, P (f i z) = P z) (n : Nat) (z : α) : P (lp f n z) = P z := by
  induction n with
  | zero => rfl
  | succ n ih => exact (h n _).trans ih
theorem lp_inv {α : Type} {P : Nat → α → Prop} {f : Nat → α → α} {z : α} (h0 : P 0 z) (h : ∀ i z, P i z → P (i + 1) (f i z)) (n : Nat) : P n (lp f n z) := by
  induction n with
  | zero => exact h0
  | succ n ih => exact h n _ ih
theorem lp_invB {α : Type} {P : Nat → α → Prop} {f : Nat → α → α} {z : α} {N : Nat} (h0 : P 0 z) (h : ∀ i z, i < N → P i z → P (i + 1) (f i z)) (n : Nat) (hn : n ≤ N) : P n (lp f n z) := by
  induction n with
  | zero => exact h0
  | succ n ih => exact h n _ (by omega) (ih (by omega))
/-- the counts, and what stands in the rows below them -/
def mOK (σ : Sg) : Prop := vp_in (σ.1 13 0) 11 ∧ vp_in (σ.1 19 0) 11 ∧ vp_in (σ.1 24 0) 41 ∧ vp_in (σ.1 1 0) 601 ∧
  (∀ h, h < (σ.1 13 0).toNatClampNeg → vp_in (σ.1 14 h) 25 ∧ vp_in (σ.1 15 h) 5 ∧ vp_in (σ.1 18 h) 601 ∧ (σ.1 18 h).toNatClampNeg ≤ (σ.1 1 0).toNatClampNeg) ∧
  (∀ b, b < (σ.1 19 0).toNatClampNeg → vp_in (σ.1 20 b) 25) ∧ ∀ c, c < 25 → vp_in (σ.1 4 c) 10 ∧ vp_in (σ.1 5 c) 4
theorem m_beside_tab : ∀ k, k < 25 → ∀ w, w < 4 → ¬ m_beside (nI k) (nI w) = -1 → vp_in (m_beside (nI k) (nI w)) 25 := by unfold vp_in; decide +kernel
theorem m_beside_some : ∀ k, k < 25 → ∃ w, w < 4 ∧ ¬ m_beside (nI k) (nI w) = -1 := by decide +kernel
theorem div_ne {x y : Int32} (hx : vp_in x 10) (hy : vp_in y 4) : ¬ nI 2 + x + nI 2 * y = 0 := by
  obtain ⟨i, hi, rfl⟩ := vp_in_of hx (by decide)
  obtain ⟨j, hj, rfl⟩ := vp_in_of hy (by decide)
  rw [pk_mul, nI_add, nI_add]
  exact nI_ne0 (by omega) (by omega)
theorem vp_ne {x : Int32} {n : Nat} (h : vp_in x (n + 1)) (hx : ¬ x = nI n) : vp_in x n := by
  have e := vp_self h
  have hl := vp_lt h
  intro q
  rcases q with q | q
  · exact h (Or.inl q)
  · exact hx (by rw [e, show x.toNatClampNeg = n by omega])
theorem w_mon {v x y : Int32} (hy : vp_in y 601) (hx : vp_in x 601) (h : ¬ m_within v x (y - nI 1) = 0) : vp_in v 600 := by
  obtain ⟨h1, h2⟩ := w_within h
  have hj := vp_lt hy
  have e := vp_self hy
  have hx0 := vp_in_iff.mp hx
  generalize y.toNatClampNeg = j at hj e
  subst e
  rw [pk_sub_toInt (by omega) (by omega)] at h2
  exact vp_in_iff.mpr ⟨by omega, by omega⟩
