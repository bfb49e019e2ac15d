/-! whole numbers of two sizes -/
theorem j_of (x : Int32) : x.toInt64 = Int64.ofInt x.toInt := by rw [← Int32.toInt_toInt64, Int64.ofInt_toInt]
theorem i_add {a b : Int32} (h1 : -2147483648 ≤ a.toInt + b.toInt) (h2 : a.toInt + b.toInt < 2147483648) : (a + b).toInt = a.toInt + b.toInt := by
  rw [Int32.toInt_add]
  exact Int.bmod_eq_of_le (by omega) (by omega)
theorem i_sub {a b : Int32} (h1 : -2147483648 ≤ a.toInt - b.toInt) (h2 : a.toInt - b.toInt < 2147483648) : (a - b).toInt = a.toInt - b.toInt := by
  rw [Int32.toInt_sub]
  exact Int.bmod_eq_of_le (by omega) (by omega)
theorem i_mul {a b : Int32} (h1 : -2147483648 ≤ a.toInt * b.toInt) (h2 : a.toInt * b.toInt < 2147483648) : (a * b).toInt = a.toInt * b.toInt := by
  rw [Int32.toInt_mul]
  exact Int.bmod_eq_of_le (by omega) (by omega)
theorem i_div {a b : Int32} (hb : 1 ≤ b.toInt) : (a / b).toInt = a.toInt.tdiv b.toInt := by
  rw [Int32.toInt_div]
  have h1 : -2147483648 ≤ a.toInt := Int32.le_toInt a
  have h2 : a.toInt < 2147483648 := Int32.toInt_lt a
  have h3 : (a.toInt.tdiv b.toInt).natAbs ≤ a.toInt.natAbs := by
    rw [Int.natAbs_tdiv]
    exact Nat.div_le_self _ _
  have h4 : a.toInt = -2147483648 → b.toInt = 1 ∨ (a.toInt.tdiv b.toInt).natAbs < 2147483648 := fun e => by
    by_cases q : b.toInt = 1
    · exact Or.inl q
    · refine Or.inr ?_
      rw [Int.natAbs_tdiv]
      show a.toInt.natAbs / b.toInt.natAbs < 2147483648
      have : a.toInt.natAbs / b.toInt.natAbs < a.toInt.natAbs := Nat.div_lt_self (by omega) (by omega)
      omega
  refine Int.bmod_eq_of_le ?_ ?_
  · omega
  · by_cases e : a.toInt = -2147483648
    · rcases h4 e with q | q
      · rw [q, Int.tdiv_one]; omega
      · omega
    · omega
theorem j_add {a b : Int32} (h1 : -2147483648 ≤ a.toInt + b.toInt) (h2 : a.toInt + b.toInt < 2147483648) : (a + b).toInt64 = a.toInt64 + b.toInt64 := by rw [j_of, j_of, j_of, i_add h1 h2, Int64.ofInt_add]
theorem j_sub {a b : Int32} (h1 : -2147483648 ≤ a.toInt - b.toInt) (h2 : a.toInt - b.toInt < 2147483648) : (a - b).toInt64 = a.toInt64 - b.toInt64 := by rw [j_of, j_of, j_of, i_sub h1 h2, Int64.ofInt_sub]
theorem i_ring1 (a b c : Int32) : a - (b + c) = a - b - c := by grind
theorem i_ring2 (a b c : Int32) : a + (b - c) = a + b - c := by grind
theorem j_ring1 (z a b : Int64) : z - a + b = z + (b - a) := by grind
theorem idx5 {c l : Int32} (hc : vp_in c 25) (hl : vp_in l 5) : nI 5 * c + l = nI (5 * c.toNatClampNeg + l.toNatClampNeg) := by
  have h1 := vp_self hc
  have h2 := vp_self hl
  generalize c.toNatClampNeg = x at h1
  generalize l.toNatClampNeg = y at h2
  subst h1; subst h2
  rw [pk_mul, nI_add]
theorem idx5n {c l : Int32} (hc : vp_in c 25) (hl : vp_in l 5) : (nI 5 * c + l).toNatClampNeg = 5 * c.toNatClampNeg + l.toNatClampNeg := by
  have q1 := vp_lt hc
  have q2 := vp_lt hl
  rw [idx5 hc hl, nI_clamp (by omega)]
theorem idx50 {c : Int32} (hc : vp_in c 25) : (nI 5 * c).toNatClampNeg = 5 * c.toNatClampNeg := by
  have h1 := vp_self hc
  have q1 := vp_lt hc
  generalize c.toNatClampNeg = x at h1 q1 ⊢
  subst h1
  rw [pk_mul, nI_clamp (by omega)]
