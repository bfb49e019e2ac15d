/-! layers, lakes, houses: what the law holds of what is asked -/
theorem k64_100 : ((100 : Int64)).toInt = 100 := by decide
theorem k64_1000 : ((1000 : Int64)).toInt = 1000 := by decide
theorem u64 {σ : Sg} (h : IV σ) {j : Nat} (hj : j < 125) : ((σ.1 8 j).toInt64 + (σ.1 9 j).toInt64).toInt = (σ.1 8 j).toInt + (σ.1 9 j).toInt := by
  have q := h.bl j hj
  rw [oi_32, oi_32, oi_add, Int64.toInt_ofInt_of_le (by omega) (by omega)]
theorem m64 {σ : Sg} (h : IV σ) {j : Nat} (hj : j < 125) : ((1000 : Int64) * ((σ.1 8 j).toInt64 + (σ.1 9 j).toInt64)).toInt = 1000 * ((σ.1 8 j).toInt + (σ.1 9 j).toInt) := by
  have q := h.bl j hj
  have o1 : (1000 : Int64) = Int64.ofInt 1000 := rfl
  rw [oi_32, oi_32, oi_add, o1, ← Int64.ofInt_mul, Int64.toInt_ofInt_of_le (by omega) (by omega)]
theorem un_i {σ : Sg} (h : IV σ) {j : Nat} (hj : j < 125) : (l_units σ j).toInt = (σ.1 8 j).toInt + (σ.1 9 j).toInt := by
  have q := h.bl j hj
  unfold l_units
  exact i_add (by omega) (by omega)
/-- a temperature by its energy -/
theorem dg_neg {σ : Sg} (h : IV σ) {j : Nat} (hj : j < 125) (he : (σ.1 10 j).toInt < 0) : (σ.1 10 j).toInt64 / (100 : Int64) = (l_temperature σ j).toInt64 := by
  apply Int64.toInt_inj.mp
  rw [Int64.toInt_div_of_ne_right _ _ (by decide), t64, t64, k64_100]
  unfold l_temperature
  rw [if_neg (by rw [i_le, z_0]; omega), i_div (by rw [k_100]; decide), k_100]
theorem dg_hi {σ : Sg} (h : IV σ) {j : Nat} (hj : j < 125) (he : 1000 * ((σ.1 8 j).toInt + (σ.1 9 j).toInt) < (σ.1 10 j).toInt) : ((σ.1 10 j).toInt64 - (1000 : Int64) * ((σ.1 8 j).toInt64 + (σ.1 9 j).toInt64)) / (100 : Int64) = (l_temperature σ j).toInt64 := by
  have q := h.bl j hj
  have hu := un_i h hj
  have hm : (nI 1000 * l_units σ j).toInt = 1000 * ((σ.1 8 j).toInt + (σ.1 9 j).toInt) := by rw [i_mul (by rw [k_1000, hu]; omega) (by rw [k_1000, hu]; omega), k_1000, hu]
  have o1 : (1000 : Int64) = Int64.ofInt 1000 := rfl
  have hs : ((σ.1 10 j).toInt64 - (1000 : Int64) * ((σ.1 8 j).toInt64 + (σ.1 9 j).toInt64)).toInt = (σ.1 10 j).toInt - 1000 * ((σ.1 8 j).toInt + (σ.1 9 j).toInt) := by
    rw [oi_32, oi_32, oi_32, oi_add, o1, ← Int64.ofInt_mul, ← Int64.ofInt_sub, Int64.toInt_ofInt_of_le (by omega) (by omega)]
  apply Int64.toInt_inj.mp
  rw [Int64.toInt_div_of_ne_right _ _ (by decide), t64, hs, k64_100]
  unfold l_temperature l_temperature_j45
  rw [if_pos (by rw [i_le, z_0]; omega), if_neg (by rw [i_le, hm]; omega), i_div (by rw [k_100]; decide), k_100, i_sub (by rw [hm]; omega) (by rw [hm]; omega), hm]
theorem dg_mid {σ : Sg} (h : IV σ) {j : Nat} (hj : j < 125) (h0 : ¬ (σ.1 10 j).toInt < 0) (he : ¬ 1000 * ((σ.1 8 j).toInt + (σ.1 9 j).toInt) < (σ.1 10 j).toInt) : (0 : Int64) = (l_temperature σ j).toInt64 := by
  have q := h.bl j hj
  have hu := un_i h hj
  have hm : (nI 1000 * l_units σ j).toInt = 1000 * ((σ.1 8 j).toInt + (σ.1 9 j).toInt) := by rw [i_mul (by rw [k_1000, hu]; omega) (by rw [k_1000, hu]; omega), k_1000, hu]
  unfold l_temperature l_temperature_j45
  rw [if_pos (by rw [i_le, z_0]; omega), if_pos (by rw [i_le, hm]; omega)]
  rfl
/-- what has melted -/
def ml (σ : Sg) (j : Nat) : Int := if (σ.1 10 j).toInt < 0 then 0 else (σ.1 10 j).toInt / 1000
theorem ml_neg {σ : Sg} {j : Nat} (he : (σ.1 10 j).toInt < 0) : (0 : Int64) = Int64.ofInt (ml σ j) := by
  unfold ml
  rw [if_pos he]
  rfl
theorem ml_pos {σ : Sg} (h : IV σ) {j : Nat} (hj : j < 125) (he : ¬ (σ.1 10 j).toInt < 0) : (σ.1 10 j).toInt64 / (1000 : Int64) = Int64.ofInt (ml σ j) := by
  have q := h.bl j hj
  apply Int64.toInt_inj.mp
  unfold ml
  rw [if_neg he, Int64.toInt_div_of_ne_right _ _ (by decide), t64, k64_1000, Int.tdiv_eq_ediv_of_nonneg (by omega), Int64.toInt_ofInt_of_le (by omega) (by omega)]
theorem ml_i {σ : Sg} (h : IV σ) {j : Nat} (hj : j < 125) : (Int64.ofInt (ml σ j)).toInt = ml σ j := by
  have q := h.bl j hj
  unfold ml
  split
  · rfl
  · exact Int64.toInt_ofInt_of_le (by omega) (by omega)
theorem ml_m {σ : Sg} (h : IV σ) {j : Nat} (hj : j < 125) : (l_melted σ j).toInt = min (ml σ j) ((σ.1 8 j).toInt + (σ.1 9 j).toInt) := by
  have hm := h.mo.2
  obtain ⟨μ, hR⟩ := id h.1
  have e := melt_i hR.2.2.1 (by omega) hj
  rw [e]
  unfold ml
  split
  · rw [show max (σ.1 10 j).toInt 0 = 0 by omega]
    rfl
  · rw [show max (σ.1 10 j).toInt 0 = (σ.1 10 j).toInt by omega]
theorem ml_gt {σ : Sg} (h : IV σ) {j : Nat} (hj : j < 125) (hq : (σ.1 8 j).toInt + (σ.1 9 j).toInt < ml σ j) : (l_melted σ j).toInt64 = (σ.1 8 j).toInt64 + (σ.1 9 j).toInt64 := by
  apply Int64.toInt_inj.mp
  rw [t64, u64 h hj, ml_m h hj]
  omega
theorem ml_le {σ : Sg} (h : IV σ) {j : Nat} (hj : j < 125) (hq : ¬ (σ.1 8 j).toInt + (σ.1 9 j).toInt < ml σ j) : (l_melted σ j).toInt64 = Int64.ofInt (ml σ j) := by
  apply Int64.toInt_inj.mp
  rw [t64, ml_i h hj, ml_m h hj]
  omega
/-- how many layers are thawed, from above -/
def tw (σ : Sg) (c : Nat) : Nat → Nat
  | 0 => 0
  | l + 1 => if tw σ c l = l ∧ ¬ (σ.1 10 (5 * c + l)).toInt < 0 then tw σ c l + 1 else tw σ c l
theorem tw_le {σ : Sg} {c : Nat} (l : Nat) : tw σ c l ≤ l := by
  induction l with
  | zero => exact Nat.le_refl _
  | succ l ih =>
    show (if tw σ c l = l ∧ ¬ (σ.1 10 (5 * c + l)).toInt < 0 then tw σ c l + 1 else tw σ c l) ≤ l + 1
    split <;> omega
theorem tw_eq {σ : Sg} {c : Nat} : c_thawedFromAbove σ c = nI (tw σ c 5) := by
  have hl : ∀ j, l_isThawed σ j = if (σ.1 10 j).toInt < 0 then nI 0 else nI 1 := fun j => by
    unfold l_isThawed l_isThawed_j12
    by_cases q : σ.1 10 j < 0
    · rw [if_pos q, if_pos (by rw [i_lt, z_0] at q; exact q)]
    · rw [if_neg q, if_neg (by rw [i_lt, z_0] at q; exact q)]
  unfold c_thawedFromAbove c_thawedFromAbove_j29
  rw [hl, hl, hl, hl, hl]
  unfold tw tw tw tw tw tw
  generalize (σ.1 10 (5 * c + 0)).toInt = e0
  generalize (σ.1 10 (5 * c + 1)).toInt = e1
  generalize (σ.1 10 (5 * c + 2)).toInt = e2
  generalize (σ.1 10 (5 * c + 3)).toInt = e3
  generalize (σ.1 10 (5 * c + 4)).toInt = e4
  by_cases h0 : e0 < 0
  · simp [h0, n0t, n1f]
  · by_cases h1 : e1 < 0
    · simp [h0, h1, n0t, n1f]
    · by_cases h2 : e2 < 0
      · simp [h0, h1, h2, n0t, n1f]
      · by_cases h3 : e3 < 0
        · simp [h0, h1, h2, h3, n0t, n1f]
        · by_cases h4 : e4 < 0
          · simp [h0, h1, h2, h3, h4, n0t, n1f]
          · simp [h0, h1, h2, h3, h4, n0t, n1f]
/-- claims -/
theorem wo_b {σ : Sg} (h : IV σ) {k : Nat} (hk : k < cpN σ 0) : ∃ q : Int, (wo σ k).toInt = 100 * q ∧ 0 ≤ q ∧ q ≤ (σ.1 17 k).toInt ∧ (σ.1 17 k).toInt ≤ 600 := by
  have hm := h.mo
  have ht := h.2.2.1 k hk
  obtain ⟨q, h1, h2, h3⟩ := amt_b (σ := σ) (h := k) (t := σ.1 17 k) (u := σ.1 1 0) (by have q9 := hm.2; unfold mon at q9; exact q9) ht.1 (by omega)
  exact ⟨q, h1, h2, h3, by omega⟩
theorem lrem_0 {x : Int64} {q : Int} (hx : x.toInt = 100 * q) (h0 : 0 ≤ q) (h1 : q ≤ 1000000) : x - x / (100 : Int64) * (100 : Int64) = 0 := by
  have e1 : x / (100 : Int64) = Int64.ofInt q := by
    apply Int64.toInt_inj.mp
    rw [Int64.toInt_div_of_ne_right _ _ (by decide), hx, k64_100, Int.tdiv_eq_ediv_of_nonneg (by omega), Int64.toInt_ofInt_of_le (by omega) (by omega)]
    omega
  have o1 : (100 : Int64) = Int64.ofInt 100 := rfl
  rw [e1, o1, ← Int64.ofInt_mul, ← Int64.ofInt_toInt x, hx, ← Int64.ofInt_sub, show 100 * q - q * 100 = 0 by omega]
  rfl
theorem house_in {σ : Sg} (h : IV σ) {k : Nat} (hk : k < cpN σ 0) : ∃ c, c < 25 ∧ σ.1 14 k = nI c ∧ σ.1 36 c = nI k := by
  obtain ⟨μ, hR⟩ := h.1
  have v := ((Rel_c hR).2.2.2.2.1 k hk).1
  have s := vp_self v
  have l := vp_lt v
  refine ⟨_, l, s, ?_⟩
  generalize (σ.1 14 k).toNatClampNeg = c at s l
  rcases hR.2.2.2.2.2.1.1 c l with ⟨-, q⟩ | ⟨x, hx, q1, q2⟩
  · exact absurd s (q k hk)
  · rw [q1, hR.2.2.2.2.2.1.2 k x hk hx (s.trans q2.symm)]
theorem house_t {σ : Sg} (h : IV σ) {k : Nat} (hk : k < cpN σ 0) : (0 ≤ (σ.1 17 k).toInt ∧ (σ.1 17 k).toInt ≤ 600) ∧ (σ.1 17 k).toInt ≤ (mon σ : Int) - (σ.1 18 k).toInt ∧ (0 ≤ (σ.1 18 k).toInt ∧ (σ.1 18 k).toInt ≤ 600) := by
  have hm := h.mo
  have ht := h.2.2.1 k hk
  have v := (h.ok.1.2.2.2.2.1 k hk).2.2.1
  have e := vp_toInt v
  have l := vp_lt v
  rw [e]
  omega
/-- lakes: thirteen at most -/
theorem nxt_d {a b : Nat} (h : ∃ s, s < 4 ∧ ¬ m_beside (nI a) (nI s) = -1 ∧ (m_beside (nI a) (nI s)).toNatClampNeg = b) : nxt a b := h
theorem ls_step {σ μ : Sg} (h : Rel σ μ) {i : Nat} (hi : i < 25) {z : Int32 × Sg} (hS : SR σ (LM σ i) i 0 z.2) : (k_lakes_b8 i z).1 = z.1 ∨ ((wet σ i ∧ ¬ LM σ i i) ∧ (k_lakes_b8 i z).1 = z.1 + nI 1) := by
  have o1 : Int32.ofInt 1 = nI 1 := by decide
  have eb : k_lakes_b8 i z = (if (k_hasLakeCell (k_gatherLake_s z.2 (nI i)) (k_gatherLake z.2 (nI i))) = 0 then z.1 else z.1 + Int32.ofInt 1, k_gatherLake_s z.2 (nI i)) := rfl
  rw [eb, o1]
  dsimp only
  by_cases q : wet σ i ∧ ¬ LM σ i i
  · by_cases q2 : k_hasLakeCell (k_gatherLake_s z.2 (nI i)) (k_gatherLake z.2 (nI i)) = 0
    · rw [if_pos q2]; exact Or.inl rfl
    · rw [if_neg q2]; exact Or.inr ⟨q, rfl⟩
  · obtain ⟨e1, e2⟩ := lake_no hi hS q
    have eh : k_hasLakeCell z.2 (nI 0) = nI 0 := by
      unfold k_hasLakeCell
      rw [nI_clamp (by decide)]
      rfl
    rw [e1, e2, eh, if_pos n0_eq]
    exact Or.inl rfl
theorem ls_sum {σ μ : Sg} (h : Rel σ μ) (n : Nat) (hn : n ≤ 25) : ∃ r : Nat → Int, (∀ i, 0 ≤ r i ∧ r i ≤ 1) ∧ (∀ i, r i = 1 → wet σ i ∧ ¬ LM σ i i) ∧ (lp k_lakes_b8 n (nI 0, k_forgetGathered_s σ)).1.toInt = isum r n := by
  induction n with
  | zero => exact ⟨fun _ => 0, fun _ => ⟨Int.le_refl 0, by show (0 : Int) ≤ 1; omega⟩, fun i q => absurd q (by show ¬ (0 : Int) = 1; omega), k_0⟩
  | succ n ih =>
    obtain ⟨r, r1, r2, r3⟩ := ih (by omega)
    have hS := (lakes_key h n (by omega)).2
    have e : lp k_lakes_b8 (n + 1) (nI 0, k_forgetGathered_s σ) = k_lakes_b8 n (lp k_lakes_b8 n (nI 0, k_forgetGathered_s σ)) := rfl
    rw [e]
    generalize lp k_lakes_b8 n (nI 0, k_forgetGathered_s σ) = z at r3 hS ⊢
    have hb : 0 ≤ isum r n ∧ isum r n ≤ n := by
      have q1 := isum_le (f := fun _ => 0) (g := r) (n := n) (fun c _ => (r1 c).1)
      have q2 := isum_le (f := r) (g := fun _ => 1) (n := n) (fun c _ => (r1 c).2)
      rw [isum_c] at q1 q2
      omega
    rcases ls_step h (by omega) hS with q | ⟨q1, q2⟩
    · refine ⟨fun i => if i = n then 0 else r i, fun i => ?_, fun i hi => ?_, ?_⟩
      · show 0 ≤ (if i = n then 0 else r i) ∧ (if i = n then 0 else r i) ≤ 1
        split
        · decide
        · exact r1 i
      · by_cases e : i = n
        · have hi' : (if i = n then (0 : Int) else r i) = 1 := hi
          rw [if_pos e] at hi'
          exact absurd hi' (by decide)
        · have hi' : (if i = n then (0 : Int) else r i) = 1 := hi
          rw [if_neg e] at hi'
          exact r2 i hi'
      · rw [q, r3]
        show isum r n = isum (fun i => if i = n then 0 else r i) n + (if n = n then 0 else r n)
        rw [if_pos rfl, isum_cg (f := fun i => if i = n then 0 else r i) (g := r) (fun c hc => if_neg (by omega))]
        omega
    · refine ⟨fun i => if i = n then 1 else r i, fun i => ?_, fun i hi => ?_, ?_⟩
      · show 0 ≤ (if i = n then 1 else r i) ∧ (if i = n then 1 else r i) ≤ 1
        split
        · decide
        · exact r1 i
      · by_cases e : i = n
        · rw [e]
          exact q1
        · have hi' : (if i = n then (1 : Int) else r i) = 1 := hi
          rw [if_neg e] at hi'
          exact r2 i hi'
      · rw [q2, i_add (by rw [k_1]; omega) (by rw [k_1]; omega), k_1, r3]
        show isum r n + 1 = isum (fun i => if i = n then 1 else r i) n + (if n = n then 1 else r n)
        rw [if_pos rfl, isum_cg (f := fun i => if i = n then 1 else r i) (g := r) (fun c hc => if_neg (by omega))]
theorem nx_tab : ∀ p, p < 12 → ∃ s, s < 4 ∧ ¬ m_beside (nI ([0, 2, 5, 7, 10, 12, 15, 17, 20, 22, 4, 14].getD p 0)) (nI s) = -1 ∧ (m_beside (nI ([0, 2, 5, 7, 10, 12, 15, 17, 20, 22, 4, 14].getD p 0)) (nI s)).toNatClampNeg = [1, 3, 6, 8, 11, 13, 16, 18, 21, 23, 9, 19].getD p 0 := by decide +kernel
theorem lakes_b {σ : Sg} (h : IV σ) : (0 ≤ (k_lakes σ).toInt ∧ (k_lakes σ).toInt ≤ 13) ∧ VS σ (k_lakes_s σ) := by
  obtain ⟨μ, hR⟩ := h.1
  have hS := (lakes_key hR 25 (Nat.le_refl _)).2
  obtain ⟨r, r1, r2, r3⟩ := ls_sum hR 25 (Nat.le_refl _)
  rw [← k_lakes_s_eq σ 25 rfl] at hS
  rw [← k_lakes_eq σ 25 rfl] at r3
  refine ⟨?_, hS.1⟩
  have pr : ∀ a b, a < b → b < 25 → nxt a b → r a + r b ≤ 1 := fun a b hab hb hn => by
    have qa := r1 a
    have qb := r1 b
    by_cases ea : r a = 1
    · by_cases eb : r b = 1
      · exact absurd ⟨a, hab, (r2 a ea).1, Rch.rf.on (by omega) hn (r2 b eb).1⟩ (r2 b eb).2
      · omega
    · omega
  have p0 := pr 0 1 (by decide) (by decide) (nxt_d (nx_tab 0 (by decide)))
  have p1 := pr 2 3 (by decide) (by decide) (nxt_d (nx_tab 1 (by decide)))
  have p2 := pr 5 6 (by decide) (by decide) (nxt_d (nx_tab 2 (by decide)))
  have p3 := pr 7 8 (by decide) (by decide) (nxt_d (nx_tab 3 (by decide)))
  have p4 := pr 10 11 (by decide) (by decide) (nxt_d (nx_tab 4 (by decide)))
  have p5 := pr 12 13 (by decide) (by decide) (nxt_d (nx_tab 5 (by decide)))
  have p6 := pr 15 16 (by decide) (by decide) (nxt_d (nx_tab 6 (by decide)))
  have p7 := pr 17 18 (by decide) (by decide) (nxt_d (nx_tab 7 (by decide)))
  have p8 := pr 20 21 (by decide) (by decide) (nxt_d (nx_tab 8 (by decide)))
  have p9 := pr 22 23 (by decide) (by decide) (nxt_d (nx_tab 9 (by decide)))
  have p10 := pr 4 9 (by decide) (by decide) (nxt_d (nx_tab 10 (by decide)))
  have p11 := pr 14 19 (by decide) (by decide) (nxt_d (nx_tab 11 (by decide)))
  have p12 := r1 24
  have es : isum r 25 = 0 + r 0 + r 1 + r 2 + r 3 + r 4 + r 5 + r 6 + r 7 + r 8 + r 9 + r 10 + r 11 + r 12 + r 13 + r 14 + r 15 + r 16 + r 17 + r 18 + r 19 + r 20 + r 21 + r 22 + r 23 + r 24 := rfl
  have s0 := isum_le (f := fun _ => 0) (g := r) (n := 25) (fun c _ => (r1 c).1)
  rw [isum_c] at s0
  rw [r3]
  omega
