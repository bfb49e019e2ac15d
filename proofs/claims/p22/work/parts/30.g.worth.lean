/-! readings, and what a claim is worth -/
theorem er_congr {f g : Nat → Int32} (n : Nat) (h : ∀ i, i < n → f i = g i) : er f n = er g n := by
  induction n with
  | zero => rfl
  | succ n ih =>
    show (if er f n = nI 0 then f n else er f n) = (if er g n = nI 0 then g n else er g n)
    rw [ih (fun i hi => h i (by omega)), h n (by omega)]
theorem lp_congr {α : Type} {f g : Nat → α → α} {x : α} (n : Nat) (h : ∀ i z, i < n → f i z = g i z) : lp f n x = lp g n x := by
  induction n with
  | zero => rfl
  | succ n ih =>
    show f n (lp f n x) = g n (lp g n x)
    rw [ih (fun i z hi => h i z (by omega)), h n _ (by omega)]
theorem amt_congr {τ σ : Sg} {h : Nat} {t u : Int32} (h18 : τ.1 18 h = σ.1 18 h) (hw : ∀ m, m < u.toNatClampNeg → k_wasReadThawed τ h (nI m) = k_wasReadThawed σ h (nI m)) : k_claimAmount τ h t u = k_claimAmount σ h t u := by
  unfold k_claimAmount k_monthsReadThawed k_monthsReadThawed_x8
  rw [h18]
  congr 2
  refine lp_congr _ (fun i z hi => ?_)
  unfold k_monthsReadThawed_b8 k_monthsReadThawed_j27
  rw [h18, hw _ (by omega)]
/-- what is known of a borehole -/
def RB (σ : Sg) (b : Nat) : Prop := vp_in (σ.1 22 b) 601 ∧ (σ.1 22 b).toNatClampNeg ≤ mon σ ∧ σ.1 35 b = nI (mon σ - (σ.1 22 b).toNatClampNeg)
theorem has_eq {σ : Sg} {b m : Nat} (hb : RB σ b) (hm : vp_in (σ.1 1 0) 601) (hm2 : m < mon σ) : h_hasRead σ b (nI m) = if m < (σ.1 22 b).toNatClampNeg then nI 0 else nI 1 := by
  obtain ⟨h1, h2, h3⟩ := hb
  have l1 := vp_lt hm
  have e1 : (σ.1 1 0).toNatClampNeg = mon σ := rfl
  have s1 := vp_self h1
  unfold h_hasRead h_hasRead_j26
  rw [h3]
  generalize (σ.1 22 b).toNatClampNeg = s at s1 h2 ⊢
  rw [s1, nI_add]
  by_cases q : m < s
  · rw [if_pos ((nI_ltI (by omega) (by omega)).mpr q), if_pos q]
  · rw [if_neg (fun z => q ((nI_ltI (by omega) (by omega)).mp z)), if_neg q, if_neg (fun z => by have := (nI_leI (by omega) (by omega)).mp z; omega)]
theorem at_eq {σ : Sg} {b m : Nat} {l : Int32} (hb : RB σ b) (hm : vp_in (σ.1 1 0) 601) (hs : (σ.1 22 b).toNatClampNeg ≤ m) (hm2 : m < mon σ) (hl : vp_in l 5) : h_readingAt σ b (nI m) l = σ.1 (40 + b) (5 * (m - (σ.1 22 b).toNatClampNeg) + l.toNatClampNeg) := by
  obtain ⟨h1, h2, h3⟩ := hb
  have l1 := vp_lt hm
  have e1 : (σ.1 1 0).toNatClampNeg = mon σ := rfl
  have s1 := vp_self h1
  have s2 := vp_self hl
  have l2 := vp_lt hl
  unfold h_readingAt h_readingAt_j34
  generalize (σ.1 22 b).toNatClampNeg = s at s1 h2 hs ⊢
  generalize l.toNatClampNeg = y at s2 l2 ⊢
  subst s2
  rw [s1, pk_sub hs, pk_mul, nI_add, Nat.mul_comm (m - s) 5]
  rw [if_neg (by rw [i_lt, nI_toInt (by omega)]; show ¬ ((5 * (m - s) + y : Nat) : Int) < 0; omega), if_neg (fun z => by have := (nI_leI (by omega) (by omega)).mp z; omega), nI_clamp (by omega)]
theorem Rel.rb {σ μ : Sg} (h : Rel σ μ) {b : Nat} (hb : b < cpN σ 1) : RB σ b := (h.2.2.2.2.1 b hb).1
theorem Rel.mo {σ μ : Sg} (h : Rel σ μ) : vp_in (σ.1 1 0) 601 := (Rel_c h).2.2.2.1
theorem idxr {b m : Nat} {l : Int32} (hb : b < 10) (hm : m < 600) (hl : vp_in l 5) : (nI (3000 * b + 5 * m) + l).toNatClampNeg = 3000 * b + 5 * m + l.toNatClampNeg := by
  have s2 := vp_self hl
  have l2 := vp_lt hl
  generalize l.toNatClampNeg = y at s2 l2 ⊢
  subst s2
  rw [nI_add, nI_clamp (by omega)]
/-- a house's months, as both sides count them -/
theorem z01 {A B : Prop} [Decidable A] [Decidable B] : (if A then nI 0 else (if B then nI 0 else nI 1)) = nI 0 ∨ (if A then nI 0 else (if B then nI 0 else nI 1)) = nI 1 := by
  by_cases a : A
  · rw [if_pos a]; exact Or.inl rfl
  · rw [if_neg a]
    by_cases b : B
    · rw [if_pos b]; exact Or.inl rfl
    · rw [if_neg b]; exact Or.inr rfl
theorem was_eq {σ μ : Sg} (h : Rel σ μ) {x i : Nat} (hx : x < cpN σ 0) (hm : (σ.1 18 x).toNatClampNeg + i < mon σ) (n : Nat) (hn : n ≤ cpN σ 1) : lp (m_worth_b23 μ (nI x) i) n (nI 0) = er (k_wasReadThawed_b2 σ x (nI ((σ.1 18 x).toNatClampNeg + i))) n ∧ (er (k_wasReadThawed_b2 σ x (nI ((σ.1 18 x).toNatClampNeg + i))) n = nI 0 ∨ er (k_wasReadThawed_b2 σ x (nI ((σ.1 18 x).toNatClampNeg + i))) n = nI 1) := by
  have hO := Rel_c h
  have l13 := vp_lt hO.1
  have l19 := vp_lt hO.2.1
  have lm := vp_lt h.mo
  have em : (σ.1 1 0).toNatClampNeg = mon σ := rfl
  have e13 : (σ.1 13 0).toNatClampNeg = cpN σ 0 := rfl
  have e19 : (σ.1 19 0).toNatClampNeg = cpN σ 1 := rfl
  have ex : (nI x).toNatClampNeg = x := nI_clamp (by omega)
  have h14 := h.1.hou (k := 14) (by omega) hx
  have h15 := h.1.hou (k := 15) (by omega) hx
  have h18 := h.1.hou (k := 18) (by omega) hx
  have hp := (hO.2.2.2.2.1 x hx).2.1
  have hs := vp_self hp
  have hl := vp_lt hp
  generalize hM : (σ.1 18 x).toNatClampNeg + i = M at hm ⊢
  induction n with
  | zero => exact ⟨rfl, Or.inl rfl⟩
  | succ n ih =>
    obtain ⟨i1, i2⟩ := ih (by omega)
    have hb := h.rb (b := n) (by omega)
    have h20 := h.1.hol (k := 20) (j := n) (by omega) (by omega)
    have h22 := h.1.hol (k := 22) (j := n) (by omega) (by omega)
    have hf : k_wasReadThawed_b2 σ x (nI M) n = if (if μ.1 20 n = μ.1 14 x then (if nI M < μ.1 22 n then nI 0 else nI 1) else nI 0) = 0 then nI 0 else (if μ.1 23 ((nI (3000 * n + 5 * M) + μ.1 15 x).toNatClampNeg) < 0 then nI 0 else nI 1) := by
      unfold k_wasReadThawed_b2
      rw [has_eq hb h.mo hm, h20, h14, ← h15]
      by_cases q : μ.1 20 n = μ.1 14 x
      · rw [if_pos q, if_pos q]
        have s1 := vp_self hb.1
        by_cases q2 : M < (σ.1 22 n).toNatClampNeg
        · rw [if_pos q2, if_pos n0_eq]
          have q3 : nI M < μ.1 22 n := by rw [← h22, s1]; exact (nI_ltI (by omega) (by have := vp_lt hb.1; omega)).mpr q2
          rw [if_pos q3, if_pos n0_eq]
        · rw [if_neg q2, if_neg n1_ne]
          have q3 : ¬ nI M < μ.1 22 n := by rw [← h22, s1]; exact fun z => q2 ((nI_ltI (by omega) (by have := vp_lt hb.1; omega)).mp z)
          rw [if_neg q3, if_neg n1_ne]
          rw [at_eq hb h.mo (by omega) hm hp, idxr (by omega) (by omega) hp, (h.2.2.2.2.1 n (by omega)).2 M _ (by omega) hm hl]
      · rw [if_neg q, if_neg q, if_pos n0_eq]
    have hstep : lp (m_worth_b23 μ (nI x) i) (n + 1) (nI 0) = if er (k_wasReadThawed_b2 σ x (nI M)) n = 0 then k_wasReadThawed_b2 σ x (nI M) n else nI 1 := by
      show m_worth_b23 μ (nI x) i n (lp (m_worth_b23 μ (nI x) i) n (nI 0)) = _
      rw [i1, hf]
      unfold m_worth_b23 m_worth_j64 m_worth_j106
      rw [ex, ← h18, hM]
    rw [hstep]
    show (_ = (if er (k_wasReadThawed_b2 σ x (nI M)) n = nI 0 then k_wasReadThawed_b2 σ x (nI M) n else er (k_wasReadThawed_b2 σ x (nI M)) n)) ∧ ((if er (k_wasReadThawed_b2 σ x (nI M)) n = nI 0 then k_wasReadThawed_b2 σ x (nI M) n else er (k_wasReadThawed_b2 σ x (nI M)) n) = nI 0 ∨ (if er (k_wasReadThawed_b2 σ x (nI M)) n = nI 0 then k_wasReadThawed_b2 σ x (nI M) n else er (k_wasReadThawed_b2 σ x (nI M)) n) = nI 1)
    rcases i2 with i2 | i2
    · rw [i2, if_pos rfl, if_pos n0_eq]
      refine ⟨rfl, ?_⟩
      rw [hf]
      exact z01
    · rw [i2, if_neg (show ¬ nI 1 = nI 0 by decide), if_neg n1_ne]
      exact ⟨rfl, Or.inr rfl⟩
theorem worth_eq {σ μ : Sg} (h : Rel σ μ) {x : Nat} (hx : x < cpN σ 0) : k_claimAmount σ x (σ.1 17 x) (σ.1 1 0) = m_worth μ (nI x) := by
  have hO := Rel_c h
  have l13 := vp_lt hO.1
  have e13 : (σ.1 13 0).toNatClampNeg = cpN σ 0 := rfl
  have ex : (nI x).toNatClampNeg = x := nI_clamp (by omega)
  have h17 := h.1.hou (k := 17) (by omega) hx
  have h18 := h.1.hou (k := 18) (by omega) hx
  have e1 := h.1.cnt (k := 1) (by omega)
  have e19 := h.1.cnt (k := 19) (by omega)
  unfold k_claimAmount k_monthsReadThawed k_monthsReadThawed_x8 m_worth m_worth_x9
  rw [ex, min_1, h17, h18, e1]
  congr 2
  refine lp_congr _ (fun i z hi => ?_)
  have hm : (σ.1 18 x).toNatClampNeg + i < mon σ := by
    have q : mon σ = (μ.1 1 0).toNatClampNeg := congrArg Int32.toNatClampNeg e1
    rw [h18]
    omega
  have hw := was_eq h hx hm (cpN σ 1) (Nat.le_refl _)
  unfold k_monthsReadThawed_b8 k_monthsReadThawed_j27 k_wasReadThawed m_worth_b9 m_worth_x23 m_worth_j125
  have en : (μ.1 19 0).toNatClampNeg = cpN σ 1 := by rw [← e19]; rfl
  have es : (σ.1 19 0).toNatClampNeg = cpN σ 1 := rfl
  rw [en, es, hw.1]
  have hz : z + nI 0 = z := by rw [n0_eq, Int32.add_zero]
  rcases hw.2 with q | q
  · rw [q, if_pos n0_eq, if_pos n0_eq, hz]
  · rw [q, if_neg n1_ne, if_neg n1_ne]
    rfl
