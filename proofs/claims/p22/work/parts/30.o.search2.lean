/-! the class's search: all of one lake -/
theorem SR_side {σ : Sg} {M : Nat → Prop} {c0 n i c : Nat} {τ : Sg} (hc : c < 25) (h : SR σ M c0 n τ) (hi : i < n) (e : τ.1 32 i = nI c) : ∀ s, s ≤ 4 → ∃ n' τ', lp (k_gatherLake_b26 i) s (nI n, τ) = (nI n', τ') ∧ (SR σ M c0 n' τ' ∧ EX n τ n' τ') ∧ ∀ s', s' < s → ¬ m_beside (nI c) (nI s') = -1 → wet σ (m_beside (nI c) (nI s')).toNatClampNeg → ¬ τ'.1 33 (m_beside (nI c) (nI s')).toNatClampNeg = 0 := fun s => by
  induction s with
  | zero => exact fun _ => ⟨n, τ, rfl, ⟨h, EX.rf⟩, fun s' hs' => absurd hs' (Nat.not_lt_zero _)⟩
  | succ s ih =>
    intro hs
    obtain ⟨m, ρ, e1, ⟨g1, g2⟩, g3⟩ := ih (by omega)
    have el : ρ.1 32 i = nI c := (g2.2.1 i hi).trans e
    have eb : lp (k_gatherLake_b26 i) (s + 1) (nI n, τ) = (k_gatherCell ρ (m_beside (nI c) (nI s)) (nI m), k_gatherCell_s ρ (m_beside (nI c) (nI s)) (nI m)) := by
      show k_gatherLake_b26 i s (lp (k_gatherLake_b26 i) s (nI n, τ)) = _
      rw [e1]
      unfold k_gatherLake_b26 k_gatherLake_k55
      dsimp only
      rw [el, side_eq c hc s (by omega)]
    rw [eb]
    by_cases q : m_beside (nI c) (nI s) = -1
    · have ev : k_gatherCell ρ (-1) (nI m) = nI m := by unfold k_gatherCell; rw [if_pos rfl]
      have es : k_gatherCell_s ρ (-1) (nI m) = ρ := by unfold k_gatherCell_s; rw [if_pos rfl]
      refine ⟨m, ρ, by rw [q, ev, es], ⟨g1, g2⟩, fun s' hs' w1 w2 => ?_⟩
      by_cases es' : s' = s
      · subst es'; exact absurd q w1
      · exact g3 s' (by omega) w1 w2
    · have hv := m_beside_tab c hc s (by omega) q
      have hy := vp_lt hv
      have hn : nxt c (m_beside (nI c) (nI s)).toNatClampNeg := ⟨s, by omega, q, rfl⟩
      obtain ⟨c', c1, c2, c3, c4, c5⟩ := g1.2.1 i (Nat.lt_of_lt_of_le hi g2.1)
      have ec : c' = c := by
        have z := congrArg Int32.toNatClampNeg (c2.symm.trans el)
        rw [nI_clamp (by omega), nI_clamp (by omega)] at z
        exact z
      subst ec
      obtain ⟨n', f1, ⟨f2, f3⟩, f4⟩ := SR_cell hy g1 (fun w => c4.on c1 hn w)
      rw [← vp_self hv] at f1 f2 f3 f4
      refine ⟨n', _, by rw [f1], ⟨f2, g2.tr f3⟩, fun s' hs' w1 w2 => ?_⟩
      by_cases es' : s' = s
      · subst es'; exact f4 w2
      · exact f3.2.2 _ (g3 s' (by omega) w1 w2)
def SD (σ : Sg) (i n : Nat) (τ : Sg) : Prop := ∀ i', i' < i → i' < n → ∀ c, c < 25 → τ.1 32 i' = nI c → ∀ y, nxt c y → wet σ y → ¬ τ.1 33 y = 0
theorem SR_all {σ : Sg} {M : Nat → Prop} {c0 n : Nat} {τ : Sg} (h : SR σ M c0 n τ) : ∀ i, i ≤ 25 → ∃ n' τ', lp k_gatherLake_b9 i (nI n, τ) = (nI n', τ') ∧ (SR σ M c0 n' τ' ∧ EX n τ n' τ') ∧ SD σ i n' τ' := fun i => by
  induction i with
  | zero => exact fun _ => ⟨n, τ, rfl, ⟨h, EX.rf⟩, fun i' hi' => absurd hi' (Nat.not_lt_zero _)⟩
  | succ i ih =>
    intro hi
    obtain ⟨m, ρ, e1, ⟨g1, g2⟩, g3⟩ := ih (by omega)
    have hm := g1.2.2.2.2
    have hu := SU_0 ρ
    have eb : lp k_gatherLake_b9 (i + 1) (nI n, τ) = k_gatherLake_b9 i (nI m, ρ) := by
      show k_gatherLake_b9 i (lp k_gatherLake_b9 i (nI n, τ)) = _
      rw [e1]
    rw [eb]
    unfold k_gatherLake_b9 k_gatherLake_x26
    dsimp only
    by_cases q : nI m ≤ nI i
    · rw [if_pos q]
      have q2 := (nI_leI (by omega) (by omega)).mp q
      exact ⟨m, ρ, rfl, ⟨g1, g2⟩, fun i' h1 h2 => g3 i' (by omega) h2⟩
    · rw [if_neg q]
      have q2 : i < m := by
        refine Decidable.byContradiction (fun z => q ((nI_leI (by omega) (by omega)).mpr (by omega)))
      obtain ⟨c, c1, c2, c3, c4, c5⟩ := g1.2.1 i q2
      obtain ⟨n', τ', f1, ⟨f2, f3⟩, f4⟩ := SR_side c1 g1 q2 c2 4 (Nat.le_refl _)
      rw [f1]
      refine ⟨n', τ', rfl, ⟨f2, g2.tr f3⟩, fun i' h1 h2 x hx ex y hn w => ?_⟩
      by_cases e : i' = i
      · subst e
        have e3 := (f3.2.1 i' q2).symm.trans ex
        have z := congrArg Int32.toNatClampNeg (c2.symm.trans e3)
        rw [nI_clamp (by omega), nI_clamp (by omega)] at z
        subst z
        obtain ⟨s, s1, s2, s3⟩ := hn
        subst s3
        exact f4 s s1 s2 w
      · have e3 := (f3.2.1 i' (by omega)).symm.trans ex
        exact f3.2.2 _ (g3 i' (by omega) (by omega) x hx e3 y hn w)
theorem lake_0 {τ : Sg} {i : Nat} (hi : i ≤ 25) : lp k_gatherLake_b9 i (nI 0, τ) = (nI 0, τ) := by
  induction i with
  | zero => rfl
  | succ i ih =>
    show k_gatherLake_b9 i (lp k_gatherLake_b9 i (nI 0, τ)) = _
    rw [ih (by omega)]
    unfold k_gatherLake_b9
    rw [if_pos ((nI_leI (by omega) (by omega)).mpr (Nat.zero_le _))]
/-- a dry cell, or one of a lake that was gathered before: nothing -/
theorem lake_no {σ : Sg} {M : Nat → Prop} {c0 : Nat} {τ : Sg} (hc : c0 < 25) (h : SR σ M c0 0 τ) (hn : ¬ (wet σ c0 ∧ ¬ M c0)) : k_gatherLake τ (nI c0) = nI 0 ∧ k_gatherLake_s τ (nI c0) = τ := by
  have hw : τ.1 3 c0 = σ.1 3 c0 := by rw [h.1.1 3 (by decide) (by decide)]
  have e : k_gatherCell τ (nI c0) (nI 0) = nI 0 ∧ k_gatherCell_s τ (nI c0) (nI 0) = τ := by
    unfold k_gatherCell k_gatherCell_s
    rw [if_neg (nI_m1 (by omega)), if_neg (nI_m1 (by omega)), nI_clamp (by omega), hw]
    by_cases q1 : σ.1 3 c0 ≤ 0
    · rw [if_pos q1, if_pos q1]; exact ⟨rfl, rfl⟩
    · rw [if_neg q1, if_neg q1]
      have q2 : ¬ τ.1 33 c0 = 0 := (h.2.2.2.1 c0 hc).mpr (Or.inl (Classical.byContradiction (fun z => hn ⟨q1, z⟩)))
      rw [if_neg q2, if_neg q2]
      exact ⟨rfl, rfl⟩
  unfold k_gatherLake k_gatherLake_s k_gatherLake_k6 k_gatherLake_k6_s k_gatherLake_x9 k_gatherLake_x9_s
  rw [e.1, e.2, lake_0 (Nat.le_refl _)]
  exact ⟨rfl, rfl⟩
theorem lake_yes {σ : Sg} {M : Nat → Prop} {c0 : Nat} {τ : Sg} (hc : c0 < 25) (h : SR σ M c0 0 τ) (w0 : wet σ c0) (m0 : ¬ M c0) (hM : ∀ x y, x < 25 → nxt x y → wet σ x → wet σ y → M y → M x) : ∃ n, k_gatherLake τ (nI c0) = nI n ∧ SR σ M c0 n (k_gatherLake_s τ (nI c0)) ∧ ∀ c, c < 25 → ((∃ i, i < n ∧ (k_gatherLake_s τ (nI c0)).1 32 i = nI c) ↔ Rch σ c0 c) := by
  obtain ⟨n1, e1, ⟨g1, g2⟩, g3⟩ := SR_cell hc h (fun _ => Rch.rf)
  obtain ⟨n, ρ, e2, ⟨f1, f2⟩, f3⟩ := SR_all g1 25 (Nat.le_refl _)
  have ev : k_gatherLake τ (nI c0) = nI n := by
    unfold k_gatherLake k_gatherLake_k6 k_gatherLake_x9
    rw [e1, e2]
  have es : k_gatherLake_s τ (nI c0) = ρ := by
    unfold k_gatherLake_s k_gatherLake_k6_s k_gatherLake_x9_s
    rw [e1, e2]
  rw [ev, es]
  have hm := f1.2.2.2.2
  have hu := SU_0 ρ
  have uni : ∀ i, i < n → ∀ x, x < 25 → ρ.1 32 i = nI x → wet σ x ∧ Rch σ c0 x ∧ ¬ M x := fun i hi x hx ex => by
    obtain ⟨c, c1, c2, c3, c4, c5⟩ := f1.2.1 i hi
    have z := congrArg Int32.toNatClampNeg (c2.symm.trans ex)
    rw [nI_clamp (by omega), nI_clamp (by omega)] at z
    subst z
    exact ⟨c3, c4, c5⟩
  refine ⟨n, rfl, f1, fun c hc2 => ⟨fun ⟨i, hi, ex⟩ => (uni i hi c hc2 ex).2.1, fun r => ?_⟩⟩
  have start : ∃ i, i < n ∧ ρ.1 32 i = nI c0 := ((f1.2.2.2.1 c0 hc).mp (f2.2.2 c0 (g3 w0))).resolve_left m0
  refine r (fun x => ∃ i, i < n ∧ ρ.1 32 i = nI x) start (fun x y hx ⟨i, hi, ex⟩ hn wy => ?_)
  obtain ⟨u1, u2, u3⟩ := uni i hi x hx ex
  exact ((f1.2.2.2.1 y (nxt_lt hx hn)).mp (f3 i (by omega) hi x hx ex y hn wy)).resolve_left (fun z => u3 (hM x y hx hn u1 wy z))
