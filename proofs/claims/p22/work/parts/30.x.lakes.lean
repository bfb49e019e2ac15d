/-! lakes in step -/
theorem er_01 {f : Nat → Int32} (hf : ∀ i, f i = nI 0 ∨ f i = nI 1) (n : Nat) : (er f n = nI 1 ∧ ∃ i, i < n ∧ f i = nI 1) ∨ (er f n = nI 0 ∧ ∀ i, i < n → f i = nI 0) := by
  induction n with
  | zero => exact Or.inr ⟨rfl, fun i hi => absurd hi (Nat.not_lt_zero _)⟩
  | succ n ih =>
    have e : er f (n + 1) = if er f n = nI 0 then f n else er f n := rfl
    rw [e]
    have d : ¬ nI 1 = nI 0 := by decide
    rcases ih with ⟨h1, i, h2, h3⟩ | ⟨h1, h2⟩
    · rw [h1, if_neg d]
      exact Or.inl ⟨rfl, i, by omega, h3⟩
    · rw [h1, if_pos rfl]
      rcases hf n with q | q
      · refine Or.inr ⟨q, fun i hi => ?_⟩
        by_cases z : i = n
        · rw [z]; exact q
        · exact h2 i (by omega)
      · exact Or.inl ⟨q, n, by omega, q⟩
theorem lk_b (ν : Sg) (i m : Nat) : (lp (m_lakes_b24 ν i) m (nI 0) = nI 1 ∧ ∃ c, c < m ∧ ν.1 7 c = nI i ∧ ¬ m_isLake ν (nI c) = 0) ∨ (lp (m_lakes_b24 ν i) m (nI 0) = nI 0 ∧ ∀ c, c < m → ν.1 7 c = nI i → m_isLake ν (nI c) = 0) := by
  induction m with
  | zero => exact Or.inr ⟨rfl, fun i hi => absurd hi (Nat.not_lt_zero _)⟩
  | succ m ih =>
    have e : lp (m_lakes_b24 ν i) (m + 1) (nI 0) = m_lakes_b24 ν i m (lp (m_lakes_b24 ν i) m (nI 0)) := rfl
    rw [e]
    generalize lp (m_lakes_b24 ν i) m (nI 0) = z at ih ⊢
    unfold m_lakes_b24 m_lakes_j60
    rcases ih with ⟨h1, c, h2, h3⟩ | ⟨h1, h2⟩
    · rw [h1, if_neg n1_ne]
      exact Or.inl ⟨rfl, c, by omega, h3⟩
    · rw [h1, if_pos n0_eq]
      by_cases q : ν.1 7 m = nI i
      · rw [if_pos q]
        by_cases y : m_isLake ν (nI m) = 0
        · rw [if_pos y]
          refine Or.inr ⟨rfl, fun c hc hl => ?_⟩
          by_cases x : c = m
          · rw [x]; exact y
          · exact h2 c (by omega) hl
        · rw [if_neg y]
          exact Or.inl ⟨rfl, m, by omega, q, y⟩
      · rw [if_neg q]
        refine Or.inr ⟨rfl, fun c hc hl => ?_⟩
        by_cases x : c = m
        · rw [x] at hl; exact absurd hl q
        · exact h2 c (by omega) hl
def LM (σ : Sg) (i c : Nat) : Prop := ∃ j, j < i ∧ wet σ j ∧ Rch σ j c
theorem SR_M {σ : Sg} {M M' : Nat → Prop} {c0 n : Nat} {τ : Sg} (c1 : Nat) (h : SR σ M c0 n τ) (hM : ∀ c, c < 25 → (M' c ↔ M c ∨ ∃ i, i < n ∧ τ.1 32 i = nI c)) : SR σ M' c1 0 τ := by
  refine ⟨h.1, fun i hi => absurd hi (Nat.not_lt_zero _), fun i j hi => absurd hi (Nat.not_lt_zero _), fun c hc => (h.2.2.2.1 c hc).trans ⟨fun q => Or.inl ((hM c hc).mpr q), fun q => (hM c hc).mp (q.resolve_right (fun ⟨i, hi, _⟩ => absurd hi (Nat.not_lt_zero _)))⟩, ?_⟩
  have q := h.2.2.2.2
  omega
theorem lab_root {μ : Sg} {i c : Nat} (hi : i < 25) (hc : c < 25) : (m_gather_s μ).1 7 c = nI i ↔ wet μ i ∧ ¬ LM μ i i ∧ Rch μ i c := by
  constructor
  · intro e
    rcases (GI_s μ).1.2 c hc with ⟨u1, u2⟩ | ⟨u1, r, u2, u3, u4, u5⟩
    · exact absurd (e.symm.trans u2) (nI_m1 (by omega))
    · have er : r = i := by
        have q := congrArg Int32.toNatClampNeg (u3.symm.trans e)
        rw [nI_clamp (by omega), nI_clamp (by omega)] at q
        exact q
      subst er
      exact ⟨u4, (lab_least hi u4).mp (((lab_iff hi hc u4 u1).mpr u5).trans e), u5⟩
  · intro ⟨w, n, r⟩
    exact ((lab_iff hi hc w (r.wt w)).mpr r).symm.trans ((lab_least hi w).mpr n)
theorem LM.cg {σ μ : Sg} {i c : Nat} (hi : i ≤ 25) (hw : ∀ c, c < 25 → (wet σ c ↔ wet μ c)) (h : LM σ i c) : LM μ i c := by
  obtain ⟨j, hj, w, r⟩ := h
  exact ⟨j, hj, (hw j (by omega)).mp w, r.cg hw⟩
theorem lakes_step {σ μ : Sg} (h : Rel σ μ) {i : Nat} (hi : i < 25) {z : Int32 × Sg} {ζ : Int32} (e : z.1 = ζ) (hS : SR σ (LM σ i) i 0 z.2) : (k_lakes_b8 i z).1 = m_lakes_b13 (m_gather_s μ) i ζ ∧ SR σ (LM σ (i + 1)) (i + 1) 0 (k_lakes_b8 i z).2 := by
  have hlab := fun c (hc : c < 25) => lab_root (μ := μ) hi hc
  have hG3 : (m_gather_s μ).1 3 = μ.1 3 := (GI_s μ).1.1.1 3 (by decide)
  generalize m_gather_s μ = ν at hlab hG3 ⊢
  have hlk : ∀ (τ : Sg) (c : Nat), c < 25 → τ.1 3 = σ.1 3 → c_isLake τ c = m_isLake ν (nI c) := fun τ c hc q => by
    have q1 : c_isLake τ c = c_isLake σ c := by unfold c_isLake c_isLake_j13; rw [q]
    have q2 : m_isLake ν (nI c) = m_isLake μ (nI c) := by unfold m_isLake m_isLake_j15; rw [hG3]
    rw [q1, q2]
    exact h.1.lake hc
  have hws : ∀ c, c < 25 → (wet μ c ↔ wet σ c) := fun c hc => (h.wets c hc).symm
  have d : ¬ nI 0 = nI 1 := by decide
  have o1 : Int32.ofInt 1 = nI 1 := by decide
  have eb : k_lakes_b8 i z = (if (k_hasLakeCell (k_gatherLake_s z.2 (nI i)) (k_gatherLake z.2 (nI i))) = 0 then z.1 else z.1 + Int32.ofInt 1, k_gatherLake_s z.2 (nI i)) := rfl
  have em : m_lakes_b13 ν i ζ = ζ + (if lp (m_lakes_b24 ν i) 25 (nI 0) = 0 then nI 0 else nI 1) := rfl
  rw [eb, em]
  dsimp only
  by_cases q : wet σ i ∧ ¬ LM σ i i
  · obtain ⟨n, e1, g1, g2⟩ := lake_yes hi hS q.1 q.2 (fun x y hx hn wx wy ⟨j, hj, wj, r⟩ => ⟨j, hj, wj, r.on (nxt_lt hx hn) (nxt_sym hx hn) wx⟩)
    rw [e1]
    generalize k_gatherLake_s z.2 (nI i) = τ at g1 g2 ⊢
    have hm := SU_0 τ
    have hn5 := g1.2.2.2.2
    have e3 : τ.1 3 = σ.1 3 := g1.1.1 3 (by decide) (by decide)
    have eh : k_hasLakeCell τ (nI n) = er (k_hasLakeCell_b2 τ) n := by
      unfold k_hasLakeCell
      rw [nI_clamp (by omega)]
    rw [eh]
    refine ⟨?_, SR_M (i + 1) g1 (fun c hc => ⟨fun ⟨j, hj, wj, r⟩ => ?_, fun y => ?_⟩)⟩
    · rcases er_01 (f := k_hasLakeCell_b2 τ) (fun i => by unfold k_hasLakeCell_b2; split <;> simp) n with ⟨u1, i', u2, u3⟩ | ⟨u1, u2⟩
      · have u4 : ¬ c_isLake τ (τ.1 32 i').toNatClampNeg = 0 := fun y => by
          unfold k_hasLakeCell_b2 at u3
          rw [if_pos y] at u3
          exact d u3
        rcases lk_b ν i 25 with ⟨v1, -⟩ | ⟨v1, v2⟩
        · rw [u1, v1, if_neg n1_ne, if_neg n1_ne, e, o1]
        · have hl := SR_l g1 u2
          rw [hlk τ _ hl.1 e3] at u4
          have hr := (g2 _ hl.1).mp ⟨i', u2, hl.2⟩
          exact absurd (v2 _ hl.1 ((hlab _ hl.1).mpr ⟨(h.wets i hi).mp q.1, fun y => q.2 (y.cg (by omega) hws), hr.cg h.wets⟩)) u4
      · rcases lk_b ν i 25 with ⟨v1, c, v2, v3, v4⟩ | ⟨v1, v2⟩
        · obtain ⟨-, -, hr⟩ := (hlab c v2).mp v3
          obtain ⟨i', hi', ei'⟩ := (g2 c v2).mpr (hr.cg hws)
          have u3 := u2 i' hi'
          unfold k_hasLakeCell_b2 at u3
          rw [ei', nI_clamp (by omega), hlk τ c v2 e3, if_neg v4] at u3
          exact absurd u3.symm d
        · rw [u1, v1, if_pos n0_eq, if_pos n0_eq, e, n0_eq, Int32.add_zero]
    · by_cases y : j = i
      · subst y
        exact Or.inr ((g2 c hc).mpr r)
      · exact Or.inl ⟨j, by omega, wj, r⟩
    · rcases y with ⟨j, hj, wj, r⟩ | y
      · exact ⟨j, by omega, wj, r⟩
      · exact ⟨i, by omega, q.1, (g2 c hc).mp y⟩
  · obtain ⟨e1, e2⟩ := lake_no hi hS q
    rw [e1, e2]
    have eh : k_hasLakeCell z.2 (nI 0) = nI 0 := by
      unfold k_hasLakeCell
      rw [nI_clamp (by decide)]
      rfl
    rw [eh, if_pos n0_eq]
    refine ⟨?_, SR_M (i + 1) hS (fun c hc => ⟨fun ⟨j, hj, wj, r⟩ => Or.inl ?_, fun y => ?_⟩)⟩
    · rcases lk_b ν i 25 with ⟨v1, c, v2, v3, v4⟩ | ⟨v1, v2⟩
      · obtain ⟨w1, w2, -⟩ := (hlab c v2).mp v3
        exact absurd ⟨(h.wets i hi).mpr w1, fun y => w2 (y.cg (by omega) h.wets)⟩ q
      · rw [v1, if_pos n0_eq, e, n0_eq, Int32.add_zero]
    · by_cases y : j = i
      · subst y
        obtain ⟨j', hj', wj', r'⟩ : LM σ j j := Classical.byContradiction (fun y => q ⟨wj, y⟩)
        exact ⟨j', hj', wj', r'.tr r⟩
      · exact ⟨j, by omega, wj, r⟩
    · rcases y with ⟨j, hj, wj, r⟩ | ⟨i', hi', -⟩
      · exact ⟨j, by omega, wj, r⟩
      · exact absurd hi' (Nat.not_lt_zero _)
theorem lakes_key {σ μ : Sg} (h : Rel σ μ) (n : Nat) (hn : n ≤ 25) : (lp k_lakes_b8 n (nI 0, k_forgetGathered_s σ)).1 = lp (m_lakes_b13 (m_gather_s μ)) n (nI 0) ∧ SR σ (LM σ n) n 0 (lp k_lakes_b8 n (nI 0, k_forgetGathered_s σ)).2 :=
  lp_rel (P := fun i (z : Int32 × Sg) (ζ : Int32) => z.1 = ζ ∧ SR σ (LM σ i) i 0 z.2) (f := k_lakes_b8) (g := m_lakes_b13 (m_gather_s μ)) (x := (nI 0, k_forgetGathered_s σ)) (y := nI 0) (N := 25) ⟨rfl, SR_M 0 (forget_SR σ 0) (fun c hc => ⟨fun ⟨j, hj, _⟩ => absurd hj (Nat.not_lt_zero _), fun y => y.elim False.elim (fun ⟨i, hi, _⟩ => absurd hi (Nat.not_lt_zero _))⟩)⟩ (fun i z ζ hi hz => lakes_step h hi hz.1 hz.2) n hn
theorem kl_xs (σ s1 : Sg) (z : Int32 × Sg) : k_lakes_x8_s σ s1 z = z.2 := rfl
theorem kl_xv (σ s1 : Sg) (z : Int32 × Sg) : k_lakes_x8 σ s1 z = z.1 := rfl
theorem k_lakes_s_eq (σ : Sg) (n : Nat) (hn : n = 25) : k_lakes_s σ = (lp k_lakes_b8 n (nI 0, k_forgetGathered_s σ)).2 := by
  have e : k_lakes_s σ = k_lakes_x8_s σ (k_forgetGathered_s σ) (lp k_lakes_b8 n (nI 0, k_forgetGathered_s σ)) := by
    subst hn
    rfl
  exact e.trans (kl_xs _ _ _)
theorem k_lakes_eq (σ : Sg) (n : Nat) (hn : n = 25) : k_lakes σ = (lp k_lakes_b8 n (nI 0, k_forgetGathered_s σ)).1 := by
  have e : k_lakes σ = k_lakes_x8 σ (k_forgetGathered_s σ) (lp k_lakes_b8 n (nI 0, k_forgetGathered_s σ)) := by
    subst hn
    rfl
  exact e.trans (kl_xv _ _ _)
theorem m_lakes_s_eq (μ : Sg) : m_lakes_s μ = m_gather_s (si μ 0 0 (nI 0)) := by
  unfold m_lakes_s m_lakes_k5_s m_lakes_k9_s m_lakes_x13_s
  exact Eq.refl _
theorem m_lakes_eq (μ : Sg) (n : Nat) (hn : n = 25) : m_lakes μ = lp (m_lakes_b13 (m_gather_s (si μ 0 0 (nI 0)))) n (nI 0) := by
  subst hn
  unfold m_lakes m_lakes_k5 m_lakes_k9 m_lakes_x13
  exact Eq.refl _
theorem lakes_end {σ μ : Sg} (h : Rel σ μ) (n : Nat) (hn : n = 25) : Rel (k_lakes_s σ) (m_lakes_s μ) ∧ k_lakes σ = m_lakes μ := by
  have h0 := Rel_0 (nI 0) h
  have key := lakes_key h0 n (by omega)
  rw [k_lakes_s_eq σ n hn, k_lakes_eq σ n hn, m_lakes_s_eq, m_lakes_eq μ n hn]
  exact ⟨Rel_lake h0 key.2.1 (GI_s _).1.1, key.1⟩
theorem q_lakes : lp_lakes Rel := fun σ μ h => lakes_end h 25 rfl
