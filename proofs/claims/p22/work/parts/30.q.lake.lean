/-! one lake on both sides -/
theorem Rel_lake {σ μ τ ν : Sg} (h : Rel σ μ) (F : (∀ k, k ≠ 32 → k ≠ 33 → τ.1 k = σ.1 k) ∧ τ.2 = σ.2) (G : (∀ k, k ≠ 7 → ν.1 k = μ.1 k) ∧ ν.2 = μ.2) : Rel τ ν := by
  refine Rel_land h (fun k hk => F.1 k (by omega) (by omega)) (fun k hk => G.1 k (by omega)) (fun h1 => ⟨fun k j hv => ?_, fun k u1 u2 => ?_⟩) (fun c hc => ?_) (BL_of (fun k q1 q2 j hj => by rw [F.1 k (by omega) (by omega)]) h.2.2.1) (BW_of (fun c hc => by rw [F.1 3 (by omega) (by omega)]) h.2.2.2.1)
  · have hk : k ≠ 7 ∧ k ≠ 32 ∧ k ≠ 33 := by unfold vis at hv; omega
    rw [F.1 k hk.2.1 hk.2.2, G.1 k hk.1]
    exact h1.1 k j hv
  · rw [F.2, G.2]
    exact h1.2 k u1 u2
  · rw [G.1 4 (by decide), G.1 5 (by decide)]
    exact h.snow c hc
theorem Rel.wets {σ μ : Sg} (h : Rel σ μ) : ∀ c, c < 25 → (wet σ c ↔ wet μ c) := fun c hc => by
  unfold wet
  rw [h.1.cell (k := 3) (by omega) hc]
theorem SR_l {σ : Sg} {M : Nat → Prop} {c0 n : Nat} {τ : Sg} (h : SR σ M c0 n τ) {i : Nat} (hi : i < n) : (τ.1 32 i).toNatClampNeg < 25 ∧ τ.1 32 i = nI (τ.1 32 i).toNatClampNeg := by
  obtain ⟨c, c1, c2, -⟩ := h.2.1 i hi
  rw [c2, nI_clamp (by omega)]
  exact ⟨c1, rfl⟩
theorem lake_in {σ μ : Sg} (h : Rel σ μ) {c0 c : Nat} (h0 : c0 < 25) (hc : c < 25) : (wet σ c0 ∧ Rch σ c0 c) ↔ (¬ (m_gather_s μ).1 7 c0 = -1 ∧ (m_gather_s μ).1 7 c = (m_gather_s μ).1 7 c0) := by
  constructor
  · intro ⟨w, r⟩
    have w2 := (h.wets c0 h0).mp w
    have r2 := r.cg h.wets
    exact ⟨fun z => (lab_dry h0).mp z w2, ((lab_iff h0 hc w2 (r2.wt w2)).mpr r2).symm⟩
  · intro ⟨n, e⟩
    have w2 : wet μ c0 := Classical.byContradiction (fun z => n ((lab_dry h0).mpr z))
    have w3 : wet μ c := Classical.byContradiction (fun z => n (e.symm.trans ((lab_dry hc).mpr z)))
    exact ⟨(h.wets c0 h0).mpr w2, ((lab_iff h0 hc w2 w3).mp e.symm).cg (fun c hc => (h.wets c hc).symm)⟩
theorem lake_list {σ μ : Sg} (h : Rel σ μ) {c0 n : Nat} (hc : c0 < 25) (hS : SR σ (fun _ => False) c0 n (k_gatherOneLake_s σ (nI c0))) (hL : ∀ c, c < 25 → ((∃ i, i < n ∧ (k_gatherOneLake_s σ (nI c0)).1 32 i = nI c) ↔ wet σ c0 ∧ Rch σ c0 c)) (g : Nat → Int32) : s32 (fun i => g ((k_gatherOneLake_s σ (nI c0)).1 32 i).toNatClampNeg) n = s32 (fun c => if (m_gather_s μ).1 7 c0 = -1 then 0 else if (m_gather_s μ).1 7 c = (m_gather_s μ).1 7 c0 then g c else 0) 25 := by
  generalize k_gatherOneLake_s σ (nI c0) = τ at hS hL
  refine s32_list (f := fun i => (τ.1 32 i).toNatClampNeg) (g := g) n _ (fun i hi => (SR_l hS hi).1) (fun i j hi hj e => hS.2.2.1 i j hi hj (by rw [(SR_l hS hi).2, (SR_l hS hj).2]; exact congrArg nI e)) (fun i hi => ?_) (fun c hc2 hx => ?_)
  · have q := (lake_in h hc (SR_l hS hi).1).mp ((hL _ (SR_l hS hi).1).mp ⟨i, hi, (SR_l hS hi).2⟩)
    rw [if_neg q.1, if_pos q.2]
  · by_cases q1 : (m_gather_s μ).1 7 c0 = -1
    · rw [if_pos q1]
    · by_cases q2 : (m_gather_s μ).1 7 c = (m_gather_s μ).1 7 c0
      · obtain ⟨i, hi, ei⟩ := (hL c hc2).mpr ((lake_in h hc hc2).mpr ⟨q1, q2⟩)
        refine absurd ⟨i, hi, ?_⟩ hx
        rw [ei, nI_clamp (by omega)]
      · rw [if_neg q1, if_neg q2]
theorem lake_size {σ μ : Sg} (h : Rel σ μ) {c0 : Nat} (hc : c0 < 25) : k_gatherOneLake σ (nI c0) = m_lakeOf μ (nI c0) := by
  obtain ⟨n, e, hS, hL⟩ := one_lake (σ := σ) hc
  have hm : m_lakeOf μ (nI c0) = s32 (fun c => if (m_gather_s μ).1 7 c0 = -1 then 0 else if (m_gather_s μ).1 7 c = (m_gather_s μ).1 7 c0 then nI 1 else 0) 25 := by
    unfold m_lakeOf m_lakeOf_k4 m_lakeOf_x8 s32
    generalize m_gather_s μ = ν
    have eb : m_lakeOf_b8 ν (nI c0) = fun i z => z + (if ν.1 7 c0 = -1 then 0 else if ν.1 7 i = ν.1 7 c0 then nI 1 else 0) := by
      funext i z
      unfold m_lakeOf_b8 m_lakeOf_j45
      rw [nI_clamp (by omega), n0_eq]
    rw [eb]
  rw [e, hm]
  exact (s32_1 n).symm.trans (lake_list h hc hS hL (fun _ => nI 1))
theorem Rel_one {σ μ : Sg} (h : Rel σ μ) {c0 : Nat} (hc : c0 < 25) : Rel (k_gatherOneLake_s σ (nI c0)) (m_gather_s μ) := by
  obtain ⟨n, e, hS, hL⟩ := one_lake (σ := σ) hc
  exact Rel_lake h hS.1 (GI_s μ).1.1
