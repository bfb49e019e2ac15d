/-! the reference's labels: one for each lake -/
def wet (σ : Sg) (c : Nat) : Prop := ¬ σ.1 3 c ≤ 0
def nxt (a b : Nat) : Prop := ∃ s, s < 4 ∧ ¬ m_beside (nI a) (nI s) = -1 ∧ (m_beside (nI a) (nI s)).toNatClampNeg = b
def Rch (σ : Sg) (a b : Nat) : Prop := ∀ P : Nat → Prop, P a → (∀ x y, x < 25 → P x → nxt x y → wet σ y → P y) → P b
theorem nxt_lt {a b : Nat} (ha : a < 25) (h : nxt a b) : b < 25 := by
  obtain ⟨s, hs, h1, h2⟩ := h
  have := vp_lt (m_beside_tab a ha s hs h1)
  omega
theorem nxt_tab : ∀ a, a < 25 → ∀ s, s < 4 → m_beside (nI a) (nI s) = -1 ∨ ∃ t, t < 4 ∧ ¬ m_beside (nI (m_beside (nI a) (nI s)).toNatClampNeg) (nI t) = -1 ∧ (m_beside (nI (m_beside (nI a) (nI s)).toNatClampNeg) (nI t)).toNatClampNeg = a := by decide +kernel
theorem nxt_sym {a b : Nat} (ha : a < 25) (h : nxt a b) : nxt b a := by
  obtain ⟨s, hs, h1, h2⟩ := h
  subst h2
  exact (nxt_tab a ha s hs).resolve_left h1
section RCH
variable {σ : Sg} {a b c : Nat}
theorem Rch.rf : Rch σ a a := fun _ h _ => h
theorem Rch.tr (h : Rch σ a b) (g : Rch σ b c) : Rch σ a c := fun P p s => g P (h P p s) s
theorem Rch.on (h : Rch σ a b) (hb : b < 25) (n : nxt b c) (w : wet σ c) : Rch σ a c := fun P p s => s b c hb (h P p s) n w
theorem Rch.lt (h : Rch σ a b) (ha : a < 25) : b < 25 := h (fun x => x < 25) ha (fun _ _ hx _ n _ => nxt_lt hx n)
theorem Rch.wt (h : Rch σ a b) (ha : wet σ a) : wet σ b := h (wet σ) ha (fun _ _ _ _ _ w => w)
theorem Rch.sm (h : Rch σ a b) (ha : a < 25) (wa : wet σ a) : Rch σ b a :=
  (h (fun x => (x < 25 ∧ wet σ x) ∧ Rch σ x a) ⟨⟨ha, wa⟩, Rch.rf⟩ (fun _ _ hx p n w => ⟨⟨nxt_lt hx n, w⟩, (Rch.rf.on (nxt_lt hx n) (nxt_sym hx n) p.1.2).tr p.2⟩)).2
end RCH
def GC (i : Nat) (z : Sg) : Prop := ¬ m_beside (nI (i / 4)) (nI (i % 4)) = -1 ∧ ¬ z.1 7 (i / 4) = -1 ∧ ¬ z.1 7 (m_beside (nI (i / 4)) (nI (i % 4))).toNatClampNeg = -1 ∧ ¬ z.1 7 (i / 4) ≤ z.1 7 (m_beside (nI (i / 4)) (nI (i % 4))).toNatClampNeg
theorem GC.eq {i : Nat} {w : Int32 × Sg} (h : GC i w.2) : m_gather_b44 i w = (nI 1, si w.2 7 (i / 4) (w.2.1 7 (m_beside (nI (i / 4)) (nI (i % 4))).toNatClampNeg)) := by
  obtain ⟨h1, h2, h3, h4⟩ := h
  simp only [m_gather_b44, m_gather_j121, if_neg h1, if_neg h2, if_neg h3, if_neg h4]
def GI (σ z : Sg) : Prop := ((∀ k, k ≠ 7 → z.1 k = σ.1 k) ∧ z.2 = σ.2) ∧ ∀ c, c < 25 → (¬ wet σ c ∧ z.1 7 c = -1) ∨ (wet σ c ∧ ∃ r, r < 25 ∧ z.1 7 c = nI r ∧ wet σ r ∧ Rch σ r c)
def GF (z : Sg) : Prop := ∀ i, i < 100 → ¬ GC i z
theorem GI_b {σ : Sg} {i : Nat} {w : Int32 × Sg} (hi : i < 100) (h : GI σ w.2) : GI σ (m_gather_b44 i w).2 := by
  rcases m_gather_cases i w with q | ⟨hb, g1, g2, g3, q⟩
  · rw [q]; exact h
  · rw [q]
    have hin := vp_lt (m_beside_tab (i / 4) (by omega) (i % 4) (by omega) hb)
    have hn : nxt (i / 4) (m_beside (nI (i / 4)) (nI (i % 4))).toNatClampNeg := ⟨i % 4, by omega, hb, rfl⟩
    generalize (m_beside (nI (i / 4)) (nI (i % 4))).toNatClampNeg = j at hin hn g2 g3 ⊢
    refine ⟨⟨fun k hk => ?_, h.1.2⟩, fun c hc => ?_⟩
    · show (si w.2 7 (i / 4) (w.2.1 7 j)).1 k = _
      rw [si_ne hk]
      exact h.1.1 k hk
    · show _ ∧ (si w.2 7 (i / 4) (w.2.1 7 j)).1 7 c = -1 ∨ _ ∧ ∃ r, r < 25 ∧ (si w.2 7 (i / 4) (w.2.1 7 j)).1 7 c = nI r ∧ _
      by_cases e : c = i / 4
      · subst e
        rw [si_eq]
        rcases h.2 j hin with ⟨u1, u2⟩ | ⟨u1, r, u2, u3, u4, u5⟩
        · exact absurd u2 g2
        · rcases h.2 (i / 4) hc with ⟨v1, v2⟩ | ⟨v1, -⟩
          · exact absurd v2 g1
          · exact Or.inr ⟨v1, r, u2, u3, u4, u5.on hin (nxt_sym hc hn) v1⟩
      · rw [si_pj _ e]
        exact h.2 c hc
theorem GI_36 {σ : Sg} {z : Int32 × Sg} (h : GI σ z.2) : GI σ (m_gather_b36 z).2 ∧ ((m_gather_b36 z).1 = 0 → GF (m_gather_b36 z).2) := by
  have key := lp_invB (f := m_gather_b44) (z := (nI 0, z.2)) (n := 100) (N := 100) (P := fun i (w : Int32 × Sg) => GI σ w.2 ∧ (w.1 = 0 → ∀ i', i' < i → ¬ GC i' w.2)) ⟨h, fun _ i' hi' => absurd hi' (Nat.not_lt_zero _)⟩ (fun i w hi hw => ?_) (Nat.le_refl _)
  · have e : m_gather_b36 z = lp (m_gather_b44) 100 (nI 0, z.2) := by simp only [m_gather_b36, m_gather_x44]
    rw [e]
    generalize lp m_gather_b44 100 (nI 0, z.2) = w at key
    exact key
  · refine ⟨GI_b hi hw.1, fun h0 => ?_⟩
    by_cases q : GC i w.2
    · rw [q.eq] at h0
      exact absurd h0 n1_ne
    · rcases m_gather_cases i w with u | ⟨u1, u2, u3, u4, u⟩
      · rw [u] at h0 ⊢
        intro i' hi'
        by_cases e : i' = i
        · subst e; exact q
        · exact hw.2 h0 i' (by omega)
      · exact absurd ⟨u1, u2, u3, u4⟩ q
theorem GI_w {σ : Sg} (n : Nat) : ∀ z : Int32 × Sg, m_gather_ok n z → GI σ z.2 → (z.1 = 0 → GF z.2) → GI σ (m_gather_w36 n z).2 ∧ GF (m_gather_w36 n z).2 := by
  induction n with
  | zero => exact fun z h => absurd h (m_gather_ok_0 z)
  | succ n ih =>
    intro z hk h1 h2
    show GI σ (if z.1 = 0 then z else m_gather_w36 n (m_gather_b36 z)).2 ∧ GF (if z.1 = 0 then z else m_gather_w36 n (m_gather_b36 z)).2
    by_cases q : z.1 = 0
    · rw [if_pos q]; exact ⟨h1, h2 q⟩
    · rw [if_neg q]; exact ih _ (m_gather_ok_s hk q) (GI_36 h1).1 (GI_36 h1).2
theorem GI_0 (σ : Sg) : GI σ (lp m_gather_b2 25 σ) := by
  refine ⟨?_, fun c hc => ?_⟩
  · refine lp_inv (f := m_gather_b2) (z := σ) (P := fun _ (z : Sg) => (∀ k, k ≠ 7 → z.1 k = σ.1 k) ∧ z.2 = σ.2) ⟨fun _ _ => rfl, rfl⟩ (fun i z hz => ⟨fun k hk => ?_, hz.2⟩) 25
    unfold m_gather_b2 m_gather_j27 m_gather_k28
    rw [si_ne hk]
    exact hz.1 k hk
  · rw [m_gather_lab0 σ 25 c hc hc]
    by_cases q : σ.1 3 c ≤ 0
    · exact Or.inl ⟨fun z => z q, if_pos q⟩
    · exact Or.inr ⟨q, c, hc, if_neg q, q, Rch.rf⟩
theorem GI_s (σ : Sg) : GI σ (m_gather_s σ) ∧ GF (m_gather_s σ) := GI_w 700 (nI 1, lp m_gather_b2 25 σ) (m_gather_ok_i σ) (GI_0 σ) (fun q => absurd q n1_ne)
/-- two wet places bear one label just when one is reached from the other -/
theorem lab_dry {σ : Sg} {c : Nat} (hc : c < 25) : (m_gather_s σ).1 7 c = -1 ↔ ¬ wet σ c := by
  rcases (GI_s σ).1.2 c hc with ⟨u1, u2⟩ | ⟨u1, r, u2, u3, u4, u5⟩
  · exact ⟨fun _ => u1, fun _ => u2⟩
  · exact ⟨fun q => absurd (u3.symm.trans q) (nI_m1 (by omega)), fun q => absurd u1 q⟩
theorem lab_nxt {σ : Sg} {a b : Nat} (ha : a < 25) (wa : wet σ a) (wb : wet σ b) (n : nxt a b) : (m_gather_s σ).1 7 a ≤ (m_gather_s σ).1 7 b := by
  have hb := nxt_lt ha n
  obtain ⟨s, hs, h1, h2⟩ := n
  have q := (GI_s σ).2 (4 * a + s) (by omega)
  unfold GC at q
  rw [show (4 * a + s) / 4 = a by omega, show (4 * a + s) % 4 = s by omega, h2] at q
  refine Decidable.byContradiction (fun z => q ⟨h1, fun y => (lab_dry ha).mp y wa, fun y => (lab_dry hb).mp y wb, z⟩)
theorem lab_iff {σ : Sg} {a b : Nat} (ha : a < 25) (hb : b < 25) (wa : wet σ a) (wb : wet σ b) : (m_gather_s σ).1 7 a = (m_gather_s σ).1 7 b ↔ Rch σ a b := by
  constructor
  · intro e
    rcases (GI_s σ).1.2 a ha with ⟨u1, -⟩ | ⟨u1, r, u2, u3, u4, u5⟩
    · exact absurd wa u1
    · rcases (GI_s σ).1.2 b hb with ⟨v1, -⟩ | ⟨v1, r', v2, v3, v4, v5⟩
      · exact absurd wb v1
      · have er : r = r' := by
          have q := congrArg Int32.toNatClampNeg (u3.symm.trans (e.trans v3))
          rw [nI_clamp (by omega), nI_clamp (by omega)] at q
          exact q
        subst er
        exact (u5.sm u2 u4).tr v5
  · intro h
    refine (h (fun x => wet σ x ∧ (m_gather_s σ).1 7 a = (m_gather_s σ).1 7 x) ⟨wa, rfl⟩ (fun x y hx p n w => ⟨w, p.2.trans ?_⟩)).2
    have h1 := lab_nxt hx p.1 w n
    have h2 := lab_nxt (nxt_lt hx n) w p.1 (nxt_sym hx n)
    rw [i_le] at h1 h2
    exact Int32.toInt_inj.mp (by omega)
