/-! sums over a list and over the land; one lake from the outset -/
theorem Rch.cg {σ μ : Sg} {a b : Nat} (hw : ∀ c, c < 25 → (wet σ c ↔ wet μ c)) (h : Rch σ a b) : Rch μ a b := h (fun x => Rch μ a x) Rch.rf (fun _ y hx p n w => p.on hx n ((hw y (nxt_lt hx n)).mp w))
def s32 (g : Nat → Int32) (n : Nat) : Int32 := lp (fun i z => z + g i) n (nI 0)
theorem s32_s (g : Nat → Int32) (n : Nat) : s32 g (n + 1) = s32 g n + g n := rfl
theorem s32_cg {g g' : Nat → Int32} {n : Nat} (h : ∀ c, c < n → g' c = g c) : s32 g' n = s32 g n := by
  induction n with
  | zero => rfl
  | succ n ih => rw [s32_s, s32_s, ih (fun c hc => h c (by omega)), h n (by omega)]
theorem s32_at {g g' : Nat → Int32} {n j : Nat} {v : Int32} (hj : j < n) (h : ∀ c, c < n → c ≠ j → g' c = g c) (h2 : g' j = g j + v) : s32 g' n = s32 g n + v := by
  induction n with
  | zero => omega
  | succ n ih =>
    rw [s32_s, s32_s]
    by_cases e : j = n
    · subst e
      rw [s32_cg (fun c hc => h c (by omega) (by omega)), h2, Int32.add_assoc]
    · rw [ih (by omega) (fun c hc => h c (by omega)), h n (by omega) (by omega), Int32.add_assoc, Int32.add_comm v, ← Int32.add_assoc]
theorem s32_0 {g : Nat → Int32} {n : Nat} (h : ∀ c, c < n → g c = 0) : s32 g n = 0 := by
  induction n with
  | zero => exact n0_eq
  | succ n ih => rw [s32_s, ih (fun c hc => h c (by omega)), h n (by omega), Int32.add_zero]
theorem s32_list {f : Nat → Nat} {g : Nat → Int32} (n : Nat) : ∀ χ : Nat → Int32, (∀ i, i < n → f i < 25) → (∀ i j, i < n → j < n → f i = f j → i = j) → (∀ i, i < n → χ (f i) = g (f i)) → (∀ c, c < 25 → (¬ ∃ i, i < n ∧ f i = c) → χ c = 0) → s32 (fun i => g (f i)) n = s32 χ 25 := by
  induction n with
  | zero => exact fun χ _ _ _ h0 => ((s32_0 (fun c hc => h0 c hc (fun ⟨i, hi, _⟩ => absurd hi (Nat.not_lt_zero _)))).trans n0_eq.symm).symm
  | succ n ih =>
    intro χ hf hd h1 h0
    rw [s32_s, ih (fun c => if c = f n then 0 else χ c) (fun i hi => hf i (by omega)) (fun i j hi hj => hd i j (by omega) (by omega)) (fun i hi => ?_) (fun c hc hx => ?_)]
    · refine (s32_at (hf n (by omega)) (fun c _ hne => ?_) ?_).symm
      · rw [if_neg hne]
      · rw [if_pos rfl, h1 n (by omega), Int32.zero_add]
    · rw [if_neg (fun e => by have := hd i n (by omega) (by omega) e; omega), h1 i (by omega)]
    · by_cases e : c = f n
      · rw [if_pos e]
      · rw [if_neg e]
        refine h0 c hc (fun ⟨i, hi, ei⟩ => ?_)
        by_cases q : i = n
        · subst q; exact e ei.symm
        · exact hx ⟨i, by omega, ei⟩
theorem s32_1 (n : Nat) : s32 (fun _ => nI 1) n = nI n := by
  induction n with
  | zero => rfl
  | succ n ih => rw [s32_s, ih, nI_add]
theorem forget_i (σ : Sg) (i : Nat) : ((∀ k, k ≠ 33 → (lp k_forgetGathered_b2 i σ).1 k = σ.1 k) ∧ (lp k_forgetGathered_b2 i σ).2 = σ.2) ∧ ∀ c, c < i → (lp k_forgetGathered_b2 i σ).1 33 c = 0 := by
  induction i with
  | zero => exact ⟨⟨fun _ _ => rfl, rfl⟩, fun c hc => absurd hc (Nat.not_lt_zero _)⟩
  | succ i ih =>
    have e : lp k_forgetGathered_b2 (i + 1) σ = si (lp k_forgetGathered_b2 i σ) 33 i (vp_nar .boolean (nI 0)) := rfl
    rw [e]
    refine ⟨⟨fun k hk => ?_, ih.1.2⟩, fun c hc => ?_⟩
    · rw [si_ne hk]
      exact ih.1.1 k hk
    · by_cases q : c = i
      · rw [q, si_eq]; decide
      · rw [si_pj _ q]
        exact ih.2 c (by omega)
theorem forget_SR (σ : Sg) (c0 : Nat) : SR σ (fun _ => False) c0 0 (k_forgetGathered_s σ) := by
  have h := forget_i σ 25
  refine ⟨⟨fun k _ hk => h.1.1 k hk, h.1.2⟩, fun i hi => absurd hi (Nat.not_lt_zero _), fun i j hi => absurd hi (Nat.not_lt_zero _), fun c hc => ⟨fun q => absurd (h.2 c hc) q, fun q => ?_⟩, ?_⟩
  · rcases q with q | ⟨i, hi, -⟩
    · exact q.elim
    · exact absurd hi (Nat.not_lt_zero _)
  · have q := isum_le (f := fun c => if (k_forgetGathered_s σ).1 33 c = 0 then 1 else 0) (g := fun _ => 1) (n := 25) (fun c _ => by split <;> decide)
    rw [isum_c] at q
    unfold SU
    omega
/-- the one lake that holds a cell: its list -/
theorem one_lake {σ : Sg} {c0 : Nat} (hc : c0 < 25) : ∃ n, k_gatherOneLake σ (nI c0) = nI n ∧ SR σ (fun _ => False) c0 n (k_gatherOneLake_s σ (nI c0)) ∧ ∀ c, c < 25 → ((∃ i, i < n ∧ (k_gatherOneLake_s σ (nI c0)).1 32 i = nI c) ↔ wet σ c0 ∧ Rch σ c0 c) := by
  have ev : k_gatherOneLake σ (nI c0) = k_gatherLake (k_forgetGathered_s σ) (nI c0) := rfl
  have es : k_gatherOneLake_s σ (nI c0) = k_gatherLake_s (k_forgetGathered_s σ) (nI c0) := rfl
  rw [ev, es]
  have h := forget_SR σ c0
  by_cases w : wet σ c0
  · obtain ⟨n, h1, h2, h3⟩ := lake_yes hc h w id (fun x y _ _ _ _ q => q)
    exact ⟨n, h1, h2, fun c hc2 => (h3 c hc2).trans ⟨fun q => ⟨w, q⟩, fun q => q.2⟩⟩
  · obtain ⟨h1, h2⟩ := lake_no hc h (fun q => w q.1)
    rw [h1, h2]
    exact ⟨0, rfl, h, fun c hc2 => ⟨fun ⟨i, hi, _⟩ => absurd hi (Nat.not_lt_zero _), fun q => absurd q.1 w⟩⟩
