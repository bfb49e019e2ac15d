/-! heat, water and carbon of the land as whole numbers, and that they balance with what came and what left -/
def HE (σ : Sg) : Int := isum (fun j => (σ.1 10 j).toInt) 125 + 1000 * sw σ 25
def WA (σ : Sg) : Int := isum (fun j => (σ.1 8 j).toInt + (σ.1 9 j).toInt) 125 + sw σ 25
def CA (σ : Sg) : Int := isum (fun j => (σ.1 11 j).toInt) 125
def CV (D S M : Int) (σ : Sg) : Prop := σ.2 29 = Int64.ofInt D ∧ σ.2 30 = Int64.ofInt S ∧ σ.2 31 = Int64.ofInt M ∧ σ.2 26 = Int64.ofInt (HE σ + 1000 * D) ∧ σ.2 27 = Int64.ofInt (WA σ + D) ∧ σ.2 28 = Int64.ofInt (CA σ + S + M)
theorem isum_cg {f g : Nat → Int} {n : Nat} (h : ∀ c, c < n → f c = g c) : isum f n = isum g n := by
  induction n with
  | zero => rfl
  | succ n ih =>
    show isum f n + f n = isum g n + g n
    rw [ih (fun c hc => h c (by omega)), h n (by omega)]
theorem isum_at {f g : Nat → Int} {n j : Nat} (hj : j < n) (h : ∀ c, c < n → c ≠ j → f c = g c) : isum f n = isum g n + (f j - g j) := by
  induction n with
  | zero => omega
  | succ n ih =>
    show isum f n + f n = isum g n + g n + (f j - g j)
    by_cases e : j = n
    · subst e
      rw [isum_cg (fun c hc => h c (by omega) (by omega))]
      omega
    · rw [ih (by omega) (fun c hc => h c (by omega)), h n (by omega) (fun q => e q.symm)]
      omega
theorem isum_sub (f g : Nat → Int) (n : Nat) : isum f n = isum g n + isum (fun j => f j - g j) n := by
  induction n with
  | zero => rfl
  | succ n ih =>
    show isum f n + f n = isum g n + g n + (isum (fun j => f j - g j) n + (f n - g n))
    omega
theorem isum_0 {d : Nat → Int} (n : Nat) (h : ∀ j, j < n → d j = 0) : isum d n = 0 := by
  induction n with
  | zero => rfl
  | succ n ih =>
    show isum d n + d n = 0
    rw [ih (fun j hj => h j (by omega)), h n (by omega)]
    rfl
theorem isum_blk {d : Nat → Int} {a : Nat} (h : ∀ j, ¬ (a ≤ j ∧ j < a + 5) → d j = 0) (m : Nat) : isum d (a + 5 + m) = d a + d (a + 1) + d (a + 2) + d (a + 3) + d (a + 4) := by
  induction m with
  | zero =>
    show isum d a + d a + d (a + 1) + d (a + 2) + d (a + 3) + d (a + 4) = _
    rw [isum_0 a (fun j hj => h j (by omega))]
    omega
  | succ m ih =>
    show isum d (a + 5 + m) + d (a + 5 + m) = _
    rw [ih, h (a + 5 + m) (by omega)]
    omega
theorem oi_add (a b : Int) : Int64.ofInt a + Int64.ofInt b = Int64.ofInt (a + b) := (Int64.ofInt_add a b).symm
theorem oi_32 (x : Int32) : x.toInt64 = Int64.ofInt x.toInt := (Int64.ofInt_int32ToInt x).symm
theorem oi_z {a b : Int64} (h : a = b) : a = b + Int64.ofInt 0 := by
  rw [h]
  exact (Int64.add_zero b).symm
theorem HE_at {τ σ : Sg} {k c : Nat} (hk : k < 125) (hc : c < 25) (h10 : ∀ j, j ≠ k → τ.1 10 j = σ.1 10 j) (h3 : ∀ x, x ≠ c → τ.1 3 x = σ.1 3 x) : HE τ = HE σ + ((τ.1 10 k).toInt - (σ.1 10 k).toInt) + 1000 * ((τ.1 3 c).toInt - (σ.1 3 c).toInt) := by
  have e := isum_at (f := fun j => (τ.1 10 j).toInt) (g := fun j => (σ.1 10 j).toInt) hk (fun j _ hj => congrArg Int32.toInt (h10 j hj))
  have e2 := sw_at h3 25 hc
  unfold HE
  rw [e, e2]
  (try dsimp only)
  omega
theorem WA_at {τ σ : Sg} {k c : Nat} (hk : k < 125) (hc : c < 25) (h8 : ∀ j, j ≠ k → τ.1 8 j = σ.1 8 j) (h9 : ∀ j, j ≠ k → τ.1 9 j = σ.1 9 j) (h3 : ∀ x, x ≠ c → τ.1 3 x = σ.1 3 x) : WA τ = WA σ + ((τ.1 8 k).toInt - (σ.1 8 k).toInt) + ((τ.1 9 k).toInt - (σ.1 9 k).toInt) + ((τ.1 3 c).toInt - (σ.1 3 c).toInt) := by
  have e := isum_at (f := fun j => (τ.1 8 j).toInt + (τ.1 9 j).toInt) (g := fun j => (σ.1 8 j).toInt + (σ.1 9 j).toInt) hk (fun j _ hj => by
    show (τ.1 8 j).toInt + (τ.1 9 j).toInt = (σ.1 8 j).toInt + (σ.1 9 j).toInt
    rw [h8 j hj, h9 j hj])
  have e2 := sw_at h3 25 hc
  unfold WA
  rw [e, e2]
  (try dsimp only)
  omega
theorem CA_at {τ σ : Sg} {k : Nat} (hk : k < 125) (h11 : ∀ j, j ≠ k → τ.1 11 j = σ.1 11 j) : CA τ = CA σ + ((τ.1 11 k).toInt - (σ.1 11 k).toInt) :=
  isum_at (f := fun j => (τ.1 11 j).toInt) (g := fun j => (σ.1 11 j).toInt) hk (fun j _ hj => congrArg Int32.toInt (h11 j hj))
theorem HE_of {τ σ : Sg} (hl : ∀ j, j < 125 → τ.1 10 j = σ.1 10 j) (hw : sw τ 25 = sw σ 25) : HE τ = HE σ := by
  unfold HE
  rw [hw, isum_cg (g := fun j => (σ.1 10 j).toInt) (fun j hj => congrArg Int32.toInt (hl j hj))]
theorem WA_of {τ σ : Sg} (h8 : ∀ j, j < 125 → τ.1 8 j = σ.1 8 j) (h9 : ∀ j, j < 125 → τ.1 9 j = σ.1 9 j) (hw : sw τ 25 = sw σ 25) : WA τ = WA σ := by
  unfold WA
  rw [hw, isum_cg (f := fun j => (τ.1 8 j).toInt + (τ.1 9 j).toInt) (g := fun j => (σ.1 8 j).toInt + (σ.1 9 j).toInt) (fun j hj => by
    show (τ.1 8 j).toInt + (τ.1 9 j).toInt = (σ.1 8 j).toInt + (σ.1 9 j).toInt
    rw [h8 j hj, h9 j hj])]
theorem CA_of {τ σ : Sg} (hl : ∀ j, j < 125 → τ.1 11 j = σ.1 11 j) : CA τ = CA σ := isum_cg (fun j hj => congrArg Int32.toInt (hl j hj))
theorem CV.go {D S M D' S' M' dE dW dC x y w : Int} {τ σ : Sg} (h : CV D S M σ) (hE : HE τ = HE σ + dE) (hW : WA τ = WA σ + dW) (hC : CA τ = CA σ + dC) (l29 : τ.2 29 = Int64.ofInt D') (l30 : τ.2 30 = Int64.ofInt S') (l31 : τ.2 31 = Int64.ofInt M') (l26 : τ.2 26 = σ.2 26 + Int64.ofInt x) (l27 : τ.2 27 = σ.2 27 + Int64.ofInt y) (l28 : τ.2 28 = σ.2 28 + Int64.ofInt w) (qx : dE + 1000 * (D' - D) = x) (qy : dW + (D' - D) = y) (qw : dC + (S' - S) + (M' - M) = w) : CV D' S' M' τ := by
  obtain ⟨-, -, -, h26, h27, h28⟩ := h
  refine ⟨l29, l30, l31, ?_, ?_, ?_⟩
  · rw [l26, h26, oi_add, hE]
    exact congrArg Int64.ofInt (by omega)
  · rw [l27, h27, oi_add, hW]
    exact congrArg Int64.ofInt (by omega)
  · rw [l28, h28, oi_add, hC]
    exact congrArg Int64.ofInt (by omega)
theorem CV.same {D S M : Int} {τ σ : Sg} (h : CV D S M σ) (L : τ.2 = σ.2) (hE : HE τ = HE σ) (hW : WA τ = WA σ) (hC : CA τ = CA σ) : CV D S M τ := by
  obtain ⟨h1, h2, h3, h4, h5, h6⟩ := h
  exact ⟨by rw [L]; exact h1, by rw [L]; exact h2, by rw [L]; exact h3, by rw [L, hE]; exact h4, by rw [L, hW]; exact h5, by rw [L, hC]; exact h6⟩
theorem CV.of {D S M : Int} {τ σ : Sg} (h : CV D S M σ) (L : τ.2 = σ.2) (hl : ∀ k, 8 ≤ k → k ≤ 11 → ∀ j, j < 125 → τ.1 k j = σ.1 k j) (hw : ∀ c, c < 25 → τ.1 3 c = σ.1 3 c) : CV D S M τ :=
  h.same L (HE_of (fun j hj => hl 10 (by omega) (by omega) j hj) (sw_of 25 hw)) (WA_of (fun j hj => hl 8 (by omega) (by omega) j hj) (fun j hj => hl 9 (by omega) (by omega) j hj) (sw_of 25 hw)) (CA_of (fun j hj => hl 11 (by omega) (by omega) j hj))
/-- 1: snow -/
theorem cv_snow {D S M : Int} {σ : Sg} (h : CV D S M σ) (air snow : Int32) : CV D S M (k_letSnow_s σ air snow) := by
  have es : k_letSnow_s σ air snow = lp (k_letSnow_b2 air snow) 25 σ := rfl
  have key : ∀ n, (∀ k, k ≠ 4 → (lp (k_letSnow_b2 air snow) n σ).1 k = σ.1 k) ∧ (lp (k_letSnow_b2 air snow) n σ).2 = σ.2 := fun n => by
    induction n with
    | zero => exact ⟨fun _ _ => rfl, rfl⟩
    | succ n ih =>
      have e : lp (k_letSnow_b2 air snow) (n + 1) σ = k_letSnow_b2 air snow n (lp (k_letSnow_b2 air snow) n σ) := rfl
      rw [e]
      generalize lp (k_letSnow_b2 air snow) n σ = z at ih ⊢
      obtain ⟨v, hv⟩ : ∃ v, k_letSnow_b2 air snow n z = si z 4 n v := ⟨_, rfl⟩
      rw [hv]
      exact ⟨fun k hk => by rw [si_ne hk]; exact ih.1 k hk, ih.2⟩
  rw [es]
  exact h.of (key 25).2 (fun k h8 h11 j hj => by rw [(key 25).1 k (by omega)]) (fun c hc => by rw [(key 25).1 3 (by decide)])
