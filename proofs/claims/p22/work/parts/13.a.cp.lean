/-! the picture of the whole class object: every cell of the heap that belongs to it, by kind and place -/
/-- the count of a list: houses, boreholes, claims -/
def cpF : Nat → Nat
  | 0 => 13
  | 1 => 19
  | _ => 24
def cpN (σ : Sg) (L : Nat) : Nat := (σ.1 (cpF L) 0).toNatClampNeg
/-- the places in use: 0 a list's row, 1 a house, 2 a borehole, 3 its readings, 4 a claim, 5 the object itself and what is made with it, 6 a cell, 7 its row, 8 a layer -/
def cpU (σ : Sg) (x : Nat × Nat) : Prop := match x.1 with
  | 0 => x.2 < 3 ∧ cpN σ x.2 ≠ 0
  | 1 => x.2 < cpN σ 0
  | 2 => x.2 < cpN σ 1
  | 3 => x.2 < cpN σ 1
  | 4 => x.2 < cpN σ 2
  | 5 => x.2 < 9
  | 6 => x.2 < 25
  | 7 => x.2 < 25
  | 8 => x.2 < 125
  | _ => False
/-- where it lies: d tells of the first five kinds, o is the object's own place -/
def cpA (o : Nat) (d : Nat → Nat → Nat) (x : Nat × Nat) : Nat := match x.1 with
  | 0 => d 0 x.2
  | 1 => d 1 x.2
  | 2 => d 2 x.2
  | 3 => d 3 x.2
  | 4 => d 4 x.2
  | 5 => o + x.2
  | 6 => o + 9 + 7 * x.2
  | 7 => o + 9 + 7 * x.2 + 1
  | _ => o + 9 + 7 * (x.2 / 5) + 2 + x.2 % 5
def cpO (o : Nat) (σ : Sg) : va_E := .inr (6, [.ref (o + 1), .ref (o + 2), .ref (o + 3), .ref (o + 4), .int (σ.1 1 0), .ref (o + 5), .ref (o + 6), .long (σ.2 29), .ref (o + 7), .ref (o + 8)])
def cpK (σ : Sg) (i : Nat) : Int64 := if i < 3 then σ.2 (26 + i) else 0
def cpJ (σ : Sg) (i : Nat) : Int64 := if i < 2 then σ.2 (30 + i) else 0
def cpL (tE : Nat) (d : Nat → Nat → Nat) (σ : Sg) (L : Nat) : va_E := .inr (0, [.int (σ.1 34 L), .ref (if cpN σ L = 0 then tE else d 0 L), .int (σ.1 (cpF L) 0)])
/-- what lies there; w: how many places a list's row has -/
def cpC (ids : Nat → ClassId) (o tE : Nat) (d : Nat → Nat → Nat) (w : Nat → Nat) (σ : Sg) (x : Nat × Nat) : va_E := match x.1 with
  | 0 => .inl (ids 5, w x.2, .inr (.inr (.inr (.inr (fun j => if j < cpN σ x.2 then some (d (if x.2 = 0 then 1 else if x.2 = 1 then 2 else 4) j) else none)))))
  | 1 => .inr (4, [.int (σ.1 14 x.2), .int (σ.1 15 x.2), .int (σ.1 16 x.2), .int (σ.1 18 x.2), .int (σ.1 17 x.2)])
  | 2 => .inr (1, [.int (σ.1 20 x.2), .int (σ.1 21 x.2), .int (σ.1 22 x.2), .ref (d 3 x.2), .int (σ.1 35 x.2)])
  | 3 => .inl (ids 0, 5 * (600 - (σ.1 22 x.2).toNatClampNeg), .inl (σ.1 (40 + x.2)))
  | 4 => .inr (3, [.ref (d 1 (σ.1 37 x.2).toNatClampNeg), .int (σ.1 38 x.2), .int (σ.1 39 x.2), .int (σ.1 25 x.2)])
  | 5 => match x.2 with
    | 0 => cpO o σ
    | 1 => .inl (ids 3, 25, .inr (.inr (.inr (.inr (fun i => some (o + 9 + 7 * i))))))
    | 2 => cpL tE d σ 0
    | 3 => cpL tE d σ 1
    | 4 => cpL tE d σ 2
    | 5 => .inl (ids 2, 3, .inr (.inl (cpK σ)))
    | 6 => .inl (ids 2, 2, .inr (.inl (cpJ σ)))
    | 7 => .inl (ids 0, 25, .inl (σ.1 32))
    | _ => .inl (ids 1, 25, .inl (σ.1 33))
  | 6 => .inr (2, cfs (o + 9 + 7 * x.2) x.2 σ)
  | 7 => .inl (ids 4, 5, .inr (.inr (.inr (.inr (fun j => some (o + 9 + 7 * x.2 + 2 + j))))))
  | _ => .inr (5, lfs x.2 σ)
def CPic (G : va_G) (ids : Nat → ClassId) (o z tE : Nat) (d : Nat → Nat → Nat) (w : Nat → Nat) (σ : Sg) (H : Heap) : Prop :=
  (∀ x, cpU σ x → va_at G vwCl (cpA o d x, cpC ids o tE d w σ x) H) ∧ (∀ x, cpU σ x → x.1 < 5 → z ≤ cpA o d x) ∧ (∀ x y, cpU σ x → cpU σ y → x.1 < 5 → y.1 < 5 → cpA o d x = cpA o d y → x = y) ∧ o + 184 ≤ z ∧ ∀ L, L < 3 → cpN σ L ≤ w L ∧ w L < 2 ^ 31
/-- what the object's methods may change -/
def cpG (o z : Nat) : Nat → Prop := fun q => (o ≤ q ∧ q < o + 184) ∨ z ≤ q
section CPS
variable {G : va_G} {ids : Nat → ClassId} {o z tE : Nat} {d : Nat → Nat → Nat} {w : Nat → Nat} {σ σ' : Sg} {H H1 : Heap}
theorem cpU_lt {x : Nat × Nat} (h : cpU σ x) : x.1 < 9 := by
  obtain ⟨k, i⟩ := x
  unfold cpU at h
  match k, h with
  | 0, _ => exact (by decide : 0 < 9)
  | 1, _ => exact (by decide : 1 < 9)
  | 2, _ => exact (by decide : 2 < 9)
  | 3, _ => exact (by decide : 3 < 9)
  | 4, _ => exact (by decide : 4 < 9)
  | 5, _ => exact (by decide : 5 < 9)
  | 6, _ => exact (by decide : 6 < 9)
  | 7, _ => exact (by decide : 7 < 9)
  | 8, _ => exact (by decide : 8 < 9)
  | n + 9, h => exact h.elim
theorem cpU_5 {k : Nat} (h : k < 9) : cpU σ (5, k) := h
theorem cpU_8 {k : Nat} (h : k < 125) : cpU σ (8, k) := h
theorem cpU_same (hn : ∀ L, cpN σ' L = cpN σ L) (x : Nat × Nat) : cpU σ' x ↔ cpU σ x := by
  unfold cpU
  rw [hn x.2, hn 0, hn 1, hn 2]
/-- the part made with the object -/
theorem cpA_fix {x : Nat × Nat} (h : cpU σ x) (h5 : 5 ≤ x.1) : o ≤ cpA o d x ∧ cpA o d x < o + 184 := by
  have h9 := cpU_lt h
  obtain ⟨k, i⟩ := x
  rcases (show k = 5 ∨ k = 6 ∨ k = 7 ∨ k = 8 by simp only at h5 h9; omega) with rfl | rfl | rfl | rfl <;> simp only [cpU, cpA] at h ⊢ <;> omega
theorem CPic.inj (hP : CPic G ids o z tE d w σ H) {x y : Nat × Nat} (hx : cpU σ x) (hy : cpU σ y) (h : cpA o d x = cpA o d y) : x = y := by
  obtain ⟨-, h2, h3, h4, -⟩ := hP
  by_cases x5 : x.1 < 5
  · by_cases y5 : y.1 < 5
    · exact h3 x y hx hy x5 y5 h
    · have q1 := h2 x hx x5
      have q2 := (cpA_fix (o := o) (d := d) hy (by omega)).2
      omega
  · by_cases y5 : y.1 < 5
    · have q1 := h2 y hy y5
      have q2 := (cpA_fix (o := o) (d := d) hx (by omega)).2
      omega
    · have x9 := cpU_lt hx
      have y9 := cpU_lt hy
      obtain ⟨k, i⟩ := x
      obtain ⟨k', i'⟩ := y
      simp only at x5 y5 x9 y9
      rcases (show k = 5 ∨ k = 6 ∨ k = 7 ∨ k = 8 by omega) with rfl | rfl | rfl | rfl <;> rcases (show k' = 5 ∨ k' = 6 ∨ k' = 7 ∨ k' = 8 by omega) with rfl | rfl | rfl | rfl <;> simp only [cpU, cpA] at hx hy h <;> first | (exfalso; omega) | (have e : i = i' := by omega) ; rw [e]
theorem CPic.lt (hP : CPic G ids o z tE d w σ H) {x : Nat × Nat} (hx : cpU σ x) : cpA o d x < H.size := va_at.lt (hP.1 x hx)
theorem CPic.fr (hP : CPic G ids o z tE d w σ H) {x : Nat × Nat} (hx : cpU σ x) : cpG o z (cpA o d x) := by
  by_cases h : x.1 < 5
  · exact Or.inr (hP.2.1 x hx h)
  · exact Or.inl (cpA_fix hx (by omega))
/-- one cell has changed -/
theorem CPic.set (hP : CPic G ids o z tE d w σ H) (x0 : Nat × Nat) (hu : cpU σ x0) (ho : x_only (cpA o d x0) H H1) (hn : va_at G vwCl (cpA o d x0, cpC ids o tE d w σ' x0) H1) (hN : ∀ L, cpN σ' L = cpN σ L) (hc : ∀ x, cpU σ x → x ≠ x0 → cpC ids o tE d w σ' x = cpC ids o tE d w σ x) : CPic G ids o z tE d w σ' H1 := by
  refine ⟨fun x hx => ?_, fun x hx h5 => hP.2.1 x ((cpU_same hN x).mp hx) h5, fun x y hx hy => hP.2.2.1 x y ((cpU_same hN x).mp hx) ((cpU_same hN y).mp hy), hP.2.2.2.1, fun L hL => by rw [hN]; exact hP.2.2.2.2 L hL⟩
  have hx' := (cpU_same hN x).mp hx
  by_cases e : x = x0
  · subst e; exact hn
  · rw [hc x hx' e]
    exact (hP.1 x hx').only ho (fun q => e (hP.inj hx' hu q))
/-- nothing of it has changed -/
theorem CPic.keep (hP : CPic G ids o z tE d w σ H) (hk : ∀ q : Nat, q < H.size → cpG o z q → H1[q]? = H[q]?) : CPic G ids o z tE d w σ H1 :=
  ⟨fun x hx => (hP.1 x hx).kept (hk _ (hP.lt hx) (hP.fr hx)), hP.2⟩
/-- a cell's block -/
theorem CPic.blk (hP : CPic G ids o z tE d w σ H) {i : Nat} (hi : i < 25) : XBP G ids (o + 9 + 7 * i) i σ H := by
  refine ⟨hP.1 (6, i) hi, hP.1 (7, i) hi, fun j hj => ?_⟩
  have h := hP.1 (8, 5 * i + j) (cpU_8 (by omega))
  have e : cpA o d (8, 5 * i + j) = o + 9 + 7 * i + 2 + j := by
    show o + 9 + 7 * ((5 * i + j) / 5) + 2 + (5 * i + j) % 5 = _
    omega
  rw [e] at h
  exact h
/-- the rows of cells and layers -/
def cpR (i x y : Nat) : Prop := (2 ≤ x ∧ x ≤ 6 ∨ x = 36) ∧ y = i ∨ 8 ≤ x ∧ x ≤ 11 ∧ y / 5 = i
theorem cpR_of {i x y : Nat} (h : ¬ cpR i x y) : ¬ ((2 ≤ x ∧ x ≤ 6 ∨ x = 36) ∧ y = i) ∧ ¬ (8 ≤ x ∧ x ≤ 11 ∧ y / 5 = i) := ⟨fun q => h (Or.inl q), fun q => h (Or.inr q)⟩
theorem cpC_4 (hf : ∀ x, ¬ (2 ≤ x ∧ x ≤ 6 ∨ x = 36) → ¬ (8 ≤ x ∧ x ≤ 11) → σ'.1 x = σ.1 x) (hN : ∀ L, cpN σ' L = cpN σ L) {k n : Nat} (h : k < 5) : cpC ids o tE d w σ' (k, n) = cpC ids o tE d w σ (k, n) := by
  rcases (show k = 0 ∨ k = 1 ∨ k = 2 ∨ k = 3 ∨ k = 4 by omega) with rfl | rfl | rfl | rfl | rfl
  · simp only [cpC, hN]
  · simp only [cpC]; rw [hf 14 (by decide) (by decide), hf 15 (by decide) (by decide), hf 16 (by decide) (by decide), hf 18 (by decide) (by decide), hf 17 (by decide) (by decide)]
  · simp only [cpC]; rw [hf 20 (by decide) (by decide), hf 21 (by decide) (by decide), hf 22 (by decide) (by decide), hf 35 (by decide) (by decide)]
  · simp only [cpC]; rw [hf 22 (by decide) (by decide), hf (40 + n) (by omega) (by omega)]
  · simp only [cpC]; rw [hf 37 (by decide) (by decide), hf 38 (by decide) (by decide), hf 39 (by decide) (by decide), hf 25 (by decide) (by decide)]
theorem cpC_50 : cpC ids o tE d w σ (5, 0) = cpO o σ := rfl
theorem cpC_51 : cpC ids o tE d w σ (5, 1) = .inl (ids 3, 25, .inr (.inr (.inr (.inr (fun i => some (o + 9 + 7 * i)))))) := rfl
theorem cpC_52 : cpC ids o tE d w σ (5, 2) = cpL tE d σ 0 := rfl
theorem cpC_53 : cpC ids o tE d w σ (5, 3) = cpL tE d σ 1 := rfl
theorem cpC_54 : cpC ids o tE d w σ (5, 4) = cpL tE d σ 2 := rfl
theorem cpC_55 : cpC ids o tE d w σ (5, 5) = .inl (ids 2, 3, .inr (.inl (cpK σ))) := rfl
theorem cpC_56 : cpC ids o tE d w σ (5, 6) = .inl (ids 2, 2, .inr (.inl (cpJ σ))) := rfl
theorem cpC_57 : cpC ids o tE d w σ (5, 7) = .inl (ids 0, 25, .inl (σ.1 32)) := rfl
theorem cpC_58 : cpC ids o tE d w σ (5, 8) = .inl (ids 1, 25, .inl (σ.1 33)) := rfl
theorem cpC_6 {n : Nat} : cpC ids o tE d w σ (6, n) = .inr (2, cfs (o + 9 + 7 * n) n σ) := rfl
theorem cpC_7 {n : Nat} : cpC ids o tE d w σ (7, n) = .inl (ids 4, 5, .inr (.inr (.inr (.inr (fun j => some (o + 9 + 7 * n + 2 + j)))))) := rfl
theorem cpC_8 {n : Nat} : cpC ids o tE d w σ (8, n) = .inr (5, lfs n σ) := rfl
theorem cpA_5 {n : Nat} : cpA o d (5, n) = o + n := rfl
theorem cpA_6 {n : Nat} : cpA o d (6, n) = o + 9 + 7 * n := rfl
theorem cpA_7 {n : Nat} : cpA o d (7, n) = o + 9 + 7 * n + 1 := rfl
theorem cpA_8 {n : Nat} : cpA o d (8, n) = o + 9 + 7 * (n / 5) + 2 + n % 5 := rfl
theorem cpK_same (hl : σ'.2 = σ.2) : cpK σ' = cpK σ := by funext i; unfold cpK; rw [hl]
theorem cpJ_same (hl : σ'.2 = σ.2) : cpJ σ' = cpJ σ := by funext i; unfold cpJ; rw [hl]
theorem cpO_same (h1 : σ'.1 1 0 = σ.1 1 0) (hl : σ'.2 29 = σ.2 29) : cpO o σ' = cpO o σ := by
  unfold cpO; rw [h1, hl]
theorem cpL_same {L : Nat} (h1 : σ'.1 34 L = σ.1 34 L) (h2 : cpN σ' L = cpN σ L) (h3 : σ'.1 (cpF L) 0 = σ.1 (cpF L) 0) : cpL tE d σ' L = cpL tE d σ L := by
  unfold cpL; rw [h1, h2, h3]
theorem cpC_5 (hf : ∀ x, ¬ (2 ≤ x ∧ x ≤ 6 ∨ x = 36) → ¬ (8 ≤ x ∧ x ≤ 11) → σ'.1 x = σ.1 x) (hN : ∀ L, cpN σ' L = cpN σ L) (hF : ∀ L, σ'.1 (cpF L) = σ.1 (cpF L)) (hl : σ'.2 = σ.2) {n : Nat} (h : n < 9) : cpC ids o tE d w σ' (5, n) = cpC ids o tE d w σ (5, n) := by
  have f1 := hf 1 (by decide) (by decide)
  have f34 := hf 34 (by decide) (by decide)
  have f32 := hf 32 (by decide) (by decide)
  have f33 := hf 33 (by decide) (by decide)
  rcases (show n = 0 ∨ n = 1 ∨ n = 2 ∨ n = 3 ∨ n = 4 ∨ n = 5 ∨ n = 6 ∨ n = 7 ∨ n = 8 by omega) with rfl | rfl | rfl | rfl | rfl | rfl | rfl | rfl | rfl
  · rw [cpC_50, cpC_50]; exact cpO_same (by rw [f1]) (by rw [hl])
  · rw [cpC_51, cpC_51]
  · rw [cpC_52, cpC_52]; exact cpL_same (by rw [f34]) (hN _) (by rw [hF])
  · rw [cpC_53, cpC_53]; exact cpL_same (by rw [f34]) (hN _) (by rw [hF])
  · rw [cpC_54, cpC_54]; exact cpL_same (by rw [f34]) (hN _) (by rw [hF])
  · rw [cpC_55, cpC_55, cpK_same hl]
  · rw [cpC_56, cpC_56, cpJ_same hl]
  · rw [cpC_57, cpC_57, f32]
  · rw [cpC_58, cpC_58, f33]
theorem cpF_3 (L : Nat) : cpF L = 13 ∨ cpF L = 19 ∨ cpF L = 24 := by
  unfold cpF; split
  · exact Or.inl rfl
  · exact Or.inr (Or.inl rfl)
  · exact Or.inr (Or.inr rfl)
theorem cellE_eq {b i : Nat} : cellE b i σ = (b, .inr (2, cfs b i σ)) := rfl
theorem rowE_eq {b : Nat} : rowE ids b = (b + 1, .inl (ids 4, 5, .inr (.inr (.inr (.inr (fun j => some (b + 2 + j))))))) := rfl
theorem XLP_eq {h k : Nat} : XLP G h k σ H = va_at G vwCl (h, .inr (5, lfs k σ)) H := rfl
theorem cfs_same {b i : Nat} (hs : ∀ x, (2 ≤ x ∧ x ≤ 6 ∨ x = 36) → σ'.1 x i = σ.1 x i) : cfs b i σ' = cfs b i σ := by
  unfold cfs
  rw [hs 2 (by decide), hs 3 (by decide), hs 4 (by decide), hs 5 (by decide), hs 6 (by decide), hs 36 (by decide)]
theorem lfs_same {k : Nat} (hs : ∀ x, 8 ≤ x → x ≤ 11 → σ'.1 x k = σ.1 x k) : lfs k σ' = lfs k σ := by
  unfold lfs
  rw [hs 8 (by decide) (by decide), hs 9 (by decide) (by decide), hs 10 (by decide) (by decide), hs 11 (by decide) (by decide)]
theorem cpC_6s {n : Nat} (hs : ∀ x, (2 ≤ x ∧ x ≤ 6 ∨ x = 36) → σ'.1 x n = σ.1 x n) : cpC ids o tE d w σ' (6, n) = cpC ids o tE d w σ (6, n) := by
  rw [cpC_6, cpC_6, cfs_same hs]
theorem cpC_8s {n : Nat} (hs : ∀ x, 8 ≤ x → x ≤ 11 → σ'.1 x n = σ.1 x n) : cpC ids o tE d w σ' (8, n) = cpC ids o tE d w σ (8, n) := by
  rw [cpC_8, cpC_8, lfs_same hs]
theorem CPic.join1 {n i : Nat} (h1 : XBP G ids (o + 9 + 7 * i) i σ' H1) (e : n = i) : va_at G vwCl (cpA o d (6, n), cpC ids o tE d w σ' (6, n)) H1 := by
  subst e
  rw [cpC_6, cpA_6, ← cellE_eq]
  exact h1.1
theorem CPic.join2 {n i : Nat} (h1 : XBP G ids (o + 9 + 7 * i) i σ' H1) (e : n = i) : va_at G vwCl (cpA o d (7, n), cpC ids o tE d w σ' (7, n)) H1 := by
  subst e
  rw [cpC_7, cpA_7, ← rowE_eq]
  exact h1.2.1
theorem CPic.join3 {n i : Nat} (h1 : XBP G ids (o + 9 + 7 * i) i σ' H1) (e : n / 5 = i) : va_at G vwCl (cpA o d (8, n), cpC ids o tE d w σ' (8, n)) H1 := by
  have h := h1.2.2 (n % 5) (by omega)
  have e2 : 5 * i + n % 5 = n := by omega
  rw [e2, XLP_eq] at h
  rw [cpC_8, cpA_8, e]
  exact h
theorem CPic.join (hP : CPic G ids o z tE d w σ H) {i : Nat} (hi : i < 25) (h1 : XBP G ids (o + 9 + 7 * i) i σ' H1) (hk : ∀ q : Nat, q < H.size → ¬ bA (o + 9 + 7 * i) q → H1[q]? = H[q]?) (hs : ∀ x y, ¬ cpR i x y → σ'.1 x y = σ.1 x y) (hl : σ'.2 = σ.2) : CPic G ids o z tE d w σ' H1 := by
  have hf : ∀ x, ¬ (2 ≤ x ∧ x ≤ 6 ∨ x = 36) → ¬ (8 ≤ x ∧ x ≤ 11) → σ'.1 x = σ.1 x := fun x g1 g2 => funext fun y => hs x y (fun q => q.elim (fun q => g1 q.1) (fun q => g2 ⟨q.1, q.2.1⟩))
  have hF : ∀ L, σ'.1 (cpF L) = σ.1 (cpF L) := fun L => by
    rcases cpF_3 L with e | e | e <;> rw [e, hf _ (by decide) (by decide)]
  have hN : ∀ L, cpN σ' L = cpN σ L := fun L => by
    unfold cpN
    rw [hF]
  refine ⟨fun x hx => ?_, fun x hx h5 => hP.2.1 x ((cpU_same hN x).mp hx) h5, fun x y hx hy => hP.2.2.1 x y ((cpU_same hN x).mp hx) ((cpU_same hN y).mp hy), hP.2.2.2.1, fun L hL => by rw [hN]; exact hP.2.2.2.2 L hL⟩
  have hx' := (cpU_same hN x).mp hx
  have h9 := cpU_lt hx
  have hat := hP.1 x hx'
  have hlt := hP.lt hx'
  have hz := hP.2.1 x hx'
  have ho := hP.2.2.2.1
  have hq : ¬ bA (o + 9 + 7 * i) (cpA o d x) → H1[cpA o d x]? = H[cpA o d x]? := fun q => hk _ hlt q
  unfold bA at hq
  obtain ⟨k, n⟩ := x
  simp only at h9
  rcases (show k < 5 ∨ k = 5 ∨ k = 6 ∨ k = 7 ∨ k = 8 by omega) with h | rfl | rfl | rfl | rfl
  · have hz := hz h
    rw [cpC_4 hf hN h]
    exact hat.kept (hq (by omega))
  · have hn : n < 9 := hx'
    rw [cpC_5 hf hN hF hl hn]
    exact hat.kept (hq (by rw [cpA_5]; omega))
  · by_cases e : n = i
    · exact CPic.join1 h1 e
    · rw [cpC_6s (fun x hx => hs x n (by unfold cpR; omega))]
      exact hat.kept (hq (by rw [cpA_6]; omega))
  · by_cases e : n = i
    · exact CPic.join2 h1 e
    · have q : cpC ids o tE d w σ' (7, n) = cpC ids o tE d w σ (7, n) := by rw [cpC_7, cpC_7]
      rw [q]
      exact hat.kept (hq (by rw [cpA_7]; omega))
  · by_cases e : n / 5 = i
    · exact CPic.join3 h1 e
    · rw [cpC_8s (fun x h8 h11 => hs x n (by unfold cpR; omega))]
      have hn : n < 125 := hx'
      exact hat.kept (hq (by rw [cpA_8]; omega))
end CPS
