/-! what the law holds of what is asked -/
theorem land_c {σ : Sg} {kind : Int32} {f : Nat → Int} {P : Nat → Int} (hf : ∀ j, j < 125 → (l_amount σ j kind).toInt = f j) (h0 : P 0 = 0) (hp : ∀ c, c < 25 → (if kind = 0 then ((nI (1000)) * ((σ.1 3 c))).toInt64 else (if kind = nI (1) then ((σ.1 3 c)).toInt64 else (0 : Int64))) = Int64.ofInt (P (c + 1) - P c)) : ∀ n, n ≤ 25 → lp (k_amountInLand_b5 σ kind) n (0 : Int64) = Int64.ofInt (isum f (5 * n) + P n) := fun n => by
  induction n with
  | zero =>
    intro _
    show (0 : Int64) = Int64.ofInt (0 + P 0)
    rw [h0]
    rfl
  | succ n ih =>
    intro hn
    have inner : ∀ m, m ≤ 5 → ∀ y : Int64, lp (c_amount_b33 σ n kind) m y = y + Int64.ofInt (isum f (5 * n + m) - isum f (5 * n)) := fun m => by
      induction m with
      | zero =>
        intro _ y
        show y = y + Int64.ofInt (isum f (5 * n) - isum f (5 * n))
        rw [Int.sub_self]
        exact oi_z rfl
      | succ m im =>
        intro hm y
        have e : lp (c_amount_b33 σ n kind) (m + 1) y = lp (c_amount_b33 σ n kind) m y + (l_amount σ (5 * n + m) kind).toInt64 := rfl
        have e2 : isum f (5 * n + (m + 1)) = isum f (5 * n + m) + f (5 * n + m) := rfl
        rw [e, im (by omega), oi_32, hf _ (by omega), e2, Int64.add_assoc, oi_add]
        exact congrArg (fun x => y + Int64.ofInt x) (by omega)
    have e : lp (k_amountInLand_b5 σ kind) (n + 1) (0 : Int64) = lp (k_amountInLand_b5 σ kind) n (0 : Int64) + c_amount σ n kind := rfl
    have e2 : c_amount σ n kind = lp (c_amount_b33 σ n kind) 5 (if kind = 0 then ((nI (1000)) * ((σ.1 3 n))).toInt64 else (if kind = nI (1) then ((σ.1 3 n)).toInt64 else (0 : Int64))) := rfl
    rw [e, ih (by omega), e2, inner 5 (Nat.le_refl _), hp n (by omega), oi_add, oi_add]
    exact congrArg Int64.ofInt (by rw [show 5 * (n + 1) = 5 * n + 5 by omega]; omega)
theorem land_e (σ : Sg) (kind : Int32) (n : Nat) (hn : n = 25) : k_amountInLand σ kind = lp (k_amountInLand_b5 σ kind) n (0 : Int64) := by
  have e : k_amountInLand σ kind = k_amountInLand_x5 σ kind (lp (k_amountInLand_b5 σ kind) n (0 : Int64)) := by
    subst hn
    rfl
  rw [e]
  unfold k_amountInLand_x5
  rfl
theorem IV.bl {σ : Sg} (h : IV σ) : ∀ j, j < 125 → (0 ≤ (σ.1 8 j).toInt ∧ (σ.1 8 j).toInt ≤ 9) ∧ (0 ≤ (σ.1 9 j).toInt ∧ (σ.1 9 j).toInt ≤ 9) ∧ (-5099 ≤ (σ.1 10 j).toInt ∧ (σ.1 10 j).toInt ≤ 3000000) ∧ 0 ≤ (σ.1 11 j).toInt ∧ (σ.1 11 j).toInt ≤ 3000 := fun j hj => by
  have hm := h.mo.2
  obtain ⟨μ, hR⟩ := h.1
  obtain ⟨a, b, c, d⟩ := hR.2.2.1 j hj
  exact ⟨a, b, ⟨c.1, by omega⟩, d.1, by omega⟩
theorem IV.bw {σ : Sg} (h : IV σ) : ∀ c, c < 25 → 0 ≤ (σ.1 3 c).toInt ∧ (σ.1 3 c).toInt ≤ 675000 := fun c hc => by
  have hm := h.mo.2
  obtain ⟨μ, hR⟩ := h.1
  have q := hR.2.2.2.1.one hc
  exact ⟨q.1, by omega⟩
theorem IV.sm {σ : Sg} (h : IV σ) {c : Nat} (hc : c < 25) : (0 ≤ (σ.1 4 c).toInt ∧ (σ.1 4 c).toInt ≤ 9) ∧ 0 ≤ (σ.1 5 c).toInt ∧ (σ.1 5 c).toInt ≤ 3 := by
  obtain ⟨μ, hR⟩ := h.1
  rw [hR.1.cell (k := 4) (by omega) hc, hR.1.cell (k := 5) (by omega) hc]
  have q1 := vp_in_iff.mp (hR.snow c hc).1
  have q2 := vp_in_iff.mp (hR.snow c hc).2
  exact ⟨⟨by omega, by omega⟩, by omega, by omega⟩
/-- what is in the land -/
theorem land_0 {σ : Sg} (h : IV σ) : k_amountInLand σ (nI 0) = Int64.ofInt (HE σ) := by
  rw [land_e σ (nI 0) 25 rfl, land_c (f := fun j => (σ.1 10 j).toInt) (P := fun n => 1000 * sw σ n) (fun j _ => by
    unfold l_amount
    rw [if_pos n0_eq]) rfl (fun c hc => by
    have q := h.bw c hc
    rw [if_pos n0_eq, oi_32, i_mul (by rw [k_1000]; omega) (by rw [k_1000]; omega), k_1000]
    exact congrArg Int64.ofInt (by show _ = 1000 * (sw σ c + (σ.1 3 c).toInt) - 1000 * sw σ c; omega)) 25 (Nat.le_refl _)]
  rfl
theorem land_1 {σ : Sg} (h : IV σ) : k_amountInLand σ (nI 1) = Int64.ofInt (WA σ) := by
  rw [land_e σ (nI 1) 25 rfl, land_c (f := fun j => (σ.1 8 j).toInt + (σ.1 9 j).toInt) (P := fun n => sw σ n) (fun j hj => by
    have q := h.bl j hj
    unfold l_amount l_amount_j25 l_units
    rw [if_neg n1_ne, if_pos rfl, i_add (by omega) (by omega)]) rfl (fun c hc => by
    rw [if_neg n1_ne, if_pos rfl, oi_32]
    exact congrArg Int64.ofInt (by show _ = (sw σ c + (σ.1 3 c).toInt) - sw σ c; omega)) 25 (Nat.le_refl _)]
  rfl
theorem land_2 {σ : Sg} : k_amountInLand σ (nI 2) = Int64.ofInt (CA σ) := by
  have n21 : ¬ nI 2 = nI 1 := by decide
  rw [land_e σ (nI 2) 25 rfl, land_c (f := fun j => (σ.1 11 j).toInt) (P := fun _ => 0) (fun j _ => by
    unfold l_amount l_amount_j25
    rw [if_neg n2_ne, if_neg n21]) rfl (fun c hc => by
    rw [if_neg n2_ne, if_neg n21]
    rfl) 25 (Nat.le_refl _)]
  exact congrArg Int64.ofInt (Int.add_zero _)
def bL (σ : Sg) (k : Nat) : Int64 := if k = 0 then Int64.ofInt (HE σ) else if k = 1 then Int64.ofInt (WA σ) else Int64.ofInt (CA σ)
def bG (σ : Sg) (k : Nat) : Int64 := if k = 0 then (1000 : Int64) * σ.2 29 else if k = 1 then σ.2 29 else σ.2 30 + σ.2 31
theorem bL_eq {σ : Sg} (h : IV σ) {k : Nat} (hk : k < 3) : k_amountInLand σ (nI k) = bL σ k := by
  rcases (show k = 0 ∨ k = 1 ∨ k = 2 by omega) with rfl | rfl | rfl
  · exact land_0 h
  · exact land_1 h
  · exact land_2
theorem bG_eq {σ : Sg} {k : Nat} (hk : k < 3) : k_amountLeft σ (nI k) = bG σ k := by
  have n21 : ¬ nI 2 = nI 1 := by decide
  unfold k_amountLeft k_amountLeft_j38
  rcases (show k = 0 ∨ k = 1 ∨ k = 2 by omega) with rfl | rfl | rfl
  · rw [if_pos n0_eq]; rfl
  · rw [if_neg n1_ne, if_pos rfl]; rfl
  · rw [if_neg n2_ne, if_neg n21]; rfl
theorem bal_eq {σ : Sg} (h : IV σ) {k : Nat} (hk : k < 3) : σ.2 (26 + k) = bL σ k + bG σ k := by
  obtain ⟨-, ⟨D, S, M, ⟨v29, v30, v31, v26, v27, v28⟩, -⟩, -⟩ := h
  have o1 : (1000 : Int64) = Int64.ofInt 1000 := rfl
  unfold bL bG
  rcases (show k = 0 ∨ k = 1 ∨ k = 2 by omega) with rfl | rfl | rfl
  · rw [if_pos rfl, if_pos rfl, v29, o1, ← Int64.ofInt_mul, oi_add]
    exact v26
  · rw [if_neg (by decide), if_pos rfl, if_neg (by decide), if_pos rfl, v29, oi_add]
    exact v27
  · rw [if_neg (by decide), if_neg (by decide), if_neg (by decide), if_neg (by decide), v30, v31, oi_add, oi_add, ← Int.add_assoc]
    exact v28
theorem HE_vs {σ τ : Sg} (v : VS σ τ) (k : Nat) : bL τ k = bL σ k ∧ bG τ k = bG σ k := by
  have e3 : sw τ 25 = sw σ 25 := sw_of 25 (fun c _ => by rw [v.1 3 (by decide) (by decide)])
  unfold bL bG
  rw [v.2, HE_of (fun j _ => by rw [v.1 10 (by decide) (by decide)]) e3, WA_of (fun j _ => by rw [v.1 8 (by decide) (by decide)]) (fun j _ => by rw [v.1 9 (by decide) (by decide)]) e3, CA_of (τ := τ) (σ := σ) (fun j _ => by rw [v.1 11 (by decide) (by decide)])]
  exact ⟨Eq.refl _, Eq.refl _⟩
theorem kb_0 {σ : Sg} (h : IV σ) {k : Nat} (hk : k < 3) : k_balance σ (nI k) (nI 0) = bL σ k := by
  rw [← bL_eq h hk]
  unfold k_balance
  rw [if_pos rfl]
theorem kb_1 {σ : Sg} {k : Nat} (hk : k < 3) : k_balance σ (nI k) (nI 1) = σ.2 (26 + k) := by
  unfold k_balance
  rw [if_neg (by decide), if_pos rfl, nI_clamp (by omega)]
theorem kb_2 {σ : Sg} {k : Nat} (hk : k < 3) : k_balance σ (nI k) (nI 2) = bG σ k := by
  rw [← bG_eq hk]
  unfold k_balance
  rw [if_neg (by decide), if_neg (by decide), if_pos rfl]
theorem kb_3 {σ : Sg} (h : IV σ) {k : Nat} (hk : k < 3) : k_balance σ (nI k) (nI 3) = 0 := by
  unfold k_balance
  rw [if_neg (by decide), if_neg (by decide), if_neg (by decide), nI_clamp (by omega), bL_eq h hk, bG_eq hk, bal_eq h hk]
  grind
theorem air_0 {σ : Sg} (h : IV σ) : 0 ≤ (σ.2 31).toInt := by
  have hm := h.mo.2
  obtain ⟨-, ⟨D, S, M, hv, h1, h2⟩, -⟩ := h
  rw [hv.2.2.1, Int64.toInt_ofInt_of_le (by omega) (by omega)]
  exact h1
section RDB
variable {l : Launch} {G : va_G} {ids : Nat → ClassId} {tS tE o z : Nat} {σ : Sg}
theorem kb_x {τ : Sg} {k w : Nat} (hk : k < 3) (hw : w < 4) : kx_balance τ (nI k) (nI w) = 0 := by simp only [kx_balance, rg_n (v := k) (a := 0) (b := 2) (by omega) (by omega) (by decide), rg_n (v := w) (a := 0) (b := 3) (by omega) (by omega) (by decide), xs_0]
theorem rdb0 (hl0 : l.stackTraces = false) (h : IV σ) {k : Nat} (hk : k < 3) : RQ l yL_balance wsL_balance ({ frames := 8, cells := 2, slots := 12, locals := 144 } : Room) G ids tS tE o z [.ref (o), .int (nI k), .int (nI 0)] σ (bL σ k) 2 12 :=
  RQ.yes (fun τ _ => lc_balance l hl0 G ids tS tE o z τ (nI k) (nI 0)) (fun τ _ => kb_x hk (by decide)) (fun τ v => by rw [kb_0 (v.iv h) hk, (HE_vs v k).1]) (fun τ _ => VS.rf)
theorem rdb1 (hl0 : l.stackTraces = false) (h : IV σ) {k : Nat} (hk : k < 3) : RQ l yL_balance wsL_balance ({ frames := 8, cells := 2, slots := 12, locals := 144 } : Room) G ids tS tE o z [.ref (o), .int (nI k), .int (nI 1)] σ (σ.2 (26 + k)) 2 12 :=
  RQ.yes (fun τ _ => lc_balance l hl0 G ids tS tE o z τ (nI k) (nI 1)) (fun τ _ => kb_x hk (by decide)) (fun τ v => by rw [kb_1 hk, v.2]) (fun τ _ => VS.rf)
theorem rdb2 (hl0 : l.stackTraces = false) (h : IV σ) {k : Nat} (hk : k < 3) : RQ l yL_balance wsL_balance ({ frames := 8, cells := 2, slots := 12, locals := 144 } : Room) G ids tS tE o z [.ref (o), .int (nI k), .int (nI 2)] σ (bG σ k) 2 12 :=
  RQ.yes (fun τ _ => lc_balance l hl0 G ids tS tE o z τ (nI k) (nI 2)) (fun τ _ => kb_x hk (by decide)) (fun τ v => by rw [kb_2 hk, (HE_vs v k).2]) (fun τ _ => VS.rf)
theorem rdb3 (hl0 : l.stackTraces = false) (h : IV σ) {k : Nat} (hk : k < 3) : RQ l yL_balance wsL_balance ({ frames := 8, cells := 2, slots := 12, locals := 144 } : Room) G ids tS tE o z [.ref (o), .int (nI k), .int (nI 3)] σ (0 : Int64) 2 12 :=
  RQ.yes (fun τ _ => lc_balance l hl0 G ids tS tE o z τ (nI k) (nI 3)) (fun τ _ => kb_x hk (by decide)) (fun τ v => by exact kb_3 (v.iv h) hk) (fun τ _ => VS.rf)
end RDB
