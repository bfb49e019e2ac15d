/-! the relation that holds between the two sides; the calls that only ask -/
def BL (T C : Int) (σ : Sg) : Prop := ∀ j, j < 125 → (0 ≤ (σ.1 8 j).toInt ∧ (σ.1 8 j).toInt ≤ 9) ∧ (0 ≤ (σ.1 9 j).toInt ∧ (σ.1 9 j).toInt ≤ 9) ∧ (-5099 ≤ (σ.1 10 j).toInt ∧ (σ.1 10 j).toInt ≤ 1000 * ((σ.1 8 j).toInt + (σ.1 9 j).toInt) + 100 * T + 99) ∧ 0 ≤ (σ.1 11 j).toInt ∧ (σ.1 11 j).toInt ≤ C
def sw (σ : Sg) : Nat → Int
  | 0 => 0
  | n + 1 => sw σ n + (σ.1 3 n).toInt
def BW (N : Int) (σ : Sg) : Prop := (∀ c, c < 25 → 0 ≤ (σ.1 3 c).toInt) ∧ sw σ 25 ≤ N
def mon (σ : Sg) : Nat := (σ.1 1 0).toNatClampNeg
def RD (σ μ : Sg) : Prop := ∀ b, b < cpN σ 1 → (vp_in (σ.1 22 b) 601 ∧ (σ.1 22 b).toNatClampNeg ≤ mon σ ∧ σ.1 35 b = nI (mon σ - (σ.1 22 b).toNatClampNeg)) ∧ ∀ m l, (σ.1 22 b).toNatClampNeg ≤ m → m < mon σ → l < 5 → σ.1 (40 + b) (5 * (m - (σ.1 22 b).toNatClampNeg) + l) = μ.1 23 (3000 * b + 5 * m + l)
def HS (σ : Sg) : Prop := (∀ c, c < 25 → (σ.1 36 c = -1 ∧ ∀ h, h < cpN σ 0 → σ.1 14 h ≠ nI c) ∨ ∃ h, h < cpN σ 0 ∧ σ.1 36 c = nI h ∧ σ.1 14 h = nI c) ∧ ∀ h h', h < cpN σ 0 → h' < cpN σ 0 → σ.1 14 h = σ.1 14 h' → h = h'
def CM (σ : Sg) : Prop := cCl σ ∧ ∀ k, k < cpN σ 2 → (σ.1 39 k).toNatClampNeg ≤ mon σ ∧ σ.1 25 k = k_claimAmount σ (σ.1 37 k).toNatClampNeg (σ.1 38 k) (σ.1 39 k)
def TZ (σ μ : Sg) : Prop := ∀ h, cpN σ 0 ≤ h → h < 10 → μ.1 17 h = 0
def AGn (σ μ : Sg) : Prop := AG (cpN σ 0) (cpN σ 1) (cpN σ 2) σ μ
def Rel (σ μ : Sg) : Prop := AGn σ μ ∧ mOK μ ∧ BL (300 + 31 * (mon σ : Int)) (1000 + 3 * (mon σ : Int)) σ ∧ BW (1125 * (mon σ : Int)) σ ∧ RD σ μ ∧ HS σ ∧ CM σ ∧ TZ σ μ
def FF (τ σ : Sg) : Prop := ∀ k, (k = 1 ∨ 13 ≤ k ∧ k ≠ 32 ∧ k ≠ 33) → τ.1 k = σ.1 k
theorem FF.n {τ σ : Sg} (F : FF τ σ) (L : Nat) : cpN τ L = cpN σ L := by
  unfold cpN
  rcases cpF_3 L with q | q | q <;> rw [q, F _ (by omega)]
theorem FF.m {τ σ : Sg} (F : FF τ σ) : mon τ = mon σ := by
  unfold mon
  rw [F 1 (by omega)]
theorem FF.was {τ σ : Sg} (F : FF τ σ) : k_wasReadThawed_b2 τ = k_wasReadThawed_b2 σ := by
  funext h mo i
  unfold k_wasReadThawed_b2 h_hasRead h_hasRead_j26 h_readingAt h_readingAt_j34
  rw [F 20 (by omega), F 14 (by omega), F 22 (by omega), F 35 (by omega), F 15 (by omega), F (40 + i) (by omega)]
theorem FF.amt {τ σ : Sg} (F : FF τ σ) (h : Nat) (t u : Int32) : k_claimAmount τ h t u = k_claimAmount σ h t u := by
  have e : k_monthsReadThawed_b8 τ = k_monthsReadThawed_b8 σ := by
    funext h i z
    unfold k_monthsReadThawed_b8 k_monthsReadThawed_j27 k_wasReadThawed
    rw [F.was, F 18 (by omega), F 19 (by omega)]
  unfold k_claimAmount k_monthsReadThawed k_monthsReadThawed_x8
  rw [e, F 18 (by omega)]
theorem BL_of {T C : Int} {τ σ : Sg} (h : ∀ k, 8 ≤ k → k ≤ 11 → ∀ j, j < 125 → τ.1 k j = σ.1 k j) (hB : BL T C σ) : BL T C τ := fun j hj => by
  rw [h 8 (by omega) (by omega) j hj, h 9 (by omega) (by omega) j hj, h 10 (by omega) (by omega) j hj, h 11 (by omega) (by omega) j hj]
  exact hB j hj
theorem sw_of {τ σ : Sg} (n : Nat) (h : ∀ c, c < n → τ.1 3 c = σ.1 3 c) : sw τ n = sw σ n := by
  induction n with
  | zero => rfl
  | succ n ih =>
    show sw τ n + (τ.1 3 n).toInt = sw σ n + (σ.1 3 n).toInt
    rw [ih (fun c hc => h c (by omega)), h n (by omega)]
theorem BW_of {N : Int} {τ σ : Sg} (h : ∀ c, c < 25 → τ.1 3 c = σ.1 3 c) (hB : BW N σ) : BW N τ :=
  ⟨fun c hc => by rw [h c hc]; exact hB.1 c hc, by rw [sw_of 25 h]; exact hB.2⟩
theorem RD_of {τ ν σ μ : Sg} (F : FF τ σ) (G : FF ν μ) (h : RD σ μ) : RD τ ν := fun b hb => by
  rw [F.n] at hb
  obtain ⟨h1, h2⟩ := h b hb
  rw [F 22 (by omega), F 35 (by omega), F (40 + b) (by omega), F.m, G 23 (by omega)]
  exact ⟨h1, h2⟩
theorem HS_of {τ σ : Sg} (F : FF τ σ) (h : HS σ) : HS τ := by
  unfold HS
  rw [F.n, F 36 (by omega), F 14 (by omega)]
  exact h
theorem CM_of {τ σ : Sg} (F : FF τ σ) (h : CM σ) : CM τ := by
  refine ⟨?_, fun k hk => ?_⟩
  · unfold cCl
    rw [F.n, F.n, F 37 (by omega), F 39 (by omega), F 18 (by omega)]
    exact h.1
  · rw [F.n] at hk
    rw [F.amt, F.m, F 39 (by omega), F 25 (by omega), F 37 (by omega), F 38 (by omega)]
    exact h.2 k hk
theorem TZ_of {τ ν σ μ : Sg} (F : FF τ σ) (G : FF ν μ) (h : TZ σ μ) : TZ τ ν := fun x hx h10 => by
  rw [F.n] at hx
  rw [G 17 (by omega)]
  exact h x hx h10
theorem mOK_of {ν μ : Sg} (G : FF ν μ) (h : mOK μ) (hc : ∀ c, c < 25 → vp_in (ν.1 4 c) 10 ∧ vp_in (ν.1 5 c) 4) : mOK ν := by
  unfold mOK at h ⊢
  rw [G 13 (by omega), G 19 (by omega), G 24 (by omega), G 1 (by omega), G 14 (by omega), G 15 (by omega), G 18 (by omega), G 20 (by omega)]
  exact ⟨h.1, h.2.1, h.2.2.1, h.2.2.2.1, h.2.2.2.2.1, h.2.2.2.2.2.1, hc⟩
/-- a call that changes the land alone -/
theorem Rel_land {σ μ τ ν : Sg} (h : Rel σ μ) (F : FF τ σ) (G : FF ν μ) (ha : AGn σ μ → AG (cpN σ 0) (cpN σ 1) (cpN σ 2) τ ν) (hc : ∀ c, c < 25 → vp_in (ν.1 4 c) 10 ∧ vp_in (ν.1 5 c) 4) (hL : BL (300 + 31 * (mon σ : Int)) (1000 + 3 * (mon σ : Int)) τ) (hW : BW (1125 * (mon σ : Int)) τ) : Rel τ ν := by
  obtain ⟨h1, h2, h3, h4, h5, h6, h7⟩ := h
  refine ⟨?_, mOK_of G h2 hc, by rw [F.m]; exact hL, by rw [F.m]; exact hW, RD_of F G h5, HS_of F h6, CM_of F h7.1, TZ_of F G h7.2⟩
  unfold AGn
  rw [F.n, F.n, F.n]
  exact ha h1
theorem FF.si {τ σ : Sg} (F : FF τ σ) {k j : Nat} {v : Int32} (hk : k ≠ 1 ∧ k < 13 ∨ k = 32 ∨ k = 33) : FF (si τ k j v) σ := fun k' h' => by
  rw [si_ne (by omega)]
  exact F k' h'
theorem FF.sl {τ σ : Sg} (F : FF τ σ) {k : Nat} {v : Int64} : FF (sl τ k v) σ := F
theorem FF.rf {σ : Sg} : FF σ σ := fun _ _ => rfl
theorem Rel.snow {σ μ : Sg} (h : Rel σ μ) : ∀ c, c < 25 → vp_in (μ.1 4 c) 10 ∧ vp_in (μ.1 5 c) 4 := h.2.1.2.2.2.2.2.2
theorem Rel_0 {σ μ : Sg} (w : Int32) (h : Rel σ μ) : Rel σ (si μ 0 0 w) := by
  refine Rel_land h FF.rf (FF.rf.si (by omega)) (fun h1 => AG.wrR h1 w (by unfold vis; omega)) (fun c hc => ?_) h.2.2.1 h.2.2.2.1
  rw [si_ne (by decide), si_ne (by decide)]
  exact h.snow c hc
theorem n0t : (nI 0 = 0) = True := eq_true n0_eq
theorem n1f : (nI 1 = 0) = False := eq_false n1_ne
theorem n2f : (nI 2 = 0) = False := eq_false n2_ne
theorem n3f : (nI 3 = 0) = False := eq_false n3_ne
theorem ref_s {μ : Sg} {w : Int32} : m_refused_s μ w = si μ 0 0 w := rfl
theorem ref_v {μ : Sg} {w : Int32} : m_refused μ w = if w = 0 then nI 0 else nI 1 := rfl
theorem ite_2 {α : Type} {P : Prop} [Decidable P] {x : α} : (if P then x else x) = x := by split <;> rfl
theorem AGn.n0 {σ μ : Sg} (h : AGn σ μ) : cpN σ 0 = (μ.1 13 0).toNatClampNeg := congrArg Int32.toNatClampNeg (h.cnt (k := 13) (by omega))
theorem AGn.n1 {σ μ : Sg} (h : AGn σ μ) : cpN σ 1 = (μ.1 19 0).toNatClampNeg := congrArg Int32.toNatClampNeg (h.cnt (k := 19) (by omega))
theorem AGn.n2 {σ μ : Sg} (h : AGn σ μ) : cpN σ 2 = (μ.1 24 0).toNatClampNeg := congrArg Int32.toNatClampNeg (h.cnt (k := 24) (by omega))
theorem Rel_c {σ μ : Sg} (h : Rel σ μ) : cOK σ := by
  obtain ⟨h1, h2, -⟩ := h
  have e0 := h1.n0
  have e1 := h1.n1
  have q := cOK_m h2
  unfold cOK at q ⊢
  rw [h1.cnt (k := 13) (by omega), h1.cnt (k := 19) (by omega), h1.cnt (k := 24) (by omega), h1.cnt (k := 1) (by omega)]
  refine ⟨q.1, q.2.1, q.2.2.1, q.2.2.2.1, fun h hh => ?_, fun b hb => ?_⟩
  · rw [h1.hou (k := 14) (by omega) (by omega), h1.hou (k := 15) (by omega) (by omega), h1.hou (k := 18) (by omega) (by omega)]
    exact q.2.2.2.2.1 h hh
  · rw [h1.hol (k := 20) (by omega) (by omega)]
    exact q.2.2.2.2.2 b hb
theorem q_ok : lp_ok Rel := fun σ μ h => by
  refine ⟨Rel_c h, fun b hb => (h.2.2.2.2.1 b hb).1, h.2.2.2.2.2.2.1.1, h.2.1, fun j hj => ?_⟩
  have e1 := h.1.n1
  rw [← h.1.hol (k := 22) (by omega) (by omega)]
  exact (h.2.2.2.2.1 j (by omega)).1.1
theorem q_month : lp_month Rel := fun σ μ h => ⟨Rel_0 _ h, by
  show σ.1 1 0 = (si μ 0 0 (nI 0)).1 1 0
  rw [si_ne (by decide)]
  exact h.1.cnt (by omega)⟩
theorem xs_0 {b : Nat} : xs 0 b = b := rfl
theorem xs_1 {b : Nat} : xs 1 b = 1 := rfl
theorem xs_2 {b : Nat} : xs 2 b = 2 := rfl
theorem xs_3 {b : Nat} : xs 3 b = 3 := rfl
theorem lC_a0 {a : Nat} {S : List Nat} : lC (a :: S) 0 = 0 := rfl
theorem lC_11 {S : List Nat} : lC (1 :: S) 1 = 1 := rfl
theorem lC_12 : lC [1, 2] 2 = 2 := rfl
theorem lC_123 : lC [1, 2, 3] 2 = 2 := rfl
theorem lC_1233 : lC [1, 2, 3] 3 = 3 := rfl
theorem lC_13 : lC [1, 3] 3 = 2 := rfl
theorem lC_232 : lC [2, 3] 2 = 1 := rfl
theorem lC_233 : lC [2, 3] 3 = 2 := rfl
theorem lC_2 : lC [2] 2 = 1 := rfl
theorem ne10 : ¬ (1 : Nat) = 0 := by decide
theorem ne20 : ¬ (2 : Nat) = 0 := by decide
theorem ne30 : ¬ (3 : Nat) = 0 := by decide
theorem q_air : lp_air Rel := fun σ μ gas h => by
  rcases wi_rg gas (nI 0) (nI 1) with ⟨a1, b1⟩ | ⟨a1, b1, c1⟩
  · have ex : kx_air σ gas = 2 := by simp only [kx_air, b1, xs_2]
    have es : m_air_s μ gas = si μ 0 0 (nI 1) := by simp only [m_air_j40, m_air_j40_s, m_air_k18, m_air_k18_s, m_air_j15, m_air_j15_s, m_air, m_air_s, a1, n0t, if_true, ref_s]
    rw [ex, es, ite_2]
    exact ⟨Rel_0 _ h, si_eq, fun q => absurd q ne20⟩
  · have ex : kx_air σ gas = 0 := by simp only [kx_air, b1, xs_0]
    have es : m_air_s μ gas = si μ 0 0 (nI 0) := by simp only [m_air_j40, m_air_j40_s, m_air_k18, m_air_k18_s, m_air_j15, m_air_j15_s, m_air, m_air_s, a1, n1f, if_false, ref_s]
    have ev : m_air μ gas = if gas = 0 then μ.2 30 else μ.2 31 := by simp only [m_air_j40, m_air_j40_s, m_air_k18, m_air_k18_s, m_air_j15, m_air_j15_s, m_air, m_air_s, a1, n1f, if_false, ref_s, ref_v, n0t, if_true]; rfl
    rw [ex, es, ev, ite_2]
    refine ⟨Rel_0 _ h, si_eq, fun _ => ?_⟩
    have hg : vp_in gas 2 := vp_in_iff.mpr ⟨by have q := c1.1; rw [nI_toInt (by decide)] at q; omega, by have q := c1.2; rw [nI_toInt (by decide)] at q; omega⟩
    have hs := vp_self hg
    have hl := vp_lt hg
    unfold k_air
    rcases (show gas.toNatClampNeg = 0 ∨ gas.toNatClampNeg = 1 by omega) with q | q
    · rw [q] at hs
      rw [q, if_pos (hs.trans n0_eq)]
      exact h.1.2 30 (by omega) (by omega)
    · rw [q] at hs
      rw [q, if_neg (by rw [hs]; exact n1_ne)]
      exact h.1.2 31 (by omega) (by omega)
theorem q_moss : lp_moss Rel := fun σ μ cell mo h => by
  rcases wi_ix 24 (by decide) cell with ⟨a1, b1⟩ | ⟨a1, b1, c1⟩
  · have ex : kx_moss σ cell mo = 1 := by simp only [kx_moss, b1, xs_1]
    have es : m_moss_s μ cell mo = si μ 0 0 (nI 1) := by simp only [m_moss_k48, m_moss_k48_s, m_moss_k29, m_moss_k29_s, m_moss_j26, m_moss_j26_s, m_moss, m_moss_s, m_isCell, a1, n0t, if_true, ref_s, ref_v, n1f, if_false]
    rw [ex, es, if_neg ne10]
    exact ⟨Rel_0 _ h, si_eq, fun q => absurd q ne10⟩
  · rcases wi_rg mo (nI 0) (nI 3) with ⟨a2, b2⟩ | ⟨a2, b2, c2⟩
    · have ex : kx_moss σ cell mo = 2 := by simp only [kx_moss, b1, b2, xs_0, xs_2]
      have es : m_moss_s μ cell mo = si μ 0 0 (nI 2) := by simp only [m_moss_k48, m_moss_k48_s, m_moss_k29, m_moss_k29_s, m_moss_j26, m_moss_j26_s, m_moss, m_moss_s, m_isCell, a1, a2, n0t, if_true, ref_s, ref_v, n1f, n2f, if_false]
      rw [ex, es, if_neg ne20]
      exact ⟨Rel_0 _ h, si_eq, fun q => absurd q ne20⟩
    · have ex : kx_moss σ cell mo = 0 := by simp only [kx_moss, b1, b2, xs_0]
      have es : m_moss_s μ cell mo = si (si μ 0 0 (nI 0)) 5 cell.toNatClampNeg mo := by simp only [m_moss_k48, m_moss_k48_s, m_moss_k29, m_moss_k29_s, m_moss_j26, m_moss_j26_s, m_moss, m_moss_s, m_isCell, a1, a2, ref_s, ref_v, n1f, if_false, n0t, if_true]
      have ev : m_moss μ cell mo = μ.1 5 cell.toNatClampNeg := by
        simp only [m_moss_k48, m_moss_k48_s, m_moss_k29, m_moss_k29_s, m_moss_j26, m_moss_j26_s, m_moss, m_moss_s, m_isCell, a1, a2, ref_s, ref_v, n1f, if_false, n0t, if_true]
        rw [si_ne (by decide)]
      have hl := vp_lt c1
      rw [ex, es, ev, if_pos rfl]
      refine ⟨?_, ?_, fun _ => h.1.cell (by omega) hl⟩
      · show Rel (si σ 5 cell.toNatClampNeg mo) _
        have hm : vp_in mo 4 := vp_in_iff.mpr ⟨by have q := c2.1; rw [nI_toInt (by decide)] at q; omega, by have q := c2.2; rw [nI_toInt (by decide)] at q; omega⟩
        refine Rel_land (Rel_0 (nI 0) h) (FF.rf.si (by omega)) (FF.rf.si (by omega)) (fun h1 => h1.wr 5 _ rfl) (fun c hc => ?_) (BL_of (fun k h8 h11 j hj => by rw [si_ne (by omega)]) h.2.2.1) (BW_of (fun c hc => by rw [si_ne (by decide)]) h.2.2.2.1)
        refine ⟨by rw [si_ne (by decide)]; exact ((Rel_0 (nI 0) h).snow c hc).1, ?_⟩
        rw [si_at]
        by_cases q : c = cell.toNatClampNeg
        · rw [if_pos ⟨rfl, q⟩]; exact hm
        · rw [if_neg (fun z => q z.2)]; exact ((Rel_0 (nI 0) h).snow c hc).2
      · rw [si_ne (by decide)]
        exact si_eq
