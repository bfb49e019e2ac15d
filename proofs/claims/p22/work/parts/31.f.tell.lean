/-! what the law tells the object: what it does to what balances -/
def SM (τ σ : Sg) : Prop := mon τ = mon σ ∧ (∀ L, cpN τ L = cpN σ L) ∧ τ.1 22 = σ.1 22
theorem SM.of {τ σ : Sg} (h : ∀ k, (k = 1 ∨ k = 13 ∨ k = 19 ∨ k = 22 ∨ k = 24) → τ.1 k = σ.1 k) : SM τ σ := by
  refine ⟨?_, fun L => ?_, h 22 (by omega)⟩
  · unfold mon
    rw [h 1 (by omega)]
  · unfold cpN
    rcases cpF_3 L with q | q | q <;> rw [q, h _ (by omega)]
theorem TLo_of {τ σ : Sg} (h : ∀ k, (k = 1 ∨ k = 13 ∨ k = 17 ∨ k = 18 ∨ k = 24 ∨ k = 25) → τ.1 k = σ.1 k) (ht : TLo σ) : TLo τ := by
  have e : cpN τ 0 = cpN σ 0 := by
    show (τ.1 13 0).toNatClampNeg = (σ.1 13 0).toNatClampNeg
    rw [h 13 (by omega)]
  have e2 : cpN τ 2 = cpN σ 2 := by
    show (τ.1 24 0).toNatClampNeg = (σ.1 24 0).toNatClampNeg
    rw [h 24 (by omega)]
  have em : mon τ = mon σ := by
    unfold mon
    rw [h 1 (by omega)]
  refine ⟨fun x hx => ?_, fun k hk => ?_⟩
  · rw [e] at hx
    rw [h 17 (by omega), h 18 (by omega), em]
    exact ht.1 x hx
  · rw [e2] at hk
    rw [h 25 (by omega)]
    exact ht.2 k hk
theorem IV.of {τ σ : Sg} (h : IV σ) (hR : ∃ ν, Rel τ ν) (h' : ∀ k, (k = 1 ∨ k = 13 ∨ k = 17 ∨ k = 18 ∨ k = 24 ∨ k = 25) → τ.1 k = σ.1 k) (hV : ∀ D S M, CV D S M σ → ∃ D' S' , CV D' S' M τ) : IV τ := by
  obtain ⟨-, ⟨D, S, M, hv, h1, h2⟩, ht⟩ := h
  have em : mon τ = mon σ := by
    unfold mon
    rw [h' 1 (by omega)]
  obtain ⟨D', S', g⟩ := hV D S M hv
  exact ⟨hR, ⟨D', S', M, g, h1, by rw [em]; exact h2⟩, TLo_of h' ht⟩
theorem ix_0 {n c : Nat} (hn : n < 2 ^ 31) (h : c < n) : xIx (nI c) (nI n) = 0 := by
  unfold xIx
  rw [if_neg (by rw [i_lt, nI_toInt (by omega), z_0]; omega), if_pos (by rw [i_lt, nI_toInt (by omega), nI_toInt hn]; omega)]
theorem ix_1 {n c : Nat} (hc : c < 2 ^ 31) (hn : n < 2 ^ 31) (h : n ≤ c) : xIx (nI c) (nI n) = 1 := by
  unfold xIx
  rw [if_neg (by rw [i_lt, nI_toInt (by omega), z_0]; omega), if_neg (by rw [i_lt, nI_toInt hc, nI_toInt hn]; omega)]
theorem rg_0 {v a b : Int32} (h1 : a.toInt ≤ v.toInt) (h2 : v.toInt ≤ b.toInt) : xRg v a b = 0 := by
  unfold xRg
  rw [if_neg (by rw [i_lt]; omega), if_pos (by rw [i_le]; omega)]
theorem rg_2 {v a b : Int32} (h : v.toInt < a.toInt ∨ b.toInt < v.toInt) : xRg v a b = 2 := by
  unfold xRg
  by_cases q : v < a
  · rw [if_pos q]
  · rw [if_neg q, if_neg (by rw [i_lt] at q; rw [i_le]; omega)]
theorem rg_n {v a b : Nat} (ha : a ≤ v) (hb : v ≤ b) (hb2 : b < 2 ^ 31) : xRg (nI v) (nI a) (nI b) = 0 := rg_0 (by rw [nI_toInt (by omega), nI_toInt (by omega)]; omega) (by rw [nI_toInt (by omega), nI_toInt (by omega)]; omega)
/-- moss is told -/
theorem IV_moss {σ : Sg} (h : IV σ) {c v : Nat} (hc : c < 25) (hv : v < 4) : kx_moss σ (nI c) (nI v) = 0 ∧ IV (k_moss_s σ (nI c) (nI v)) ∧ SM (k_moss_s σ (nI c) (nI v)) σ ∧ (k_moss σ (nI c) (nI v)).toInt ≤ 3 := by
  have ex : kx_moss σ (nI c) (nI v) = 0 := by simp only [kx_moss, ix_0 (n := 25) (by decide) hc, rg_n (v := v) (a := 0) (b := 3) (by omega) (by omega) (by decide), xs_0]
  have cl : (nI c).toNatClampNeg = c := nI_clamp (by omega)
  have ks : k_moss_s σ (nI c) (nI v) = si σ 5 c (nI v) := by
    have e : k_moss_s σ (nI c) (nI v) = si σ 5 (nI c).toNatClampNeg (nI v) := rfl
    rw [e, cl]
  have kv : k_moss σ (nI c) (nI v) = σ.1 5 c := by
    have e : k_moss σ (nI c) (nI v) = σ.1 5 (nI c).toNatClampNeg := rfl
    rw [e, cl]
  obtain ⟨μ, hR⟩ := h.1
  have q := (q_moss σ μ (nI c) (nI v) hR).1
  rw [ex, if_pos rfl] at q
  refine ⟨ex, h.of ⟨_, q⟩ (fun k hk => by rw [ks, si_ne (by omega)]) (fun D S M hv => ⟨D, S, ?_⟩), ?_, ?_⟩
  · rw [ks]
    exact hv.of rfl (fun k k1 k2 j _ => by rw [si_ne (by omega)]) (fun x _ => by rw [si_ne (by decide)])
  · rw [ks]
    exact SM.of (fun k hk => by rw [si_ne (by omega)])
  · rw [kv, hR.1.cell (k := 5) (by omega) hc]
    have q := vp_in_iff.mp (hR.snow c hc).2
    omega
/-- ground is told -/
theorem kg_s {σ : Sg} {cell layer p0 e0 g0 c0 : Int32} {i : Nat} (hi : i = 5 * cell.toNatClampNeg + layer.toNatClampNeg) : k_ground_s σ cell layer p0 e0 g0 c0 = sl (sl (sl (si (si (si (si (sl (sl (sl σ 26 (σ.2 26 - (σ.1 10 i).toInt64)) 27 (σ.2 27 - (σ.1 8 i + σ.1 9 i).toInt64)) 28 (σ.2 28 - (σ.1 11 i).toInt64)) 8 i p0) 9 i e0) 10 i g0) 11 i c0) 26 (σ.2 26 - (σ.1 10 i).toInt64 + g0.toInt64)) 27 (σ.2 27 - (σ.1 8 i + σ.1 9 i).toInt64 + (p0 + e0).toInt64)) 28 (σ.2 28 - (σ.1 11 i).toInt64 + c0.toInt64) := by
  rw [hi]
  simp only [k_ground_k154_9_s, k_ground_k154_8_s, k_ground_k154_s, k_ground_k123_s, k_ground_k116_s, k_ground_k109_s, k_ground_k102_s, k_ground_k90_2_s, k_ground_k90_1_s, k_ground_k90_s, k_ground_s, l_amount_j25, l_amount, l_units, Nat.reduceAdd, si_at, sl_at, sl_1, si_2, Nat.reduceEqDiff, false_and, and_self, true_and, and_true, if_false, if_true, nl_00, nq_01, nl_01, nq_02, nl_02, nq_03, nl_03, nq_04, nl_04, nq_05, nl_05, nq_06, nl_06, nq_07, nl_07, nq_10, nl_10, nl_11, nq_12, nl_12, nq_13, nl_13, nq_14, nl_14, nq_15, nl_15, nq_16, nl_16, nq_17, nl_17, nq_20, nl_20, nq_21, nl_21, nl_22, nq_23, nl_23, nq_24, nl_24, nq_25, nl_25, nq_26, nl_26, nq_27, nl_27, nq_30, nl_30, nq_31, nl_31, nq_32, nl_32, nl_33, nq_34, nl_34, nq_35, nl_35, nq_36, nl_36, nq_37, nl_37, nq_40, nl_40, nq_41, nl_41, nq_42, nl_42, nq_43, nl_43, nl_44, nq_45, nl_45, nq_46, nl_46, nq_47, nl_47, nq_50, nl_50, nq_51, nl_51, nq_52, nl_52, nq_53, nl_53, nq_54, nl_54, nl_55, nq_56, nl_56, nq_57, nl_57, nq_60, nl_60, nq_61, nl_61, nq_62, nl_62, nq_63, nl_63, nq_64, nl_64, nq_65, nl_65, nl_66, nq_67, nl_67, nq_70, nl_70, nq_71, nl_71, nq_72, nl_72, nq_73, nl_73, nq_74, nl_74, nq_75, nl_75, nq_76, nl_76, nl_77, n4f, n5f, n6f, n7f, n0t, n1f, n2f, n3f, if_true, if_false]
theorem kg5 : ((-5000 : Int32)).toInt = -5000 := by decide
theorem kg3 : (nI 30000).toInt = 30000 := by decide
theorem IV_ground {σ : Sg} (h : IV σ) {c l p x k : Nat} {g : Int32} (hc : c < 25) (hl : l < 5) (hp : p ≤ 9) (hx : x ≤ 9) (hk : k ≤ 1000) (g0 : -5000 ≤ g.toInt) (g1 : g.toInt ≤ 30000) : kx_ground σ (nI c) (nI l) (nI p) (nI x) g (nI k) = 0 ∧ IV (k_ground_s σ (nI c) (nI l) (nI p) (nI x) g (nI k)) ∧ SM (k_ground_s σ (nI c) (nI l) (nI p) (nI x) g (nI k)) σ ∧ (k_ground_s σ (nI c) (nI l) (nI p) (nI x) g (nI k)).1 10 (5 * c + l) = g ∧ (k_ground_s σ (nI c) (nI l) (nI p) (nI x) g (nI k)).1 2 = σ.1 2 := by
  have ex : kx_ground σ (nI c) (nI l) (nI p) (nI x) g (nI k) = 0 := by simp only [kx_ground, ix_0 (n := 25) (by decide) hc, ix_0 (n := 5) (by decide) hl, rg_n (v := p) (a := 0) (b := 9) (by omega) (by omega) (by decide), rg_n (v := x) (a := 0) (b := 9) (by omega) (by omega) (by decide), rg_n (v := k) (a := 0) (b := 1000) (by omega) (by omega) (by decide), rg_0 (v := g) (a := -5000) (b := nI 30000) (by rw [kg5]; exact g0) (by rw [kg3]; exact g1), xs_0]
  have cl : (nI c).toNatClampNeg = c := nI_clamp (by omega)
  have ll : (nI l).toNatClampNeg = l := nI_clamp (by omega)
  obtain ⟨i, hi⟩ : ∃ i : Nat, i = 5 * c + l := ⟨_, rfl⟩
  have hi5 : i < 125 := by omega
  have ks := kg_s (σ := σ) (cell := nI c) (layer := nI l) (p0 := nI p) (e0 := nI x) (g0 := g) (c0 := nI k) (i := i) (by rw [cl, ll]; exact hi)
  obtain ⟨μ, hR⟩ := h.1
  have q := (q_ground σ μ (nI c) (nI l) (nI p) (nI x) g (nI k) hR).1
  rw [ex, if_pos rfl] at q
  obtain ⟨⟨b1, b2⟩, ⟨b3, b4⟩, ⟨b5, b6⟩, b7, b8⟩ := hR.2.2.1 i hi5
  have hm : mon σ ≤ 600 := h.mo.2
  have np : (nI p).toInt = p := nI_toInt (by omega)
  have nx : (nI x).toInt = x := nI_toInt (by omega)
  have nk : (nI k).toInt = k := nI_toInt (by omega)
  have s1 : (nI p + nI x).toInt = (nI p).toInt + (nI x).toInt := i_add (by omega) (by omega)
  have s2 : (σ.1 8 i + σ.1 9 i).toInt = (σ.1 8 i).toInt + (σ.1 9 i).toInt := i_add (by omega) (by omega)
  have rr : ∀ (a : Int64) (u v : Int), a - Int64.ofInt u + Int64.ofInt v = a + Int64.ofInt (v - u) := fun a u v => by
    rw [Int64.ofInt_sub]
    grind
  rw [← hi]
  refine ⟨ex, h.of ⟨_, q⟩ (fun k' hk' => ?_) (fun D S M hv => ⟨D, S, ?_⟩), ?_, ?_, ?_⟩
  · rw [ks, sl_1, sl_1, sl_1, si_ne (by omega), si_ne (by omega), si_ne (by omega), si_ne (by omega), sl_1, sl_1, sl_1]
  · rw [ks]
    obtain ⟨v29, v30, v31, v26, v27, v28⟩ := id hv
    refine hv.go (dE := g.toInt - (σ.1 10 i).toInt) (dW := ((p : Int) + x) - ((σ.1 8 i).toInt + (σ.1 9 i).toInt)) (dC := (k : Int) - (σ.1 11 i).toInt) (x := g.toInt - (σ.1 10 i).toInt) (y := ((p : Int) + x) - ((σ.1 8 i).toInt + (σ.1 9 i).toInt)) (w := (k : Int) - (σ.1 11 i).toInt) ?_ ?_ ?_ ?_ ?_ ?_ ?_ ?_ ?_ (by omega) (by omega) (by omega)
    · rw [HE_at (k := i) (c := 0) (σ := σ) hi5 (by decide) (fun j hj => by simp only [si_at, sl_1, hj, Nat.reduceEqDiff, false_and, and_false, if_false]) (fun y _ => by simp only [si_at, sl_1, Nat.reduceEqDiff, false_and, if_false])]
      simp only [si_at, sl_1, Nat.reduceEqDiff, false_and, and_self, if_false, if_true]
      omega
    · rw [WA_at (k := i) (c := 0) (σ := σ) hi5 (by decide) (fun j hj => by simp only [si_at, sl_1, hj, Nat.reduceEqDiff, false_and, and_false, if_false]) (fun j hj => by simp only [si_at, sl_1, hj, Nat.reduceEqDiff, false_and, and_false, if_false]) (fun y _ => by simp only [si_at, sl_1, Nat.reduceEqDiff, false_and, if_false])]
      simp only [si_at, sl_1, Nat.reduceEqDiff, false_and, and_self, if_false, if_true]
      omega
    · rw [CA_at (k := i) (σ := σ) hi5 (fun j hj => by simp only [si_at, sl_1, hj, Nat.reduceEqDiff, false_and, and_false, if_false])]
      simp only [si_at, sl_1, Nat.reduceEqDiff, false_and, and_self, if_false, if_true]
      omega
    · simp only [sl_at, si_2, Nat.reduceEqDiff, if_false]; exact v29
    · simp only [sl_at, si_2, Nat.reduceEqDiff, if_false]; exact v30
    · simp only [sl_at, si_2, Nat.reduceEqDiff, if_false]; exact v31
    · simp only [sl_at, si_2, Nat.reduceEqDiff, if_false, if_true]
      rw [oi_32, oi_32]
      exact rr _ _ _
    · simp only [sl_at, si_2, Nat.reduceEqDiff, if_false, if_true]
      rw [oi_32, oi_32, rr, s1, s2, np, nx]
    · simp only [sl_at, si_2, Nat.reduceEqDiff, if_false, if_true]
      rw [oi_32, oi_32, rr, nk]
  · rw [ks]
    exact SM.of (fun k' hk' => by rw [sl_1, sl_1, sl_1, si_ne (by omega), si_ne (by omega), si_ne (by omega), si_ne (by omega), sl_1, sl_1, sl_1])
  · rw [ks, sl_1, sl_1, sl_1, si_ne (by decide), si_eq]
  · rw [ks, sl_1, sl_1, sl_1, si_ne (by decide), si_ne (by decide), si_ne (by decide), si_ne (by decide), sl_1, sl_1, sl_1]
