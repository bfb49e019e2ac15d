/-! the calls that only ask, and those that are refused -/
theorem VS.ff {σ τ : Sg} (v : VS σ τ) : FF τ σ := fun k hk => v.1 k (by omega) (by omega)
theorem VS.mon {σ τ : Sg} (v : VS σ τ) : mon τ = mon σ := v.ff.m
theorem IV.ok {σ : Sg} (h : IV σ) : cOK σ ∧ cRd σ ∧ cCl σ := by
  obtain ⟨μ, hR⟩ := h.1
  have q := q_ok σ μ hR
  exact ⟨q.1, q.2.1, q.2.2.1⟩
theorem IV.n0 {σ : Sg} (h : IV σ) : σ.1 13 0 = nI (cpN σ 0) ∧ cpN σ 0 ≤ 10 := by
  have q := h.ok.1.1
  have q2 := vp_lt q
  exact ⟨vp_self q, by show (σ.1 13 0).toNatClampNeg ≤ 10; omega⟩
theorem IV.n1 {σ : Sg} (h : IV σ) : σ.1 19 0 = nI (cpN σ 1) ∧ cpN σ 1 ≤ 10 := by
  have q := h.ok.1.2.1
  have q2 := vp_lt q
  exact ⟨vp_self q, by show (σ.1 19 0).toNatClampNeg ≤ 10; omega⟩
theorem IV.n2 {σ : Sg} (h : IV σ) : σ.1 24 0 = nI (cpN σ 2) ∧ cpN σ 2 ≤ 40 := by
  have q := h.ok.1.2.2.1
  have q2 := vp_lt q
  exact ⟨vp_self q, by show (σ.1 24 0).toNatClampNeg ≤ 40; omega⟩
/-- how many cells a lake has -/
def lz (σ : Sg) (c : Nat) : Int32 := k_gatherOneLake σ (nI c)
theorem lz_vs {σ τ : Sg} (h : IV σ) (v : VS σ τ) {c : Nat} (hc : c < 25) : lz τ c = lz σ c := by
  obtain ⟨μ, hR⟩ := h.1
  exact (lake_size (v.rel hR) hc).trans (lake_size hR hc).symm
theorem lz_b {σ : Sg} {c : Nat} (hc : c < 25) : (0 ≤ (lz σ c).toInt ∧ (lz σ c).toInt ≤ 25) ∧ (0 < (lz σ c).toInt ↔ 0 < (σ.1 3 c).toInt) := by
  obtain ⟨n, e, hS, hL⟩ := one_lake (σ := σ) hc
  have hm0 := SU_0 (k_gatherOneLake_s σ (nI c))
  have hn5 := hS.2.2.2.2
  have hw : wet σ c ↔ 0 < (σ.1 3 c).toInt := by
    unfold wet
    rw [i_le, z_0]
    omega
  unfold lz
  rw [e, nI_toInt (by omega)]
  refine ⟨⟨by omega, by omega⟩, fun q => ?_, fun q => ?_⟩
  · obtain ⟨c', h1, h2, -⟩ := hS.2.1 0 (by omega)
    exact hw.mp ((hL c' h1).mp ⟨0, by omega, h2⟩).1
  · obtain ⟨i, hi, -⟩ := (hL c hc).mpr ⟨hw.mpr q, Rch.rf⟩
    omega
theorem lz_n {σ : Sg} (h : IV σ) {a b : Nat} (ha : a < 25) (hb : b < 25) (hn : nxt a b) (wa : ¬ (σ.1 3 a).toInt = 0) (wb : ¬ (σ.1 3 b).toInt = 0) : lz σ a = lz σ b := by
  obtain ⟨μ, hR⟩ := h.1
  have hw : ∀ c, c < 25 → ¬ (σ.1 3 c).toInt = 0 → wet σ c := fun c hc hx q => by
    rw [i_le, z_0] at q
    have := hR.2.2.2.1.1 c hc
    omega
  have w1 := (hR.wets a ha).mp (hw a ha wa)
  have w2 := (hR.wets b hb).mp (hw b hb wb)
  have el : (m_gather_s μ).1 7 a = (m_gather_s μ).1 7 b := (lab_iff ha hb w1 w2).mpr (Rch.rf.on ha hn w2)
  obtain ⟨n, e, hS, hL⟩ := one_lake (σ := σ) ha
  obtain ⟨n', e', hS', hL'⟩ := one_lake (σ := σ) hb
  have q1 := (s32_1 n).symm.trans (lake_list hR ha hS hL (fun _ => nI 1))
  have q2 := (s32_1 n').symm.trans (lake_list hR hb hS' hL' (fun _ => nI 1))
  unfold lz
  rw [e, e', q1, q2, el]
/-- the worth of a claim now -/
def wo (σ : Sg) (k : Nat) : Int32 := k_claimAmount σ k (σ.1 17 k) (σ.1 1 0)
/-- neighbours by a table -/
def nb (c k : Nat) : Int32 := k_neighbour s00 (nI c) (nI k)
def nlast (c : Nat) : Nat → Int
  | 0 => -1
  | k + 1 => if (nb c k).toInt < 0 then nlast c k else (nb c k).toInt
def nmany (c : Nat) : Nat → Nat
  | 0 => 0
  | k + 1 => nmany c k + if (nb c k).toInt < 0 then 0 else 1
theorem nb_1 : ∀ c, c < 25 → ∀ k, k < 4 → (nb c k).toInt < 0 → 1 < k := by decide +kernel
theorem nb_2 : ∀ c, c < 25 → ∀ k, k < 4 → ¬ (nb c k).toInt < 0 → nlast c k < (nb c k).toInt ∧ (nb c k).toInt < 25 ∧ nb c k = nI (nb c k).toNatClampNeg := by decide +kernel
theorem nb_3 : ∀ c, c < 25 → ∀ k, k < 4 → ¬ (nb c k).toInt < 0 → ∃ s, s < 4 ∧ ¬ m_beside (nI c) (nI s) = -1 ∧ (m_beside (nI c) (nI s)).toNatClampNeg = (nb c k).toNatClampNeg := by decide +kernel
theorem nb_4 : ∀ c, c < 25 → 2 ≤ nmany c 4 ∧ nb c 4 = -1 := by decide +kernel
theorem nb_e {τ : Sg} {c k : Nat} : k_neighbour τ (nI c) (nI k) = nb c k := rfl
section RDS
variable {l : Launch} {G : va_G} {ids : Nat → ClassId} {tS tE o z : Nat} {σ : Sg}
theorem RQ.no {y : MethodName} {ws : List Cond} {rm : Room} {As : List Value} {mc ms x : Nat} {X : Sg → Nat} {w : Sg → Int64} {f : Sg → Sg} (hM : ∀ τ, VS σ τ → lU l y ws rm G ids tS tE As o z τ (X τ) (w τ) (f τ) mc ms) (hX : ∀ τ, VS σ τ → X τ = x) (hx : x ≠ 0) : RQ l y ws rm G ids tS tE o z As σ (lK x) mc ms := fun τ v =>
  ⟨_, _, _, hM τ v, by rw [hX τ v, if_neg hx], by rw [hX τ v, if_neg hx]; exact v⟩
theorem RQ.yes {y : MethodName} {ws : List Cond} {rm : Room} {As : List Value} {mc ms : Nat} {r : Int64} {X : Sg → Nat} {w : Sg → Int64} {f : Sg → Sg} (hM : ∀ τ, VS σ τ → lU l y ws rm G ids tS tE As o z τ (X τ) (w τ) (f τ) mc ms) (hX : ∀ τ, VS σ τ → X τ = 0) (hr : ∀ τ, VS σ τ → w τ = r) (hf : ∀ τ, VS σ τ → VS τ (f τ)) : RQ l y ws rm G ids tS tE o z As σ r mc ms := fun τ v =>
  ⟨_, _, _, hM τ v, by rw [hX τ v, if_pos rfl]; exact hr τ v, by rw [hX τ v, if_pos rfl]; exact v.tr (hf τ v)⟩
theorem kc_x {τ : Sg} {c w : Nat} (hc : c < 25) (hw : w < 8) : kx_cellOf τ (nI c) (nI w) = 0 := by simp only [kx_cellOf, ix_0 (n := 25) (by decide) hc, rg_n (v := w) (a := 0) (b := 7) (by omega) (by omega) (by decide), xs_0]
theorem thaw_vs {σ τ : Sg} (v : VS σ τ) (c : Nat) : c_thawedFromAbove τ c = c_thawedFromAbove σ c := by
  unfold c_thawedFromAbove l_isThawed
  rw [v.1 10 (by decide) (by decide)]
  rfl
theorem rdc0 (hl0 : l.stackTraces = false) {c : Nat} (hc : c < 25) : RQ l yL_cellOf wsL_cellOf ({ frames := 8, cells := 2, slots := 12, locals := 145 } : Room) G ids tS tE o z [.ref (o), .int (nI c), .int (nI 0)] σ ((σ.1 2 c).toInt64) 2 12 :=
  RQ.yes (fun τ _ => lc_cellOf l hl0 G ids tS tE o z τ (nI c) (nI 0)) (fun τ _ => kc_x hc (by decide)) (fun τ v => by rw [co_kv0 hc, v.1 2 (by decide) (by decide)]) (fun τ _ => by rw [co_ks0]; exact VS.rf)
theorem rdc1 (hl0 : l.stackTraces = false) {c : Nat} (hc : c < 25) : RQ l yL_cellOf wsL_cellOf ({ frames := 8, cells := 2, slots := 12, locals := 145 } : Room) G ids tS tE o z [.ref (o), .int (nI c), .int (nI 1)] σ ((σ.1 3 c).toInt64) 2 12 :=
  RQ.yes (fun τ _ => lc_cellOf l hl0 G ids tS tE o z τ (nI c) (nI 1)) (fun τ _ => kc_x hc (by decide)) (fun τ v => by rw [co_kv1 hc, v.1 3 (by decide) (by decide)]) (fun τ _ => by rw [co_ks1]; exact VS.rf)
theorem rdc2 (hl0 : l.stackTraces = false) {c : Nat} (hc : c < 25) : RQ l yL_cellOf wsL_cellOf ({ frames := 8, cells := 2, slots := 12, locals := 145 } : Room) G ids tS tE o z [.ref (o), .int (nI c), .int (nI 2)] σ ((σ.1 4 c).toInt64) 2 12 :=
  RQ.yes (fun τ _ => lc_cellOf l hl0 G ids tS tE o z τ (nI c) (nI 2)) (fun τ _ => kc_x hc (by decide)) (fun τ v => by rw [co_kv2 hc, v.1 4 (by decide) (by decide)]) (fun τ _ => by rw [co_ks2]; exact VS.rf)
theorem rdc3 (hl0 : l.stackTraces = false) {c : Nat} (hc : c < 25) : RQ l yL_cellOf wsL_cellOf ({ frames := 8, cells := 2, slots := 12, locals := 145 } : Room) G ids tS tE o z [.ref (o), .int (nI c), .int (nI 3)] σ ((σ.1 5 c).toInt64) 2 12 :=
  RQ.yes (fun τ _ => lc_cellOf l hl0 G ids tS tE o z τ (nI c) (nI 3)) (fun τ _ => kc_x hc (by decide)) (fun τ v => by rw [co_kv3 hc, v.1 5 (by decide) (by decide)]) (fun τ _ => by rw [co_ks3]; exact VS.rf)
theorem rdc5 (hl0 : l.stackTraces = false) {c : Nat} (hc : c < 25) : RQ l yL_cellOf wsL_cellOf ({ frames := 8, cells := 2, slots := 12, locals := 145 } : Room) G ids tS tE o z [.ref (o), .int (nI c), .int (nI 5)] σ ((σ.1 36 c).toInt64) 2 12 :=
  RQ.yes (fun τ _ => lc_cellOf l hl0 G ids tS tE o z τ (nI c) (nI 5)) (fun τ _ => kc_x hc (by decide)) (fun τ v => by rw [co_kv5 hc, v.1 36 (by decide) (by decide)]) (fun τ _ => by rw [co_ks5]; exact VS.rf)
theorem rdc7 (hl0 : l.stackTraces = false) {c : Nat} (hc : c < 25) : RQ l yL_cellOf wsL_cellOf ({ frames := 8, cells := 2, slots := 12, locals := 145 } : Room) G ids tS tE o z [.ref (o), .int (nI c), .int (nI 7)] σ ((c_thawedFromAbove σ c).toInt64) 2 12 :=
  RQ.yes (fun τ _ => lc_cellOf l hl0 G ids tS tE o z τ (nI c) (nI 7)) (fun τ _ => kc_x hc (by decide)) (fun τ v => by rw [co_kv7 hc, thaw_vs v]) (fun τ _ => by rw [co_ks7]; exact VS.rf)
theorem rdc6 (hl0 : l.stackTraces = false) (h : IV σ) {c : Nat} (hc : c < 25) : RQ l yL_cellOf wsL_cellOf ({ frames := 8, cells := 2, slots := 12, locals := 145 } : Room) G ids tS tE o z [.ref (o), .int (nI c), .int (nI 6)] σ ((lz σ c).toInt64) 2 12 :=
  RQ.yes (fun τ _ => lc_cellOf l hl0 G ids tS tE o z τ (nI c) (nI 6)) (fun τ _ => kc_x hc (by decide)) (fun τ v => by
    rw [← lz_vs h v hc]
    rfl) (fun τ _ => by rw [co6_ks]; exact VS.one hc)
theorem melt_vs {σ τ : Sg} (v : VS σ τ) (j : Nat) : l_melted τ j = l_melted σ j := by
  unfold l_melted l_units
  rw [v.1 8 (by decide) (by decide), v.1 9 (by decide) (by decide), v.1 10 (by decide) (by decide)]
theorem kl_x {τ : Sg} {c l9 w : Nat} (hc : c < 25) (hl : l9 < 5) (hw : w < 6) : kx_layerOf τ (nI c) (nI l9) (nI w) = 0 := by simp only [kx_layerOf, ix_0 (n := 25) (by decide) hc, ix_0 (n := 5) (by decide) hl, rg_n (v := w) (a := 0) (b := 5) (by omega) (by omega) (by decide), xs_0]
theorem kl_v0 {τ : Sg} {c l9 : Nat} (hc : c < 25) (hl : l9 < 5) : k_layerOf τ (nI c) (nI l9) (nI 0) = l_temperature τ (5 * c + l9) := by
  unfold k_layerOf
  rw [nI_clamp (by omega), nI_clamp (by omega), if_pos rfl]
theorem rdl0 (hl0 : l.stackTraces = false) {c l9 : Nat} (hc : c < 25) (hl : l9 < 5) : RQ l yL_layerOf wsL_layerOf ({ frames := 8, cells := 3, slots := 18, locals := 146 } : Room) G ids tS tE o z [.ref (o), .int (nI c), .int (nI l9), .int (nI 0)] σ ((l_temperature σ (5 * c + l9)).toInt64) 3 18 :=
  RQ.yes (fun τ _ => lc_layerOf l hl0 G ids tS tE o z τ (nI c) (nI l9) (nI 0)) (fun τ _ => kl_x hc hl (by decide)) (fun τ v => by rw [kl_v0 hc hl, show l_temperature τ (5 * c + l9) = l_temperature σ (5 * c + l9) from (temp_cg (by rw [v.1 8 (by decide) (by decide)]) (by rw [v.1 9 (by decide) (by decide)]) (by rw [v.1 10 (by decide) (by decide)]))]) (fun τ _ => VS.rf)
theorem kl_v1 {τ : Sg} {c l9 : Nat} (hc : c < 25) (hl : l9 < 5) : k_layerOf τ (nI c) (nI l9) (nI 1) = τ.1 10 (5 * c + l9) := by
  unfold k_layerOf
  rw [nI_clamp (by omega), nI_clamp (by omega), if_neg (by decide), if_pos rfl]
theorem rdl1 (hl0 : l.stackTraces = false) {c l9 : Nat} (hc : c < 25) (hl : l9 < 5) : RQ l yL_layerOf wsL_layerOf ({ frames := 8, cells := 3, slots := 18, locals := 146 } : Room) G ids tS tE o z [.ref (o), .int (nI c), .int (nI l9), .int (nI 1)] σ ((σ.1 10 (5 * c + l9)).toInt64) 3 18 :=
  RQ.yes (fun τ _ => lc_layerOf l hl0 G ids tS tE o z τ (nI c) (nI l9) (nI 1)) (fun τ _ => kl_x hc hl (by decide)) (fun τ v => by rw [kl_v1 hc hl, show τ.1 10 (5 * c + l9) = σ.1 10 (5 * c + l9) from (by rw [v.1 10 (by decide) (by decide)])]) (fun τ _ => VS.rf)
theorem kl_v2 {τ : Sg} {c l9 : Nat} (hc : c < 25) (hl : l9 < 5) : k_layerOf τ (nI c) (nI l9) (nI 2) = τ.1 8 (5 * c + l9) := by
  unfold k_layerOf
  rw [nI_clamp (by omega), nI_clamp (by omega), if_neg (by decide), if_neg (by decide), if_pos rfl]
theorem rdl2 (hl0 : l.stackTraces = false) {c l9 : Nat} (hc : c < 25) (hl : l9 < 5) : RQ l yL_layerOf wsL_layerOf ({ frames := 8, cells := 3, slots := 18, locals := 146 } : Room) G ids tS tE o z [.ref (o), .int (nI c), .int (nI l9), .int (nI 2)] σ ((σ.1 8 (5 * c + l9)).toInt64) 3 18 :=
  RQ.yes (fun τ _ => lc_layerOf l hl0 G ids tS tE o z τ (nI c) (nI l9) (nI 2)) (fun τ _ => kl_x hc hl (by decide)) (fun τ v => by rw [kl_v2 hc hl, show τ.1 8 (5 * c + l9) = σ.1 8 (5 * c + l9) from (by rw [v.1 8 (by decide) (by decide)])]) (fun τ _ => VS.rf)
theorem kl_v3 {τ : Sg} {c l9 : Nat} (hc : c < 25) (hl : l9 < 5) : k_layerOf τ (nI c) (nI l9) (nI 3) = τ.1 9 (5 * c + l9) := by
  unfold k_layerOf
  rw [nI_clamp (by omega), nI_clamp (by omega), if_neg (by decide), if_neg (by decide), if_neg (by decide), if_pos rfl]
theorem rdl3 (hl0 : l.stackTraces = false) {c l9 : Nat} (hc : c < 25) (hl : l9 < 5) : RQ l yL_layerOf wsL_layerOf ({ frames := 8, cells := 3, slots := 18, locals := 146 } : Room) G ids tS tE o z [.ref (o), .int (nI c), .int (nI l9), .int (nI 3)] σ ((σ.1 9 (5 * c + l9)).toInt64) 3 18 :=
  RQ.yes (fun τ _ => lc_layerOf l hl0 G ids tS tE o z τ (nI c) (nI l9) (nI 3)) (fun τ _ => kl_x hc hl (by decide)) (fun τ v => by rw [kl_v3 hc hl, show τ.1 9 (5 * c + l9) = σ.1 9 (5 * c + l9) from (by rw [v.1 9 (by decide) (by decide)])]) (fun τ _ => VS.rf)
theorem kl_v4 {τ : Sg} {c l9 : Nat} (hc : c < 25) (hl : l9 < 5) : k_layerOf τ (nI c) (nI l9) (nI 4) = τ.1 11 (5 * c + l9) := by
  unfold k_layerOf
  rw [nI_clamp (by omega), nI_clamp (by omega), if_neg (by decide), if_neg (by decide), if_neg (by decide), if_neg (by decide), if_pos rfl]
theorem rdl4 (hl0 : l.stackTraces = false) {c l9 : Nat} (hc : c < 25) (hl : l9 < 5) : RQ l yL_layerOf wsL_layerOf ({ frames := 8, cells := 3, slots := 18, locals := 146 } : Room) G ids tS tE o z [.ref (o), .int (nI c), .int (nI l9), .int (nI 4)] σ ((σ.1 11 (5 * c + l9)).toInt64) 3 18 :=
  RQ.yes (fun τ _ => lc_layerOf l hl0 G ids tS tE o z τ (nI c) (nI l9) (nI 4)) (fun τ _ => kl_x hc hl (by decide)) (fun τ v => by rw [kl_v4 hc hl, show τ.1 11 (5 * c + l9) = σ.1 11 (5 * c + l9) from (by rw [v.1 11 (by decide) (by decide)])]) (fun τ _ => VS.rf)
theorem kl_v5 {τ : Sg} {c l9 : Nat} (hc : c < 25) (hl : l9 < 5) : k_layerOf τ (nI c) (nI l9) (nI 5) = l_melted τ (5 * c + l9) := by
  unfold k_layerOf
  rw [nI_clamp (by omega), nI_clamp (by omega), if_neg (by decide), if_neg (by decide), if_neg (by decide), if_neg (by decide), if_neg (by decide)]
theorem rdl5 (hl0 : l.stackTraces = false) {c l9 : Nat} (hc : c < 25) (hl : l9 < 5) : RQ l yL_layerOf wsL_layerOf ({ frames := 8, cells := 3, slots := 18, locals := 146 } : Room) G ids tS tE o z [.ref (o), .int (nI c), .int (nI l9), .int (nI 5)] σ ((l_melted σ (5 * c + l9)).toInt64) 3 18 :=
  RQ.yes (fun τ _ => lc_layerOf l hl0 G ids tS tE o z τ (nI c) (nI l9) (nI 5)) (fun τ _ => kl_x hc hl (by decide)) (fun τ v => by rw [kl_v5 hc hl, show l_melted τ (5 * c + l9) = l_melted σ (5 * c + l9) from (melt_vs v _)]) (fun τ _ => VS.rf)
theorem rdn (hl0 : l.stackTraces = false) {c k : Nat} (hc : c < 25) (hk : k < 5) : RQ l yL_neighbour wsL_neighbour ({ frames := 8, cells := 2, slots := 12, locals := 146 } : Room) G ids tS tE o z [.ref (o), .int (nI c), .int (nI k)] σ ((nb c k).toInt64) 2 12 :=
  RQ.yes (fun τ _ => lc_neighbour l hl0 G ids tS tE o z τ (nI c) (nI k)) (fun τ _ => by
    have e : (0 : Int32) ≤ nI k := by rw [i_le, z_0, nI_toInt (by omega)]; omega
    simp only [kx_neighbour, ix_0 (n := 25) (by decide) hc, if_pos e, xs_0]) (fun τ v => by rw [nb_e]) (fun τ _ => VS.rf)
theorem kh_x {τ : Sg} (h : IV τ) {k w : Nat} (hk : k < cpN τ 0) (hw : w < 5) : kx_houseOf τ (nI k) (nI w) = 0 := by simp only [kx_houseOf, h.n0.1, ix_0 (n := cpN τ 0) (by have := h.n0.2; omega) hk, rg_n (v := w) (a := 0) (b := 4) (by omega) (by omega) (by decide), xs_0]
theorem kh_y {τ : Sg} (h : IV τ) {k : Nat} {w : Int32} (hk : cpN τ 0 ≤ k) (hk2 : k < 1000) : kx_houseOf τ (nI k) w = 1 := by simp only [kx_houseOf, h.n0.1, ix_1 (n := cpN τ 0) (c := k) (by omega) (by have := h.n0.2; omega) hk, xs_1]
theorem kh_v0 {τ : Sg} {k : Nat} (hk : k < 1000) : k_houseOf τ (nI k) (nI 0) = τ.1 14 k := by
  unfold k_houseOf
  rw [nI_clamp (by omega), if_pos rfl]
theorem rdh0 (hl0 : l.stackTraces = false) (h : IV σ) {k : Nat} (hk : k < cpN σ 0) : RQ l yL_houseOf wsL_houseOf ({ frames := 8, cells := 2, slots := 12, locals := 158 } : Room) G ids tS tE o z [.ref (o), .int (nI k), .int (nI 0)] σ ((σ.1 14 k).toInt64) 2 12 :=
  RQ.yes (fun τ v => lc_houseOf l hl0 G ids tS tE o z τ (nI k) (nI 0) (v.iv h).ok.1) (fun τ v => kh_x (v.iv h) (by rw [v.cn]; exact hk) (by decide)) (fun τ v => by rw [kh_v0 (by have := h.n0.2; omega), show τ.1 14 k = σ.1 14 k from (by rw [v.1 14 (by decide) (by decide)])]) (fun τ _ => VS.rf)
theorem kh_v2 {τ : Sg} {k : Nat} (hk : k < 1000) : k_houseOf τ (nI k) (nI 2) = τ.1 17 k := by
  unfold k_houseOf
  rw [nI_clamp (by omega), if_neg (by decide), if_neg (by decide), if_pos rfl]
theorem rdh2 (hl0 : l.stackTraces = false) (h : IV σ) {k : Nat} (hk : k < cpN σ 0) : RQ l yL_houseOf wsL_houseOf ({ frames := 8, cells := 2, slots := 12, locals := 158 } : Room) G ids tS tE o z [.ref (o), .int (nI k), .int (nI 2)] σ ((σ.1 17 k).toInt64) 2 12 :=
  RQ.yes (fun τ v => lc_houseOf l hl0 G ids tS tE o z τ (nI k) (nI 2) (v.iv h).ok.1) (fun τ v => kh_x (v.iv h) (by rw [v.cn]; exact hk) (by decide)) (fun τ v => by rw [kh_v2 (by have := h.n0.2; omega), show τ.1 17 k = σ.1 17 k from (by rw [v.1 17 (by decide) (by decide)])]) (fun τ _ => VS.rf)
theorem kh_v3 {τ : Sg} {k : Nat} (hk : k < 1000) : k_houseOf τ (nI k) (nI 3) = τ.1 18 k := by
  unfold k_houseOf
  rw [nI_clamp (by omega), if_neg (by decide), if_neg (by decide), if_neg (by decide), if_pos rfl]
theorem rdh3 (hl0 : l.stackTraces = false) (h : IV σ) {k : Nat} (hk : k < cpN σ 0) : RQ l yL_houseOf wsL_houseOf ({ frames := 8, cells := 2, slots := 12, locals := 158 } : Room) G ids tS tE o z [.ref (o), .int (nI k), .int (nI 3)] σ ((σ.1 18 k).toInt64) 2 12 :=
  RQ.yes (fun τ v => lc_houseOf l hl0 G ids tS tE o z τ (nI k) (nI 3) (v.iv h).ok.1) (fun τ v => kh_x (v.iv h) (by rw [v.cn]; exact hk) (by decide)) (fun τ v => by rw [kh_v3 (by have := h.n0.2; omega), show τ.1 18 k = σ.1 18 k from (by rw [v.1 18 (by decide) (by decide)])]) (fun τ _ => VS.rf)
theorem kh_v4 {τ : Sg} {k : Nat} (hk : k < 1000) : k_houseOf τ (nI k) (nI 4) = wo τ k := by
  unfold k_houseOf
  rw [nI_clamp (by omega), if_neg (by decide), if_neg (by decide), if_neg (by decide), if_neg (by decide)]
  rfl
theorem rdh4 (hl0 : l.stackTraces = false) (h : IV σ) {k : Nat} (hk : k < cpN σ 0) : RQ l yL_houseOf wsL_houseOf ({ frames := 8, cells := 2, slots := 12, locals := 158 } : Room) G ids tS tE o z [.ref (o), .int (nI k), .int (nI 4)] σ ((wo σ k).toInt64) 2 12 :=
  RQ.yes (fun τ v => lc_houseOf l hl0 G ids tS tE o z τ (nI k) (nI 4) (v.iv h).ok.1) (fun τ v => kh_x (v.iv h) (by rw [v.cn]; exact hk) (by decide)) (fun τ v => by rw [kh_v4 (by have := h.n0.2; omega), show wo τ k = wo σ k from (by unfold wo; rw [v.ff.amt, v.1 17 (by decide) (by decide), v.1 1 (by decide) (by decide)])]) (fun τ _ => VS.rf)
theorem rdh_no (hl0 : l.stackTraces = false) (h : IV σ) {k w : Nat} (hk : cpN σ 0 ≤ k) (hk2 : k < 1000) : RQ l yL_houseOf wsL_houseOf ({ frames := 8, cells := 2, slots := 12, locals := 158 } : Room) G ids tS tE o z [.ref (o), .int (nI k), .int (nI w)] σ (lK 1) 2 12 :=
  RQ.no (fun τ v => lc_houseOf l hl0 G ids tS tE o z τ (nI k) (nI w) (v.iv h).ok.1) (fun τ v => kh_y (v.iv h) (by rw [v.cn]; exact hk) hk2) (by decide)
theorem has_no {σ : Sg} (h : IV σ) {b : Nat} (hb : b < cpN σ 1) {mo : Int32} (hn : ∀ m, mo = nI m → (σ.1 22 b).toNatClampNeg ≤ m → m < mon σ → False) : h_hasRead σ b mo = nI 0 := by
  obtain ⟨μ, hR⟩ := h.1
  rcases has_w (hR.rb hb) hR.mo mo with ⟨-, q⟩ | ⟨-, -, m, q1, q2, q3⟩
  · exact q
  · exact (hn m q1 q2 q3).elim
theorem rd_vs {σ τ : Sg} (v : VS σ τ) (b m y : Int32) : k_reading τ b m y = k_reading σ b m y := by
  unfold k_reading h_hasRead h_hasRead_j26 h_readingAt h_readingAt_j34
  rw [v.1 22 (by decide) (by decide), v.1 35 (by decide) (by decide), v.1 (40 + b.toNatClampNeg) (by omega) (by omega)]
theorem rdr_no (hl0 : l.stackTraces = false) (h : IV σ) {b : Nat} (hb : b < cpN σ 1) {mo : Int32} (hn : ∀ m, mo = nI m → (σ.1 22 b).toNatClampNeg ≤ m → m < mon σ → False) {y : Nat} (hy : y < 5) : RQ l yL_reading wsL_reading ({ frames := 8, cells := 3, slots := 18, locals := 145 } : Room) G ids tS tE o z [.ref (o), .int (nI b), .int (mo), .int (nI y)] σ (lK 1) 3 18 :=
  RQ.no (fun τ v => lc_reading l hl0 G ids tS tE o z τ (nI b) mo (nI y) (v.iv h).ok.1) (fun τ v => by
    have hi := v.iv h
    have hb' : b < cpN τ 1 := by rw [v.cn]; exact hb
    have e := has_no hi hb' (mo := mo) (fun m q1 q2 q3 => hn m q1 (by rw [v.1 22 (by decide) (by decide)] at q2; exact q2) (by rw [v.mon] at q3; exact q3))
    simp only [kx_reading, hi.n1.1, ix_0 (n := cpN τ 1) (by have := hi.n1.2; omega) hb', ix_0 (n := 5) (by decide) hy, nI_clamp (show b < 2 ^ 31 by have := hi.n1.2; omega), e, n0t, if_true, xs_0, xs_1]) (by decide)
theorem rdr_no10 (hl0 : l.stackTraces = false) (h : IV σ) : RQ l yL_reading wsL_reading ({ frames := 8, cells := 3, slots := 18, locals := 145 } : Room) G ids tS tE o z [.ref (o), .int (nI 10), .int (nI 0), .int (nI 0)] σ (lK 1) 3 18 :=
  RQ.no (fun τ v => lc_reading l hl0 G ids tS tE o z τ (nI 10) (nI 0) (nI 0) (v.iv h).ok.1) (fun τ v => by
    have hi := v.iv h
    simp only [kx_reading, hi.n1.1, ix_1 (n := cpN τ 1) (c := 10) (by decide) (by have := hi.n1.2; omega) hi.n1.2, xs_1]) (by decide)
theorem rdr_yes (hl0 : l.stackTraces = false) (h : IV σ) {b m : Nat} (hb : b < cpN σ 1) (hm : (σ.1 22 b).toNatClampNeg ≤ m) (hm2 : m < mon σ) {y : Nat} (hy : y < 5) : RQ l yL_reading wsL_reading ({ frames := 8, cells := 3, slots := 18, locals := 145 } : Room) G ids tS tE o z [.ref (o), .int (nI b), .int (nI m), .int (nI y)] σ ((k_reading σ (nI b) (nI m) (nI y)).toInt64) 3 18 :=
  RQ.yes (fun τ v => lc_reading l hl0 G ids tS tE o z τ (nI b) (nI m) (nI y) (v.iv h).ok.1) (fun τ v => by
    have hi := v.iv h
    have hb' : b < cpN τ 1 := by rw [v.cn]; exact hb
    obtain ⟨μ, hR⟩ := hi.1
    have e := has_eq (hR.rb hb') hR.mo (m := m) (by rw [v.mon]; exact hm2)
    rw [if_neg (by rw [v.1 22 (by decide) (by decide)]; omega)] at e
    simp only [kx_reading, hi.n1.1, ix_0 (n := cpN τ 1) (by have := hi.n1.2; omega) hb', ix_0 (n := 5) (by decide) hy, nI_clamp (show b < 2 ^ 31 by have := hi.n1.2; omega), e, n1f, if_false, xs_0]) (fun τ v => by rw [rd_vs v]) (fun τ _ => VS.rf)
theorem rdk (hl0 : l.stackTraces = false) (h : IV σ) {k : Nat} (hk : k < cpN σ 2) : RQ l yL_claimOf wsL_claimOf ({ frames := 8, cells := 1, slots := 6, locals := 142 } : Room) G ids tS tE o z [.ref (o), .int (nI k)] σ ((σ.1 25 k).toInt64) 1 6 :=
  RQ.yes (fun τ v => lc_claimOf l hl0 G ids tS tE o z τ (nI k) (v.iv h).ok.1) (fun τ v => by
    have hi := v.iv h
    simp only [kx_claimOf, hi.n2.1, ix_0 (n := cpN τ 2) (by have := hi.n2.2; omega) (by rw [v.cn]; exact hk), xs_0]) (fun τ v => by
    have e : k_claimOf τ (nI k) = τ.1 25 (nI k).toNatClampNeg := rfl
    rw [e, nI_clamp (by have := h.n2.2; omega), v.1 25 (by decide) (by decide)]) (fun τ _ => VS.rf)
theorem rdk_no (hl0 : l.stackTraces = false) (h : IV σ) {k : Nat} (hk : cpN σ 2 ≤ k) (hk2 : k < 1000) : RQ l yL_claimOf wsL_claimOf ({ frames := 8, cells := 1, slots := 6, locals := 142 } : Room) G ids tS tE o z [.ref (o), .int (nI k)] σ (lK 1) 1 6 :=
  RQ.no (fun τ v => lc_claimOf l hl0 G ids tS tE o z τ (nI k) (v.iv h).ok.1) (fun τ v => by
    have hi := v.iv h
    simp only [kx_claimOf, hi.n2.1, ix_1 (n := cpN τ 2) (c := k) (by omega) (by have := hi.n2.2; omega) (by rw [v.cn]; exact hk), xs_1]) (by decide)
theorem rda (hl0 : l.stackTraces = false) (h : IV σ) {k : Nat} (hk : k < cpN σ 2) : RQ l yL_claimAnew wsL_claimAnew ({ frames := 8, cells := 1, slots := 6, locals := 157 } : Room) G ids tS tE o z [.ref (o), .int (nI k)] σ ((σ.1 25 k).toInt64) 1 6 :=
  RQ.yes (fun τ v => lc_claimAnew l hl0 G ids tS tE o z τ (nI k) (v.iv h).ok.1 (v.iv h).ok.2.2) (fun τ v => by
    have hi := v.iv h
    simp only [kx_claimAnew, hi.n2.1, ix_0 (n := cpN τ 2) (by have := hi.n2.2; omega) (by rw [v.cn]; exact hk), xs_0]) (fun τ v => by
    have hi := v.iv h
    obtain ⟨μ, hR⟩ := hi.1
    have g := (hR.2.2.2.2.2.2.1.2 k (by rw [v.cn]; exact hk)).2
    have e : k_claimAnew τ (nI k) = k_claimAmount τ (τ.1 37 (nI k).toNatClampNeg).toNatClampNeg (τ.1 38 (nI k).toNatClampNeg) (τ.1 39 (nI k).toNatClampNeg) := rfl
    rw [e, nI_clamp (by have := h.n2.2; omega), ← g, v.1 25 (by decide) (by decide)]) (fun τ _ => VS.rf)
theorem rda_no (hl0 : l.stackTraces = false) (h : IV σ) : RQ l yL_claimAnew wsL_claimAnew ({ frames := 8, cells := 1, slots := 6, locals := 157 } : Room) G ids tS tE o z [.ref (o), .int (nI 40)] σ (lK 1) 1 6 :=
  RQ.no (fun τ v => lc_claimAnew l hl0 G ids tS tE o z τ (nI 40) (v.iv h).ok.1 (v.iv h).ok.2.2) (fun τ v => by
    have hi := v.iv h
    simp only [kx_claimAnew, hi.n2.1, ix_1 (n := cpN τ 2) (c := 40) (by decide) (by have := hi.n2.2; omega) hi.n2.2, xs_1]) (by decide)
theorem rdg (hl0 : l.stackTraces = false) {g : Nat} (hg : g < 2) : RQ l yL_air wsL_air ({ frames := 8, cells := 1, slots := 6, locals := 143 } : Room) G ids tS tE o z [.ref (o), .int (nI g)] σ (σ.2 (30 + g)) 1 6 :=
  RQ.yes (fun τ v => lc_air l hl0 G ids tS tE o z τ (nI g)) (fun τ v => by simp only [kx_air, rg_n (v := g) (a := 0) (b := 1) (by omega) (by omega) (by decide), xs_0]) (fun τ v => by
    have e : k_air τ (nI g) = τ.2 (30 + (nI g).toNatClampNeg) := rfl
    rw [e, nI_clamp (by omega), v.2]) (fun τ _ => VS.rf)
end RDS
