/-! what stays in step with the ghost; the object at first -/
def lp_ok (Rel : Sg → Sg → Prop) : Prop := ∀ σ μ, Rel σ μ → cOK σ ∧ cRd σ ∧ cCl σ ∧ mOK μ ∧ ∀ j, j < (μ.1 19 0).toNatClampNeg → vp_in (μ.1 22 j) 601
def lp_ground (Rel : Sg → Sg → Prop) : Prop := ∀ (σ μ : Sg) (cell : Int32) (layer : Int32) (p0 : Int32) (e0 : Int32) (g0 : Int32) (c0 : Int32), Rel σ μ → Rel (if (kx_ground σ cell layer p0 e0 g0 c0) = 0 then (k_ground_s σ cell layer p0 e0 g0 c0) else σ) (m_ground_s μ cell layer p0 e0 g0 c0) ∧ (m_ground_s μ cell layer p0 e0 g0 c0).1 0 0 = nI (lC [1, 2] (kx_ground σ cell layer p0 e0 g0 c0))
def lp_moss (Rel : Sg → Sg → Prop) : Prop := ∀ (σ μ : Sg) (cell : Int32) (mo : Int32), Rel σ μ → Rel (if (kx_moss σ cell mo) = 0 then (k_moss_s σ cell mo) else σ) (m_moss_s μ cell mo) ∧ (m_moss_s μ cell mo).1 0 0 = nI (lC [1, 2] (kx_moss σ cell mo)) ∧ ((kx_moss σ cell mo) = 0 → k_moss σ cell mo = m_moss μ cell mo)
def lp_pass (Rel : Sg → Sg → Prop) : Prop := ∀ (σ μ : Sg) (months : Int32) (air : Int32) (snow : Int32), Rel σ μ → Rel (if (kx_pass σ months air snow) = 0 then (k_pass_s σ months air snow) else σ) (m_pass_s μ months air snow) ∧ (m_pass_s μ months air snow).1 0 0 = nI (lC [2, 3] (kx_pass σ months air snow)) ∧ ((kx_pass σ months air snow) = 0 → k_pass σ months air snow = m_pass μ months air snow)
def lp_fire (Rel : Sg → Sg → Prop) : Prop := ∀ (σ μ : Sg) (cell : Int32), Rel σ μ → Rel (if (kx_fire σ cell) = 0 then (k_fire_s σ cell) else σ) (m_fire_s μ cell) ∧ (m_fire_s μ cell).1 0 0 = nI (lC [1, 3] (kx_fire σ cell)) ∧ ((kx_fire σ cell) = 0 → k_fire σ cell = m_fire μ cell)
def lp_breach (Rel : Sg → Sg → Prop) : Prop := ∀ (σ μ : Sg) (cell : Int32), Rel σ μ → Rel (if (kx_breach σ cell) = 0 then (k_breach_s σ cell) else σ) (m_breach_s μ cell) ∧ (m_breach_s μ cell).1 0 0 = nI (lC [1, 3] (kx_breach σ cell)) ∧ ((kx_breach σ cell) = 0 → k_breach σ cell = m_breach μ cell)
def lp_house (Rel : Sg → Sg → Prop) : Prop := ∀ (σ μ : Sg) (cell : Int32) (pile : Int32) (ic : Int32), Rel σ μ → (ic = 0 ∨ ic = 1) → Rel (if (kx_house σ cell pile ic) = 0 then (k_house_s σ cell pile ic) else σ) (m_house_s μ cell pile ic) ∧ (m_house_s μ cell pile ic).1 0 0 = nI (lC [1, 3] (kx_house σ cell pile ic)) ∧ ((kx_house σ cell pile ic) = 0 → k_house σ cell pile ic = m_house μ cell pile ic)
def lp_borehole (Rel : Sg → Sg → Prop) : Prop := ∀ (σ μ : Sg) (cell : Int32) (dr : Int32), Rel σ μ → Rel (if (kx_borehole σ cell dr) = 0 then (k_borehole_s σ cell dr) else σ) (m_borehole_s μ cell dr) ∧ (m_borehole_s μ cell dr).1 0 0 = nI (lC [1, 2, 3] (kx_borehole σ cell dr)) ∧ ((kx_borehole σ cell dr) = 0 → k_borehole σ cell dr = m_borehole μ cell dr)
def lp_claim (Rel : Sg → Sg → Prop) : Prop := ∀ (σ μ : Sg) (house : Int32), Rel σ μ → Rel (if (kx_claim σ house) = 0 then (k_claim_s σ house) else σ) (m_claim_s μ house) ∧ (m_claim_s μ house).1 0 0 = nI (lC [1, 3] (kx_claim σ house)) ∧ ((kx_claim σ house) = 0 → k_claim σ house = m_claim μ house)
def lp_month (Rel : Sg → Sg → Prop) : Prop := ∀ (σ μ : Sg), Rel σ μ → Rel σ (m_month_s μ) ∧ k_month σ = m_month μ
def lp_cellOf (Rel : Sg → Sg → Prop) : Prop := ∀ (σ μ : Sg) (cell : Int32) (what : Int32), Rel σ μ → Rel (if (kx_cellOf σ cell what) = 0 then (k_cellOf_s σ cell what) else σ) (m_cellOf_s μ cell what) ∧ (m_cellOf_s μ cell what).1 0 0 = nI (lC [1, 2] (kx_cellOf σ cell what)) ∧ ((kx_cellOf σ cell what) = 0 → k_cellOf σ cell what = m_cellOf μ cell what)
def lp_layerOf (Rel : Sg → Sg → Prop) : Prop := ∀ (σ μ : Sg) (cell : Int32) (layer : Int32) (what : Int32), Rel σ μ → Rel (if (kx_layerOf σ cell layer what) = 0 then σ else σ) (m_layerOf_s μ cell layer what) ∧ (m_layerOf_s μ cell layer what).1 0 0 = nI (lC [1, 2] (kx_layerOf σ cell layer what)) ∧ ((kx_layerOf σ cell layer what) = 0 → k_layerOf σ cell layer what = m_layerOf μ cell layer what)
def lp_neighbour (Rel : Sg → Sg → Prop) : Prop := ∀ (σ μ : Sg) (cell : Int32) (at_ : Int32), Rel σ μ → Rel (if (kx_neighbour σ cell at_) = 0 then σ else σ) (m_neighbour_s μ cell at_) ∧ (m_neighbour_s μ cell at_).1 0 0 = nI (lC [1] (kx_neighbour σ cell at_)) ∧ ((kx_neighbour σ cell at_) = 0 → k_neighbour σ cell at_ = m_neighbour μ cell at_)
def lp_lakes (Rel : Sg → Sg → Prop) : Prop := ∀ (σ μ : Sg), Rel σ μ → Rel (k_lakes_s σ) (m_lakes_s μ) ∧ k_lakes σ = m_lakes μ
def lp_houseOf (Rel : Sg → Sg → Prop) : Prop := ∀ (σ μ : Sg) (house : Int32) (what : Int32), Rel σ μ → Rel (if (kx_houseOf σ house what) = 0 then σ else σ) (m_houseOf_s μ house what) ∧ (m_houseOf_s μ house what).1 0 0 = nI (lC [1, 2] (kx_houseOf σ house what)) ∧ ((kx_houseOf σ house what) = 0 → k_houseOf σ house what = m_houseOf μ house what)
def lp_reading (Rel : Sg → Sg → Prop) : Prop := ∀ (σ μ : Sg) (hole : Int32) (mo : Int32) (layer : Int32), Rel σ μ → Rel (if (kx_reading σ hole mo layer) = 0 then σ else σ) (m_reading_s μ hole mo layer) ∧ (m_reading_s μ hole mo layer).1 0 0 = nI (lC [1] (kx_reading σ hole mo layer)) ∧ ((kx_reading σ hole mo layer) = 0 → k_reading σ hole mo layer = m_reading μ hole mo layer)
def lp_claimOf (Rel : Sg → Sg → Prop) : Prop := ∀ (σ μ : Sg) (claim : Int32), Rel σ μ → Rel (if (kx_claimOf σ claim) = 0 then σ else σ) (m_claimOf_s μ claim) ∧ (m_claimOf_s μ claim).1 0 0 = nI (lC [1] (kx_claimOf σ claim)) ∧ ((kx_claimOf σ claim) = 0 → k_claimOf σ claim = m_claimOf μ claim)
def lp_claimAnew (Rel : Sg → Sg → Prop) : Prop := ∀ (σ μ : Sg) (claim : Int32), Rel σ μ → Rel (if (kx_claimAnew σ claim) = 0 then σ else σ) (m_claimAnew_s μ claim) ∧ (m_claimAnew_s μ claim).1 0 0 = nI (lC [1] (kx_claimAnew σ claim)) ∧ ((kx_claimAnew σ claim) = 0 → k_claimAnew σ claim = m_claimAnew μ claim)
def lp_balance (Rel : Sg → Sg → Prop) : Prop := ∀ (σ μ : Sg) (kind : Int32) (what : Int32), Rel σ μ → Rel (if (kx_balance σ kind what) = 0 then σ else σ) (m_balance_s μ kind what) ∧ (m_balance_s μ kind what).1 0 0 = nI (lC [2] (kx_balance σ kind what)) ∧ ((kx_balance σ kind what) = 0 → k_balance σ kind what = m_balance μ kind what)
def lp_air (Rel : Sg → Sg → Prop) : Prop := ∀ (σ μ : Sg) (gas : Int32), Rel σ μ → Rel (if (kx_air σ gas) = 0 then σ else σ) (m_air_s μ gas) ∧ (m_air_s μ gas).1 0 0 = nI (lC [2] (kx_air σ gas)) ∧ ((kx_air σ gas) = 0 → k_air σ gas = m_air μ gas)
theorem k_init_1 : k_init_s.1 = s00.1 := rfl
theorem k_init_N (L : Nat) : cpN k_init_s L = 0 := by
  unfold cpN
  rw [k_init_1]
  rcases cpF_3 L with q | q | q <;> rw [q, s00_0 (by decide)] <;> rfl
theorem k_init_U {x : Nat × Nat} (hx : cpU k_init_s x) : 5 ≤ x.1 := by
  have h9 := cpU_lt hx
  obtain ⟨k, j⟩ := x
  simp only at h9
  show 5 ≤ k
  rcases (show k = 0 ∨ k = 1 ∨ k = 2 ∨ k = 3 ∨ k = 4 ∨ 5 ≤ k by omega) with rfl | rfl | rfl | rfl | rfl | h
  · have q : j < 3 ∧ cpN k_init_s j ≠ 0 := hx
    exact absurd (k_init_N j) q.2
  · have q : j < cpN k_init_s 0 := hx
    rw [k_init_N] at q
    omega
  · have q : j < cpN k_init_s 1 := hx
    rw [k_init_N] at q
    omega
  · have q : j < cpN k_init_s 1 := hx
    rw [k_init_N] at q
    omega
  · have q : j < cpN k_init_s 2 := hx
    rw [k_init_N] at q
    omega
  · exact h
theorem k_init_pic {G : va_G} {ids : Nat → ClassId} {o z z1 tE : Nat} {H H1 : Heap} {d : Nat → Nat → Nat} (hP : CPic G ids o z tE d (fun _ => 0) k_init_s H) (hz : o + 184 ≤ z1) (hk : ∀ q : Nat, q < o + 184 → q < H.size → H1[q]? = H[q]?) : lPic G ids o z1 tE k_init_s H1 := by
  refine ⟨d, fun _ => 0, ⟨fun x hx => (hP.1 x hx).kept (hk _ (cpA_fix hx (k_init_U hx)).2 (hP.lt hx)), fun x hx h5 => absurd (k_init_U hx) (by omega), fun x y hx _ h5 => absurd (k_init_U hx) (by omega), hz, hP.2.2.2.2⟩, fun _ _ => Or.inl rfl⟩
