/-! what the law's loop leans on: the two sides stay in step -/
def lp_ok (Rel : Sg → Sg → Prop) : Prop := ∀ σ μ, Rel σ μ → cOK σ ∧ cRd σ ∧ cCl σ ∧ mOK μ ∧ ∀ j, j < (μ.1 19 0).toNatClampNeg → vp_in (μ.1 22 j) 601
def lp_ground (Rel : Sg → Sg → Prop) : Prop := ∀ (σ μ : Sg) (cell : Int32) (layer : Int32) (p0 : Int32) (e0 : Int32) (g0 : Int32) (c0 : Int32), Rel σ μ → Rel (if (kx_ground σ cell layer p0 e0 g0 c0) = 0 then (k_ground_s σ cell layer p0 e0 g0 c0) else σ) (m_ground_s μ cell layer p0 e0 g0 c0) ∧ (m_ground_s μ cell layer p0 e0 g0 c0).1 0 0 = nI (lC [1, 2] (kx_ground σ cell layer p0 e0 g0 c0))
def lp_moss (Rel : Sg → Sg → Prop) : Prop := ∀ (σ μ : Sg) (cell : Int32) (mo : Int32), Rel σ μ → Rel (if (kx_moss σ cell mo) = 0 then (k_moss_s σ cell mo) else σ) (m_moss_s μ cell mo) ∧ (m_moss_s μ cell mo).1 0 0 = nI (lC [1, 2] (kx_moss σ cell mo)) ∧ ((kx_moss σ cell mo) = 0 → k_moss σ cell mo = m_moss μ cell mo)
def lp_pass (Rel : Sg → Sg → Prop) : Prop := ∀ (σ μ : Sg) (months : Int32) (air : Int32) (snow : Int32), Rel σ μ → Rel (if (kx_pass σ months air snow) = 0 then (k_pass_s σ months air snow) else σ) (m_pass_s μ months air snow) ∧ (m_pass_s μ months air snow).1 0 0 = nI (lC [2, 3] (kx_pass σ months air snow)) ∧ ((kx_pass σ months air snow) = 0 → k_pass σ months air snow = m_pass μ months air snow)
def lp_fire (Rel : Sg → Sg → Prop) : Prop := ∀ (σ μ : Sg) (cell : Int32), Rel σ μ → Rel (if (kx_fire σ cell) = 0 then (k_fire_s σ cell) else σ) (m_fire_s μ cell) ∧ (m_fire_s μ cell).1 0 0 = nI (lC [1, 3] (kx_fire σ cell)) ∧ ((kx_fire σ cell) = 0 → k_fire σ cell = m_fire μ cell)
def lp_breach (Rel : Sg → Sg → Prop) : Prop := ∀ (σ μ : Sg) (cell : Int32), Rel σ μ → Rel (if (kx_breach σ cell) = 0 then (k_breach_s σ cell) else σ) (m_breach_s μ cell) ∧ (m_breach_s μ cell).1 0 0 = nI (lC [1, 3] (kx_breach σ cell)) ∧ ((kx_breach σ cell) = 0 → k_breach σ cell = m_breach μ cell)
def lp_house (Rel : Sg → Sg → Prop) : Prop := ∀ (σ μ : Sg) (cell : Int32) (pile : Int32) (ic : Int32), Rel σ μ → (ic = 0 ∨ ic = 1) → Rel (if (kx_house σ cell pile ic) = 0 then (k_house_s σ cell pile ic) else σ) (m_house_s μ cell pile ic) ∧ (m_house_s μ cell pile ic).1 0 0 = nI (lC [1, 3] (kx_house σ cell pile ic)) ∧ ((kx_house σ cell pile ic) = 0 → k_house σ cell pile ic = m_house μ cell pile ic)
def lp_borehole (Rel : Sg → Sg → Prop) : Prop := ∀ (σ μ : Sg) (cell : Int32) (dr : Int32), Rel σ μ → Rel (if (kx_borehole σ cell dr) = 0 then (k_borehole_s σ cell dr) else σ) (m_borehole_s μ cell dr) ∧ (m_borehole_s μ cell dr).1 0 0 = nI (lC [1, 2, 3] (kx_borehole σ cell dr)) ∧ ((kx_borehole σ cell dr) = 0 → k_borehole σ cell dr = m_borehole μ cell dr)
def lp_claim (Rel : Sg → Sg → Prop) : Prop := ∀ (σ μ : Sg) (house : Int32), Rel σ μ → Rel (if (kx_claim σ house) = 0 then (k_claim_s σ house) else σ) (m_claim_s μ house) ∧ (m_claim_s μ house).1 0 0 = nI (lC [1, 3] (kx_claim σ house)) ∧ ((kx_claim σ house) = 0 → k_claim σ house = m_claim μ house)
def lp_month (Rel : Sg → Sg → Prop) : Prop := ∀ (σ μ : Sg), Rel σ μ → Rel σ (m_month_s μ) ∧ k_month σ = m_month μ
def lp_cellOf (Rel : Sg → Sg → Prop) : Prop := ∀ (σ μ : Sg) (cell : Int32) (what : Int32), Rel σ μ → Rel (if (kx_cellOf σ cell what) = 0 then (k_cellOf_s σ cell what) else σ) (m_cellOf_s μ cell what) ∧ (m_cellOf_s μ cell what).1 0 0 = nI (lC [1, 2] (kx_cellOf σ cell what)) ∧ ((kx_cellOf σ cell what) = 0 → k_cellOf σ cell what = m_cellOf μ cell what)
def lp_layerOf (Rel : Sg → Sg → Prop) : Prop := ∀ (σ μ : Sg) (cell : Int32) (layer : Int32) (what : Int32), Rel σ μ → Rel (if (kx_layerOf σ cell layer what) = 0 then σ else σ) (m_layerOf_s μ cell layer what) ∧ (m_layerOf_s μ cell layer what).1 0 0 = nI (lC [1, 2] (kx_layerOf σ cell layer what)) ∧ ((kx_layerOf σ cell layer what) = 0 → k_layerOf σ cell layer what = m_layerOf μ cell layer what)
def lp_neighbour (Rel : Sg → Sg → Prop) : Prop := ∀ (σ μ : Sg) (cell : Int32) (at_ : Int32), Rel σ μ → Rel (if (kx_neighbour σ cell at_) = 0 then σ else σ) (m_neighbour_s μ cell at_) ∧ (m_neighbour_s μ cell at_).1 0 0 = nI (lC [1] (kx_neighbour σ cell at_)) ∧ ((kx_neighbour σ cell at_) = 0 → k_neighbour σ cell at_ = m_neighbour μ cell at_)
def lp_lakes (Rel : Sg → Sg → Prop) : Prop := ∀ (σ μ : Sg), Rel σ μ → Rel (k_lakes_s σ) (m_lakes_s μ) ∧ k_lakes σ = m_lakes μ
def lp_houseOf (Rel : Sg → Sg → Prop) : Prop := ∀ (σ μ : Sg) (house : Int32) (what : Int32), Rel σ μ → Rel (if (kx_houseOf σ house what) = 0 then σ else σ) (m_houseOf_s μ house what) ∧ (m_houseOf_s μ house what).1 0 0 = nI (lC [1, 2] (kx_houseOf σ house what)) ∧ ((kx_houseOf σ house what) = 0 → k_houseOf σ house what = m_houseOf μ house what)
def lp_reading (Rel : Sg → Sg → Prop) : Prop := ∀ (σ μ : Sg) (hole : Int32) (mo : Int32) (layer : Int32), Rel σ μ → Rel (if (kx_reading σ hole mo layer) = 0 then σ else σ) (m_reading_s μ hole mo layer) ∧ (m_reading_s μ hole mo layer).1 0 0 = nI (lC [1] (kx_reading σ hole mo layer)) ∧ ((kx_reading σ hole mo layer) = 0 → k_reading σ hole mo layer = m_reading μ hole mo layer)
def lp_claimOf (Rel : Sg → Sg → Prop) : Prop := ∀ (σ μ : Sg) (claim : Int32), Rel σ μ → Rel (if (kx_claimOf σ claim) = 0 then σ else σ) (m_claimOf_s μ claim) ∧ (m_claimOf_s μ claim).1 0 0 = nI (lC [1] (kx_claimOf σ claim)) ∧ ((kx_claimOf σ claim) = 0 → k_claimOf σ claim = m_claimOf μ claim)
def lp_claimAnew (Rel : Sg → Sg → Prop) : Prop := ∀ (σ μ : Sg) (claim : Int32), Rel σ μ → Rel (if (kx_claimAnew σ claim) = 0 then σ else σ) (m_claimAnew_s μ claim) ∧ (m_claimAnew_s μ claim).1 0 0 = nI (lC [1] (kx_claimAnew σ claim)) ∧ ((kx_claimAnew σ claim) = 0 → k_claimAnew σ claim = m_claimAnew μ claim)
def lp_balance (Rel : Sg → Sg → Prop) : Prop := ∀ (σ μ : Sg) (kind : Int32) (what : Int32), Rel σ μ → Rel (if (kx_balance σ kind what) = 0 then σ else σ) (m_balance_s μ kind what) ∧ (m_balance_s μ kind what).1 0 0 = nI (lC [2] (kx_balance σ kind what)) ∧ ((kx_balance σ kind what) = 0 → k_balance σ kind what = m_balance μ kind what)
def lp_air (Rel : Sg → Sg → Prop) : Prop := ∀ (σ μ : Sg) (gas : Int32), Rel σ μ → Rel (if (kx_air σ gas) = 0 then σ else σ) (m_air_s μ gas) ∧ (m_air_s μ gas).1 0 0 = nI (lC [2] (kx_air σ gas)) ∧ ((kx_air σ gas) = 0 → k_air σ gas = m_air μ gas)
set_option maxHeartbeats 4000000 in
set_option maxRecDepth 100000 in
theorem law_loop {p : Program} {l : Launch} {e : Env} {s : State} {m : MethodId} {below : List Frame} {meth : Method} {c : Code} {b L : Nat} {xs : Nat → Int32} {G : va_G} {ids : Nat → ClassId} {tS tE o r qo z : Nat} (C0 : lX p l s m meth c b L xs G ids tS tE o r qo z) {Q : State → Prop} {Rel : Sg → Sg → Prop} (hok : lp_ok Rel) (h_ground : lp_ground Rel) (h_moss : lp_moss Rel) (h_pass : lp_pass Rel) (h_fire : lp_fire Rel) (h_breach : lp_breach Rel) (h_house : lp_house Rel) (h_borehole : lp_borehole Rel) (h_claim : lp_claim Rel) (h_month : lp_month Rel) (h_cellOf : lp_cellOf Rel) (h_layerOf : lp_layerOf Rel) (h_neighbour : lp_neighbour Rel) (h_lakes : lp_lakes Rel) (h_houseOf : lp_houseOf Rel) (h_reading : lp_reading Rel) (h_claimOf : lp_claimOf Rel) (h_claimAnew : lp_claimAnew Rel) (h_balance : lp_balance Rel) (h_air : lp_air Rel)
    (kend : ∀ (H : Heap) (locs : List Loc) (cells slots : Nat) (ls : Array Slot), cells ≤ 601024 → slots ≤ 7293034 → va_S (fun q => s.heap.size ≤ q) s.heap H locs → W p l e room_1 s m #[Value.ref b] below meth c H locs cells slots Q (F0 m 1340 ls [])) :
    ∀ (n k i : Nat), i = 7 * k → i ≤ L → L + 1 ≤ i + 7 * n → ∀ (H : Heap) (locs : List Loc) (ls : Array Slot) (σ μ : Sg), Rel σ μ → lPic G ids o z tE σ H → (∃ v, lOut G ids qo v H) → va_P G vwCl (wm (ids 0) (ids 1) (aM r) μ) H → va_S (fun q => s.heap.size ≤ q) s.heap H locs → lv_has ls 8 [(4, .int (nI (i))), (3, .ref (qo)), (2, .ref (r)), (1, .ref (o)), (0, .ref (b))] → W p l e room_1 s m #[Value.ref b] below meth c H locs (300 + 10 * k) (40000 + 4000 * k) Q (F0 m 23 ls []) := by
  obtain ⟨hx, hb, hml, hown, hts, hX, hbl, hl0, hK, hZ, hN, ho1, ho2, ho3, ho4, hL⟩ := id C0
  have hbA : ¬ (fun q : Nat => s.heap.size ≤ q) b := Nat.not_le.mpr hbl
  intro n
  induction n with
  | zero => intro k i hk hiL hn; exact absurd hn (by omega)
  | succ n ih =>
    intro k i hk hiL hn H locs ls σ μ hR hP hO hW hS hl
    obtain ⟨hcO, hcR, hcC, hMO, hMB⟩ := hok σ μ hR
    have hcell : 300 + 10 * k + 10 ≤ 601024 := by omega
    have hslot : 40000 + 4000 * k + 4000 ≤ 7293034 := by omega
    refine lv_iload hx hb dL_law_23 (lv_at hl 0 rfl) ?_
    refine lv_aload_n hx hb dL_law_25 rfl (lv_at hl 4 rfl) ?_
    refine va_slen hx hb hX hbl hbA hS dL_law_26 ?_
    refine lv_bipush (v := nI 7) hx hb dL_law_27 (by decide) ?_
    refine lv_isub (x := nI L) (y := nI 7) hx hb dL_law_29 ?_
    have hgt : nI L - nI 7 < nI i ↔ L < i + 7 := by
      rw [i_lt, pk_sub_toInt (by omega) (by decide), nI_toInt (by omega)]
      omega
    refine lv_icmp_gt (x := nI i) (y := nI L - nI 7) (tgt := 1340) hx hb dL_law_30 (by decide) (fun c9 => ?_) (fun c9 => ?_)
    · exact kend H locs _ _ ls (by omega) (by omega) hS
    · have hi7 : i + 7 ≤ L := Nat.le_of_not_lt (fun h => c9 (hgt.mpr h))
      have K : ∀ (σ1 μ1 : Sg) (H1 : Heap) (locs1 : List Loc) (ls1 : Array Slot), Rel σ1 μ1 → lPic G ids o z tE σ1 H1 → (∃ v, lOut G ids qo v H1) → va_P G vwCl (wm (ids 0) (ids 1) (aM r) μ1) H1 → va_S (fun q => s.heap.size ≤ q) s.heap H1 locs1 → lv_has ls1 8 [(4, .int (nI (i))), (3, .ref (qo)), (2, .ref (r)), (1, .ref (o)), (0, .ref (b))] → W p l e room_1 s m #[Value.ref b] below meth c H1 locs1 (300 + 10 * k + 10) (40000 + 4000 * k + 4000) Q (F0 m 1334 ls1 []) := by
        intro σ1 μ1 H1 locs1 ls1 hR1 hP1 hO1 hW1 hS1 hl1
        refine n_iinc (x := i) (dN := 7) (k := 0) (lv' := [(4, .int (nI (i + 7))), (3, .ref (qo)), (2, .ref (r)), (1, .ref (o)), (0, .ref (b))]) hx hb dL_law_1334 hl1 rfl (by decide) rfl (fun ls2 hl2 => ?_)
        refine lv_goto (tgt := 23) hx hb dL_law_1337 (by decide) ?_
        exact W.widen (by omega) (by omega) (ih (k + 1) (i + 7) (by omega) hi7 (by omega) H1 locs1 ls2 σ1 μ1 hR1 hP1 hO1 hW1 hS1 hl2)
      refine lv_aload_n hx hb dL_law_33 rfl (lv_at hl 4 rfl) ?_
      refine lv_iload hx hb dL_law_34 (lv_at hl 0 rfl) ?_
      refine l_sld hx hb hX hbl hbA hS (j := i) (by omega) (by omega) dL_law_36 ?_
      refine lv_bipush (v := nI 31) hx hb dL_law_37 (by decide) ?_
      refine lv_iand hx hb dL_law_39 ?_
      obtain ⟨t, ht, et⟩ := pk_andE (xs i) (m := nI 31) 5 (by decide)
      rw [et]
      by_cases h19 : t < 19
      · rcases (show t = 0 ∨ t = 1 ∨ t = 2 ∨ t = 3 ∨ t = 4 ∨ t = 5 ∨ t = 6 ∨ t = 7 ∨ t = 8 ∨ t = 9 ∨ t = 10 ∨ t = 11 ∨ t = 12 ∨ t = 13 ∨ t = 14 ∨ t = 15 ∨ t = 16 ∨ t = 17 ∨ t = 18 by omega) with rfl | rfl | rfl | rfl | rfl | rfl | rfl | rfl | rfl | rfl | rfl | rfl | rfl | rfl | rfl | rfl | rfl | rfl | rfl
        · refine lv_tableIn (x := nI 0) (off := 92) (tgt := 132) hx hb dL_law_40 (by decide) (by decide) rfl (by decide) ?_
          obtain ⟨h0, h1⟩ := h_ground σ μ (xs (i + 1)) (xs (i + 2)) (xs (i + 3)) (xs (i + 4)) (xs (i + 5)) (xs (i + 6)) hR
          exact law_ground C0 hi7 hcell hslot hP hO hW hS hl hMO h1 (fun H1 locs1 ls1 g1 g2 g3 g4 g5 => K _ _ H1 locs1 ls1 h0 g1 g2 g3 g4 g5)
        · refine lv_tableIn (x := nI 1) (off := 190) (tgt := 230) hx hb dL_law_40 (by decide) (by decide) rfl (by decide) ?_
          obtain ⟨h0, h1, h2⟩ := h_moss σ μ (xs (i + 1)) (xs (i + 2)) hR
          exact law_moss C0 hi7 hcell hslot hP hO hW hS hl hMO h1 h2 (fun H1 locs1 ls1 g1 g2 g3 g4 g5 => K _ _ H1 locs1 ls1 h0 g1 g2 g3 g4 g5)
        · refine lv_tableIn (x := nI 2) (off := 258) (tgt := 298) hx hb dL_law_40 (by decide) (by decide) rfl (by decide) ?_
          obtain ⟨h0, h1, h2⟩ := h_pass σ μ (xs (i + 1)) (xs (i + 2)) (xs (i + 3)) hR
          exact law_pass C0 hi7 hcell hslot hP hO hW hS hl hMO hcO hcR h1 h2 (fun H1 locs1 ls1 g1 g2 g3 g4 g5 => K _ _ H1 locs1 ls1 h0 g1 g2 g3 g4 g5)
        · refine lv_tableIn (x := nI 3) (off := 338) (tgt := 378) hx hb dL_law_40 (by decide) (by decide) rfl (by decide) ?_
          obtain ⟨h0, h1, h2⟩ := h_fire σ μ (xs (i + 1)) hR
          exact law_fire C0 hi7 hcell hslot hP hO hW hS hl hMO h1 h2 (fun H1 locs1 ls1 g1 g2 g3 g4 g5 => K _ _ H1 locs1 ls1 h0 g1 g2 g3 g4 g5)
        · refine lv_tableIn (x := nI 4) (off := 394) (tgt := 434) hx hb dL_law_40 (by decide) (by decide) rfl (by decide) ?_
          obtain ⟨h0, h1, h2⟩ := h_breach σ μ (xs (i + 1)) hR
          exact law_breach C0 hi7 hcell hslot hP hO hW hS hl hMO h1 h2 (fun H1 locs1 ls1 g1 g2 g3 g4 g5 => K _ _ H1 locs1 ls1 h0 g1 g2 g3 g4 g5)
        · refine lv_tableIn (x := nI 5) (off := 450) (tgt := 490) hx hb dL_law_40 (by decide) (by decide) rfl (by decide) ?_
          obtain ⟨ic, hic0, hic1⟩ : ∃ ic : Int32, (xs (i + 3) = 0 → ic = nI 0) ∧ (¬ xs (i + 3) = 0 → ic = nI 1) := ⟨if xs (i + 3) = 0 then nI 0 else nI 1, fun q => if_pos q, fun q => if_neg q⟩
          have hic : ic = 0 ∨ ic = 1 := by
            by_cases q : xs (i + 3) = 0
            · exact Or.inl (hic0 q)
            · exact Or.inr (hic1 q)
          obtain ⟨h0, h1, h2⟩ := h_house σ μ (xs (i + 1)) (xs (i + 2)) ic hR hic
          exact law_house C0 hi7 hcell hslot hP hO hW hS hl hMO hcO hcC h1 h2 hic0 hic1 (fun H1 locs1 ls1 g1 g2 g3 g4 g5 => K _ _ H1 locs1 ls1 h0 g1 g2 g3 g4 g5)
        · refine lv_tableIn (x := nI 6) (off := 546) (tgt := 586) hx hb dL_law_40 (by decide) (by decide) rfl (by decide) ?_
          obtain ⟨h0, h1, h2⟩ := h_borehole σ μ (xs (i + 1)) (xs (i + 2)) hR
          exact law_borehole C0 hi7 hcell hslot hP hO hW hS hl hMO hcO h1 h2 (fun H1 locs1 ls1 g1 g2 g3 g4 g5 => K _ _ H1 locs1 ls1 h0 g1 g2 g3 g4 g5)
        · refine lv_tableIn (x := nI 7) (off := 614) (tgt := 654) hx hb dL_law_40 (by decide) (by decide) rfl (by decide) ?_
          obtain ⟨h0, h1, h2⟩ := h_claim σ μ (xs (i + 1)) hR
          exact law_claim C0 hi7 hcell hslot hP hO hW hS hl hMO hcO h1 h2 (fun H1 locs1 ls1 g1 g2 g3 g4 g5 => K _ _ H1 locs1 ls1 h0 g1 g2 g3 g4 g5)
        · refine lv_tableIn (x := nI 8) (off := 670) (tgt := 710) hx hb dL_law_40 (by decide) (by decide) rfl (by decide) ?_
          obtain ⟨h0, h2⟩ := h_month σ μ hR
          exact law_month C0 hi7 hcell hslot hP hO hW hS hl hMO h2 (fun H1 locs1 ls1 g1 g2 g3 g4 g5 => K _ _ H1 locs1 ls1 h0 g1 g2 g3 g4 g5)
        · refine lv_tableIn (x := nI 9) (off := 683) (tgt := 723) hx hb dL_law_40 (by decide) (by decide) rfl (by decide) ?_
          obtain ⟨h0, h1, h2⟩ := h_cellOf σ μ (xs (i + 1)) (xs (i + 2)) hR
          exact law_cellOf C0 hi7 hcell hslot hP hO hW hS hl hMO h1 h2 (fun H1 locs1 ls1 g1 g2 g3 g4 g5 => K _ _ H1 locs1 ls1 h0 g1 g2 g3 g4 g5)
        · refine lv_tableIn (x := nI 10) (off := 751) (tgt := 791) hx hb dL_law_40 (by decide) (by decide) rfl (by decide) ?_
          obtain ⟨h0, h1, h2⟩ := h_layerOf σ μ (xs (i + 1)) (xs (i + 2)) (xs (i + 3)) hR
          exact law_layerOf C0 hi7 hcell hslot hP hO hW hS hl hMO h1 h2 (fun H1 locs1 ls1 g1 g2 g3 g4 g5 => K _ _ H1 locs1 ls1 h0 g1 g2 g3 g4 g5)
        · refine lv_tableIn (x := nI 11) (off := 831) (tgt := 871) hx hb dL_law_40 (by decide) (by decide) rfl (by decide) ?_
          obtain ⟨h0, h1, h2⟩ := h_neighbour σ μ (xs (i + 1)) (xs (i + 2)) hR
          exact law_neighbour C0 hi7 hcell hslot hP hO hW hS hl hMO h1 h2 (fun H1 locs1 ls1 g1 g2 g3 g4 g5 => K _ _ H1 locs1 ls1 h0 g1 g2 g3 g4 g5)
        · refine lv_tableIn (x := nI 12) (off := 899) (tgt := 939) hx hb dL_law_40 (by decide) (by decide) rfl (by decide) ?_
          obtain ⟨h0, h2⟩ := h_lakes σ μ hR
          exact law_lakes C0 hi7 hcell hslot hP hO hW hS hl hMO h2 (fun H1 locs1 ls1 g1 g2 g3 g4 g5 => K _ _ H1 locs1 ls1 h0 g1 g2 g3 g4 g5)
        · refine lv_tableIn (x := nI 13) (off := 912) (tgt := 952) hx hb dL_law_40 (by decide) (by decide) rfl (by decide) ?_
          obtain ⟨h0, h1, h2⟩ := h_houseOf σ μ (xs (i + 1)) (xs (i + 2)) hR
          exact law_houseOf C0 hi7 hcell hslot hP hO hW hS hl hMO hcO h1 h2 (fun H1 locs1 ls1 g1 g2 g3 g4 g5 => K _ _ H1 locs1 ls1 h0 g1 g2 g3 g4 g5)
        · refine lv_tableIn (x := nI 14) (off := 980) (tgt := 1020) hx hb dL_law_40 (by decide) (by decide) rfl (by decide) ?_
          obtain ⟨h0, h1, h2⟩ := h_reading σ μ (xs (i + 1)) (xs (i + 2)) (xs (i + 3)) hR
          exact law_reading C0 hi7 hcell hslot hP hO hW hS hl hMO hMB hcO h1 h2 (fun H1 locs1 ls1 g1 g2 g3 g4 g5 => K _ _ H1 locs1 ls1 h0 g1 g2 g3 g4 g5)
        · refine lv_tableIn (x := nI 15) (off := 1060) (tgt := 1100) hx hb dL_law_40 (by decide) (by decide) rfl (by decide) ?_
          obtain ⟨h0, h1, h2⟩ := h_claimOf σ μ (xs (i + 1)) hR
          exact law_claimOf C0 hi7 hcell hslot hP hO hW hS hl hMO hcO h1 h2 (fun H1 locs1 ls1 g1 g2 g3 g4 g5 => K _ _ H1 locs1 ls1 h0 g1 g2 g3 g4 g5)
        · refine lv_tableIn (x := nI 16) (off := 1116) (tgt := 1156) hx hb dL_law_40 (by decide) (by decide) rfl (by decide) ?_
          obtain ⟨h0, h1, h2⟩ := h_claimAnew σ μ (xs (i + 1)) hR
          exact law_claimAnew C0 hi7 hcell hslot hP hO hW hS hl hMO hcO hcC h1 h2 (fun H1 locs1 ls1 g1 g2 g3 g4 g5 => K _ _ H1 locs1 ls1 h0 g1 g2 g3 g4 g5)
        · refine lv_tableIn (x := nI 17) (off := 1172) (tgt := 1212) hx hb dL_law_40 (by decide) (by decide) rfl (by decide) ?_
          obtain ⟨h0, h1, h2⟩ := h_balance σ μ (xs (i + 1)) (xs (i + 2)) hR
          exact law_balance C0 hi7 hcell hslot hP hO hW hS hl hMO h1 h2 (fun H1 locs1 ls1 g1 g2 g3 g4 g5 => K _ _ H1 locs1 ls1 h0 g1 g2 g3 g4 g5)
        · refine lv_tableIn (x := nI 18) (off := 1239) (tgt := 1279) hx hb dL_law_40 (by decide) (by decide) rfl (by decide) ?_
          obtain ⟨h0, h1, h2⟩ := h_air σ μ (xs (i + 1)) hR
          exact law_air C0 hi7 hcell hslot hP hO hW hS hl hMO h1 h2 (fun H1 locs1 ls1 g1 g2 g3 g4 g5 => K _ _ H1 locs1 ls1 h0 g1 g2 g3 g4 g5)
      · refine lv_tableOut (x := nI t) (tgt := 1334) hx hb dL_law_40 (Or.inr (by rw [nI_toInt (by omega)]; omega)) (by decide) ?_
        exact W.widen (by omega) (by omega) (K σ μ H locs ls hR hP hO hW hS hl)
