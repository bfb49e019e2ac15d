def k_house_k91 (σ : Sg) (cell : Int32) (pile : Int32) (ic : Int32) (x_7 : Int32) (s_14 : Sg) (s_18 : Sg) : Int32 := (s_18.1 36 ((cell).toNatClampNeg))
def k_house_k91_s (σ : Sg) (cell : Int32) (pile : Int32) (ic : Int32) (x_7 : Int32) (s_14 : Sg) (s_18 : Sg) : Sg := s_18
def k_house_k70 (σ : Sg) (cell : Int32) (pile : Int32) (ic : Int32) (x_7 : Int32) (s_14 : Sg) : Int32 := (k_house_k91 σ cell pile ic x_7 s_14 (gH s_14 (cell) (pile) (ic) ((s_14.1 1 0))))
def k_house_k70_s (σ : Sg) (cell : Int32) (pile : Int32) (ic : Int32) (x_7 : Int32) (s_14 : Sg) : Sg := (k_house_k91_s σ cell pile ic x_7 s_14 (gH s_14 (cell) (pile) (ic) ((s_14.1 1 0))))
def k_house_j55 (σ : Sg) (cell : Int32) (pile : Int32) (ic : Int32) (x_7 : Int32) : Int32 := (k_house_k70 σ cell pile ic x_7 (si σ 36 ((cell).toNatClampNeg) ((σ.1 13 0))))
def k_house_j55_s (σ : Sg) (cell : Int32) (pile : Int32) (ic : Int32) (x_7 : Int32) : Sg := (k_house_k70_s σ cell pile ic x_7 (si σ 36 ((cell).toNatClampNeg) ((σ.1 13 0))))
def k_house (σ : Sg) (cell : Int32) (pile : Int32) (ic : Int32) : Int32 := (k_house_j55 σ cell pile ic (if (σ.1 36 ((cell).toNatClampNeg)) = (-1) then (if (c_isLake σ ((cell).toNatClampNeg)) = 0 then (if nI (10) ≤ (σ.1 13 0) then nI (0) else nI (1)) else nI (0)) else nI (0)))
def k_house_s (σ : Sg) (cell : Int32) (pile : Int32) (ic : Int32) : Sg := (k_house_j55_s σ cell pile ic (if (σ.1 36 ((cell).toNatClampNeg)) = (-1) then (if (c_isLake σ ((cell).toNatClampNeg)) = 0 then (if nI (10) ≤ (σ.1 13 0) then nI (0) else nI (1)) else nI (0)) else nI (0)))
def kx_house (σ : Sg) (cell : Int32) (pile : Int32) (ic : Int32) : Nat := xs (xIx (cell) (nI (25))) (xs (xIx ((pile) - (nI (1))) (nI (4))) (xs (xSt ((if (σ.1 36 ((cell).toNatClampNeg)) = (-1) then (if (c_isLake σ ((cell).toNatClampNeg)) = 0 then (if nI (10) ≤ (σ.1 13 0) then nI (0) else nI (1)) else nI (0)) else nI (0)))) (0)))
set_option maxHeartbeats 4000000 in
set_option maxRecDepth 100000 in
theorem cx_house (l : Launch) (hl0 : l.stackTraces = false) (G : va_G) (ids : Nat → ClassId) (o z tS tE : Nat) (d : Nat → Nat → Nat) (w : Nat → Nat) (σ : Sg) (cell : Int32) (pile : Int32) (ic : Int32) (hO : cOK σ) (hC : cCl σ) (hW0 : wOK σ w) (hz : ic = 0 ∨ ic = 1) : zJ l yX5_house wsX5_house ({ frames := 8, cells := 5, slots := 83, locals := 161 } : Room) G ids tS tE [.ref (o), .int (cell), .int (pile), .int (ic)] o z d w σ (kx_house σ cell pile ic) (k_house σ cell pile ic) (k_house_s σ cell pile ic) 5 83 := by
  unfold zJ
  refine vx_ofW (cc := cX5_house) (maxL := 5) (ret := (some .int)) (by decide) rfl ?_
  intro p e s m args below meth c s₁ B hml hno hv
  obtain ⟨rfl, ⟨hP, hz0⟩, hK, hZ⟩ := hv
  have hx := B.exec
  have hb := B.bytes
  have hr := B.returns
  have hts := atoms_spec (ws := wsX5_house) B.pre
  have hown : s.vm.findClass RX5 = some m.cls := findClass_of_methodNamed B.named
  have hlocks := B.notSynchronized
  have hS : va_S (cpG o z) s.heap s.heap [] := va_S.rf
  have hin_wsX50 : ∀ w ∈ wsX50, w ∈ wsX5_house := fun w h => List.mem_cons_of_mem _ (List.mem_append_left _ (List.mem_append_left _ (List.mem_append_left _ (List.mem_append_left _ (List.mem_append_left _ (List.mem_append_right _ h))))))
  have hin_wsX10 : ∀ w ∈ wsX10, w ∈ wsX5_house := fun w h => List.mem_cons_of_mem _ (List.mem_append_left _ (List.mem_append_left _ (List.mem_append_left _ (List.mem_append_left _ (List.mem_append_right _ h)))))
  have hin_wsX30 : ∀ w ∈ wsX30, w ∈ wsX5_house := fun w h => List.mem_cons_of_mem _ (List.mem_append_left _ (List.mem_append_left _ (List.mem_append_left _ (List.mem_append_right _ h))))
  have hin_wsJx4a65c0 : ∀ w ∈ wsJx4a65c0, w ∈ wsX5_house := fun w h => List.mem_cons_of_mem _ (List.mem_append_left _ (List.mem_append_left _ (List.mem_append_right _ h)))
  have hl := lv_entry ([.ref (o), .int (cell), .int (pile), .int (ic)]) (n := 5) (Nat.le_of_ble_eq_true rfl)
  rw [lg_entry_eq]
  generalize (lg_sl ([.ref (o), .int (cell), .int (pile), .int (ic)]) ++ List.replicate (5 - (lg_sl ([.ref (o), .int (cell), .int (pile), .int (ic)])).length) Slot.unset).toArray = ls at hl ⊢
  have hl : lv_has ls 5 [(0, .ref (o)), (1, .int (cell)), (2, .int (pile)), (3, .int (ic))] := hl
  refine w_named (fun WW hWW => ?_)
  refine lv_iload_n hx hb dX5_house_0 rfl (lv_at hl 1 rfl) ?_
  refine lv_bipush (v := nI (25)) hx hb dX5_house_1 (by decide) ?_
  refine p_need (As := [.int (cell), .int (nI (25))]) (rest := []) (X := xIx (cell) (nI (25))) (c1 := 1) (s1 := 6) ⟨hx, hb, hml, hown, hts⟩ (ck_needIndex l hl0 tS tE (cell) (nI (25))) (va_cwS 2 hts gX5_house_X5_needIndex rfl rfl rfl (by decide +kernel) ⟨Nat.le_of_ble_eq_true rfl, Nat.le_of_ble_eq_true rfl⟩) hno hlocks hZ hP hS rfl hl.1 rfl (Nat.le_of_ble_eq_true rfl) dX5_house_3 ⟨Nat.le_of_ble_eq_true rfl, Nat.le_of_ble_eq_true rfl⟩ rfl rfl (Nat.le_of_ble_eq_true rfl) (Nat.le_of_ble_eq_true rfl) (fun hq_2 => by unfold kx_house; simp only [xs, if_neg hq_2]) (fun hX_1 H locs hP hS => ?_)
  have hcell := hX_1
  refine lv_iload_n hx hb dX5_house_6 rfl (lv_at hl 2 rfl) ?_
  refine lv_iconst (v := nI (1)) hx hb dX5_house_7 (by decide) ?_
  refine lv_isub (x := pile) (y := nI (1)) hx hb dX5_house_8 ?_
  refine lv_iconst (v := nI (4)) hx hb dX5_house_9 (by decide) ?_
  refine p_need (As := [.int ((pile) - (nI (1))), .int (nI (4))]) (rest := []) (X := xIx ((pile) - (nI (1))) (nI (4))) (c1 := 2) (s1 := 12) ⟨hx, hb, hml, hown, hts⟩ (ck_needIndex l hl0 tS tE ((pile) - (nI (1))) (nI (4))) (va_cwS 2 hts gX5_house_X5_needIndex rfl rfl rfl (by decide +kernel) ⟨Nat.le_of_ble_eq_true rfl, Nat.le_of_ble_eq_true rfl⟩) hno hlocks hZ hP hS rfl hl.1 rfl (Nat.le_of_ble_eq_true rfl) dX5_house_10 ⟨Nat.le_of_ble_eq_true rfl, Nat.le_of_ble_eq_true rfl⟩ rfl rfl (Nat.le_of_ble_eq_true rfl) (Nat.le_of_ble_eq_true rfl) (fun hq_4 => by unfold kx_house; simp only [xs, if_pos hX_1, if_neg hq_4]) (fun hX_3 H locs hP hS => ?_)
  refine lv_aload_n hx hb dX5_house_13 rfl (lv_at hl 0 rfl) ?_
  refine x_get (C := RX5) (T := TX5) (N := 10) (ci := 6) (fs := (cpOf o σ)) (v := .ref (o + 1)) hx hb hts hin_wsX50 hown hK hP.main rfl 0 (by decide) (index := 11) (List.mem_of_getElem? (i := 1) rfl) rfl dX5_house_14 ?_
  refine lv_iload_n hx hb dX5_house_17 rfl (lv_at hl 1 rfl) ?_
  refine x_aald (r := o + 9 + 7 * ((cell).toNatClampNeg)) hx hb hK 3 rfl hP.crow (xIx_in (by decide) hcell) rfl dX5_house_18 ?_
  refine lv_astore (lv' := [(4, .ref (o + 9 + 7 * ((cell).toNatClampNeg))), (0, .ref (o)), (1, .int (cell)), (2, .int (pile)), (3, .int (ic))]) hx hb dX5_house_19 hl (by decide) rfl (fun ls hl => ?_)
  refine lv_aload hx hb dX5_house_21 (lv_at hl 0 rfl) ?_
  refine x_get (C := RX1) (T := TX1) (N := 7) (ci := 2) (fs := (cfs (o + 9 + 7 * ((cell).toNatClampNeg)) ((cell).toNatClampNeg) σ)) (v := .int ((σ.1 36 ((cell).toNatClampNeg)))) hx hb hts hin_wsX10 hown hK (hP.cell (vp_lt (xIx_in (by decide) hcell))) rfl 6 (by decide) (index := 109) (List.mem_of_getElem? (i := 2) rfl) rfl dX5_house_23 ?_
  refine lv_iconst (v := (-1)) hx hb dX5_house_26 (by decide) ?_
  have J55_8 : ∀ (x_7 : Int32), x_7 = (if (σ.1 36 ((cell).toNatClampNeg)) = (-1) then (if (c_isLake σ ((cell).toNatClampNeg)) = 0 then (if nI (10) ≤ (σ.1 13 0) then nI (0) else nI (1)) else nI (0)) else nI (0)) → ∀ (H : Heap) (locs : List Loc), CPic G ids o z tE d w σ H → va_S (cpG o z) s.heap H locs → ∀ (ls : Array Slot), lv_has ls 5 [(4, .ref (o + 9 + 7 * ((cell).toNatClampNeg))), (0, .ref (o)), (1, .int (cell)), (2, .int (pile)), (3, .int (ic))] → WW H locs 2 12 (F0 m 55 ls [.int (x_7)]) := by
    intro x_7 h_9 H locs hP hS ls hl
    refine (hWW _ _ _ _ _).mpr ?_
    have hR_10 : k_house σ cell pile ic = k_house_j55 σ cell pile ic x_7 := (by have q_ := h_9.symm; subst q_; unfold k_house; rfl)
    have hR_11 : k_house_s σ cell pile ic = k_house_j55_s σ cell pile ic x_7 := (by have q_ := h_9.symm; subst q_; unfold k_house_s; rfl)
    refine p_need (As := [.int (x_7)]) (rest := []) (X := xSt (x_7)) (c1 := 3) (s1 := 18) ⟨hx, hb, hml, hown, hts⟩ (ck_needState l hl0 tS tE (x_7)) (va_cwS 1 hts gX5_house_X5_needState rfl rfl rfl (by decide +kernel) ⟨Nat.le_of_ble_eq_true rfl, Nat.le_of_ble_eq_true rfl⟩) hno hlocks hZ hP hS rfl hl.1 rfl (Nat.le_of_ble_eq_true rfl) dX5_house_55 ⟨Nat.le_of_ble_eq_true rfl, Nat.le_of_ble_eq_true rfl⟩ rfl rfl (Nat.le_of_ble_eq_true rfl) (Nat.le_of_ble_eq_true rfl) (fun hq_13 => by have q_ := h_9.symm; subst q_; unfold kx_house; simp only [xs, if_pos hX_1, if_pos hX_3, if_neg hq_13]) (fun hX_12 H locs hP hS => ?_)
    have hXz : (kx_house σ cell pile ic) = 0 := by have q_ := h_9.symm; subst q_; unfold kx_house; simp only [xs, if_pos hX_1, if_pos hX_3, if_pos hX_12]
    refine lv_aload hx hb dX5_house_58 (lv_at hl 0 rfl) ?_
    refine lv_aload_n hx hb dX5_house_60 rfl (lv_at hl 1 rfl) ?_
    refine x_get (C := RX5) (T := TX5) (N := 10) (ci := 6) (fs := (cpOf o σ)) (v := .ref (o + 2)) hx hb hts hin_wsX50 hown hK hP.main rfl 1 (by decide) (index := 18) (List.mem_of_getElem? (i := 3) rfl) rfl dX5_house_61 ?_
    refine p_size (L := 0) (rest := [.ref (o + 9 + 7 * ((cell).toNatClampNeg))]) (by decide) rfl ⟨hx, hb, hml, hown, hts⟩ (cwV 0 hts gX5_house_Jx4a65c_size_8abf5 rfl rfl rfl (by decide +kernel) ⟨Nat.le_of_ble_eq_true rfl, Nat.le_of_ble_eq_true rfl⟩) hK hP hS hl.1 (v := (σ.1 13 0)) rfl (Nat.le_of_ble_eq_true rfl) dX5_house_64 ⟨Nat.le_of_ble_eq_true rfl, Nat.le_of_ble_eq_true rfl⟩ (fun H locs hP hS => ?_)
    refine p_cput (i := (cell).toNatClampNeg) (v := (σ.1 13 0)) hx hb hts hin_wsX10 hown hK hP (vp_lt (xIx_in (by decide) hcell)) hS 6 36 (by decide) (index := 109) (List.mem_of_getElem? (i := 2) rfl) dX5_house_67 (fun H locs hP hS => ?_)
    obtain ⟨s_14, e_15⟩ : ∃ z : Sg, z = (si σ 36 ((cell).toNatClampNeg) ((σ.1 13 0))) := ⟨_, rfl⟩
    rw [← e_15] at hP
    have hR_16 : k_house σ cell pile ic = k_house_k70 σ cell pile ic x_7 s_14 := (Eq.trans hR_10 (by have q_ := e_15.symm; subst q_; unfold k_house_j55; rfl))
    have hR_17 : k_house_s σ cell pile ic = k_house_k70_s σ cell pile ic x_7 s_14 := (Eq.trans hR_11 (by have q_ := e_15.symm; subst q_; unfold k_house_j55_s; rfl))
    refine lv_aload_n hx hb dX5_house_70 rfl (lv_at hl 1 rfl) ?_
    refine x_get (C := RX5) (T := TX5) (N := 10) (ci := 6) (fs := (cpOf o s_14)) (v := .ref (o + 2)) hx hb hts hin_wsX50 hown hK hP.main rfl 1 (by decide) (index := 18) (List.mem_of_getElem? (i := 3) rfl) rfl dX5_house_71 ?_
    obtain ⟨n1, hn1⟩ : ∃ n : Nat, H.size = n := ⟨_, rfl⟩
    have hzn : z ≤ n1 := by have q1 := hS.1; omega
    have hlt : ∀ y, cpU s_14 y → cpA o d y < n1 := fun y hy => by have q2 := hP.lt hy; omega
    have hfr : ∀ y, cpU s_14 y → cpA o d y ≠ n1 := fun y hy => Nat.ne_of_lt (hlt y hy)
    refine x_new (C := RX3) (T := TX3) (N := 5) (ci := 4) (fs := [.int (0), .int (0), .int (0), .int (0), .int (0)]) (c1 := 4) (s1 := 23) (q := n1) hx hb hts hin_wsX30 tyX3 tyX3_ok hown (List.mem_of_getElem? (i := 4) rfl) (List.mem_of_getElem? (i := 5) rfl) (List.mem_of_getElem? (i := 6) rfl) hK hS rfl (fun j hj => by rcases (show j = 0 ∨ j = 1 ∨ j = 2 ∨ j = 3 ∨ j = 4 by omega) with rfl | rfl | rfl | rfl | rfl <;> rfl) (Nat.le_of_ble_eq_true rfl) (Nat.le_of_ble_eq_true rfl) dX5_house_74 rfl rfl hn1 (fun H hm hx_ hS => ?_)
    replace hP := hP.keep (fun q hq _ => hm.2 q hq)
    have hsz : H.size = n1 + 1 := by rw [hm.1, hn1]
    clear hm
    refine lv_dup hx hb dX5_house_77 rfl ?_
    refine lv_iload_n hx hb dX5_house_78 rfl (lv_at hl 2 rfl) ?_
    refine lv_iload_n hx hb dX5_house_79 rfl (lv_at hl 3 rfl) ?_
    refine lv_iload_n hx hb dX5_house_80 rfl (lv_at hl 4 rfl) ?_
    refine lv_aload_n hx hb dX5_house_81 rfl (lv_at hl 1 rfl) ?_
    refine x_get (C := RX5) (T := TX5) (N := 10) (ci := 6) (fs := (cpOf o s_14)) (v := .int ((s_14.1 1 0))) hx hb hts hin_wsX50 hown hK hP.main rfl 4 (by decide) (index := 82) (List.mem_of_getElem? (i := 7) rfl) rfl dX5_house_82 ?_
    refine w_init (As := [.int (cell), .int (pile), .int (ic), .int ((s_14.1 1 0))]) (rest := [.ref (n1), .ref (o + 2)]) (c1 := 4) (s1 := 23) (fun q h => by rw [show q = n1 from h]; exact Or.inr hzn) ⟨hx, hb, hml, hown, hts⟩ (cn_X3_init l G ids tS tE n1 (n1 + 1) (cell) (pile) (ic) ((s_14.1 1 0)) hz) (cwI 4 hts gX5_house_X3_init rfl rfl rfl (hts _ (List.mem_of_getElem? (i := 6) rfl)) (hts _ (List.mem_of_getElem? (i := 31) rfl)) (hts _ (List.mem_of_getElem? (i := 32) rfl)) rfl (by decide +kernel) ⟨Nat.le_of_ble_eq_true rfl, Nat.le_of_ble_eq_true rfl⟩) hK hZ ⟨hsz, hx_⟩ hS rfl hl.1 rfl (Nat.le_of_ble_eq_true rfl) dX5_house_85 ⟨Nat.le_of_ble_eq_true rfl, Nat.le_of_ble_eq_true rfl⟩ rfl rfl (fun H locs hP1 _ hk1 hS => ?_)
    obtain ⟨hsz, hx_⟩ := hP1
    replace hP := hP.keepx hfr hk1
    have hNs : ∀ L, cpN s_14 L = cpN σ L := fun L => by rw [e_15]; exact cpN_si (by decide) (by decide) (by decide) L
    have hW1 : wOK s_14 w := fun L hL h => hW0 L hL (by rw [← hNs L]; exact h)
    have hn40 : cpN s_14 0 < 40 := by rw [hNs]; have q := vp_lt hO.1; show (σ.1 13 0).toNatClampNeg < 40; omega
    have hcnt : s_14.1 13 0 = nI (cpN s_14 0) := by rw [hNs, e_15, si_ne (by decide)]; exact vp_self hO.1
    have hn1H : n1 < H.size := hx_.lt
    refine p_add (L := 0) (x := n1) (rest := []) (c1 := 5) (s1 := 83) (by decide) rfl ⟨hx, hb, hml, hown, hts⟩ (cwV 1 hts gX5_house_Jx4a65c_add_9ea2d rfl rfl rfl (by decide +kernel) ⟨Nat.le_of_ble_eq_true rfl, Nat.le_of_ble_eq_true rfl⟩) (cwV 1 hts gX5_house_Jx4a65c_add_9ea2d rfl rfl rfl (by decide +kernel) ⟨Nat.le_of_ble_eq_true rfl, Nat.le_of_ble_eq_true rfl⟩) (cwV 1 hts gX5_house_Jx4a65c_add_9ea2d rfl rfl rfl (by decide +kernel) ⟨Nat.le_of_ble_eq_true rfl, Nat.le_of_ble_eq_true rfl⟩) hK hZ hP (hW1 0 (by decide)) hn40 hcnt hx_ hfr (by have q1 := hS.1; omega) hS hl.1 (Nat.le_of_ble_eq_true rfl) dX5_house_88 ⟨Nat.le_of_ble_eq_true rfl, Nat.le_of_ble_eq_true rfl⟩ rfl rfl (fun H1 locs1 r9 k9 hlst hrow hkk hr9 hz9 hk9 hS => ?_)
    have hr0 : cpN s_14 0 ≠ 0 → d 0 0 < n1 := fun h0 => hlt (0, 0) (cpU_0 (by decide) h0)
    have hxr : n1 ≠ r9 := Or.elim hr9 (fun h1 => by have q3 := hr0 h1.1; have q4 := h1.2; omega) (fun h1 => by omega)
    have hr8 : cpN s_14 0 ≠ 0 ∧ r9 = d 0 0 ∨ n1 ≤ r9 := hr9.imp id (fun h => by omega)
    replace hx_ := hx_.kept (hk9 n1 hn1H (by have q4 := hP.2.2.2.1; omega) (fun h0 => by have q3 := hr0 h0; omega))
    have hC1 : ∀ k, k < cpN s_14 2 → (s_14.1 37 k).toNatClampNeg < cpN s_14 0 := fun k hk => by rw [hNs] at hk ⊢; rw [e_15, si_ne (by decide)]; exact (hC k hk).1
    have hW2 : wOK (gH s_14 (cell) (pile) (ic) ((s_14.1 1 0))) (fun M => if M = 0 then k9 else w M) := wOK_grow hW1 (fun M h1 h2 => gH_M h1 h2) hkk.2.1
    replace hP := hP.addH (r' := r9) (k' := k9) (x := n1) (n1 := n1) hn40 hC1 hlst hrow hkk hr8 hk9 hlt hzn hx_ ⟨Nat.le_refl _, hxr⟩
    clear hk9 hlst hrow hr9 hr8 hr0
    obtain ⟨s_18, e_19⟩ : ∃ z : Sg, z = (gH s_14 (cell) (pile) (ic) ((s_14.1 1 0))) := ⟨_, rfl⟩
    rw [← e_19] at hP
    have hR_20 : k_house σ cell pile ic = k_house_k91 σ cell pile ic x_7 s_14 s_18 := (Eq.trans hR_16 (by have q_ := e_19.symm; subst q_; unfold k_house_k70; rfl))
    have hR_21 : k_house_s σ cell pile ic = k_house_k91_s σ cell pile ic x_7 s_14 s_18 := (Eq.trans hR_17 (by have q_ := e_19.symm; subst q_; unfold k_house_k70_s; rfl))
    refine lv_pop hx hb dX5_house_91 rfl ?_
    refine lv_aload hx hb dX5_house_92 (lv_at hl 0 rfl) ?_
    refine x_get (C := RX1) (T := TX1) (N := 7) (ci := 2) (fs := (cfs (o + 9 + 7 * ((cell).toNatClampNeg)) ((cell).toNatClampNeg) s_18)) (v := .int ((s_18.1 36 ((cell).toNatClampNeg)))) hx hb hts hin_wsX10 hown hK (hP.cell (vp_lt (xIx_in (by decide) hcell))) rfl 6 (by decide) (index := 109) (List.mem_of_getElem? (i := 2) rfl) rfl dX5_house_94 ?_
    have hsp : s_18 = k_house_s σ cell pile ic := (Eq.trans (by unfold k_house_k91_s; rfl) hR_21.symm)
    rw [← e_19] at hW2
    rw [hsp] at hP hW2
    exact z_jret (v := (s_18.1 36 ((cell).toNatClampNeg))) hx hb hr hlocks hXz (Nat.le_of_ble_eq_true rfl) (Nat.le_of_ble_eq_true rfl) hP hW2 hS dX5_house_97 (Eq.trans (by unfold k_house_k91; rfl) hR_20.symm)
  refine lv_icmp_ne (x := (σ.1 36 ((cell).toNatClampNeg))) (y := (-1)) (tgt := 54) hx hb dX5_house_27 (by decide) (fun c_5 => ?_) (fun c_5 => ?_)
  · refine lv_iconst (v := nI (0)) hx hb dX5_house_54 (by decide) ?_
    exact (hWW _ _ _ _ _).mp (J55_8 _ (by simp only [if_neg c_5]) _ _ hP hS _ (lv_sub hl [0, 1, 2, 3, 4] rfl))
  · refine lv_aload hx hb dX5_house_30 (lv_at hl 0 rfl) ?_
    refine x_callI (As := []) (rest := []) (fun q h => cpG_blk (vp_lt (xIx_in (by decide) hcell)) h) ⟨hx, hb, hml, hown, hts⟩ (cc_isLake l G ids (o + 9 + 7 * ((cell).toNatClampNeg)) ((cell).toNatClampNeg) σ) (cwV 0 hts gX5_house_X1_isLake rfl rfl rfl (by decide +kernel) ⟨Nat.le_of_ble_eq_true rfl, Nat.le_of_ble_eq_true rfl⟩) hK (hP.cell (vp_lt (xIx_in (by decide) hcell))) rfl (hP.blk (vp_lt (xIx_in (by decide) hcell))) hS rfl hl.1 rfl (Nat.le_of_ble_eq_true rfl) dX5_house_32 ⟨Nat.le_of_ble_eq_true rfl, Nat.le_of_ble_eq_true rfl⟩ (fun H locs hP1 _ hk1 hS => ?_)
    replace hP := hP.join (vp_lt (xIx_in (by decide) hcell)) hP1 hk1 (fun _ _ _ => rfl) rfl
    refine lv_if_ne (x := (c_isLake σ ((cell).toNatClampNeg))) (tgt := 54) hx hb dX5_house_35 (by decide) (fun c_22 => ?_) (fun c_22 => ?_)
    · refine lv_iconst (v := nI (0)) hx hb dX5_house_54 (by decide) ?_
      exact (hWW _ _ _ _ _).mp (J55_8 _ (by simp only [if_pos c_5, if_neg c_22]) _ _ hP hS _ (lv_sub hl [0, 1, 2, 3, 4] rfl))
    · refine lv_aload_n hx hb dX5_house_38 rfl (lv_at hl 1 rfl) ?_
      refine x_get (C := RX5) (T := TX5) (N := 10) (ci := 6) (fs := (cpOf o σ)) (v := .ref (o + 2)) hx hb hts hin_wsX50 hown hK hP.main rfl 1 (by decide) (index := 18) (List.mem_of_getElem? (i := 3) rfl) rfl dX5_house_39 ?_
      refine p_size (L := 0) (rest := []) (by decide) rfl ⟨hx, hb, hml, hown, hts⟩ (cwV 0 hts gX5_house_Jx4a65c_size_8abf5 rfl rfl rfl (by decide +kernel) ⟨Nat.le_of_ble_eq_true rfl, Nat.le_of_ble_eq_true rfl⟩) hK hP hS hl.1 (v := (σ.1 13 0)) rfl (Nat.le_of_ble_eq_true rfl) dX5_house_42 ⟨Nat.le_of_ble_eq_true rfl, Nat.le_of_ble_eq_true rfl⟩ (fun H locs hP hS => ?_)
      refine lv_bipush (v := nI (10)) hx hb dX5_house_45 (by decide) ?_
      refine lv_icmp_ge (x := (σ.1 13 0)) (y := nI (10)) (tgt := 54) hx hb dX5_house_47 (by decide) (fun c_23 => ?_) (fun c_23 => ?_)
      · refine lv_iconst (v := nI (0)) hx hb dX5_house_54 (by decide) ?_
        exact (hWW _ _ _ _ _).mp (J55_8 _ (by simp only [if_pos c_5, if_pos c_22, if_pos c_23]) _ _ hP hS _ (lv_sub hl [0, 1, 2, 3, 4] rfl))
      · refine lv_iconst (v := nI (1)) hx hb dX5_house_50 (by decide) ?_
        refine lv_goto (tgt := 55) hx hb dX5_house_51 (by decide) ?_
        exact (hWW _ _ _ _ _).mp (J55_8 _ (by simp only [if_pos c_5, if_pos c_22, if_neg c_23]) _ _ hP hS _ (lv_sub hl [0, 1, 2, 3, 4] rfl))
