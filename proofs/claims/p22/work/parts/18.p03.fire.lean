def k_fire_k78 (σ : Sg) (cell : Int32) (x_5 : Int32) (s_12 : Sg) (s_16 : Sg) (s_20 : Sg) : Int32 := ((σ.1 11 (5 * ((cell).toNatClampNeg) + 0))) / (nI (2))
def k_fire_k78_s (σ : Sg) (cell : Int32) (x_5 : Int32) (s_12 : Sg) (s_16 : Sg) (s_20 : Sg) : Sg := s_20
def k_fire_k66 (σ : Sg) (cell : Int32) (x_5 : Int32) (s_12 : Sg) (s_16 : Sg) : Int32 := (k_fire_k78 σ cell x_5 s_12 s_16 (sl s_16 (30 + 0) (((s_16.2 (30 + 0))) + ((((σ.1 11 (5 * ((cell).toNatClampNeg) + 0))) / (nI (2))).toInt64))))
def k_fire_k66_s (σ : Sg) (cell : Int32) (x_5 : Int32) (s_12 : Sg) (s_16 : Sg) : Sg := (k_fire_k78_s σ cell x_5 s_12 s_16 (sl s_16 (30 + 0) (((s_16.2 (30 + 0))) + ((((σ.1 11 (5 * ((cell).toNatClampNeg) + 0))) / (nI (2))).toInt64))))
def k_fire_k55 (σ : Sg) (cell : Int32) (x_5 : Int32) (s_12 : Sg) : Int32 := (k_fire_k66 σ cell x_5 s_12 (si s_12 11 (5 * ((cell).toNatClampNeg) + 0) (((s_12.1 11 (5 * ((cell).toNatClampNeg) + 0))) - (((σ.1 11 (5 * ((cell).toNatClampNeg) + 0))) / (nI (2))))))
def k_fire_k55_s (σ : Sg) (cell : Int32) (x_5 : Int32) (s_12 : Sg) : Sg := (k_fire_k66_s σ cell x_5 s_12 (si s_12 11 (5 * ((cell).toNatClampNeg) + 0) (((s_12.1 11 (5 * ((cell).toNatClampNeg) + 0))) - (((σ.1 11 (5 * ((cell).toNatClampNeg) + 0))) / (nI (2))))))
def k_fire_j32 (σ : Sg) (cell : Int32) (x_5 : Int32) : Int32 := (k_fire_k55 σ cell x_5 (si σ 5 ((cell).toNatClampNeg) (nI (0))))
def k_fire_j32_s (σ : Sg) (cell : Int32) (x_5 : Int32) : Sg := (k_fire_k55_s σ cell x_5 (si σ 5 ((cell).toNatClampNeg) (nI (0))))
def k_fire (σ : Sg) (cell : Int32) : Int32 := (k_fire_j32 σ cell (if (c_isLake σ ((cell).toNatClampNeg)) = 0 then (if (σ.1 4 ((cell).toNatClampNeg)) = 0 then nI (1) else nI (0)) else nI (0)))
def k_fire_s (σ : Sg) (cell : Int32) : Sg := (k_fire_j32_s σ cell (if (c_isLake σ ((cell).toNatClampNeg)) = 0 then (if (σ.1 4 ((cell).toNatClampNeg)) = 0 then nI (1) else nI (0)) else nI (0)))
def kx_fire (σ : Sg) (cell : Int32) : Nat := xs (xIx (cell) (nI (25))) (xs (xSt ((if (c_isLake σ ((cell).toNatClampNeg)) = 0 then (if (σ.1 4 ((cell).toNatClampNeg)) = 0 then nI (1) else nI (0)) else nI (0)))) (0))
set_option maxHeartbeats 4000000 in
set_option maxRecDepth 100000 in
theorem cx_fire (l : Launch) (hl0 : l.stackTraces = false) (G : va_G) (ids : Nat → ClassId) (o z tS tE : Nat) (d : Nat → Nat → Nat) (w : Nat → Nat) (σ : Sg) (cell : Int32) : zI l yX5_fire wsX5_fire ({ frames := 7, cells := 2, slots := 12, locals := 121 } : Room) G ids tS tE [.ref (o), .int (cell)] (CPic G ids o z tE d w σ) (kx_fire σ cell) (k_fire σ cell) (CPic G ids o z tE d w (k_fire_s σ cell)) (cpG o z) 2 12 := by
  unfold zI
  refine vx_ofW (cc := cX5_fire) (maxL := 5) (ret := (some .int)) (by decide) rfl ?_
  intro p e s m args below meth c s₁ B hml hno hv
  obtain ⟨rfl, hP, hK, hZ⟩ := hv
  have hx := B.exec
  have hb := B.bytes
  have hr := B.returns
  have hts := atoms_spec (ws := wsX5_fire) B.pre
  have hown : s.vm.findClass RX5 = some m.cls := findClass_of_methodNamed B.named
  have hlocks := B.notSynchronized
  have hS : va_S (cpG o z) s.heap s.heap [] := va_S.rf
  have hin_wsX50 : ∀ w ∈ wsX50, w ∈ wsX5_fire := fun w h => List.mem_cons_of_mem _ (List.mem_append_left _ (List.mem_append_left _ (List.mem_append_left _ (List.mem_append_left _ (List.mem_append_right _ h)))))
  have hin_wsX10 : ∀ w ∈ wsX10, w ∈ wsX5_fire := fun w h => List.mem_cons_of_mem _ (List.mem_append_left _ (List.mem_append_left _ (List.mem_append_left _ (List.mem_append_right _ h))))
  have hin_wsX40 : ∀ w ∈ wsX40, w ∈ wsX5_fire := fun w h => List.mem_cons_of_mem _ (List.mem_append_left _ (List.mem_append_left _ (List.mem_append_right _ h)))
  have hl := lv_entry ([.ref (o), .int (cell)]) (n := 5) (Nat.le_of_ble_eq_true rfl)
  rw [lg_entry_eq]
  generalize (lg_sl ([.ref (o), .int (cell)]) ++ List.replicate (5 - (lg_sl ([.ref (o), .int (cell)])).length) Slot.unset).toArray = ls at hl ⊢
  have hl : lv_has ls 5 [(0, .ref (o)), (1, .int (cell))] := hl
  refine w_named (fun WW hWW => ?_)
  refine lv_iload_n hx hb dX5_fire_0 rfl (lv_at hl 1 rfl) ?_
  refine lv_bipush (v := nI (25)) hx hb dX5_fire_1 (by decide) ?_
  refine p_need (As := [.int (cell), .int (nI (25))]) (rest := []) (X := xIx (cell) (nI (25))) (c1 := 1) (s1 := 6) ⟨hx, hb, hml, hown, hts⟩ (ck_needIndex l hl0 tS tE (cell) (nI (25))) (va_cwS 2 hts gX5_fire_X5_needIndex rfl rfl rfl (by decide +kernel) ⟨Nat.le_of_ble_eq_true rfl, Nat.le_of_ble_eq_true rfl⟩) hno hlocks hZ hP hS rfl hl.1 rfl (Nat.le_of_ble_eq_true rfl) dX5_fire_3 ⟨Nat.le_of_ble_eq_true rfl, Nat.le_of_ble_eq_true rfl⟩ rfl rfl (Nat.le_of_ble_eq_true rfl) (Nat.le_of_ble_eq_true rfl) (fun hq_2 => by unfold kx_fire; simp only [xs, if_neg hq_2]) (fun hX_1 H locs hP hS => ?_)
  have hcell := hX_1
  refine lv_aload_n hx hb dX5_fire_6 rfl (lv_at hl 0 rfl) ?_
  refine x_get (C := RX5) (T := TX5) (N := 10) (ci := 6) (fs := (cpOf o σ)) (v := .ref (o + 1)) hx hb hts hin_wsX50 hown hK hP.main rfl 0 (by decide) (index := 11) (List.mem_of_getElem? (i := 1) rfl) rfl dX5_fire_7 ?_
  refine lv_iload_n hx hb dX5_fire_10 rfl (lv_at hl 1 rfl) ?_
  refine x_aald (r := o + 9 + 7 * ((cell).toNatClampNeg)) hx hb hK 3 rfl hP.crow (xIx_in (by decide) hcell) rfl dX5_fire_11 ?_
  refine lv_astore_n (lv' := [(2, .ref (o + 9 + 7 * ((cell).toNatClampNeg))), (0, .ref (o)), (1, .int (cell))]) hx hb dX5_fire_12 rfl hl (by decide) rfl (fun ls hl => ?_)
  refine lv_aload_n hx hb dX5_fire_13 rfl (lv_at hl 0 rfl) ?_
  refine x_callI (As := []) (rest := []) (fun q h => cpG_blk (vp_lt (xIx_in (by decide) hcell)) h) ⟨hx, hb, hml, hown, hts⟩ (cc_isLake l G ids (o + 9 + 7 * ((cell).toNatClampNeg)) ((cell).toNatClampNeg) σ) (cwV 0 hts gX5_fire_X1_isLake rfl rfl rfl (by decide +kernel) ⟨Nat.le_of_ble_eq_true rfl, Nat.le_of_ble_eq_true rfl⟩) hK (hP.cell (vp_lt (xIx_in (by decide) hcell))) rfl (hP.blk (vp_lt (xIx_in (by decide) hcell))) hS rfl hl.1 rfl (Nat.le_of_ble_eq_true rfl) dX5_fire_14 ⟨Nat.le_of_ble_eq_true rfl, Nat.le_of_ble_eq_true rfl⟩ (fun H locs hP1 _ hk1 hS => ?_)
  replace hP := hP.join (vp_lt (xIx_in (by decide) hcell)) hP1 hk1 (fun _ _ _ => rfl) rfl
  have J32_6 : ∀ (x_5 : Int32), x_5 = (if (c_isLake σ ((cell).toNatClampNeg)) = 0 then (if (σ.1 4 ((cell).toNatClampNeg)) = 0 then nI (1) else nI (0)) else nI (0)) → ∀ (H : Heap) (locs : List Loc), CPic G ids o z tE d w σ H → va_S (cpG o z) s.heap H locs → ∀ (ls : Array Slot), lv_has ls 5 [(2, .ref (o + 9 + 7 * ((cell).toNatClampNeg))), (0, .ref (o)), (1, .int (cell))] → WW H locs 1 6 (F0 m 32 ls [.int (x_5)]) := by
    intro x_5 h_7 H locs hP hS ls hl
    refine (hWW _ _ _ _ _).mpr ?_
    have hR_8 : k_fire σ cell = k_fire_j32 σ cell x_5 := (by have q_ := h_7.symm; subst q_; unfold k_fire; rfl)
    have hR_9 : k_fire_s σ cell = k_fire_j32_s σ cell x_5 := (by have q_ := h_7.symm; subst q_; unfold k_fire_s; rfl)
    refine p_need (As := [.int (x_5)]) (rest := []) (X := xSt (x_5)) (c1 := 2) (s1 := 12) ⟨hx, hb, hml, hown, hts⟩ (ck_needState l hl0 tS tE (x_5)) (va_cwS 1 hts gX5_fire_X5_needState rfl rfl rfl (by decide +kernel) ⟨Nat.le_of_ble_eq_true rfl, Nat.le_of_ble_eq_true rfl⟩) hno hlocks hZ hP hS rfl hl.1 rfl (Nat.le_of_ble_eq_true rfl) dX5_fire_32 ⟨Nat.le_of_ble_eq_true rfl, Nat.le_of_ble_eq_true rfl⟩ rfl rfl (Nat.le_of_ble_eq_true rfl) (Nat.le_of_ble_eq_true rfl) (fun hq_11 => by have q_ := h_7.symm; subst q_; unfold kx_fire; simp only [xs, if_pos hX_1, if_neg hq_11]) (fun hX_10 H locs hP hS => ?_)
    have hXz : (kx_fire σ cell) = 0 := by have q_ := h_7.symm; subst q_; unfold kx_fire; simp only [xs, if_pos hX_1, if_pos hX_10]
    refine lv_aload_n hx hb dX5_fire_35 rfl (lv_at hl 0 rfl) ?_
    refine x_get (C := RX1) (T := TX1) (N := 7) (ci := 2) (fs := (cfs (o + 9 + 7 * ((cell).toNatClampNeg)) ((cell).toNatClampNeg) σ)) (v := .ref (o + 9 + 7 * ((cell).toNatClampNeg) + 1)) hx hb hts hin_wsX10 hown hK (hP.cell (vp_lt (xIx_in (by decide) hcell))) rfl 0 (by decide) (index := 56) (List.mem_of_getElem? (i := 3) rfl) rfl dX5_fire_36 ?_
    refine lv_iconst (v := nI (0)) hx hb dX5_fire_39 (by decide) ?_
    refine x_aald (r := o + 9 + 7 * ((cell).toNatClampNeg) + 2 + 0) hx hb hK 4 rfl (hP.row (vp_lt (xIx_in (by decide) hcell))) (vp_in_nI (by omega) (by decide)) (by rw [nI_clamp (by omega)]) dX5_fire_40 ?_
    refine lv_astore_n (lv' := [(3, .ref (o + 9 + 7 * ((cell).toNatClampNeg) + 2 + 0)), (2, .ref (o + 9 + 7 * ((cell).toNatClampNeg))), (0, .ref (o)), (1, .int (cell))]) hx hb dX5_fire_41 rfl hl (by decide) rfl (fun ls hl => ?_)
    refine lv_aload_n hx hb dX5_fire_42 rfl (lv_at hl 0 rfl) ?_
    refine x_get (C := RX4) (T := TX4) (N := 4) (ci := 5) (fs := (lfs (5 * ((cell).toNatClampNeg) + 0) σ)) (v := .int ((σ.1 11 (5 * ((cell).toNatClampNeg) + 0)))) hx hb hts hin_wsX40 hown hK (hP.lay (vp_lt (xIx_in (by decide) hcell)) (by omega)) rfl 3 (by decide) (index := 76) (List.mem_of_getElem? (i := 4) rfl) rfl dX5_fire_43 ?_
    refine lv_iconst (v := nI (2)) hx hb dX5_fire_46 (by decide) ?_
    refine lv_idiv (x := (σ.1 11 (5 * ((cell).toNatClampNeg) + 0))) (y := nI (2)) hx hb dX5_fire_47 (by decide) ?_
    refine lv_istore (lv' := [(4, .int (((σ.1 11 (5 * ((cell).toNatClampNeg) + 0))) / (nI (2)))), (3, .ref (o + 9 + 7 * ((cell).toNatClampNeg) + 2 + 0)), (2, .ref (o + 9 + 7 * ((cell).toNatClampNeg))), (0, .ref (o)), (1, .int (cell))]) hx hb dX5_fire_48 hl (by decide) rfl (fun ls hl => ?_)
    refine lv_aload_n hx hb dX5_fire_50 rfl (lv_at hl 2 rfl) ?_
    refine lv_iconst (v := nI (0)) hx hb dX5_fire_51 (by decide) ?_
    refine p_cput (i := (cell).toNatClampNeg) (v := nI (0)) hx hb hts hin_wsX10 hown hK hP (vp_lt (xIx_in (by decide) hcell)) hS 4 5 (by decide) (index := 79) (List.mem_of_getElem? (i := 5) rfl) dX5_fire_52 (fun H locs hP hS => ?_)
    obtain ⟨s_12, e_13⟩ : ∃ z : Sg, z = (si σ 5 ((cell).toNatClampNeg) (nI (0))) := ⟨_, rfl⟩
    rw [← e_13] at hP
    have hR_14 : k_fire σ cell = k_fire_k55 σ cell x_5 s_12 := (Eq.trans hR_8 (by have q_ := e_13.symm; subst q_; unfold k_fire_j32; rfl))
    have hR_15 : k_fire_s σ cell = k_fire_k55_s σ cell x_5 s_12 := (Eq.trans hR_9 (by have q_ := e_13.symm; subst q_; unfold k_fire_j32_s; rfl))
    refine lv_aload_n hx hb dX5_fire_55 rfl (lv_at hl 1 rfl) ?_
    refine lv_dup hx hb dX5_fire_56 rfl ?_
    refine x_get (C := RX4) (T := TX4) (N := 4) (ci := 5) (fs := (lfs (5 * ((cell).toNatClampNeg) + 0) s_12)) (v := .int ((s_12.1 11 (5 * ((cell).toNatClampNeg) + 0)))) hx hb hts hin_wsX40 hown hK (hP.lay (vp_lt (xIx_in (by decide) hcell)) (by omega)) rfl 3 (by decide) (index := 76) (List.mem_of_getElem? (i := 4) rfl) rfl dX5_fire_57 ?_
    refine lv_iload hx hb dX5_fire_60 (lv_at hl 0 rfl) ?_
    refine lv_isub (x := (s_12.1 11 (5 * ((cell).toNatClampNeg) + 0))) (y := ((σ.1 11 (5 * ((cell).toNatClampNeg) + 0))) / (nI (2))) hx hb dX5_fire_62 ?_
    refine p_lput (i := (cell).toNatClampNeg) (j := 0) (v := ((s_12.1 11 (5 * ((cell).toNatClampNeg) + 0))) - (((σ.1 11 (5 * ((cell).toNatClampNeg) + 0))) / (nI (2)))) hx hb hts hin_wsX40 hown hK hP (vp_lt (xIx_in (by decide) hcell)) (by omega) hS 3 (by decide) (index := 76) (List.mem_of_getElem? (i := 4) rfl) dX5_fire_63 (fun H locs hP hS => ?_)
    obtain ⟨s_16, e_17⟩ : ∃ z : Sg, z = (si s_12 11 (5 * ((cell).toNatClampNeg) + 0) (((s_12.1 11 (5 * ((cell).toNatClampNeg) + 0))) - (((σ.1 11 (5 * ((cell).toNatClampNeg) + 0))) / (nI (2))))) := ⟨_, rfl⟩
    rw [← e_17] at hP
    have hR_18 : k_fire σ cell = k_fire_k66 σ cell x_5 s_12 s_16 := (Eq.trans hR_14 (by have q_ := e_17.symm; subst q_; unfold k_fire_k55; rfl))
    have hR_19 : k_fire_s σ cell = k_fire_k66_s σ cell x_5 s_12 s_16 := (Eq.trans hR_15 (by have q_ := e_17.symm; subst q_; unfold k_fire_k55_s; rfl))
    refine lv_aload_n hx hb dX5_fire_66 rfl (lv_at hl 3 rfl) ?_
    refine x_get (C := RX5) (T := TX5) (N := 10) (ci := 6) (fs := (cpOf o s_16)) (v := .ref (o + 6)) hx hb hts hin_wsX50 hown hK hP.main rfl 6 (by decide) (index := 32) (List.mem_of_getElem? (i := 6) rfl) rfl dX5_fire_67 ?_
    refine lv_iconst (v := nI (0)) hx hb dX5_fire_70 (by decide) ?_
    refine lv_dup2_11 hx hb dX5_fire_71 rfl rfl ?_
    refine x_lald (v := (s_16.2 (30 + 0))) hx hb hK hP.gas (vp_in_nI (by omega) (by decide)) (by rw [nI_clamp (by omega)]; exact if_pos (by omega)) dX5_fire_72 ?_
    refine lv_iload hx hb dX5_fire_73 (lv_at hl 0 rfl) ?_
    refine lv_i2l (v := (((σ.1 11 (5 * ((cell).toNatClampNeg) + 0))) / (nI (2))).toInt64) hx hb dX5_fire_75 rfl ?_
    refine lv_ladd hx hb dX5_fire_76 ?_
    refine p_gasN (x := ((s_16.2 (30 + 0))) + ((((σ.1 11 (5 * ((cell).toNatClampNeg) + 0))) / (nI (2))).toInt64)) hx hb hK hP hS (j := 0) (by omega) dX5_fire_77 (fun H locs hP hS => ?_)
    obtain ⟨s_20, e_21⟩ : ∃ z : Sg, z = (sl s_16 (30 + 0) (((s_16.2 (30 + 0))) + ((((σ.1 11 (5 * ((cell).toNatClampNeg) + 0))) / (nI (2))).toInt64))) := ⟨_, rfl⟩
    rw [← e_21] at hP
    have hR_22 : k_fire σ cell = k_fire_k78 σ cell x_5 s_12 s_16 s_20 := (Eq.trans hR_18 (by have q_ := e_21.symm; subst q_; unfold k_fire_k66; rfl))
    have hR_23 : k_fire_s σ cell = k_fire_k78_s σ cell x_5 s_12 s_16 s_20 := (Eq.trans hR_19 (by have q_ := e_21.symm; subst q_; unfold k_fire_k66_s; rfl))
    refine lv_iload hx hb dX5_fire_78 (lv_at hl 0 rfl) ?_
    have hsp : s_20 = k_fire_s σ cell := (Eq.trans (by unfold k_fire_k78_s; rfl) hR_23.symm)
    rw [hsp] at hP
    exact z_iret (v := ((σ.1 11 (5 * ((cell).toNatClampNeg) + 0))) / (nI (2))) hx hb hr hlocks hXz (Nat.le_of_ble_eq_true rfl) (Nat.le_of_ble_eq_true rfl) hP hS dX5_fire_80 (Eq.trans (by unfold k_fire_k78; rfl) hR_22.symm)
  refine lv_if_ne (x := (c_isLake σ ((cell).toNatClampNeg))) (tgt := 31) hx hb dX5_fire_17 (by decide) (fun c_3 => ?_) (fun c_3 => ?_)
  · refine lv_iconst (v := nI (0)) hx hb dX5_fire_31 (by decide) ?_
    exact (hWW _ _ _ _ _).mp (J32_6 _ (by simp only [if_neg c_3]) _ _ hP hS _ (lv_sub hl [0, 1, 2] rfl))
  · refine lv_aload_n hx hb dX5_fire_20 rfl (lv_at hl 0 rfl) ?_
    refine x_get (C := RX1) (T := TX1) (N := 7) (ci := 2) (fs := (cfs (o + 9 + 7 * ((cell).toNatClampNeg)) ((cell).toNatClampNeg) σ)) (v := .int ((σ.1 4 ((cell).toNatClampNeg)))) hx hb hts hin_wsX10 hown hK (hP.cell (vp_lt (xIx_in (by decide) hcell))) rfl 3 (by decide) (index := 96) (List.mem_of_getElem? (i := 2) rfl) rfl dX5_fire_21 ?_
    refine lv_if_ne (x := (σ.1 4 ((cell).toNatClampNeg))) (tgt := 31) hx hb dX5_fire_24 (by decide) (fun c_24 => ?_) (fun c_24 => ?_)
    · refine lv_iconst (v := nI (0)) hx hb dX5_fire_31 (by decide) ?_
      exact (hWW _ _ _ _ _).mp (J32_6 _ (by simp only [if_pos c_3, if_neg c_24]) _ _ hP hS _ (lv_sub hl [0, 1, 2] rfl))
    · refine lv_iconst (v := nI (1)) hx hb dX5_fire_27 (by decide) ?_
      refine lv_goto (tgt := 32) hx hb dX5_fire_28 (by decide) ?_
      exact (hWW _ _ _ _ _).mp (J32_6 _ (by simp only [if_pos c_3, if_pos c_24]) _ _ hP hS _ (lv_sub hl [0, 1, 2] rfl))
