def k_layerOf (σ : Sg) (cell : Int32) (layer : Int32) (what : Int32) : Int32 := (if what = nI (0) then (l_temperature σ (5 * ((cell).toNatClampNeg) + ((layer).toNatClampNeg))) else (if what = nI (1) then (σ.1 10 (5 * ((cell).toNatClampNeg) + ((layer).toNatClampNeg))) else (if what = nI (2) then (σ.1 8 (5 * ((cell).toNatClampNeg) + ((layer).toNatClampNeg))) else (if what = nI (3) then (σ.1 9 (5 * ((cell).toNatClampNeg) + ((layer).toNatClampNeg))) else (if what = nI (4) then (σ.1 11 (5 * ((cell).toNatClampNeg) + ((layer).toNatClampNeg))) else (l_melted σ (5 * ((cell).toNatClampNeg) + ((layer).toNatClampNeg))))))))
def kx_layerOf (σ : Sg) (cell : Int32) (layer : Int32) (what : Int32) : Nat := xs (xIx (cell) (nI (25))) (xs (xIx (layer) (nI (5))) (xs (xRg (what) (nI (0)) (nI (5))) (0)))
set_option maxHeartbeats 4000000 in
set_option maxRecDepth 100000 in
theorem cx_layerOf (l : Launch) (hl0 : l.stackTraces = false) (G : va_G) (ids : Nat → ClassId) (o z tS tE : Nat) (d : Nat → Nat → Nat) (w : Nat → Nat) (σ : Sg) (cell : Int32) (layer : Int32) (what : Int32) : zI l yX5_layerOf wsX5_layerOf ({ frames := 7, cells := 3, slots := 18, locals := 122 } : Room) G ids tS tE [.ref (o), .int (cell), .int (layer), .int (what)] (CPic G ids o z tE d w σ) (kx_layerOf σ cell layer what) (k_layerOf σ cell layer what) (CPic G ids o z tE d w σ) (cpG o z) 3 18 := by
  unfold zI
  refine vx_ofW (cc := cX5_layerOf) (maxL := 5) (ret := (some .int)) (by decide) rfl ?_
  intro p e s m args below meth c s₁ B hml hno hv
  obtain ⟨rfl, hP, hK, hZ⟩ := hv
  have hx := B.exec
  have hb := B.bytes
  have hr := B.returns
  have hts := atoms_spec (ws := wsX5_layerOf) B.pre
  have hown : s.vm.findClass RX5 = some m.cls := findClass_of_methodNamed B.named
  have hlocks := B.notSynchronized
  have hS : va_S (cpG o z) s.heap s.heap [] := va_S.rf
  have hin_wsX50 : ∀ w ∈ wsX50, w ∈ wsX5_layerOf := fun w h => List.mem_cons_of_mem _ (List.mem_append_left _ (List.mem_append_left _ (List.mem_append_left _ (List.mem_append_left _ (List.mem_append_right _ h)))))
  have hin_wsX10 : ∀ w ∈ wsX10, w ∈ wsX5_layerOf := fun w h => List.mem_cons_of_mem _ (List.mem_append_left _ (List.mem_append_left _ (List.mem_append_left _ (List.mem_append_right _ h))))
  have hin_wsX40 : ∀ w ∈ wsX40, w ∈ wsX5_layerOf := fun w h => List.mem_cons_of_mem _ (List.mem_append_left _ (List.mem_append_left _ (List.mem_append_right _ h)))
  have hl := lv_entry ([.ref (o), .int (cell), .int (layer), .int (what)]) (n := 5) (Nat.le_of_ble_eq_true rfl)
  rw [lg_entry_eq]
  generalize (lg_sl ([.ref (o), .int (cell), .int (layer), .int (what)]) ++ List.replicate (5 - (lg_sl ([.ref (o), .int (cell), .int (layer), .int (what)])).length) Slot.unset).toArray = ls at hl ⊢
  have hl : lv_has ls 5 [(0, .ref (o)), (1, .int (cell)), (2, .int (layer)), (3, .int (what))] := hl
  refine w_named (fun WW hWW => ?_)
  refine lv_iload_n hx hb dX5_layerOf_0 rfl (lv_at hl 1 rfl) ?_
  refine lv_bipush (v := nI (25)) hx hb dX5_layerOf_1 (by decide) ?_
  refine p_need (As := [.int (cell), .int (nI (25))]) (rest := []) (X := xIx (cell) (nI (25))) (c1 := 1) (s1 := 6) ⟨hx, hb, hml, hown, hts⟩ (ck_needIndex l hl0 tS tE (cell) (nI (25))) (va_cwS 2 hts gX5_layerOf_X5_needIndex rfl rfl rfl (by decide +kernel) ⟨Nat.le_of_ble_eq_true rfl, Nat.le_of_ble_eq_true rfl⟩) hno hlocks hZ hP hS rfl hl.1 rfl (Nat.le_of_ble_eq_true rfl) dX5_layerOf_3 ⟨Nat.le_of_ble_eq_true rfl, Nat.le_of_ble_eq_true rfl⟩ rfl rfl (Nat.le_of_ble_eq_true rfl) (Nat.le_of_ble_eq_true rfl) (fun hq_2 => by unfold kx_layerOf; simp only [xs, if_neg hq_2]) (fun hX_1 H locs hP hS => ?_)
  have hcell := hX_1
  refine lv_iload_n hx hb dX5_layerOf_6 rfl (lv_at hl 2 rfl) ?_
  refine lv_iconst (v := nI (5)) hx hb dX5_layerOf_7 (by decide) ?_
  refine p_need (As := [.int (layer), .int (nI (5))]) (rest := []) (X := xIx (layer) (nI (5))) (c1 := 2) (s1 := 12) ⟨hx, hb, hml, hown, hts⟩ (ck_needIndex l hl0 tS tE (layer) (nI (5))) (va_cwS 2 hts gX5_layerOf_X5_needIndex rfl rfl rfl (by decide +kernel) ⟨Nat.le_of_ble_eq_true rfl, Nat.le_of_ble_eq_true rfl⟩) hno hlocks hZ hP hS rfl hl.1 rfl (Nat.le_of_ble_eq_true rfl) dX5_layerOf_8 ⟨Nat.le_of_ble_eq_true rfl, Nat.le_of_ble_eq_true rfl⟩ rfl rfl (Nat.le_of_ble_eq_true rfl) (Nat.le_of_ble_eq_true rfl) (fun hq_4 => by unfold kx_layerOf; simp only [xs, if_pos hX_1, if_neg hq_4]) (fun hX_3 H locs hP hS => ?_)
  have hlay := hX_3
  refine lv_iload_n hx hb dX5_layerOf_11 rfl (lv_at hl 3 rfl) ?_
  refine lv_iconst (v := nI (0)) hx hb dX5_layerOf_12 (by decide) ?_
  refine lv_iconst (v := nI (5)) hx hb dX5_layerOf_13 (by decide) ?_
  refine p_need (As := [.int (what), .int (nI (0)), .int (nI (5))]) (rest := []) (X := xRg (what) (nI (0)) (nI (5))) (c1 := 3) (s1 := 18) ⟨hx, hb, hml, hown, hts⟩ (ck_needRange l hl0 tS tE (what) (nI (0)) (nI (5))) (va_cwS 3 hts gX5_layerOf_X5_needRange rfl rfl rfl (by decide +kernel) ⟨Nat.le_of_ble_eq_true rfl, Nat.le_of_ble_eq_true rfl⟩) hno hlocks hZ hP hS rfl hl.1 rfl (Nat.le_of_ble_eq_true rfl) dX5_layerOf_14 ⟨Nat.le_of_ble_eq_true rfl, Nat.le_of_ble_eq_true rfl⟩ rfl rfl (Nat.le_of_ble_eq_true rfl) (Nat.le_of_ble_eq_true rfl) (fun hq_6 => by unfold kx_layerOf; simp only [xs, if_pos hX_1, if_pos hX_3, if_neg hq_6]) (fun hX_5 H locs hP hS => ?_)
  have hXz : (kx_layerOf σ cell layer what) = 0 := by unfold kx_layerOf; simp only [xs, if_pos hX_1, if_pos hX_3, if_pos hX_5]
  refine lv_aload_n hx hb dX5_layerOf_17 rfl (lv_at hl 0 rfl) ?_
  refine x_get (C := RX5) (T := TX5) (N := 10) (ci := 6) (fs := (cpOf o σ)) (v := .ref (o + 1)) hx hb hts hin_wsX50 hown hK hP.main rfl 0 (by decide) (index := 11) (List.mem_of_getElem? (i := 1) rfl) rfl dX5_layerOf_18 ?_
  refine lv_iload_n hx hb dX5_layerOf_21 rfl (lv_at hl 1 rfl) ?_
  refine x_aald (r := o + 9 + 7 * ((cell).toNatClampNeg)) hx hb hK 3 rfl hP.crow (xIx_in (by decide) hcell) rfl dX5_layerOf_22 ?_
  refine x_get (C := RX1) (T := TX1) (N := 7) (ci := 2) (fs := (cfs (o + 9 + 7 * ((cell).toNatClampNeg)) ((cell).toNatClampNeg) σ)) (v := .ref (o + 9 + 7 * ((cell).toNatClampNeg) + 1)) hx hb hts hin_wsX10 hown hK (hP.cell (vp_lt (xIx_in (by decide) hcell))) rfl 0 (by decide) (index := 56) (List.mem_of_getElem? (i := 2) rfl) rfl dX5_layerOf_23 ?_
  refine lv_iload_n hx hb dX5_layerOf_26 rfl (lv_at hl 2 rfl) ?_
  refine x_aald (r := o + 9 + 7 * ((cell).toNatClampNeg) + 2 + ((layer).toNatClampNeg)) hx hb hK 4 rfl (hP.row (vp_lt (xIx_in (by decide) hcell))) (xIx_in (by decide) hlay) rfl dX5_layerOf_27 ?_
  refine lv_astore (lv' := [(4, .ref (o + 9 + 7 * ((cell).toNatClampNeg) + 2 + ((layer).toNatClampNeg))), (0, .ref (o)), (1, .int (cell)), (2, .int (layer)), (3, .int (what))]) hx hb dX5_layerOf_28 hl (by decide) rfl (fun ls hl => ?_)
  refine lv_iload_n hx hb dX5_layerOf_30 rfl (lv_at hl 4 rfl) ?_
  by_cases t_7 : what = nI (0)
  · refine lv_tableIn (x := what) (off := 33) (tgt := 64) hx hb dX5_layerOf_31 (by rw [t_7]; decide) (by rw [t_7]; decide) (by rw [t_7]; rfl) (by decide) ?_
    refine lv_aload hx hb dX5_layerOf_64 (lv_at hl 0 rfl) ?_
    refine x_callI (As := []) (rest := []) (fun q h => cpG_lay (vp_lt (xIx_in (by decide) hcell)) (vp_lt (xIx_in (by decide) hlay)) h) ⟨hx, hb, hml, hown, hts⟩ (cl_temperature l G ids (o + 9 + 7 * ((cell).toNatClampNeg) + 2 + ((layer).toNatClampNeg)) (5 * ((cell).toNatClampNeg) + ((layer).toNatClampNeg)) σ) (cwV 0 hts gX5_layerOf_X4_temperature rfl rfl rfl (by decide +kernel) ⟨Nat.le_of_ble_eq_true rfl, Nat.le_of_ble_eq_true rfl⟩) hK (hP.lay (vp_lt (xIx_in (by decide) hcell)) (vp_lt (xIx_in (by decide) hlay))) rfl (hP.lay (vp_lt (xIx_in (by decide) hcell)) (vp_lt (xIx_in (by decide) hlay))) hS rfl hl.1 rfl (Nat.le_of_ble_eq_true rfl) dX5_layerOf_66 ⟨Nat.le_of_ble_eq_true rfl, Nat.le_of_ble_eq_true rfl⟩ (fun H locs hP1 _ hk1 hS => ?_)
    replace hP := hP.joinL (vp_lt (xIx_in (by decide) hcell)) (vp_lt (xIx_in (by decide) hlay)) hP1 hk1
    exact z_iret (v := (l_temperature σ (5 * ((cell).toNatClampNeg) + ((layer).toNatClampNeg)))) hx hb hr hlocks hXz (Nat.le_of_ble_eq_true rfl) (Nat.le_of_ble_eq_true rfl) hP hS dX5_layerOf_69 (by unfold k_layerOf; simp only [if_pos t_7])
  by_cases t_8 : what = nI (1)
  · refine lv_tableIn (x := what) (off := 39) (tgt := 70) hx hb dX5_layerOf_31 (by rw [t_8]; decide) (by rw [t_8]; decide) (by rw [t_8]; rfl) (by decide) ?_
    refine lv_aload hx hb dX5_layerOf_70 (lv_at hl 0 rfl) ?_
    refine x_get (C := RX4) (T := TX4) (N := 4) (ci := 5) (fs := (lfs (5 * ((cell).toNatClampNeg) + ((layer).toNatClampNeg)) σ)) (v := .int ((σ.1 10 (5 * ((cell).toNatClampNeg) + ((layer).toNatClampNeg))))) hx hb hts hin_wsX40 hown hK (hP.lay (vp_lt (xIx_in (by decide) hcell)) (vp_lt (xIx_in (by decide) hlay))) rfl 2 (by decide) (index := 73) (List.mem_of_getElem? (i := 3) rfl) rfl dX5_layerOf_72 ?_
    exact z_iret (v := (σ.1 10 (5 * ((cell).toNatClampNeg) + ((layer).toNatClampNeg)))) hx hb hr hlocks hXz (Nat.le_of_ble_eq_true rfl) (Nat.le_of_ble_eq_true rfl) hP hS dX5_layerOf_75 (by unfold k_layerOf; simp only [if_neg t_7, if_pos t_8])
  by_cases t_9 : what = nI (2)
  · refine lv_tableIn (x := what) (off := 45) (tgt := 76) hx hb dX5_layerOf_31 (by rw [t_9]; decide) (by rw [t_9]; decide) (by rw [t_9]; rfl) (by decide) ?_
    refine lv_aload hx hb dX5_layerOf_76 (lv_at hl 0 rfl) ?_
    refine x_get (C := RX4) (T := TX4) (N := 4) (ci := 5) (fs := (lfs (5 * ((cell).toNatClampNeg) + ((layer).toNatClampNeg)) σ)) (v := .int ((σ.1 8 (5 * ((cell).toNatClampNeg) + ((layer).toNatClampNeg))))) hx hb hts hin_wsX40 hown hK (hP.lay (vp_lt (xIx_in (by decide) hcell)) (vp_lt (xIx_in (by decide) hlay))) rfl 0 (by decide) (index := 66) (List.mem_of_getElem? (i := 4) rfl) rfl dX5_layerOf_78 ?_
    exact z_iret (v := (σ.1 8 (5 * ((cell).toNatClampNeg) + ((layer).toNatClampNeg)))) hx hb hr hlocks hXz (Nat.le_of_ble_eq_true rfl) (Nat.le_of_ble_eq_true rfl) hP hS dX5_layerOf_81 (by unfold k_layerOf; simp only [if_neg t_7, if_neg t_8, if_pos t_9])
  by_cases t_10 : what = nI (3)
  · refine lv_tableIn (x := what) (off := 51) (tgt := 82) hx hb dX5_layerOf_31 (by rw [t_10]; decide) (by rw [t_10]; decide) (by rw [t_10]; rfl) (by decide) ?_
    refine lv_aload hx hb dX5_layerOf_82 (lv_at hl 0 rfl) ?_
    refine x_get (C := RX4) (T := TX4) (N := 4) (ci := 5) (fs := (lfs (5 * ((cell).toNatClampNeg) + ((layer).toNatClampNeg)) σ)) (v := .int ((σ.1 9 (5 * ((cell).toNatClampNeg) + ((layer).toNatClampNeg))))) hx hb hts hin_wsX40 hown hK (hP.lay (vp_lt (xIx_in (by decide) hcell)) (vp_lt (xIx_in (by decide) hlay))) rfl 1 (by decide) (index := 70) (List.mem_of_getElem? (i := 5) rfl) rfl dX5_layerOf_84 ?_
    exact z_iret (v := (σ.1 9 (5 * ((cell).toNatClampNeg) + ((layer).toNatClampNeg)))) hx hb hr hlocks hXz (Nat.le_of_ble_eq_true rfl) (Nat.le_of_ble_eq_true rfl) hP hS dX5_layerOf_87 (by unfold k_layerOf; simp only [if_neg t_7, if_neg t_8, if_neg t_9, if_pos t_10])
  by_cases t_11 : what = nI (4)
  · refine lv_tableIn (x := what) (off := 57) (tgt := 88) hx hb dX5_layerOf_31 (by rw [t_11]; decide) (by rw [t_11]; decide) (by rw [t_11]; rfl) (by decide) ?_
    refine lv_aload hx hb dX5_layerOf_88 (lv_at hl 0 rfl) ?_
    refine x_get (C := RX4) (T := TX4) (N := 4) (ci := 5) (fs := (lfs (5 * ((cell).toNatClampNeg) + ((layer).toNatClampNeg)) σ)) (v := .int ((σ.1 11 (5 * ((cell).toNatClampNeg) + ((layer).toNatClampNeg))))) hx hb hts hin_wsX40 hown hK (hP.lay (vp_lt (xIx_in (by decide) hcell)) (vp_lt (xIx_in (by decide) hlay))) rfl 3 (by decide) (index := 76) (List.mem_of_getElem? (i := 6) rfl) rfl dX5_layerOf_90 ?_
    exact z_iret (v := (σ.1 11 (5 * ((cell).toNatClampNeg) + ((layer).toNatClampNeg)))) hx hb hr hlocks hXz (Nat.le_of_ble_eq_true rfl) (Nat.le_of_ble_eq_true rfl) hP hS dX5_layerOf_93 (by unfold k_layerOf; simp only [if_neg t_7, if_neg t_8, if_neg t_9, if_neg t_10, if_pos t_11])
  refine lv_tableOut (x := what) (tgt := 94) hx hb dX5_layerOf_31 (by have n_0 := i_ne (k := 0) t_7 (by decide); have n_1 := i_ne (k := 1) t_8 (by decide); have n_2 := i_ne (k := 2) t_9 (by decide); have n_3 := i_ne (k := 3) t_10 (by decide); have n_4 := i_ne (k := 4) t_11 (by decide); omega) (by decide) ?_
  refine lv_aload hx hb dX5_layerOf_94 (lv_at hl 0 rfl) ?_
  refine x_callI (As := []) (rest := []) (fun q h => cpG_lay (vp_lt (xIx_in (by decide) hcell)) (vp_lt (xIx_in (by decide) hlay)) h) ⟨hx, hb, hml, hown, hts⟩ (cl_melted l G ids (o + 9 + 7 * ((cell).toNatClampNeg) + 2 + ((layer).toNatClampNeg)) (5 * ((cell).toNatClampNeg) + ((layer).toNatClampNeg)) σ) (cwV 0 hts gX5_layerOf_X4_melted rfl rfl rfl (by decide +kernel) ⟨Nat.le_of_ble_eq_true rfl, Nat.le_of_ble_eq_true rfl⟩) hK (hP.lay (vp_lt (xIx_in (by decide) hcell)) (vp_lt (xIx_in (by decide) hlay))) rfl (hP.lay (vp_lt (xIx_in (by decide) hcell)) (vp_lt (xIx_in (by decide) hlay))) hS rfl hl.1 rfl (Nat.le_of_ble_eq_true rfl) dX5_layerOf_96 ⟨Nat.le_of_ble_eq_true rfl, Nat.le_of_ble_eq_true rfl⟩ (fun H locs hP1 _ hk1 hS => ?_)
  replace hP := hP.joinL (vp_lt (xIx_in (by decide) hcell)) (vp_lt (xIx_in (by decide) hlay)) hP1 hk1
  exact z_iret (v := (l_melted σ (5 * ((cell).toNatClampNeg) + ((layer).toNatClampNeg)))) hx hb hr hlocks hXz (Nat.le_of_ble_eq_true rfl) (Nat.le_of_ble_eq_true rfl) hP hS dX5_layerOf_99 (by unfold k_layerOf; simp only [if_neg t_7, if_neg t_8, if_neg t_9, if_neg t_10, if_neg t_11])
