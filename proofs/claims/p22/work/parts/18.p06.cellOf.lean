def k_cellOf_k99 (σ : Sg) (cell : Int32) (what : Int32) (s_12 : Sg) : Int32 := (k_gatherOneLake σ cell)
def k_cellOf_k99_s (σ : Sg) (cell : Int32) (what : Int32) (s_12 : Sg) : Sg := s_12
def k_cellOf (σ : Sg) (cell : Int32) (what : Int32) : Int32 := (if what = nI (0) then (σ.1 2 ((cell).toNatClampNeg)) else (if what = nI (1) then (σ.1 3 ((cell).toNatClampNeg)) else (if what = nI (2) then (σ.1 4 ((cell).toNatClampNeg)) else (if what = nI (3) then (σ.1 5 ((cell).toNatClampNeg)) else (if what = nI (4) then (σ.1 6 ((cell).toNatClampNeg)) else (if what = nI (5) then (σ.1 36 ((cell).toNatClampNeg)) else (if what = nI (6) then (k_cellOf_k99 σ cell what (k_gatherOneLake_s σ cell)) else (c_thawedFromAbove σ ((cell).toNatClampNeg)))))))))
def k_cellOf_s (σ : Sg) (cell : Int32) (what : Int32) : Sg := (if what = nI (0) then σ else (if what = nI (1) then σ else (if what = nI (2) then σ else (if what = nI (3) then σ else (if what = nI (4) then σ else (if what = nI (5) then σ else (if what = nI (6) then (k_cellOf_k99_s σ cell what (k_gatherOneLake_s σ cell)) else σ)))))))
def kx_cellOf (σ : Sg) (cell : Int32) (what : Int32) : Nat := xs (xIx (cell) (nI (25))) (xs (xRg (what) (nI (0)) (nI (7))) (0))
set_option maxHeartbeats 4000000 in
set_option maxRecDepth 100000 in
theorem cx_cellOf (l : Launch) (hl0 : l.stackTraces = false) (G : va_G) (ids : Nat → ClassId) (o z tS tE : Nat) (d : Nat → Nat → Nat) (w : Nat → Nat) (σ : Sg) (cell : Int32) (what : Int32) : zI l yX5_cellOf wsX5_cellOf ({ frames := 7, cells := 2, slots := 12, locals := 122 } : Room) G ids tS tE [.ref (o), .int (cell), .int (what)] (CPic G ids o z tE d w σ) (kx_cellOf σ cell what) (k_cellOf σ cell what) (CPic G ids o z tE d w (k_cellOf_s σ cell what)) (cpG o z) 2 12 := by
  unfold zI
  refine vx_ofW (cc := cX5_cellOf) (maxL := 4) (ret := (some .int)) (by decide) rfl ?_
  intro p e s m args below meth c s₁ B hml hno hv
  obtain ⟨rfl, hP, hK, hZ⟩ := hv
  have hx := B.exec
  have hb := B.bytes
  have hr := B.returns
  have hts := atoms_spec (ws := wsX5_cellOf) B.pre
  have hown : s.vm.findClass RX5 = some m.cls := findClass_of_methodNamed B.named
  have hlocks := B.notSynchronized
  have hS : va_S (cpG o z) s.heap s.heap [] := va_S.rf
  have hin_wsX50 : ∀ w ∈ wsX50, w ∈ wsX5_cellOf := fun w h => List.mem_cons_of_mem _ (List.mem_append_left _ (List.mem_append_left _ (List.mem_append_left _ (List.mem_append_left _ (List.mem_append_right _ h)))))
  have hin_wsX10 : ∀ w ∈ wsX10, w ∈ wsX5_cellOf := fun w h => List.mem_cons_of_mem _ (List.mem_append_left _ (List.mem_append_left _ (List.mem_append_left _ (List.mem_append_right _ h))))
  have hin_wsX40 : ∀ w ∈ wsX40, w ∈ wsX5_cellOf := fun w h => List.mem_cons_of_mem _ (List.mem_append_left _ (List.mem_append_left _ (List.mem_append_right _ h)))
  have hl := lv_entry ([.ref (o), .int (cell), .int (what)]) (n := 4) (Nat.le_of_ble_eq_true rfl)
  rw [lg_entry_eq]
  generalize (lg_sl ([.ref (o), .int (cell), .int (what)]) ++ List.replicate (4 - (lg_sl ([.ref (o), .int (cell), .int (what)])).length) Slot.unset).toArray = ls at hl ⊢
  have hl : lv_has ls 4 [(0, .ref (o)), (1, .int (cell)), (2, .int (what))] := hl
  refine w_named (fun WW hWW => ?_)
  refine lv_iload_n hx hb dX5_cellOf_0 rfl (lv_at hl 1 rfl) ?_
  refine lv_bipush (v := nI (25)) hx hb dX5_cellOf_1 (by decide) ?_
  refine p_need (As := [.int (cell), .int (nI (25))]) (rest := []) (X := xIx (cell) (nI (25))) (c1 := 1) (s1 := 6) ⟨hx, hb, hml, hown, hts⟩ (ck_needIndex l hl0 tS tE (cell) (nI (25))) (va_cwS 2 hts gX5_cellOf_X5_needIndex rfl rfl rfl (by decide +kernel) ⟨Nat.le_of_ble_eq_true rfl, Nat.le_of_ble_eq_true rfl⟩) hno hlocks hZ hP hS rfl hl.1 rfl (Nat.le_of_ble_eq_true rfl) dX5_cellOf_3 ⟨Nat.le_of_ble_eq_true rfl, Nat.le_of_ble_eq_true rfl⟩ rfl rfl (Nat.le_of_ble_eq_true rfl) (Nat.le_of_ble_eq_true rfl) (fun hq_2 => by unfold kx_cellOf; simp only [xs, if_neg hq_2]) (fun hX_1 H locs hP hS => ?_)
  have hcell := hX_1
  refine lv_iload_n hx hb dX5_cellOf_6 rfl (lv_at hl 2 rfl) ?_
  refine lv_iconst (v := nI (0)) hx hb dX5_cellOf_7 (by decide) ?_
  refine lv_bipush (v := nI (7)) hx hb dX5_cellOf_8 (by decide) ?_
  refine p_need (As := [.int (what), .int (nI (0)), .int (nI (7))]) (rest := []) (X := xRg (what) (nI (0)) (nI (7))) (c1 := 2) (s1 := 12) ⟨hx, hb, hml, hown, hts⟩ (ck_needRange l hl0 tS tE (what) (nI (0)) (nI (7))) (va_cwS 3 hts gX5_cellOf_X5_needRange rfl rfl rfl (by decide +kernel) ⟨Nat.le_of_ble_eq_true rfl, Nat.le_of_ble_eq_true rfl⟩) hno hlocks hZ hP hS rfl hl.1 rfl (Nat.le_of_ble_eq_true rfl) dX5_cellOf_10 ⟨Nat.le_of_ble_eq_true rfl, Nat.le_of_ble_eq_true rfl⟩ rfl rfl (Nat.le_of_ble_eq_true rfl) (Nat.le_of_ble_eq_true rfl) (fun hq_4 => by unfold kx_cellOf; simp only [xs, if_pos hX_1, if_neg hq_4]) (fun hX_3 H locs hP hS => ?_)
  have hXz : (kx_cellOf σ cell what) = 0 := by unfold kx_cellOf; simp only [xs, if_pos hX_1, if_pos hX_3]
  refine lv_aload_n hx hb dX5_cellOf_13 rfl (lv_at hl 0 rfl) ?_
  refine x_get (C := RX5) (T := TX5) (N := 10) (ci := 6) (fs := (cpOf o σ)) (v := .ref (o + 1)) hx hb hts hin_wsX50 hown hK hP.main rfl 0 (by decide) (index := 11) (List.mem_of_getElem? (i := 1) rfl) rfl dX5_cellOf_14 ?_
  refine lv_iload_n hx hb dX5_cellOf_17 rfl (lv_at hl 1 rfl) ?_
  refine x_aald (r := o + 9 + 7 * ((cell).toNatClampNeg)) hx hb hK 3 rfl hP.crow (xIx_in (by decide) hcell) rfl dX5_cellOf_18 ?_
  refine lv_astore_n (lv' := [(3, .ref (o + 9 + 7 * ((cell).toNatClampNeg))), (0, .ref (o)), (1, .int (cell)), (2, .int (what))]) hx hb dX5_cellOf_19 rfl hl (by decide) rfl (fun ls hl => ?_)
  refine lv_iload_n hx hb dX5_cellOf_20 rfl (lv_at hl 3 rfl) ?_
  by_cases t_5 : what = nI (0)
  · refine lv_tableIn (x := what) (off := 43) (tgt := 64) hx hb dX5_cellOf_21 (by rw [t_5]; decide) (by rw [t_5]; decide) (by rw [t_5]; rfl) (by decide) ?_
    refine lv_aload_n hx hb dX5_cellOf_64 rfl (lv_at hl 0 rfl) ?_
    refine x_get (C := RX1) (T := TX1) (N := 7) (ci := 2) (fs := (cfs (o + 9 + 7 * ((cell).toNatClampNeg)) ((cell).toNatClampNeg) σ)) (v := .int ((σ.1 2 ((cell).toNatClampNeg)))) hx hb hts hin_wsX10 hown hK (hP.cell (vp_lt (xIx_in (by decide) hcell))) rfl 1 (by decide) (index := 145) (List.mem_of_getElem? (i := 2) rfl) rfl dX5_cellOf_65 ?_
    have hsp : σ = k_cellOf_s σ cell what := (by unfold k_cellOf_s; simp only [if_pos t_5])
    rw [hsp] at hP
    exact z_iret (v := (σ.1 2 ((cell).toNatClampNeg))) hx hb hr hlocks hXz (Nat.le_of_ble_eq_true rfl) (Nat.le_of_ble_eq_true rfl) hP hS dX5_cellOf_68 (by unfold k_cellOf; simp only [if_pos t_5])
  by_cases t_6 : what = nI (1)
  · refine lv_tableIn (x := what) (off := 48) (tgt := 69) hx hb dX5_cellOf_21 (by rw [t_6]; decide) (by rw [t_6]; decide) (by rw [t_6]; rfl) (by decide) ?_
    refine lv_aload_n hx hb dX5_cellOf_69 rfl (lv_at hl 0 rfl) ?_
    refine x_get (C := RX1) (T := TX1) (N := 7) (ci := 2) (fs := (cfs (o + 9 + 7 * ((cell).toNatClampNeg)) ((cell).toNatClampNeg) σ)) (v := .int ((σ.1 3 ((cell).toNatClampNeg)))) hx hb hts hin_wsX10 hown hK (hP.cell (vp_lt (xIx_in (by decide) hcell))) rfl 2 (by decide) (index := 99) (List.mem_of_getElem? (i := 3) rfl) rfl dX5_cellOf_70 ?_
    have hsp : σ = k_cellOf_s σ cell what := (by unfold k_cellOf_s; simp only [if_neg t_5, if_pos t_6])
    rw [hsp] at hP
    exact z_iret (v := (σ.1 3 ((cell).toNatClampNeg))) hx hb hr hlocks hXz (Nat.le_of_ble_eq_true rfl) (Nat.le_of_ble_eq_true rfl) hP hS dX5_cellOf_73 (by unfold k_cellOf; simp only [if_neg t_5, if_pos t_6])
  by_cases t_7 : what = nI (2)
  · refine lv_tableIn (x := what) (off := 53) (tgt := 74) hx hb dX5_cellOf_21 (by rw [t_7]; decide) (by rw [t_7]; decide) (by rw [t_7]; rfl) (by decide) ?_
    refine lv_aload_n hx hb dX5_cellOf_74 rfl (lv_at hl 0 rfl) ?_
    refine x_get (C := RX1) (T := TX1) (N := 7) (ci := 2) (fs := (cfs (o + 9 + 7 * ((cell).toNatClampNeg)) ((cell).toNatClampNeg) σ)) (v := .int ((σ.1 4 ((cell).toNatClampNeg)))) hx hb hts hin_wsX10 hown hK (hP.cell (vp_lt (xIx_in (by decide) hcell))) rfl 3 (by decide) (index := 96) (List.mem_of_getElem? (i := 4) rfl) rfl dX5_cellOf_75 ?_
    have hsp : σ = k_cellOf_s σ cell what := (by unfold k_cellOf_s; simp only [if_neg t_5, if_neg t_6, if_pos t_7])
    rw [hsp] at hP
    exact z_iret (v := (σ.1 4 ((cell).toNatClampNeg))) hx hb hr hlocks hXz (Nat.le_of_ble_eq_true rfl) (Nat.le_of_ble_eq_true rfl) hP hS dX5_cellOf_78 (by unfold k_cellOf; simp only [if_neg t_5, if_neg t_6, if_pos t_7])
  by_cases t_8 : what = nI (3)
  · refine lv_tableIn (x := what) (off := 58) (tgt := 79) hx hb dX5_cellOf_21 (by rw [t_8]; decide) (by rw [t_8]; decide) (by rw [t_8]; rfl) (by decide) ?_
    refine lv_aload_n hx hb dX5_cellOf_79 rfl (lv_at hl 0 rfl) ?_
    refine x_get (C := RX1) (T := TX1) (N := 7) (ci := 2) (fs := (cfs (o + 9 + 7 * ((cell).toNatClampNeg)) ((cell).toNatClampNeg) σ)) (v := .int ((σ.1 5 ((cell).toNatClampNeg)))) hx hb hts hin_wsX10 hown hK (hP.cell (vp_lt (xIx_in (by decide) hcell))) rfl 4 (by decide) (index := 79) (List.mem_of_getElem? (i := 5) rfl) rfl dX5_cellOf_80 ?_
    have hsp : σ = k_cellOf_s σ cell what := (by unfold k_cellOf_s; simp only [if_neg t_5, if_neg t_6, if_neg t_7, if_pos t_8])
    rw [hsp] at hP
    exact z_iret (v := (σ.1 5 ((cell).toNatClampNeg))) hx hb hr hlocks hXz (Nat.le_of_ble_eq_true rfl) (Nat.le_of_ble_eq_true rfl) hP hS dX5_cellOf_83 (by unfold k_cellOf; simp only [if_neg t_5, if_neg t_6, if_neg t_7, if_pos t_8])
  by_cases t_9 : what = nI (4)
  · refine lv_tableIn (x := what) (off := 63) (tgt := 84) hx hb dX5_cellOf_21 (by rw [t_9]; decide) (by rw [t_9]; decide) (by rw [t_9]; rfl) (by decide) ?_
    refine lv_aload_n hx hb dX5_cellOf_84 rfl (lv_at hl 0 rfl) ?_
    refine x_get (C := RX1) (T := TX1) (N := 7) (ci := 2) (fs := (cfs (o + 9 + 7 * ((cell).toNatClampNeg)) ((cell).toNatClampNeg) σ)) (v := .int ((σ.1 6 ((cell).toNatClampNeg)))) hx hb hts hin_wsX10 hown hK (hP.cell (vp_lt (xIx_in (by decide) hcell))) rfl 5 (by decide) (index := 148) (List.mem_of_getElem? (i := 6) rfl) rfl dX5_cellOf_85 ?_
    have hsp : σ = k_cellOf_s σ cell what := (by unfold k_cellOf_s; simp only [if_neg t_5, if_neg t_6, if_neg t_7, if_neg t_8, if_pos t_9])
    rw [hsp] at hP
    exact z_iret (v := (σ.1 6 ((cell).toNatClampNeg))) hx hb hr hlocks hXz (Nat.le_of_ble_eq_true rfl) (Nat.le_of_ble_eq_true rfl) hP hS dX5_cellOf_88 (by unfold k_cellOf; simp only [if_neg t_5, if_neg t_6, if_neg t_7, if_neg t_8, if_pos t_9])
  by_cases t_10 : what = nI (5)
  · refine lv_tableIn (x := what) (off := 68) (tgt := 89) hx hb dX5_cellOf_21 (by rw [t_10]; decide) (by rw [t_10]; decide) (by rw [t_10]; rfl) (by decide) ?_
    refine lv_aload_n hx hb dX5_cellOf_89 rfl (lv_at hl 0 rfl) ?_
    refine x_get (C := RX1) (T := TX1) (N := 7) (ci := 2) (fs := (cfs (o + 9 + 7 * ((cell).toNatClampNeg)) ((cell).toNatClampNeg) σ)) (v := .int ((σ.1 36 ((cell).toNatClampNeg)))) hx hb hts hin_wsX10 hown hK (hP.cell (vp_lt (xIx_in (by decide) hcell))) rfl 6 (by decide) (index := 109) (List.mem_of_getElem? (i := 7) rfl) rfl dX5_cellOf_90 ?_
    have hsp : σ = k_cellOf_s σ cell what := (by unfold k_cellOf_s; simp only [if_neg t_5, if_neg t_6, if_neg t_7, if_neg t_8, if_neg t_9, if_pos t_10])
    rw [hsp] at hP
    exact z_iret (v := (σ.1 36 ((cell).toNatClampNeg))) hx hb hr hlocks hXz (Nat.le_of_ble_eq_true rfl) (Nat.le_of_ble_eq_true rfl) hP hS dX5_cellOf_93 (by unfold k_cellOf; simp only [if_neg t_5, if_neg t_6, if_neg t_7, if_neg t_8, if_neg t_9, if_pos t_10])
  by_cases t_11 : what = nI (6)
  · refine lv_tableIn (x := what) (off := 73) (tgt := 94) hx hb dX5_cellOf_21 (by rw [t_11]; decide) (by rw [t_11]; decide) (by rw [t_11]; rfl) (by decide) ?_
    refine lv_aload_n hx hb dX5_cellOf_94 rfl (lv_at hl 1 rfl) ?_
    refine lv_iload_n hx hb dX5_cellOf_95 rfl (lv_at hl 2 rfl) ?_
    refine y_callI (As := [.int (cell)]) (rest := []) ⟨hx, hb, hml, hown, hts⟩ (ck_gatherOneLake l G ids o z tS tE d w σ cell (fun _ => xIx_in (by decide) hcell)) (cwV 1 hts gX5_cellOf_X5_gatherOneLake rfl rfl rfl (by decide +kernel) ⟨Nat.le_of_ble_eq_true rfl, Nat.le_of_ble_eq_true rfl⟩) hK hZ hP.main rfl hP hS rfl hl.1 rfl (Nat.le_of_ble_eq_true rfl) dX5_cellOf_96 ⟨Nat.le_of_ble_eq_true rfl, Nat.le_of_ble_eq_true rfl⟩ (fun H locs hP hS => ?_)
    obtain ⟨s_12, e_13⟩ : ∃ z : Sg, z = (k_gatherOneLake_s σ cell) := ⟨_, rfl⟩
    rw [← e_13] at hP
    have hR_14 : k_cellOf σ cell what = k_cellOf_k99 σ cell what s_12 := (by have q_ := e_13.symm; subst q_; unfold k_cellOf; simp only [if_neg t_5, if_neg t_6, if_neg t_7, if_neg t_8, if_neg t_9, if_neg t_10, if_pos t_11])
    have hR_15 : k_cellOf_s σ cell what = k_cellOf_k99_s σ cell what s_12 := (by have q_ := e_13.symm; subst q_; unfold k_cellOf_s; simp only [if_neg t_5, if_neg t_6, if_neg t_7, if_neg t_8, if_neg t_9, if_neg t_10, if_pos t_11])
    have hsp : s_12 = k_cellOf_s σ cell what := (Eq.trans (by unfold k_cellOf_k99_s; rfl) hR_15.symm)
    rw [hsp] at hP
    exact z_iret (v := (k_gatherOneLake σ cell)) hx hb hr hlocks hXz (Nat.le_of_ble_eq_true rfl) (Nat.le_of_ble_eq_true rfl) hP hS dX5_cellOf_99 (Eq.trans (by unfold k_cellOf_k99; rfl) hR_14.symm)
  refine lv_tableOut (x := what) (tgt := 100) hx hb dX5_cellOf_21 (by have n_0 := i_ne (k := 0) t_5 (by decide); have n_1 := i_ne (k := 1) t_6 (by decide); have n_2 := i_ne (k := 2) t_7 (by decide); have n_3 := i_ne (k := 3) t_8 (by decide); have n_4 := i_ne (k := 4) t_9 (by decide); have n_5 := i_ne (k := 5) t_10 (by decide); have n_6 := i_ne (k := 6) t_11 (by decide); omega) (by decide) ?_
  refine lv_aload_n hx hb dX5_cellOf_100 rfl (lv_at hl 0 rfl) ?_
  refine x_callI (As := []) (rest := []) (fun q h => cpG_blk (vp_lt (xIx_in (by decide) hcell)) h) ⟨hx, hb, hml, hown, hts⟩ (cc_thawedFromAbove l G ids (o + 9 + 7 * ((cell).toNatClampNeg)) ((cell).toNatClampNeg) σ) (cwV 0 hts gX5_cellOf_X1_thawedFromAbove rfl rfl rfl (by decide +kernel) ⟨Nat.le_of_ble_eq_true rfl, Nat.le_of_ble_eq_true rfl⟩) hK (hP.cell (vp_lt (xIx_in (by decide) hcell))) rfl (hP.blk (vp_lt (xIx_in (by decide) hcell))) hS rfl hl.1 rfl (Nat.le_of_ble_eq_true rfl) dX5_cellOf_101 ⟨Nat.le_of_ble_eq_true rfl, Nat.le_of_ble_eq_true rfl⟩ (fun H locs hP1 _ hk1 hS => ?_)
  replace hP := hP.join (vp_lt (xIx_in (by decide) hcell)) hP1 hk1 (fun _ _ _ => rfl) rfl
  have hsp : σ = k_cellOf_s σ cell what := (by unfold k_cellOf_s; simp only [if_neg t_5, if_neg t_6, if_neg t_7, if_neg t_8, if_neg t_9, if_neg t_10, if_neg t_11])
  rw [hsp] at hP
  exact z_iret (v := (c_thawedFromAbove σ ((cell).toNatClampNeg))) hx hb hr hlocks hXz (Nat.le_of_ble_eq_true rfl) (Nat.le_of_ble_eq_true rfl) hP hS dX5_cellOf_104 (by unfold k_cellOf; simp only [if_neg t_5, if_neg t_6, if_neg t_7, if_neg t_8, if_neg t_9, if_neg t_10, if_neg t_11])
