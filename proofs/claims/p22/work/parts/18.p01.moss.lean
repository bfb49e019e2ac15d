def k_moss_k32 (σ : Sg) (cell : Int32) (mo : Int32) (s_5 : Sg) : Int32 := (σ.1 5 ((cell).toNatClampNeg))
def k_moss_k32_s (σ : Sg) (cell : Int32) (mo : Int32) (s_5 : Sg) : Sg := s_5
def k_moss (σ : Sg) (cell : Int32) (mo : Int32) : Int32 := (k_moss_k32 σ cell mo (si σ 5 ((cell).toNatClampNeg) (mo)))
def k_moss_s (σ : Sg) (cell : Int32) (mo : Int32) : Sg := (k_moss_k32_s σ cell mo (si σ 5 ((cell).toNatClampNeg) (mo)))
def kx_moss (σ : Sg) (cell : Int32) (mo : Int32) : Nat := xs (xIx (cell) (nI (25))) (xs (xRg (mo) (nI (0)) (nI (3))) (0))
set_option maxHeartbeats 4000000 in
set_option maxRecDepth 100000 in
theorem cx_moss (l : Launch) (hl0 : l.stackTraces = false) (G : va_G) (ids : Nat → ClassId) (o z tS tE : Nat) (d : Nat → Nat → Nat) (w : Nat → Nat) (σ : Sg) (cell : Int32) (mo : Int32) : zI l yX5_moss wsX5_moss ({ frames := 7, cells := 2, slots := 12, locals := 122 } : Room) G ids tS tE [.ref (o), .int (cell), .int (mo)] (CPic G ids o z tE d w σ) (kx_moss σ cell mo) (k_moss σ cell mo) (CPic G ids o z tE d w (k_moss_s σ cell mo)) (cpG o z) 2 12 := by
  unfold zI
  refine vx_ofW (cc := cX5_moss) (maxL := 4) (ret := (some .int)) (by decide) rfl ?_
  intro p e s m args below meth c s₁ B hml hno hv
  obtain ⟨rfl, hP, hK, hZ⟩ := hv
  have hx := B.exec
  have hb := B.bytes
  have hr := B.returns
  have hts := atoms_spec (ws := wsX5_moss) B.pre
  have hown : s.vm.findClass RX5 = some m.cls := findClass_of_methodNamed B.named
  have hlocks := B.notSynchronized
  have hS : va_S (cpG o z) s.heap s.heap [] := va_S.rf
  have hin_wsX50 : ∀ w ∈ wsX50, w ∈ wsX5_moss := fun w h => List.mem_cons_of_mem _ (List.mem_append_left _ (List.mem_append_left _ (List.mem_append_left _ (List.mem_append_right _ h))))
  have hin_wsX10 : ∀ w ∈ wsX10, w ∈ wsX5_moss := fun w h => List.mem_cons_of_mem _ (List.mem_append_left _ (List.mem_append_left _ (List.mem_append_right _ h)))
  have hl := lv_entry ([.ref (o), .int (cell), .int (mo)]) (n := 4) (Nat.le_of_ble_eq_true rfl)
  rw [lg_entry_eq]
  generalize (lg_sl ([.ref (o), .int (cell), .int (mo)]) ++ List.replicate (4 - (lg_sl ([.ref (o), .int (cell), .int (mo)])).length) Slot.unset).toArray = ls at hl ⊢
  have hl : lv_has ls 4 [(0, .ref (o)), (1, .int (cell)), (2, .int (mo))] := hl
  refine w_named (fun WW hWW => ?_)
  refine lv_iload_n hx hb dX5_moss_0 rfl (lv_at hl 1 rfl) ?_
  refine lv_bipush (v := nI (25)) hx hb dX5_moss_1 (by decide) ?_
  refine p_need (As := [.int (cell), .int (nI (25))]) (rest := []) (X := xIx (cell) (nI (25))) (c1 := 1) (s1 := 6) ⟨hx, hb, hml, hown, hts⟩ (ck_needIndex l hl0 tS tE (cell) (nI (25))) (va_cwS 2 hts gX5_moss_X5_needIndex rfl rfl rfl (by decide +kernel) ⟨Nat.le_of_ble_eq_true rfl, Nat.le_of_ble_eq_true rfl⟩) hno hlocks hZ hP hS rfl hl.1 rfl (Nat.le_of_ble_eq_true rfl) dX5_moss_3 ⟨Nat.le_of_ble_eq_true rfl, Nat.le_of_ble_eq_true rfl⟩ rfl rfl (Nat.le_of_ble_eq_true rfl) (Nat.le_of_ble_eq_true rfl) (fun hq_2 => by unfold kx_moss; simp only [xs, if_neg hq_2]) (fun hX_1 H locs hP hS => ?_)
  have hcell := hX_1
  refine lv_iload_n hx hb dX5_moss_6 rfl (lv_at hl 2 rfl) ?_
  refine lv_iconst (v := nI (0)) hx hb dX5_moss_7 (by decide) ?_
  refine lv_iconst (v := nI (3)) hx hb dX5_moss_8 (by decide) ?_
  refine p_need (As := [.int (mo), .int (nI (0)), .int (nI (3))]) (rest := []) (X := xRg (mo) (nI (0)) (nI (3))) (c1 := 2) (s1 := 12) ⟨hx, hb, hml, hown, hts⟩ (ck_needRange l hl0 tS tE (mo) (nI (0)) (nI (3))) (va_cwS 3 hts gX5_moss_X5_needRange rfl rfl rfl (by decide +kernel) ⟨Nat.le_of_ble_eq_true rfl, Nat.le_of_ble_eq_true rfl⟩) hno hlocks hZ hP hS rfl hl.1 rfl (Nat.le_of_ble_eq_true rfl) dX5_moss_9 ⟨Nat.le_of_ble_eq_true rfl, Nat.le_of_ble_eq_true rfl⟩ rfl rfl (Nat.le_of_ble_eq_true rfl) (Nat.le_of_ble_eq_true rfl) (fun hq_4 => by unfold kx_moss; simp only [xs, if_pos hX_1, if_neg hq_4]) (fun hX_3 H locs hP hS => ?_)
  have hXz : (kx_moss σ cell mo) = 0 := by unfold kx_moss; simp only [xs, if_pos hX_1, if_pos hX_3]
  refine lv_aload_n hx hb dX5_moss_12 rfl (lv_at hl 0 rfl) ?_
  refine x_get (C := RX5) (T := TX5) (N := 10) (ci := 6) (fs := (cpOf o σ)) (v := .ref (o + 1)) hx hb hts hin_wsX50 hown hK hP.main rfl 0 (by decide) (index := 11) (List.mem_of_getElem? (i := 1) rfl) rfl dX5_moss_13 ?_
  refine lv_iload_n hx hb dX5_moss_16 rfl (lv_at hl 1 rfl) ?_
  refine x_aald (r := o + 9 + 7 * ((cell).toNatClampNeg)) hx hb hK 3 rfl hP.crow (xIx_in (by decide) hcell) rfl dX5_moss_17 ?_
  refine x_get (C := RX1) (T := TX1) (N := 7) (ci := 2) (fs := (cfs (o + 9 + 7 * ((cell).toNatClampNeg)) ((cell).toNatClampNeg) σ)) (v := .int ((σ.1 5 ((cell).toNatClampNeg)))) hx hb hts hin_wsX10 hown hK (hP.cell (vp_lt (xIx_in (by decide) hcell))) rfl 4 (by decide) (index := 79) (List.mem_of_getElem? (i := 2) rfl) rfl dX5_moss_18 ?_
  refine lv_istore_n (lv' := [(3, .int ((σ.1 5 ((cell).toNatClampNeg)))), (0, .ref (o)), (1, .int (cell)), (2, .int (mo))]) hx hb dX5_moss_21 rfl hl (by decide) rfl (fun ls hl => ?_)
  refine lv_aload_n hx hb dX5_moss_22 rfl (lv_at hl 1 rfl) ?_
  refine x_get (C := RX5) (T := TX5) (N := 10) (ci := 6) (fs := (cpOf o σ)) (v := .ref (o + 1)) hx hb hts hin_wsX50 hown hK hP.main rfl 0 (by decide) (index := 11) (List.mem_of_getElem? (i := 1) rfl) rfl dX5_moss_23 ?_
  refine lv_iload_n hx hb dX5_moss_26 rfl (lv_at hl 2 rfl) ?_
  refine x_aald (r := o + 9 + 7 * ((cell).toNatClampNeg)) hx hb hK 3 rfl hP.crow (xIx_in (by decide) hcell) rfl dX5_moss_27 ?_
  refine lv_iload_n hx hb dX5_moss_28 rfl (lv_at hl 3 rfl) ?_
  refine p_cput (i := (cell).toNatClampNeg) (v := mo) hx hb hts hin_wsX10 hown hK hP (vp_lt (xIx_in (by decide) hcell)) hS 4 5 (by decide) (index := 79) (List.mem_of_getElem? (i := 2) rfl) dX5_moss_29 (fun H locs hP hS => ?_)
  obtain ⟨s_5, e_6⟩ : ∃ z : Sg, z = (si σ 5 ((cell).toNatClampNeg) (mo)) := ⟨_, rfl⟩
  rw [← e_6] at hP
  have hR_7 : k_moss σ cell mo = k_moss_k32 σ cell mo s_5 := (by have q_ := e_6.symm; subst q_; unfold k_moss; rfl)
  have hR_8 : k_moss_s σ cell mo = k_moss_k32_s σ cell mo s_5 := (by have q_ := e_6.symm; subst q_; unfold k_moss_s; rfl)
  refine lv_iload_n hx hb dX5_moss_32 rfl (lv_at hl 0 rfl) ?_
  have hsp : s_5 = k_moss_s σ cell mo := (Eq.trans (by unfold k_moss_k32_s; rfl) hR_8.symm)
  rw [hsp] at hP
  exact z_iret (v := (σ.1 5 ((cell).toNatClampNeg))) hx hb hr hlocks hXz (Nat.le_of_ble_eq_true rfl) (Nat.le_of_ble_eq_true rfl) hP hS dX5_moss_33 (Eq.trans (by unfold k_moss_k32; rfl) hR_7.symm)
