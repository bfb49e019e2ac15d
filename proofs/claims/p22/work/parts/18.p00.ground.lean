def k_ground_k154_9_s (σ : Sg) (cell : Int32) (layer : Int32) (p0 : Int32) (e0 : Int32) (g0 : Int32) (c0 : Int32) (s_14 : Sg) (s_18 : Sg) (s_22 : Sg) (s_26 : Sg) (s_29 : Sg) (s_32 : Sg) (s_35 : Sg) (s_39 : Sg) (s_43 : Sg) (s_47 : Sg) : Sg := s_47
def k_ground_k154_8_s (σ : Sg) (cell : Int32) (layer : Int32) (p0 : Int32) (e0 : Int32) (g0 : Int32) (c0 : Int32) (s_14 : Sg) (s_18 : Sg) (s_22 : Sg) (s_26 : Sg) (s_29 : Sg) (s_32 : Sg) (s_35 : Sg) (s_39 : Sg) (s_43 : Sg) : Sg := (k_ground_k154_9_s σ cell layer p0 e0 g0 c0 s_14 s_18 s_22 s_26 s_29 s_32 s_35 s_39 s_43 (sl s_43 (26 + 2) (((s_43.2 (26 + 2))) + (((l_amount s_43 (5 * ((cell).toNatClampNeg) + ((layer).toNatClampNeg)) (nI (2)))).toInt64))))
def k_ground_k154_s (σ : Sg) (cell : Int32) (layer : Int32) (p0 : Int32) (e0 : Int32) (g0 : Int32) (c0 : Int32) (s_14 : Sg) (s_18 : Sg) (s_22 : Sg) (s_26 : Sg) (s_29 : Sg) (s_32 : Sg) (s_35 : Sg) (s_39 : Sg) : Sg := (k_ground_k154_8_s σ cell layer p0 e0 g0 c0 s_14 s_18 s_22 s_26 s_29 s_32 s_35 s_39 (sl s_39 (26 + 1) (((s_39.2 (26 + 1))) + (((l_amount s_39 (5 * ((cell).toNatClampNeg) + ((layer).toNatClampNeg)) (nI (1)))).toInt64))))
def k_ground_k123_s (σ : Sg) (cell : Int32) (layer : Int32) (p0 : Int32) (e0 : Int32) (g0 : Int32) (c0 : Int32) (s_14 : Sg) (s_18 : Sg) (s_22 : Sg) (s_26 : Sg) (s_29 : Sg) (s_32 : Sg) (s_35 : Sg) : Sg := (k_ground_k154_s σ cell layer p0 e0 g0 c0 s_14 s_18 s_22 s_26 s_29 s_32 s_35 (sl s_35 (26 + 0) (((s_35.2 (26 + 0))) + (((l_amount s_35 (5 * ((cell).toNatClampNeg) + ((layer).toNatClampNeg)) (nI (0)))).toInt64))))
def k_ground_k116_s (σ : Sg) (cell : Int32) (layer : Int32) (p0 : Int32) (e0 : Int32) (g0 : Int32) (c0 : Int32) (s_14 : Sg) (s_18 : Sg) (s_22 : Sg) (s_26 : Sg) (s_29 : Sg) (s_32 : Sg) : Sg := (k_ground_k123_s σ cell layer p0 e0 g0 c0 s_14 s_18 s_22 s_26 s_29 s_32 (si s_32 11 (5 * ((cell).toNatClampNeg) + ((layer).toNatClampNeg)) (c0)))
def k_ground_k109_s (σ : Sg) (cell : Int32) (layer : Int32) (p0 : Int32) (e0 : Int32) (g0 : Int32) (c0 : Int32) (s_14 : Sg) (s_18 : Sg) (s_22 : Sg) (s_26 : Sg) (s_29 : Sg) : Sg := (k_ground_k116_s σ cell layer p0 e0 g0 c0 s_14 s_18 s_22 s_26 s_29 (si s_29 10 (5 * ((cell).toNatClampNeg) + ((layer).toNatClampNeg)) (g0)))
def k_ground_k102_s (σ : Sg) (cell : Int32) (layer : Int32) (p0 : Int32) (e0 : Int32) (g0 : Int32) (c0 : Int32) (s_14 : Sg) (s_18 : Sg) (s_22 : Sg) (s_26 : Sg) : Sg := (k_ground_k109_s σ cell layer p0 e0 g0 c0 s_14 s_18 s_22 s_26 (si s_26 9 (5 * ((cell).toNatClampNeg) + ((layer).toNatClampNeg)) (e0)))
def k_ground_k90_2_s (σ : Sg) (cell : Int32) (layer : Int32) (p0 : Int32) (e0 : Int32) (g0 : Int32) (c0 : Int32) (s_14 : Sg) (s_18 : Sg) (s_22 : Sg) : Sg := (k_ground_k102_s σ cell layer p0 e0 g0 c0 s_14 s_18 s_22 (si s_22 8 (5 * ((cell).toNatClampNeg) + ((layer).toNatClampNeg)) (p0)))
def k_ground_k90_1_s (σ : Sg) (cell : Int32) (layer : Int32) (p0 : Int32) (e0 : Int32) (g0 : Int32) (c0 : Int32) (s_14 : Sg) (s_18 : Sg) : Sg := (k_ground_k90_2_s σ cell layer p0 e0 g0 c0 s_14 s_18 (sl s_18 (26 + 2) (((s_18.2 (26 + 2))) - (((l_amount s_18 (5 * ((cell).toNatClampNeg) + ((layer).toNatClampNeg)) (nI (2)))).toInt64))))
def k_ground_k90_s (σ : Sg) (cell : Int32) (layer : Int32) (p0 : Int32) (e0 : Int32) (g0 : Int32) (c0 : Int32) (s_14 : Sg) : Sg := (k_ground_k90_1_s σ cell layer p0 e0 g0 c0 s_14 (sl s_14 (26 + 1) (((s_14.2 (26 + 1))) - (((l_amount s_14 (5 * ((cell).toNatClampNeg) + ((layer).toNatClampNeg)) (nI (1)))).toInt64))))
def k_ground_s (σ : Sg) (cell : Int32) (layer : Int32) (p0 : Int32) (e0 : Int32) (g0 : Int32) (c0 : Int32) : Sg := (k_ground_k90_s σ cell layer p0 e0 g0 c0 (sl σ (26 + 0) (((σ.2 (26 + 0))) - (((l_amount σ (5 * ((cell).toNatClampNeg) + ((layer).toNatClampNeg)) (nI (0)))).toInt64))))
def kx_ground (σ : Sg) (cell : Int32) (layer : Int32) (p0 : Int32) (e0 : Int32) (g0 : Int32) (c0 : Int32) : Nat := xs (xIx (cell) (nI (25))) (xs (xIx (layer) (nI (5))) (xs (xRg (p0) (nI (0)) (nI (9))) (xs (xRg (e0) (nI (0)) (nI (9))) (xs (xRg (g0) ((-5000)) (nI (30000))) (xs (xRg (c0) (nI (0)) (nI (1000))) (0))))))
set_option maxHeartbeats 4000000 in
set_option maxRecDepth 100000 in
theorem cx_ground (l : Launch) (hl0 : l.stackTraces = false) (G : va_G) (ids : Nat → ClassId) (o z tS tE : Nat) (d : Nat → Nat → Nat) (w : Nat → Nat) (σ : Sg) (cell : Int32) (layer : Int32) (p0 : Int32) (e0 : Int32) (g0 : Int32) (c0 : Int32) : zV l yX5_ground wsX5_ground ({ frames := 7, cells := 6, slots := 36, locals := 122 } : Room) G ids tS tE [.ref (o), .int (cell), .int (layer), .int (p0), .int (e0), .int (g0), .int (c0)] (CPic G ids o z tE d w σ) (kx_ground σ cell layer p0 e0 g0 c0) (CPic G ids o z tE d w (k_ground_s σ cell layer p0 e0 g0 c0)) (cpG o z) 6 36 := by
  unfold zV
  refine vx_ofW (cc := cX5_ground) (maxL := 9) (ret := none) (by decide) rfl ?_
  intro p e s m args below meth c s₁ B hml hno hv
  obtain ⟨rfl, hP, hK, hZ⟩ := hv
  have hx := B.exec
  have hb := B.bytes
  have hr := B.returns
  have hts := atoms_spec (ws := wsX5_ground) B.pre
  have hown : s.vm.findClass RX5 = some m.cls := findClass_of_methodNamed B.named
  have hlocks := B.notSynchronized
  have hS : va_S (cpG o z) s.heap s.heap [] := va_S.rf
  have hin_wsX50 : ∀ w ∈ wsX50, w ∈ wsX5_ground := fun w h => List.mem_cons_of_mem _ (List.mem_append_left _ (List.mem_append_left _ (List.mem_append_left _ (List.mem_append_left _ (List.mem_append_right _ h)))))
  have hin_wsX10 : ∀ w ∈ wsX10, w ∈ wsX5_ground := fun w h => List.mem_cons_of_mem _ (List.mem_append_left _ (List.mem_append_left _ (List.mem_append_left _ (List.mem_append_right _ h))))
  have hin_wsX40 : ∀ w ∈ wsX40, w ∈ wsX5_ground := fun w h => List.mem_cons_of_mem _ (List.mem_append_left _ (List.mem_append_left _ (List.mem_append_right _ h)))
  have hl := lv_entry ([.ref (o), .int (cell), .int (layer), .int (p0), .int (e0), .int (g0), .int (c0)]) (n := 9) (Nat.le_of_ble_eq_true rfl)
  rw [lg_entry_eq]
  generalize (lg_sl ([.ref (o), .int (cell), .int (layer), .int (p0), .int (e0), .int (g0), .int (c0)]) ++ List.replicate (9 - (lg_sl ([.ref (o), .int (cell), .int (layer), .int (p0), .int (e0), .int (g0), .int (c0)])).length) Slot.unset).toArray = ls at hl ⊢
  have hl : lv_has ls 9 [(0, .ref (o)), (1, .int (cell)), (2, .int (layer)), (3, .int (p0)), (4, .int (e0)), (5, .int (g0)), (6, .int (c0))] := hl
  refine w_named (fun WW hWW => ?_)
  refine lv_iload_n hx hb dX5_ground_0 rfl (lv_at hl 1 rfl) ?_
  refine lv_bipush (v := nI (25)) hx hb dX5_ground_1 (by decide) ?_
  refine p_need (As := [.int (cell), .int (nI (25))]) (rest := []) (X := xIx (cell) (nI (25))) (c1 := 1) (s1 := 6) ⟨hx, hb, hml, hown, hts⟩ (ck_needIndex l hl0 tS tE (cell) (nI (25))) (va_cwS 2 hts gX5_ground_X5_needIndex rfl rfl rfl (by decide +kernel) ⟨Nat.le_of_ble_eq_true rfl, Nat.le_of_ble_eq_true rfl⟩) hno hlocks hZ hP hS rfl hl.1 rfl (Nat.le_of_ble_eq_true rfl) dX5_ground_3 ⟨Nat.le_of_ble_eq_true rfl, Nat.le_of_ble_eq_true rfl⟩ rfl rfl (Nat.le_of_ble_eq_true rfl) (Nat.le_of_ble_eq_true rfl) (fun hq_2 => by unfold kx_ground; simp only [xs, if_neg hq_2]) (fun hX_1 H locs hP hS => ?_)
  have hcell := hX_1
  refine lv_iload_n hx hb dX5_ground_6 rfl (lv_at hl 2 rfl) ?_
  refine lv_iconst (v := nI (5)) hx hb dX5_ground_7 (by decide) ?_
  refine p_need (As := [.int (layer), .int (nI (5))]) (rest := []) (X := xIx (layer) (nI (5))) (c1 := 2) (s1 := 12) ⟨hx, hb, hml, hown, hts⟩ (ck_needIndex l hl0 tS tE (layer) (nI (5))) (va_cwS 2 hts gX5_ground_X5_needIndex rfl rfl rfl (by decide +kernel) ⟨Nat.le_of_ble_eq_true rfl, Nat.le_of_ble_eq_true rfl⟩) hno hlocks hZ hP hS rfl hl.1 rfl (Nat.le_of_ble_eq_true rfl) dX5_ground_8 ⟨Nat.le_of_ble_eq_true rfl, Nat.le_of_ble_eq_true rfl⟩ rfl rfl (Nat.le_of_ble_eq_true rfl) (Nat.le_of_ble_eq_true rfl) (fun hq_4 => by unfold kx_ground; simp only [xs, if_pos hX_1, if_neg hq_4]) (fun hX_3 H locs hP hS => ?_)
  have hlay := hX_3
  refine lv_iload_n hx hb dX5_ground_11 rfl (lv_at hl 3 rfl) ?_
  refine lv_iconst (v := nI (0)) hx hb dX5_ground_12 (by decide) ?_
  refine lv_bipush (v := nI (9)) hx hb dX5_ground_13 (by decide) ?_
  refine p_need (As := [.int (p0), .int (nI (0)), .int (nI (9))]) (rest := []) (X := xRg (p0) (nI (0)) (nI (9))) (c1 := 3) (s1 := 18) ⟨hx, hb, hml, hown, hts⟩ (ck_needRange l hl0 tS tE (p0) (nI (0)) (nI (9))) (va_cwS 3 hts gX5_ground_X5_needRange rfl rfl rfl (by decide +kernel) ⟨Nat.le_of_ble_eq_true rfl, Nat.le_of_ble_eq_true rfl⟩) hno hlocks hZ hP hS rfl hl.1 rfl (Nat.le_of_ble_eq_true rfl) dX5_ground_15 ⟨Nat.le_of_ble_eq_true rfl, Nat.le_of_ble_eq_true rfl⟩ rfl rfl (Nat.le_of_ble_eq_true rfl) (Nat.le_of_ble_eq_true rfl) (fun hq_6 => by unfold kx_ground; simp only [xs, if_pos hX_1, if_pos hX_3, if_neg hq_6]) (fun hX_5 H locs hP hS => ?_)
  refine lv_iload hx hb dX5_ground_18 (lv_at hl 4 rfl) ?_
  refine lv_iconst (v := nI (0)) hx hb dX5_ground_20 (by decide) ?_
  refine lv_bipush (v := nI (9)) hx hb dX5_ground_21 (by decide) ?_
  refine p_need (As := [.int (e0), .int (nI (0)), .int (nI (9))]) (rest := []) (X := xRg (e0) (nI (0)) (nI (9))) (c1 := 4) (s1 := 24) ⟨hx, hb, hml, hown, hts⟩ (ck_needRange l hl0 tS tE (e0) (nI (0)) (nI (9))) (va_cwS 3 hts gX5_ground_X5_needRange rfl rfl rfl (by decide +kernel) ⟨Nat.le_of_ble_eq_true rfl, Nat.le_of_ble_eq_true rfl⟩) hno hlocks hZ hP hS rfl hl.1 rfl (Nat.le_of_ble_eq_true rfl) dX5_ground_23 ⟨Nat.le_of_ble_eq_true rfl, Nat.le_of_ble_eq_true rfl⟩ rfl rfl (Nat.le_of_ble_eq_true rfl) (Nat.le_of_ble_eq_true rfl) (fun hq_8 => by unfold kx_ground; simp only [xs, if_pos hX_1, if_pos hX_3, if_pos hX_5, if_neg hq_8]) (fun hX_7 H locs hP hS => ?_)
  refine lv_iload hx hb dX5_ground_26 (lv_at hl 5 rfl) ?_
  refine lv_sipush (v := (-5000)) hx hb dX5_ground_28 (by decide) ?_
  refine lv_sipush (v := nI (30000)) hx hb dX5_ground_31 (by decide) ?_
  refine p_need (As := [.int (g0), .int ((-5000)), .int (nI (30000))]) (rest := []) (X := xRg (g0) ((-5000)) (nI (30000))) (c1 := 5) (s1 := 30) ⟨hx, hb, hml, hown, hts⟩ (ck_needRange l hl0 tS tE (g0) ((-5000)) (nI (30000))) (va_cwS 3 hts gX5_ground_X5_needRange rfl rfl rfl (by decide +kernel) ⟨Nat.le_of_ble_eq_true rfl, Nat.le_of_ble_eq_true rfl⟩) hno hlocks hZ hP hS rfl hl.1 rfl (Nat.le_of_ble_eq_true rfl) dX5_ground_34 ⟨Nat.le_of_ble_eq_true rfl, Nat.le_of_ble_eq_true rfl⟩ rfl rfl (Nat.le_of_ble_eq_true rfl) (Nat.le_of_ble_eq_true rfl) (fun hq_10 => by unfold kx_ground; simp only [xs, if_pos hX_1, if_pos hX_3, if_pos hX_5, if_pos hX_7, if_neg hq_10]) (fun hX_9 H locs hP hS => ?_)
  refine lv_iload hx hb dX5_ground_37 (lv_at hl 6 rfl) ?_
  refine lv_iconst (v := nI (0)) hx hb dX5_ground_39 (by decide) ?_
  refine lv_sipush (v := nI (1000)) hx hb dX5_ground_40 (by decide) ?_
  refine p_need (As := [.int (c0), .int (nI (0)), .int (nI (1000))]) (rest := []) (X := xRg (c0) (nI (0)) (nI (1000))) (c1 := 6) (s1 := 36) ⟨hx, hb, hml, hown, hts⟩ (ck_needRange l hl0 tS tE (c0) (nI (0)) (nI (1000))) (va_cwS 3 hts gX5_ground_X5_needRange rfl rfl rfl (by decide +kernel) ⟨Nat.le_of_ble_eq_true rfl, Nat.le_of_ble_eq_true rfl⟩) hno hlocks hZ hP hS rfl hl.1 rfl (Nat.le_of_ble_eq_true rfl) dX5_ground_43 ⟨Nat.le_of_ble_eq_true rfl, Nat.le_of_ble_eq_true rfl⟩ rfl rfl (Nat.le_of_ble_eq_true rfl) (Nat.le_of_ble_eq_true rfl) (fun hq_12 => by unfold kx_ground; simp only [xs, if_pos hX_1, if_pos hX_3, if_pos hX_5, if_pos hX_7, if_pos hX_9, if_neg hq_12]) (fun hX_11 H locs hP hS => ?_)
  have hXz : (kx_ground σ cell layer p0 e0 g0 c0) = 0 := by unfold kx_ground; simp only [xs, if_pos hX_1, if_pos hX_3, if_pos hX_5, if_pos hX_7, if_pos hX_9, if_pos hX_11]
  refine lv_aload_n hx hb dX5_ground_46 rfl (lv_at hl 0 rfl) ?_
  refine x_get (C := RX5) (T := TX5) (N := 10) (ci := 6) (fs := (cpOf o σ)) (v := .ref (o + 1)) hx hb hts hin_wsX50 hown hK hP.main rfl 0 (by decide) (index := 11) (List.mem_of_getElem? (i := 1) rfl) rfl dX5_ground_47 ?_
  refine lv_iload_n hx hb dX5_ground_50 rfl (lv_at hl 1 rfl) ?_
  refine x_aald (r := o + 9 + 7 * ((cell).toNatClampNeg)) hx hb hK 3 rfl hP.crow (xIx_in (by decide) hcell) rfl dX5_ground_51 ?_
  refine x_get (C := RX1) (T := TX1) (N := 7) (ci := 2) (fs := (cfs (o + 9 + 7 * ((cell).toNatClampNeg)) ((cell).toNatClampNeg) σ)) (v := .ref (o + 9 + 7 * ((cell).toNatClampNeg) + 1)) hx hb hts hin_wsX10 hown hK (hP.cell (vp_lt (xIx_in (by decide) hcell))) rfl 0 (by decide) (index := 56) (List.mem_of_getElem? (i := 2) rfl) rfl dX5_ground_52 ?_
  refine lv_iload_n hx hb dX5_ground_55 rfl (lv_at hl 2 rfl) ?_
  refine x_aald (r := o + 9 + 7 * ((cell).toNatClampNeg) + 2 + ((layer).toNatClampNeg)) hx hb hK 4 rfl (hP.row (vp_lt (xIx_in (by decide) hcell))) (xIx_in (by decide) hlay) rfl dX5_ground_56 ?_
  refine lv_astore (lv' := [(7, .ref (o + 9 + 7 * ((cell).toNatClampNeg) + 2 + ((layer).toNatClampNeg))), (0, .ref (o)), (1, .int (cell)), (2, .int (layer)), (3, .int (p0)), (4, .int (e0)), (5, .int (g0)), (6, .int (c0))]) hx hb dX5_ground_57 hl (by decide) rfl (fun ls hl => ?_)
  refine lv_iconst (v := nI (0)) hx hb dX5_ground_59 (by decide) ?_
  refine lv_istore (lv' := [(8, .int (nI (0))), (7, .ref (o + 9 + 7 * ((cell).toNatClampNeg) + 2 + ((layer).toNatClampNeg))), (0, .ref (o)), (1, .int (cell)), (2, .int (layer)), (3, .int (p0)), (4, .int (e0)), (5, .int (g0)), (6, .int (c0))]) hx hb dX5_ground_60 hl (by decide) rfl (fun ls hl => ?_)
  refine lv_iload hx hb dX5_ground_62 (lv_at hl 0 rfl) ?_
  refine lv_aload_n hx hb dX5_ground_64 rfl (lv_at hl 2 rfl) ?_
  refine x_get (C := RX5) (T := TX5) (N := 10) (ci := 6) (fs := (cpOf o σ)) (v := .ref (o + 5)) hx hb hts hin_wsX50 hown hK hP.main rfl 5 (by decide) (index := 28) (List.mem_of_getElem? (i := 3) rfl) rfl dX5_ground_65 ?_
  refine x_alen hx hb hK 2 rfl hP.came (n := 3) rfl dX5_ground_68 ?_
  refine n_icmp_ge (x := 0) (y := 3) (tgt := 96) hx hb (by omega) (by omega) dX5_ground_69 (by decide) (fun c_13 => absurd c_13 (by omega)) (fun c_13 => ?_)
  refine lv_aload_n hx hb dX5_ground_72 rfl (lv_at hl 2 rfl) ?_
  refine x_get (C := RX5) (T := TX5) (N := 10) (ci := 6) (fs := (cpOf o σ)) (v := .ref (o + 5)) hx hb hts hin_wsX50 hown hK hP.main rfl 5 (by decide) (index := 28) (List.mem_of_getElem? (i := 3) rfl) rfl dX5_ground_73 ?_
  refine lv_iload hx hb dX5_ground_76 (lv_at hl 0 rfl) ?_
  refine lv_dup2_11 hx hb dX5_ground_78 rfl rfl ?_
  refine x_lald (v := (σ.2 (26 + 0))) hx hb hK hP.came (vp_in_nI (by omega) (by decide)) (by rw [nI_clamp (by omega)]; exact if_pos (by omega)) dX5_ground_79 ?_
  refine lv_aload hx hb dX5_ground_80 (lv_at hl 1 rfl) ?_
  refine lv_iload hx hb dX5_ground_82 (lv_at hl 0 rfl) ?_
  refine x_callI (As := [.int (nI (0))]) (rest := [.long ((σ.2 (26 + 0))), .int (nI (0)), .ref (o + 5)]) (fun q h => cpG_lay (vp_lt (xIx_in (by decide) hcell)) (vp_lt (xIx_in (by decide) hlay)) h) ⟨hx, hb, hml, hown, hts⟩ (cl_amount l G ids (o + 9 + 7 * ((cell).toNatClampNeg) + 2 + ((layer).toNatClampNeg)) (5 * ((cell).toNatClampNeg) + ((layer).toNatClampNeg)) σ (nI (0))) (cwV 1 hts gX5_ground_X4_amount rfl rfl rfl (by decide +kernel) ⟨Nat.le_of_ble_eq_true rfl, Nat.le_of_ble_eq_true rfl⟩) hK (hP.lay (vp_lt (xIx_in (by decide) hcell)) (vp_lt (xIx_in (by decide) hlay))) rfl (hP.lay (vp_lt (xIx_in (by decide) hcell)) (vp_lt (xIx_in (by decide) hlay))) hS rfl hl.1 rfl (Nat.le_of_ble_eq_true rfl) dX5_ground_84 ⟨Nat.le_of_ble_eq_true rfl, Nat.le_of_ble_eq_true rfl⟩ (fun H locs hP1 _ hk1 hS => ?_)
  replace hP := hP.joinL (vp_lt (xIx_in (by decide) hcell)) (vp_lt (xIx_in (by decide) hlay)) hP1 hk1
  refine lv_i2l (v := ((l_amount σ (5 * ((cell).toNatClampNeg) + ((layer).toNatClampNeg)) (nI (0)))).toInt64) hx hb dX5_ground_87 rfl ?_
  refine lv_lsub hx hb dX5_ground_88 ?_
  refine p_cameN (x := ((σ.2 (26 + 0))) - (((l_amount σ (5 * ((cell).toNatClampNeg) + ((layer).toNatClampNeg)) (nI (0)))).toInt64)) hx hb hK hP hS (j := 0) (by omega) dX5_ground_89 (fun H locs hP hS => ?_)
  obtain ⟨s_14, e_15⟩ : ∃ z : Sg, z = (sl σ (26 + 0) (((σ.2 (26 + 0))) - (((l_amount σ (5 * ((cell).toNatClampNeg) + ((layer).toNatClampNeg)) (nI (0)))).toInt64))) := ⟨_, rfl⟩
  rw [← e_15] at hP
  have hR_16 : k_ground_s σ cell layer p0 e0 g0 c0 = k_ground_k90_s σ cell layer p0 e0 g0 c0 s_14 := (by have q_ := e_15.symm; subst q_; unfold k_ground_s; rfl)
  refine n_iinc (x := 0) (dN := 1) (k := 0) (lv' := [(8, .int (nI (1))), (7, .ref (o + 9 + 7 * ((cell).toNatClampNeg) + 2 + ((layer).toNatClampNeg))), (0, .ref (o)), (1, .int (cell)), (2, .int (layer)), (3, .int (p0)), (4, .int (e0)), (5, .int (g0)), (6, .int (c0))]) hx hb dX5_ground_90 hl rfl (by decide) rfl (fun ls hl => ?_)
  refine lv_goto (tgt := 62) hx hb dX5_ground_93 (by decide) ?_
  refine lv_iload hx hb dX5_ground_62 (lv_at hl 0 rfl) ?_
  refine lv_aload_n hx hb dX5_ground_64 rfl (lv_at hl 2 rfl) ?_
  refine x_get (C := RX5) (T := TX5) (N := 10) (ci := 6) (fs := (cpOf o s_14)) (v := .ref (o + 5)) hx hb hts hin_wsX50 hown hK hP.main rfl 5 (by decide) (index := 28) (List.mem_of_getElem? (i := 3) rfl) rfl dX5_ground_65 ?_
  refine x_alen hx hb hK 2 rfl hP.came (n := 3) rfl dX5_ground_68 ?_
  refine n_icmp_ge (x := 1) (y := 3) (tgt := 96) hx hb (by omega) (by omega) dX5_ground_69 (by decide) (fun c_17 => absurd c_17 (by omega)) (fun c_17 => ?_)
  refine lv_aload_n hx hb dX5_ground_72 rfl (lv_at hl 2 rfl) ?_
  refine x_get (C := RX5) (T := TX5) (N := 10) (ci := 6) (fs := (cpOf o s_14)) (v := .ref (o + 5)) hx hb hts hin_wsX50 hown hK hP.main rfl 5 (by decide) (index := 28) (List.mem_of_getElem? (i := 3) rfl) rfl dX5_ground_73 ?_
  refine lv_iload hx hb dX5_ground_76 (lv_at hl 0 rfl) ?_
  refine lv_dup2_11 hx hb dX5_ground_78 rfl rfl ?_
  refine x_lald (v := (s_14.2 (26 + 1))) hx hb hK hP.came (vp_in_nI (by omega) (by decide)) (by rw [nI_clamp (by omega)]; exact if_pos (by omega)) dX5_ground_79 ?_
  refine lv_aload hx hb dX5_ground_80 (lv_at hl 1 rfl) ?_
  refine lv_iload hx hb dX5_ground_82 (lv_at hl 0 rfl) ?_
  refine x_callI (As := [.int (nI (1))]) (rest := [.long ((s_14.2 (26 + 1))), .int (nI (1)), .ref (o + 5)]) (fun q h => cpG_lay (vp_lt (xIx_in (by decide) hcell)) (vp_lt (xIx_in (by decide) hlay)) h) ⟨hx, hb, hml, hown, hts⟩ (cl_amount l G ids (o + 9 + 7 * ((cell).toNatClampNeg) + 2 + ((layer).toNatClampNeg)) (5 * ((cell).toNatClampNeg) + ((layer).toNatClampNeg)) s_14 (nI (1))) (cwV 1 hts gX5_ground_X4_amount rfl rfl rfl (by decide +kernel) ⟨Nat.le_of_ble_eq_true rfl, Nat.le_of_ble_eq_true rfl⟩) hK (hP.lay (vp_lt (xIx_in (by decide) hcell)) (vp_lt (xIx_in (by decide) hlay))) rfl (hP.lay (vp_lt (xIx_in (by decide) hcell)) (vp_lt (xIx_in (by decide) hlay))) hS rfl hl.1 rfl (Nat.le_of_ble_eq_true rfl) dX5_ground_84 ⟨Nat.le_of_ble_eq_true rfl, Nat.le_of_ble_eq_true rfl⟩ (fun H locs hP1 _ hk1 hS => ?_)
  replace hP := hP.joinL (vp_lt (xIx_in (by decide) hcell)) (vp_lt (xIx_in (by decide) hlay)) hP1 hk1
  refine lv_i2l (v := ((l_amount s_14 (5 * ((cell).toNatClampNeg) + ((layer).toNatClampNeg)) (nI (1)))).toInt64) hx hb dX5_ground_87 rfl ?_
  refine lv_lsub hx hb dX5_ground_88 ?_
  refine p_cameN (x := ((s_14.2 (26 + 1))) - (((l_amount s_14 (5 * ((cell).toNatClampNeg) + ((layer).toNatClampNeg)) (nI (1)))).toInt64)) hx hb hK hP hS (j := 1) (by omega) dX5_ground_89 (fun H locs hP hS => ?_)
  obtain ⟨s_18, e_19⟩ : ∃ z : Sg, z = (sl s_14 (26 + 1) (((s_14.2 (26 + 1))) - (((l_amount s_14 (5 * ((cell).toNatClampNeg) + ((layer).toNatClampNeg)) (nI (1)))).toInt64))) := ⟨_, rfl⟩
  rw [← e_19] at hP
  have hR_20 : k_ground_s σ cell layer p0 e0 g0 c0 = k_ground_k90_1_s σ cell layer p0 e0 g0 c0 s_14 s_18 := (Eq.trans hR_16 (by have q_ := e_19.symm; subst q_; unfold k_ground_k90_s; rfl))
  refine n_iinc (x := 1) (dN := 1) (k := 0) (lv' := [(8, .int (nI (2))), (7, .ref (o + 9 + 7 * ((cell).toNatClampNeg) + 2 + ((layer).toNatClampNeg))), (0, .ref (o)), (1, .int (cell)), (2, .int (layer)), (3, .int (p0)), (4, .int (e0)), (5, .int (g0)), (6, .int (c0))]) hx hb dX5_ground_90 hl rfl (by decide) rfl (fun ls hl => ?_)
  refine lv_goto (tgt := 62) hx hb dX5_ground_93 (by decide) ?_
  refine lv_iload hx hb dX5_ground_62 (lv_at hl 0 rfl) ?_
  refine lv_aload_n hx hb dX5_ground_64 rfl (lv_at hl 2 rfl) ?_
  refine x_get (C := RX5) (T := TX5) (N := 10) (ci := 6) (fs := (cpOf o s_18)) (v := .ref (o + 5)) hx hb hts hin_wsX50 hown hK hP.main rfl 5 (by decide) (index := 28) (List.mem_of_getElem? (i := 3) rfl) rfl dX5_ground_65 ?_
  refine x_alen hx hb hK 2 rfl hP.came (n := 3) rfl dX5_ground_68 ?_
  refine n_icmp_ge (x := 2) (y := 3) (tgt := 96) hx hb (by omega) (by omega) dX5_ground_69 (by decide) (fun c_21 => absurd c_21 (by omega)) (fun c_21 => ?_)
  refine lv_aload_n hx hb dX5_ground_72 rfl (lv_at hl 2 rfl) ?_
  refine x_get (C := RX5) (T := TX5) (N := 10) (ci := 6) (fs := (cpOf o s_18)) (v := .ref (o + 5)) hx hb hts hin_wsX50 hown hK hP.main rfl 5 (by decide) (index := 28) (List.mem_of_getElem? (i := 3) rfl) rfl dX5_ground_73 ?_
  refine lv_iload hx hb dX5_ground_76 (lv_at hl 0 rfl) ?_
  refine lv_dup2_11 hx hb dX5_ground_78 rfl rfl ?_
  refine x_lald (v := (s_18.2 (26 + 2))) hx hb hK hP.came (vp_in_nI (by omega) (by decide)) (by rw [nI_clamp (by omega)]; exact if_pos (by omega)) dX5_ground_79 ?_
  refine lv_aload hx hb dX5_ground_80 (lv_at hl 1 rfl) ?_
  refine lv_iload hx hb dX5_ground_82 (lv_at hl 0 rfl) ?_
  refine x_callI (As := [.int (nI (2))]) (rest := [.long ((s_18.2 (26 + 2))), .int (nI (2)), .ref (o + 5)]) (fun q h => cpG_lay (vp_lt (xIx_in (by decide) hcell)) (vp_lt (xIx_in (by decide) hlay)) h) ⟨hx, hb, hml, hown, hts⟩ (cl_amount l G ids (o + 9 + 7 * ((cell).toNatClampNeg) + 2 + ((layer).toNatClampNeg)) (5 * ((cell).toNatClampNeg) + ((layer).toNatClampNeg)) s_18 (nI (2))) (cwV 1 hts gX5_ground_X4_amount rfl rfl rfl (by decide +kernel) ⟨Nat.le_of_ble_eq_true rfl, Nat.le_of_ble_eq_true rfl⟩) hK (hP.lay (vp_lt (xIx_in (by decide) hcell)) (vp_lt (xIx_in (by decide) hlay))) rfl (hP.lay (vp_lt (xIx_in (by decide) hcell)) (vp_lt (xIx_in (by decide) hlay))) hS rfl hl.1 rfl (Nat.le_of_ble_eq_true rfl) dX5_ground_84 ⟨Nat.le_of_ble_eq_true rfl, Nat.le_of_ble_eq_true rfl⟩ (fun H locs hP1 _ hk1 hS => ?_)
  replace hP := hP.joinL (vp_lt (xIx_in (by decide) hcell)) (vp_lt (xIx_in (by decide) hlay)) hP1 hk1
  refine lv_i2l (v := ((l_amount s_18 (5 * ((cell).toNatClampNeg) + ((layer).toNatClampNeg)) (nI (2)))).toInt64) hx hb dX5_ground_87 rfl ?_
  refine lv_lsub hx hb dX5_ground_88 ?_
  refine p_cameN (x := ((s_18.2 (26 + 2))) - (((l_amount s_18 (5 * ((cell).toNatClampNeg) + ((layer).toNatClampNeg)) (nI (2)))).toInt64)) hx hb hK hP hS (j := 2) (by omega) dX5_ground_89 (fun H locs hP hS => ?_)
  obtain ⟨s_22, e_23⟩ : ∃ z : Sg, z = (sl s_18 (26 + 2) (((s_18.2 (26 + 2))) - (((l_amount s_18 (5 * ((cell).toNatClampNeg) + ((layer).toNatClampNeg)) (nI (2)))).toInt64))) := ⟨_, rfl⟩
  rw [← e_23] at hP
  have hR_24 : k_ground_s σ cell layer p0 e0 g0 c0 = k_ground_k90_2_s σ cell layer p0 e0 g0 c0 s_14 s_18 s_22 := (Eq.trans hR_20 (by have q_ := e_23.symm; subst q_; unfold k_ground_k90_1_s; rfl))
  refine n_iinc (x := 2) (dN := 1) (k := 0) (lv' := [(8, .int (nI (3))), (7, .ref (o + 9 + 7 * ((cell).toNatClampNeg) + 2 + ((layer).toNatClampNeg))), (0, .ref (o)), (1, .int (cell)), (2, .int (layer)), (3, .int (p0)), (4, .int (e0)), (5, .int (g0)), (6, .int (c0))]) hx hb dX5_ground_90 hl rfl (by decide) rfl (fun ls hl => ?_)
  refine lv_goto (tgt := 62) hx hb dX5_ground_93 (by decide) ?_
  refine lv_iload hx hb dX5_ground_62 (lv_at hl 0 rfl) ?_
  refine lv_aload_n hx hb dX5_ground_64 rfl (lv_at hl 2 rfl) ?_
  refine x_get (C := RX5) (T := TX5) (N := 10) (ci := 6) (fs := (cpOf o s_22)) (v := .ref (o + 5)) hx hb hts hin_wsX50 hown hK hP.main rfl 5 (by decide) (index := 28) (List.mem_of_getElem? (i := 3) rfl) rfl dX5_ground_65 ?_
  refine x_alen hx hb hK 2 rfl hP.came (n := 3) rfl dX5_ground_68 ?_
  refine n_icmp_ge (x := 3) (y := 3) (tgt := 96) hx hb (by omega) (by omega) dX5_ground_69 (by decide) (fun c_25 => ?_) (fun c_25 => absurd c_25 (by omega))
  refine lv_aload hx hb dX5_ground_96 (lv_at hl 1 rfl) ?_
  refine lv_iload_n hx hb dX5_ground_98 rfl (lv_at hl 5 rfl) ?_
  refine p_lput (i := (cell).toNatClampNeg) (j := (layer).toNatClampNeg) (v := p0) hx hb hts hin_wsX40 hown hK hP (vp_lt (xIx_in (by decide) hcell)) (vp_lt (xIx_in (by decide) hlay)) hS 0 (by decide) (index := 66) (List.mem_of_getElem? (i := 4) rfl) dX5_ground_99 (fun H locs hP hS => ?_)
  obtain ⟨s_26, e_27⟩ : ∃ z : Sg, z = (si s_22 8 (5 * ((cell).toNatClampNeg) + ((layer).toNatClampNeg)) (p0)) := ⟨_, rfl⟩
  rw [← e_27] at hP
  have hR_28 : k_ground_s σ cell layer p0 e0 g0 c0 = k_ground_k102_s σ cell layer p0 e0 g0 c0 s_14 s_18 s_22 s_26 := (Eq.trans hR_24 (by have q_ := e_27.symm; subst q_; unfold k_ground_k90_2_s; rfl))
  refine lv_aload hx hb dX5_ground_102 (lv_at hl 1 rfl) ?_
  refine lv_iload hx hb dX5_ground_104 (lv_at hl 6 rfl) ?_
  refine p_lput (i := (cell).toNatClampNeg) (j := (layer).toNatClampNeg) (v := e0) hx hb hts hin_wsX40 hown hK hP (vp_lt (xIx_in (by decide) hcell)) (vp_lt (xIx_in (by decide) hlay)) hS 1 (by decide) (index := 70) (List.mem_of_getElem? (i := 5) rfl) dX5_ground_106 (fun H locs hP hS => ?_)
  obtain ⟨s_29, e_30⟩ : ∃ z : Sg, z = (si s_26 9 (5 * ((cell).toNatClampNeg) + ((layer).toNatClampNeg)) (e0)) := ⟨_, rfl⟩
  rw [← e_30] at hP
  have hR_31 : k_ground_s σ cell layer p0 e0 g0 c0 = k_ground_k109_s σ cell layer p0 e0 g0 c0 s_14 s_18 s_22 s_26 s_29 := (Eq.trans hR_28 (by have q_ := e_30.symm; subst q_; unfold k_ground_k102_s; rfl))
  refine lv_aload hx hb dX5_ground_109 (lv_at hl 1 rfl) ?_
  refine lv_iload hx hb dX5_ground_111 (lv_at hl 7 rfl) ?_
  refine p_lput (i := (cell).toNatClampNeg) (j := (layer).toNatClampNeg) (v := g0) hx hb hts hin_wsX40 hown hK hP (vp_lt (xIx_in (by decide) hcell)) (vp_lt (xIx_in (by decide) hlay)) hS 2 (by decide) (index := 73) (List.mem_of_getElem? (i := 6) rfl) dX5_ground_113 (fun H locs hP hS => ?_)
  obtain ⟨s_32, e_33⟩ : ∃ z : Sg, z = (si s_29 10 (5 * ((cell).toNatClampNeg) + ((layer).toNatClampNeg)) (g0)) := ⟨_, rfl⟩
  rw [← e_33] at hP
  have hR_34 : k_ground_s σ cell layer p0 e0 g0 c0 = k_ground_k116_s σ cell layer p0 e0 g0 c0 s_14 s_18 s_22 s_26 s_29 s_32 := (Eq.trans hR_31 (by have q_ := e_33.symm; subst q_; unfold k_ground_k109_s; rfl))
  refine lv_aload hx hb dX5_ground_116 (lv_at hl 1 rfl) ?_
  refine lv_iload hx hb dX5_ground_118 (lv_at hl 8 rfl) ?_
  refine p_lput (i := (cell).toNatClampNeg) (j := (layer).toNatClampNeg) (v := c0) hx hb hts hin_wsX40 hown hK hP (vp_lt (xIx_in (by decide) hcell)) (vp_lt (xIx_in (by decide) hlay)) hS 3 (by decide) (index := 76) (List.mem_of_getElem? (i := 7) rfl) dX5_ground_120 (fun H locs hP hS => ?_)
  obtain ⟨s_35, e_36⟩ : ∃ z : Sg, z = (si s_32 11 (5 * ((cell).toNatClampNeg) + ((layer).toNatClampNeg)) (c0)) := ⟨_, rfl⟩
  rw [← e_36] at hP
  have hR_37 : k_ground_s σ cell layer p0 e0 g0 c0 = k_ground_k123_s σ cell layer p0 e0 g0 c0 s_14 s_18 s_22 s_26 s_29 s_32 s_35 := (Eq.trans hR_34 (by have q_ := e_36.symm; subst q_; unfold k_ground_k116_s; rfl))
  refine lv_iconst (v := nI (0)) hx hb dX5_ground_123 (by decide) ?_
  refine lv_istore (lv' := [(8, .int (nI (0))), (7, .ref (o + 9 + 7 * ((cell).toNatClampNeg) + 2 + ((layer).toNatClampNeg))), (0, .ref (o)), (1, .int (cell)), (2, .int (layer)), (3, .int (p0)), (4, .int (e0)), (5, .int (g0)), (6, .int (c0))]) hx hb dX5_ground_124 hl (by decide) rfl (fun ls hl => ?_)
  refine lv_iload hx hb dX5_ground_126 (lv_at hl 0 rfl) ?_
  refine lv_aload_n hx hb dX5_ground_128 rfl (lv_at hl 2 rfl) ?_
  refine x_get (C := RX5) (T := TX5) (N := 10) (ci := 6) (fs := (cpOf o s_35)) (v := .ref (o + 5)) hx hb hts hin_wsX50 hown hK hP.main rfl 5 (by decide) (index := 28) (List.mem_of_getElem? (i := 3) rfl) rfl dX5_ground_129 ?_
  refine x_alen hx hb hK 2 rfl hP.came (n := 3) rfl dX5_ground_132 ?_
  refine n_icmp_ge (x := 0) (y := 3) (tgt := 160) hx hb (by omega) (by omega) dX5_ground_133 (by decide) (fun c_38 => absurd c_38 (by omega)) (fun c_38 => ?_)
  refine lv_aload_n hx hb dX5_ground_136 rfl (lv_at hl 2 rfl) ?_
  refine x_get (C := RX5) (T := TX5) (N := 10) (ci := 6) (fs := (cpOf o s_35)) (v := .ref (o + 5)) hx hb hts hin_wsX50 hown hK hP.main rfl 5 (by decide) (index := 28) (List.mem_of_getElem? (i := 3) rfl) rfl dX5_ground_137 ?_
  refine lv_iload hx hb dX5_ground_140 (lv_at hl 0 rfl) ?_
  refine lv_dup2_11 hx hb dX5_ground_142 rfl rfl ?_
  refine x_lald (v := (s_35.2 (26 + 0))) hx hb hK hP.came (vp_in_nI (by omega) (by decide)) (by rw [nI_clamp (by omega)]; exact if_pos (by omega)) dX5_ground_143 ?_
  refine lv_aload hx hb dX5_ground_144 (lv_at hl 1 rfl) ?_
  refine lv_iload hx hb dX5_ground_146 (lv_at hl 0 rfl) ?_
  refine x_callI (As := [.int (nI (0))]) (rest := [.long ((s_35.2 (26 + 0))), .int (nI (0)), .ref (o + 5)]) (fun q h => cpG_lay (vp_lt (xIx_in (by decide) hcell)) (vp_lt (xIx_in (by decide) hlay)) h) ⟨hx, hb, hml, hown, hts⟩ (cl_amount l G ids (o + 9 + 7 * ((cell).toNatClampNeg) + 2 + ((layer).toNatClampNeg)) (5 * ((cell).toNatClampNeg) + ((layer).toNatClampNeg)) s_35 (nI (0))) (cwV 1 hts gX5_ground_X4_amount rfl rfl rfl (by decide +kernel) ⟨Nat.le_of_ble_eq_true rfl, Nat.le_of_ble_eq_true rfl⟩) hK (hP.lay (vp_lt (xIx_in (by decide) hcell)) (vp_lt (xIx_in (by decide) hlay))) rfl (hP.lay (vp_lt (xIx_in (by decide) hcell)) (vp_lt (xIx_in (by decide) hlay))) hS rfl hl.1 rfl (Nat.le_of_ble_eq_true rfl) dX5_ground_148 ⟨Nat.le_of_ble_eq_true rfl, Nat.le_of_ble_eq_true rfl⟩ (fun H locs hP1 _ hk1 hS => ?_)
  replace hP := hP.joinL (vp_lt (xIx_in (by decide) hcell)) (vp_lt (xIx_in (by decide) hlay)) hP1 hk1
  refine lv_i2l (v := ((l_amount s_35 (5 * ((cell).toNatClampNeg) + ((layer).toNatClampNeg)) (nI (0)))).toInt64) hx hb dX5_ground_151 rfl ?_
  refine lv_ladd hx hb dX5_ground_152 ?_
  refine p_cameN (x := ((s_35.2 (26 + 0))) + (((l_amount s_35 (5 * ((cell).toNatClampNeg) + ((layer).toNatClampNeg)) (nI (0)))).toInt64)) hx hb hK hP hS (j := 0) (by omega) dX5_ground_153 (fun H locs hP hS => ?_)
  obtain ⟨s_39, e_40⟩ : ∃ z : Sg, z = (sl s_35 (26 + 0) (((s_35.2 (26 + 0))) + (((l_amount s_35 (5 * ((cell).toNatClampNeg) + ((layer).toNatClampNeg)) (nI (0)))).toInt64))) := ⟨_, rfl⟩
  rw [← e_40] at hP
  have hR_41 : k_ground_s σ cell layer p0 e0 g0 c0 = k_ground_k154_s σ cell layer p0 e0 g0 c0 s_14 s_18 s_22 s_26 s_29 s_32 s_35 s_39 := (Eq.trans hR_37 (by have q_ := e_40.symm; subst q_; unfold k_ground_k123_s; rfl))
  refine n_iinc (x := 0) (dN := 1) (k := 0) (lv' := [(8, .int (nI (1))), (7, .ref (o + 9 + 7 * ((cell).toNatClampNeg) + 2 + ((layer).toNatClampNeg))), (0, .ref (o)), (1, .int (cell)), (2, .int (layer)), (3, .int (p0)), (4, .int (e0)), (5, .int (g0)), (6, .int (c0))]) hx hb dX5_ground_154 hl rfl (by decide) rfl (fun ls hl => ?_)
  refine lv_goto (tgt := 126) hx hb dX5_ground_157 (by decide) ?_
  refine lv_iload hx hb dX5_ground_126 (lv_at hl 0 rfl) ?_
  refine lv_aload_n hx hb dX5_ground_128 rfl (lv_at hl 2 rfl) ?_
  refine x_get (C := RX5) (T := TX5) (N := 10) (ci := 6) (fs := (cpOf o s_39)) (v := .ref (o + 5)) hx hb hts hin_wsX50 hown hK hP.main rfl 5 (by decide) (index := 28) (List.mem_of_getElem? (i := 3) rfl) rfl dX5_ground_129 ?_
  refine x_alen hx hb hK 2 rfl hP.came (n := 3) rfl dX5_ground_132 ?_
  refine n_icmp_ge (x := 1) (y := 3) (tgt := 160) hx hb (by omega) (by omega) dX5_ground_133 (by decide) (fun c_42 => absurd c_42 (by omega)) (fun c_42 => ?_)
  refine lv_aload_n hx hb dX5_ground_136 rfl (lv_at hl 2 rfl) ?_
  refine x_get (C := RX5) (T := TX5) (N := 10) (ci := 6) (fs := (cpOf o s_39)) (v := .ref (o + 5)) hx hb hts hin_wsX50 hown hK hP.main rfl 5 (by decide) (index := 28) (List.mem_of_getElem? (i := 3) rfl) rfl dX5_ground_137 ?_
  refine lv_iload hx hb dX5_ground_140 (lv_at hl 0 rfl) ?_
  refine lv_dup2_11 hx hb dX5_ground_142 rfl rfl ?_
  refine x_lald (v := (s_39.2 (26 + 1))) hx hb hK hP.came (vp_in_nI (by omega) (by decide)) (by rw [nI_clamp (by omega)]; exact if_pos (by omega)) dX5_ground_143 ?_
  refine lv_aload hx hb dX5_ground_144 (lv_at hl 1 rfl) ?_
  refine lv_iload hx hb dX5_ground_146 (lv_at hl 0 rfl) ?_
  refine x_callI (As := [.int (nI (1))]) (rest := [.long ((s_39.2 (26 + 1))), .int (nI (1)), .ref (o + 5)]) (fun q h => cpG_lay (vp_lt (xIx_in (by decide) hcell)) (vp_lt (xIx_in (by decide) hlay)) h) ⟨hx, hb, hml, hown, hts⟩ (cl_amount l G ids (o + 9 + 7 * ((cell).toNatClampNeg) + 2 + ((layer).toNatClampNeg)) (5 * ((cell).toNatClampNeg) + ((layer).toNatClampNeg)) s_39 (nI (1))) (cwV 1 hts gX5_ground_X4_amount rfl rfl rfl (by decide +kernel) ⟨Nat.le_of_ble_eq_true rfl, Nat.le_of_ble_eq_true rfl⟩) hK (hP.lay (vp_lt (xIx_in (by decide) hcell)) (vp_lt (xIx_in (by decide) hlay))) rfl (hP.lay (vp_lt (xIx_in (by decide) hcell)) (vp_lt (xIx_in (by decide) hlay))) hS rfl hl.1 rfl (Nat.le_of_ble_eq_true rfl) dX5_ground_148 ⟨Nat.le_of_ble_eq_true rfl, Nat.le_of_ble_eq_true rfl⟩ (fun H locs hP1 _ hk1 hS => ?_)
  replace hP := hP.joinL (vp_lt (xIx_in (by decide) hcell)) (vp_lt (xIx_in (by decide) hlay)) hP1 hk1
  refine lv_i2l (v := ((l_amount s_39 (5 * ((cell).toNatClampNeg) + ((layer).toNatClampNeg)) (nI (1)))).toInt64) hx hb dX5_ground_151 rfl ?_
  refine lv_ladd hx hb dX5_ground_152 ?_
  refine p_cameN (x := ((s_39.2 (26 + 1))) + (((l_amount s_39 (5 * ((cell).toNatClampNeg) + ((layer).toNatClampNeg)) (nI (1)))).toInt64)) hx hb hK hP hS (j := 1) (by omega) dX5_ground_153 (fun H locs hP hS => ?_)
  obtain ⟨s_43, e_44⟩ : ∃ z : Sg, z = (sl s_39 (26 + 1) (((s_39.2 (26 + 1))) + (((l_amount s_39 (5 * ((cell).toNatClampNeg) + ((layer).toNatClampNeg)) (nI (1)))).toInt64))) := ⟨_, rfl⟩
  rw [← e_44] at hP
  have hR_45 : k_ground_s σ cell layer p0 e0 g0 c0 = k_ground_k154_8_s σ cell layer p0 e0 g0 c0 s_14 s_18 s_22 s_26 s_29 s_32 s_35 s_39 s_43 := (Eq.trans hR_41 (by have q_ := e_44.symm; subst q_; unfold k_ground_k154_s; rfl))
  refine n_iinc (x := 1) (dN := 1) (k := 0) (lv' := [(8, .int (nI (2))), (7, .ref (o + 9 + 7 * ((cell).toNatClampNeg) + 2 + ((layer).toNatClampNeg))), (0, .ref (o)), (1, .int (cell)), (2, .int (layer)), (3, .int (p0)), (4, .int (e0)), (5, .int (g0)), (6, .int (c0))]) hx hb dX5_ground_154 hl rfl (by decide) rfl (fun ls hl => ?_)
  refine lv_goto (tgt := 126) hx hb dX5_ground_157 (by decide) ?_
  refine lv_iload hx hb dX5_ground_126 (lv_at hl 0 rfl) ?_
  refine lv_aload_n hx hb dX5_ground_128 rfl (lv_at hl 2 rfl) ?_
  refine x_get (C := RX5) (T := TX5) (N := 10) (ci := 6) (fs := (cpOf o s_43)) (v := .ref (o + 5)) hx hb hts hin_wsX50 hown hK hP.main rfl 5 (by decide) (index := 28) (List.mem_of_getElem? (i := 3) rfl) rfl dX5_ground_129 ?_
  refine x_alen hx hb hK 2 rfl hP.came (n := 3) rfl dX5_ground_132 ?_
  refine n_icmp_ge (x := 2) (y := 3) (tgt := 160) hx hb (by omega) (by omega) dX5_ground_133 (by decide) (fun c_46 => absurd c_46 (by omega)) (fun c_46 => ?_)
  refine lv_aload_n hx hb dX5_ground_136 rfl (lv_at hl 2 rfl) ?_
  refine x_get (C := RX5) (T := TX5) (N := 10) (ci := 6) (fs := (cpOf o s_43)) (v := .ref (o + 5)) hx hb hts hin_wsX50 hown hK hP.main rfl 5 (by decide) (index := 28) (List.mem_of_getElem? (i := 3) rfl) rfl dX5_ground_137 ?_
  refine lv_iload hx hb dX5_ground_140 (lv_at hl 0 rfl) ?_
  refine lv_dup2_11 hx hb dX5_ground_142 rfl rfl ?_
  refine x_lald (v := (s_43.2 (26 + 2))) hx hb hK hP.came (vp_in_nI (by omega) (by decide)) (by rw [nI_clamp (by omega)]; exact if_pos (by omega)) dX5_ground_143 ?_
  refine lv_aload hx hb dX5_ground_144 (lv_at hl 1 rfl) ?_
  refine lv_iload hx hb dX5_ground_146 (lv_at hl 0 rfl) ?_
  refine x_callI (As := [.int (nI (2))]) (rest := [.long ((s_43.2 (26 + 2))), .int (nI (2)), .ref (o + 5)]) (fun q h => cpG_lay (vp_lt (xIx_in (by decide) hcell)) (vp_lt (xIx_in (by decide) hlay)) h) ⟨hx, hb, hml, hown, hts⟩ (cl_amount l G ids (o + 9 + 7 * ((cell).toNatClampNeg) + 2 + ((layer).toNatClampNeg)) (5 * ((cell).toNatClampNeg) + ((layer).toNatClampNeg)) s_43 (nI (2))) (cwV 1 hts gX5_ground_X4_amount rfl rfl rfl (by decide +kernel) ⟨Nat.le_of_ble_eq_true rfl, Nat.le_of_ble_eq_true rfl⟩) hK (hP.lay (vp_lt (xIx_in (by decide) hcell)) (vp_lt (xIx_in (by decide) hlay))) rfl (hP.lay (vp_lt (xIx_in (by decide) hcell)) (vp_lt (xIx_in (by decide) hlay))) hS rfl hl.1 rfl (Nat.le_of_ble_eq_true rfl) dX5_ground_148 ⟨Nat.le_of_ble_eq_true rfl, Nat.le_of_ble_eq_true rfl⟩ (fun H locs hP1 _ hk1 hS => ?_)
  replace hP := hP.joinL (vp_lt (xIx_in (by decide) hcell)) (vp_lt (xIx_in (by decide) hlay)) hP1 hk1
  refine lv_i2l (v := ((l_amount s_43 (5 * ((cell).toNatClampNeg) + ((layer).toNatClampNeg)) (nI (2)))).toInt64) hx hb dX5_ground_151 rfl ?_
  refine lv_ladd hx hb dX5_ground_152 ?_
  refine p_cameN (x := ((s_43.2 (26 + 2))) + (((l_amount s_43 (5 * ((cell).toNatClampNeg) + ((layer).toNatClampNeg)) (nI (2)))).toInt64)) hx hb hK hP hS (j := 2) (by omega) dX5_ground_153 (fun H locs hP hS => ?_)
  obtain ⟨s_47, e_48⟩ : ∃ z : Sg, z = (sl s_43 (26 + 2) (((s_43.2 (26 + 2))) + (((l_amount s_43 (5 * ((cell).toNatClampNeg) + ((layer).toNatClampNeg)) (nI (2)))).toInt64))) := ⟨_, rfl⟩
  rw [← e_48] at hP
  have hR_49 : k_ground_s σ cell layer p0 e0 g0 c0 = k_ground_k154_9_s σ cell layer p0 e0 g0 c0 s_14 s_18 s_22 s_26 s_29 s_32 s_35 s_39 s_43 s_47 := (Eq.trans hR_45 (by have q_ := e_48.symm; subst q_; unfold k_ground_k154_8_s; rfl))
  refine n_iinc (x := 2) (dN := 1) (k := 0) (lv' := [(8, .int (nI (3))), (7, .ref (o + 9 + 7 * ((cell).toNatClampNeg) + 2 + ((layer).toNatClampNeg))), (0, .ref (o)), (1, .int (cell)), (2, .int (layer)), (3, .int (p0)), (4, .int (e0)), (5, .int (g0)), (6, .int (c0))]) hx hb dX5_ground_154 hl rfl (by decide) rfl (fun ls hl => ?_)
  refine lv_goto (tgt := 126) hx hb dX5_ground_157 (by decide) ?_
  refine lv_iload hx hb dX5_ground_126 (lv_at hl 0 rfl) ?_
  refine lv_aload_n hx hb dX5_ground_128 rfl (lv_at hl 2 rfl) ?_
  refine x_get (C := RX5) (T := TX5) (N := 10) (ci := 6) (fs := (cpOf o s_47)) (v := .ref (o + 5)) hx hb hts hin_wsX50 hown hK hP.main rfl 5 (by decide) (index := 28) (List.mem_of_getElem? (i := 3) rfl) rfl dX5_ground_129 ?_
  refine x_alen hx hb hK 2 rfl hP.came (n := 3) rfl dX5_ground_132 ?_
  refine n_icmp_ge (x := 3) (y := 3) (tgt := 160) hx hb (by omega) (by omega) dX5_ground_133 (by decide) (fun c_50 => ?_) (fun c_50 => absurd c_50 (by omega))
  have hsp : s_47 = k_ground_s σ cell layer p0 e0 g0 c0 := (Eq.trans (by unfold k_ground_k154_9_s; rfl) hR_49.symm)
  rw [hsp] at hP
  exact z_vret hx hb hr hlocks hXz (Nat.le_of_ble_eq_true rfl) (Nat.le_of_ble_eq_true rfl) hP hS dX5_ground_160
