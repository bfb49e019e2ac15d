def k_houseOf (σ : Sg) (house : Int32) (what : Int32) : Int32 := (if what = nI (0) then (σ.1 14 ((house).toNatClampNeg)) else (if what = nI (1) then (σ.1 15 ((house).toNatClampNeg)) else (if what = nI (2) then (σ.1 17 ((house).toNatClampNeg)) else (if what = nI (3) then (σ.1 18 ((house).toNatClampNeg)) else (k_claimAmount σ ((house).toNatClampNeg) (σ.1 17 ((house).toNatClampNeg)) (σ.1 1 0))))))
def kx_houseOf (σ : Sg) (house : Int32) (what : Int32) : Nat := xs (xIx (house) ((σ.1 13 0))) (xs (xRg (what) (nI (0)) (nI (4))) (0))
set_option maxHeartbeats 4000000 in
set_option maxRecDepth 100000 in
theorem cx_houseOf (l : Launch) (hl0 : l.stackTraces = false) (G : va_G) (ids : Nat → ClassId) (o z tS tE : Nat) (d : Nat → Nat → Nat) (w : Nat → Nat) (σ : Sg) (house : Int32) (what : Int32) (hO : cOK σ) : zI l yX5_houseOf wsX5_houseOf ({ frames := 7, cells := 2, slots := 12, locals := 135 } : Room) G ids tS tE [.ref (o), .int (house), .int (what)] (CPic G ids o z tE d w σ) (kx_houseOf σ house what) (k_houseOf σ house what) (CPic G ids o z tE d w σ) (cpG o z) 2 12 := by
  unfold zI
  refine vx_ofW (cc := cX5_houseOf) (maxL := 4) (ret := (some .int)) (by decide) rfl ?_
  intro p e s m args below meth c s₁ B hml hno hv
  obtain ⟨rfl, hP, hK, hZ⟩ := hv
  have hx := B.exec
  have hb := B.bytes
  have hr := B.returns
  have hts := atoms_spec (ws := wsX5_houseOf) B.pre
  have hown : s.vm.findClass RX5 = some m.cls := findClass_of_methodNamed B.named
  have hlocks := B.notSynchronized
  have hS : va_S (cpG o z) s.heap s.heap [] := va_S.rf
  have hin_wsX50 : ∀ w ∈ wsX50, w ∈ wsX5_houseOf := fun w h => List.mem_cons_of_mem _ (List.mem_append_left _ (List.mem_append_left _ (List.mem_append_left _ (List.mem_append_left _ (List.mem_append_left _ (List.mem_append_right _ h))))))
  have hin_wsX30 : ∀ w ∈ wsX30, w ∈ wsX5_houseOf := fun w h => List.mem_cons_of_mem _ (List.mem_append_left _ (List.mem_append_left _ (List.mem_append_left _ (List.mem_append_left _ (List.mem_append_right _ h)))))
  have hin_wsJx4a65c0 : ∀ w ∈ wsJx4a65c0, w ∈ wsX5_houseOf := fun w h => List.mem_cons_of_mem _ (List.mem_append_left _ (List.mem_append_left _ (List.mem_append_left _ (List.mem_append_right _ h))))
  have hin_wsX00 : ∀ w ∈ wsX00, w ∈ wsX5_houseOf := fun w h => List.mem_cons_of_mem _ (List.mem_append_left _ (List.mem_append_left _ (List.mem_append_right _ h)))
  have hl := lv_entry ([.ref (o), .int (house), .int (what)]) (n := 4) (Nat.le_of_ble_eq_true rfl)
  rw [lg_entry_eq]
  generalize (lg_sl ([.ref (o), .int (house), .int (what)]) ++ List.replicate (4 - (lg_sl ([.ref (o), .int (house), .int (what)])).length) Slot.unset).toArray = ls at hl ⊢
  have hl : lv_has ls 4 [(0, .ref (o)), (1, .int (house)), (2, .int (what))] := hl
  refine w_named (fun WW hWW => ?_)
  refine lv_iload_n hx hb dX5_houseOf_0 rfl (lv_at hl 1 rfl) ?_
  refine lv_aload_n hx hb dX5_houseOf_1 rfl (lv_at hl 0 rfl) ?_
  refine x_get (C := RX5) (T := TX5) (N := 10) (ci := 6) (fs := (cpOf o σ)) (v := .ref (o + 2)) hx hb hts hin_wsX50 hown hK hP.main rfl 1 (by decide) (index := 18) (List.mem_of_getElem? (i := 1) rfl) rfl dX5_houseOf_2 ?_
  refine p_size (L := 0) (rest := [.int (house)]) (by decide) rfl ⟨hx, hb, hml, hown, hts⟩ (cwV 0 hts gX5_houseOf_Jx4a65c_size_8abf5 rfl rfl rfl (by decide +kernel) ⟨Nat.le_of_ble_eq_true rfl, Nat.le_of_ble_eq_true rfl⟩) hK hP hS hl.1 (v := (σ.1 13 0)) rfl (Nat.le_of_ble_eq_true rfl) dX5_houseOf_5 ⟨Nat.le_of_ble_eq_true rfl, Nat.le_of_ble_eq_true rfl⟩ (fun H locs hP hS => ?_)
  refine p_need (As := [.int (house), .int ((σ.1 13 0))]) (rest := []) (X := xIx (house) ((σ.1 13 0))) (c1 := 1) (s1 := 6) ⟨hx, hb, hml, hown, hts⟩ (ck_needIndex l hl0 tS tE (house) ((σ.1 13 0))) (va_cwS 2 hts gX5_houseOf_X5_needIndex rfl rfl rfl (by decide +kernel) ⟨Nat.le_of_ble_eq_true rfl, Nat.le_of_ble_eq_true rfl⟩) hno hlocks hZ hP hS rfl hl.1 rfl (Nat.le_of_ble_eq_true rfl) dX5_houseOf_8 ⟨Nat.le_of_ble_eq_true rfl, Nat.le_of_ble_eq_true rfl⟩ rfl rfl (Nat.le_of_ble_eq_true rfl) (Nat.le_of_ble_eq_true rfl) (fun hq_2 => by unfold kx_houseOf; simp only [xs, if_neg hq_2]) (fun hX_1 H locs hP hS => ?_)
  have hidx := hX_1
  refine lv_iload_n hx hb dX5_houseOf_11 rfl (lv_at hl 2 rfl) ?_
  refine lv_iconst (v := nI (0)) hx hb dX5_houseOf_12 (by decide) ?_
  refine lv_iconst (v := nI (4)) hx hb dX5_houseOf_13 (by decide) ?_
  refine p_need (As := [.int (what), .int (nI (0)), .int (nI (4))]) (rest := []) (X := xRg (what) (nI (0)) (nI (4))) (c1 := 2) (s1 := 12) ⟨hx, hb, hml, hown, hts⟩ (ck_needRange l hl0 tS tE (what) (nI (0)) (nI (4))) (va_cwS 3 hts gX5_houseOf_X5_needRange rfl rfl rfl (by decide +kernel) ⟨Nat.le_of_ble_eq_true rfl, Nat.le_of_ble_eq_true rfl⟩) hno hlocks hZ hP hS rfl hl.1 rfl (Nat.le_of_ble_eq_true rfl) dX5_houseOf_14 ⟨Nat.le_of_ble_eq_true rfl, Nat.le_of_ble_eq_true rfl⟩ rfl rfl (Nat.le_of_ble_eq_true rfl) (Nat.le_of_ble_eq_true rfl) (fun hq_4 => by unfold kx_houseOf; simp only [xs, if_pos hX_1, if_neg hq_4]) (fun hX_3 H locs hP hS => ?_)
  have hXz : (kx_houseOf σ house what) = 0 := by unfold kx_houseOf; simp only [xs, if_pos hX_1, if_pos hX_3]
  refine lv_aload_n hx hb dX5_houseOf_17 rfl (lv_at hl 0 rfl) ?_
  refine x_get (C := RX5) (T := TX5) (N := 10) (ci := 6) (fs := (cpOf o σ)) (v := .ref (o + 2)) hx hb hts hin_wsX50 hown hK hP.main rfl 1 (by decide) (index := 18) (List.mem_of_getElem? (i := 1) rfl) rfl dX5_houseOf_18 ?_
  refine lv_iload_n hx hb dX5_houseOf_21 rfl (lv_at hl 1 rfl) ?_
  have hh := xIx_inI hO.1 hidx
  have hj := vp_lt hh
  refine W.eq (g2 := F0 m 22 ls (.int (nI ((house).toNatClampNeg)) :: .ref (o + 2) :: [])) (congrArg (fun v => F0 m 22 ls (Value.int v :: .ref (o + 2) :: [])) (vp_self hh)) ?_
  refine p_getL (L := 0) (j := (house).toNatClampNeg) (kd := 1) (rest := []) (by decide) rfl rfl ⟨hx, hb, hml, hown, hts⟩ (cwV 1 hts gX5_houseOf_Jx4a65c_get_915e3 rfl rfl rfl (by decide +kernel) ⟨Nat.le_of_ble_eq_true rfl, Nat.le_of_ble_eq_true rfl⟩) hK hP hS (vp_self hO.1) hj hl.1 (Nat.le_of_ble_eq_true rfl) dX5_houseOf_22 ⟨Nat.le_of_ble_eq_true rfl, Nat.le_of_ble_eq_true rfl⟩ (fun H locs hP hS => ?_)
  refine x_cast hx hb hown (hts _ (List.mem_of_getElem? (i := 2) rfl)) hK (hP.house hj) rfl dX5_houseOf_25 ?_
  refine lv_astore_n (lv' := [(3, .ref (d 1 ((house).toNatClampNeg))), (0, .ref (o)), (1, .int (house)), (2, .int (what))]) hx hb dX5_houseOf_28 rfl hl (by decide) rfl (fun ls hl => ?_)
  refine lv_iload_n hx hb dX5_houseOf_29 rfl (lv_at hl 3 rfl) ?_
  by_cases t_5 : what = nI (0)
  · refine lv_tableIn (x := what) (off := 30) (tgt := 60) hx hb dX5_houseOf_30 (by rw [t_5]; decide) (by rw [t_5]; decide) (by rw [t_5]; rfl) (by decide) ?_
    refine lv_aload_n hx hb dX5_houseOf_60 rfl (lv_at hl 0 rfl) ?_
    refine x_get (C := RX3) (T := TX3) (N := 5) (ci := 4) (fs := _) (v := .int ((σ.1 14 ((house).toNatClampNeg)))) hx hb hts hin_wsX30 hown hK (hP.house hj) rfl 0 (by decide) (index := 180) (List.mem_of_getElem? (i := 3) rfl) rfl dX5_houseOf_61 ?_
    exact z_iret (v := (σ.1 14 ((house).toNatClampNeg))) hx hb hr hlocks hXz (Nat.le_of_ble_eq_true rfl) (Nat.le_of_ble_eq_true rfl) hP hS dX5_houseOf_64 (by unfold k_houseOf; simp only [if_pos t_5])
  by_cases t_6 : what = nI (1)
  · refine lv_tableIn (x := what) (off := 35) (tgt := 65) hx hb dX5_houseOf_30 (by rw [t_6]; decide) (by rw [t_6]; decide) (by rw [t_6]; rfl) (by decide) ?_
    refine lv_aload_n hx hb dX5_houseOf_65 rfl (lv_at hl 0 rfl) ?_
    refine x_get (C := RX3) (T := TX3) (N := 5) (ci := 4) (fs := _) (v := .int ((σ.1 15 ((house).toNatClampNeg)))) hx hb hts hin_wsX30 hown hK (hP.house hj) rfl 1 (by decide) (index := 183) (List.mem_of_getElem? (i := 4) rfl) rfl dX5_houseOf_66 ?_
    exact z_iret (v := (σ.1 15 ((house).toNatClampNeg))) hx hb hr hlocks hXz (Nat.le_of_ble_eq_true rfl) (Nat.le_of_ble_eq_true rfl) hP hS dX5_houseOf_69 (by unfold k_houseOf; simp only [if_neg t_5, if_pos t_6])
  by_cases t_7 : what = nI (2)
  · refine lv_tableIn (x := what) (off := 40) (tgt := 70) hx hb dX5_houseOf_30 (by rw [t_7]; decide) (by rw [t_7]; decide) (by rw [t_7]; rfl) (by decide) ?_
    refine lv_aload_n hx hb dX5_houseOf_70 rfl (lv_at hl 0 rfl) ?_
    refine x_get (C := RX3) (T := TX3) (N := 5) (ci := 4) (fs := _) (v := .int ((σ.1 17 ((house).toNatClampNeg)))) hx hb hts hin_wsX30 hown hK (hP.house hj) rfl 4 (by decide) (index := 135) (List.mem_of_getElem? (i := 5) rfl) rfl dX5_houseOf_71 ?_
    exact z_iret (v := (σ.1 17 ((house).toNatClampNeg))) hx hb hr hlocks hXz (Nat.le_of_ble_eq_true rfl) (Nat.le_of_ble_eq_true rfl) hP hS dX5_houseOf_74 (by unfold k_houseOf; simp only [if_neg t_5, if_neg t_6, if_pos t_7])
  by_cases t_8 : what = nI (3)
  · refine lv_tableIn (x := what) (off := 45) (tgt := 75) hx hb dX5_houseOf_30 (by rw [t_8]; decide) (by rw [t_8]; decide) (by rw [t_8]; rfl) (by decide) ?_
    refine lv_aload_n hx hb dX5_houseOf_75 rfl (lv_at hl 0 rfl) ?_
    refine x_get (C := RX3) (T := TX3) (N := 5) (ci := 4) (fs := _) (v := .int ((σ.1 18 ((house).toNatClampNeg)))) hx hb hts hin_wsX30 hown hK (hP.house hj) rfl 3 (by decide) (index := 186) (List.mem_of_getElem? (i := 6) rfl) rfl dX5_houseOf_76 ?_
    exact z_iret (v := (σ.1 18 ((house).toNatClampNeg))) hx hb hr hlocks hXz (Nat.le_of_ble_eq_true rfl) (Nat.le_of_ble_eq_true rfl) hP hS dX5_houseOf_79 (by unfold k_houseOf; simp only [if_neg t_5, if_neg t_6, if_neg t_7, if_pos t_8])
  refine lv_tableOut (x := what) (tgt := 80) hx hb dX5_houseOf_30 (by have n_0 := i_ne (k := 0) t_5 (by decide); have n_1 := i_ne (k := 1) t_6 (by decide); have n_2 := i_ne (k := 2) t_7 (by decide); have n_3 := i_ne (k := 3) t_8 (by decide); omega) (by decide) ?_
  refine lv_aload_n hx hb dX5_houseOf_80 rfl (lv_at hl 1 rfl) ?_
  refine lv_aload_n hx hb dX5_houseOf_81 rfl (lv_at hl 0 rfl) ?_
  refine lv_aload_n hx hb dX5_houseOf_82 rfl (lv_at hl 0 rfl) ?_
  refine x_get (C := RX3) (T := TX3) (N := 5) (ci := 4) (fs := _) (v := .int ((σ.1 17 ((house).toNatClampNeg)))) hx hb hts hin_wsX30 hown hK (hP.house hj) rfl 4 (by decide) (index := 135) (List.mem_of_getElem? (i := 5) rfl) rfl dX5_houseOf_83 ?_
  refine lv_aload_n hx hb dX5_houseOf_86 rfl (lv_at hl 1 rfl) ?_
  refine x_get (C := RX5) (T := TX5) (N := 10) (ci := 6) (fs := (cpOf o σ)) (v := .int ((σ.1 1 0))) hx hb hts hin_wsX50 hown hK hP.main rfl 4 (by decide) (index := 82) (List.mem_of_getElem? (i := 7) rfl) rfl dX5_houseOf_87 ?_
  refine y_callIF (As := [.ref (d 1 ((house).toNatClampNeg)), .int ((σ.1 17 ((house).toNatClampNeg))), .int ((σ.1 1 0))]) (rest := []) ⟨hx, hb, hml, hown, hts⟩ (ck_claimAmount l G ids o z tS tE d w σ ((house).toNatClampNeg) (σ.1 17 ((house).toNatClampNeg)) (σ.1 1 0) hO hj (hO.2.2.2.2.1 _ hj).2.2.1 hO.2.2.2.1 (hO.2.2.2.2.1 _ hj).2.2.2) (cwV 3 hts gX5_houseOf_X5_claimAmount rfl rfl rfl (by decide +kernel) ⟨Nat.le_of_ble_eq_true rfl, Nat.le_of_ble_eq_true rfl⟩) hK hZ hP.main rfl hP hS rfl hl.1 rfl (Nat.le_of_ble_eq_true rfl) dX5_houseOf_90 ⟨Nat.le_of_ble_eq_true rfl, Nat.le_of_ble_eq_true rfl⟩ (fun H locs hP _ hk hS => ?_)
  exact z_iret (v := (k_claimAmount σ ((house).toNatClampNeg) (σ.1 17 ((house).toNatClampNeg)) (σ.1 1 0))) hx hb hr hlocks hXz (Nat.le_of_ble_eq_true rfl) (Nat.le_of_ble_eq_true rfl) hP hS dX5_houseOf_93 (by unfold k_houseOf; simp only [if_neg t_5, if_neg t_6, if_neg t_7, if_neg t_8])
