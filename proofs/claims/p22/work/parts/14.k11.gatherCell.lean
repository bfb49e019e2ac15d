def k_gatherCell_k51 (σ : Sg) (cell : Int32) (size : Int32) (s_5 : Sg) (s_9 : Sg) : Int32 := (size) + (nI (1))
def k_gatherCell_k51_s (σ : Sg) (cell : Int32) (size : Int32) (s_5 : Sg) (s_9 : Sg) : Sg := s_9
def k_gatherCell_k44 (σ : Sg) (cell : Int32) (size : Int32) (s_5 : Sg) : Int32 := (k_gatherCell_k51 σ cell size s_5 (si s_5 32 ((size).toNatClampNeg) (cell)))
def k_gatherCell_k44_s (σ : Sg) (cell : Int32) (size : Int32) (s_5 : Sg) : Sg := (k_gatherCell_k51_s σ cell size s_5 (si s_5 32 ((size).toNatClampNeg) (cell)))
def k_gatherCell (σ : Sg) (cell : Int32) (size : Int32) : Int32 := (if cell = (-1) then size else (if (σ.1 3 ((cell).toNatClampNeg)) ≤ 0 then size else (if (σ.1 33 ((cell).toNatClampNeg)) = 0 then (if size < nI (25) then (k_gatherCell_k44 σ cell size (si σ 33 ((cell).toNatClampNeg) (vp_nar .boolean (nI (1))))) else size) else size)))
def k_gatherCell_s (σ : Sg) (cell : Int32) (size : Int32) : Sg := (if cell = (-1) then σ else (if (σ.1 3 ((cell).toNatClampNeg)) ≤ 0 then σ else (if (σ.1 33 ((cell).toNatClampNeg)) = 0 then (if size < nI (25) then (k_gatherCell_k44_s σ cell size (si σ 33 ((cell).toNatClampNeg) (vp_nar .boolean (nI (1))))) else σ) else σ)))
theorem vp_26 {x : Int32} (hs : vp_in x 26) (h : x < nI 25) : vp_in x 25 := by
  have e := vp_toInt hs
  rw [i_lt, e, nI_toInt (by decide)] at h
  exact vp_in_iff.mpr ⟨by omega, by omega⟩
set_option maxHeartbeats 4000000 in
set_option maxRecDepth 100000 in
theorem ck_gatherCell (l : Launch) (G : va_G) (ids : Nat → ClassId) (o z tS tE : Nat) (d : Nat → Nat → Nat) (w : Nat → Nat) (σ : Sg) (cell : Int32) (size : Int32) (hc : ¬ cell = -1 → vp_in cell 25) (hs : vp_in size 26) : yI l yX5_gatherCell wsX5_gatherCell ({ frames := 0, cells := 0, slots := 0, locals := 0 } : Room) G ids tS tE [.ref (o), .int (cell), .int (size)] (CPic G ids o z tE d w σ) (k_gatherCell σ cell size) (CPic G ids o z tE d w (k_gatherCell_s σ cell size)) (cpG o z) := by
  unfold yI
  refine Met.ofW (cc := cX5_gatherCell) (maxL := 3) (ret := (some .int)) (by decide) rfl ?_
  intro p e s m args below meth c s₁ B hml hv
  obtain ⟨rfl, hP, hK, hZ⟩ := hv
  have hx := B.exec
  have hb := B.bytes
  have hr := B.returns
  have hts := atoms_spec (ws := wsX5_gatherCell) B.pre
  have hown : s.vm.findClass RX5 = some m.cls := findClass_of_methodNamed B.named
  have hlocks := B.notSynchronized
  have hS : va_S (cpG o z) s.heap s.heap [] := va_S.rf
  have hin_wsX50 : ∀ w ∈ wsX50, w ∈ wsX5_gatherCell := fun w h => List.mem_cons_of_mem _ (List.mem_append_left _ (List.mem_append_right _ h))
  have hin_wsX10 : ∀ w ∈ wsX10, w ∈ wsX5_gatherCell := fun w h => List.mem_cons_of_mem _ (List.mem_append_right _ h)
  have hl := lv_entry ([.ref (o), .int (cell), .int (size)]) (n := 3) (Nat.le_of_ble_eq_true rfl)
  rw [lg_entry_eq]
  generalize (lg_sl ([.ref (o), .int (cell), .int (size)]) ++ List.replicate (3 - (lg_sl ([.ref (o), .int (cell), .int (size)])).length) Slot.unset).toArray = ls at hl ⊢
  have hl : lv_has ls 3 [(0, .ref (o)), (1, .int (cell)), (2, .int (size))] := hl
  refine w_named (fun WW hWW => ?_)
  refine lv_iload_n hx hb dX5_gatherCell_0 rfl (lv_at hl 1 rfl) ?_
  refine lv_iconst (v := (-1)) hx hb dX5_gatherCell_1 (by decide) ?_
  refine lv_icmp_eq (x := cell) (y := (-1)) (tgt := 35) hx hb dX5_gatherCell_2 (by decide) (fun c_1 => ?_) (fun c_1 => ?_)
  · refine lv_iload_n hx hb dX5_gatherCell_35 rfl (lv_at hl 2 rfl) ?_
    have hsp : σ = k_gatherCell_s σ cell size := (by unfold k_gatherCell_s; simp only [if_pos c_1])
    rw [hsp] at hP
    exact x_iret (v := size) hx hb hr hlocks hP hS dX5_gatherCell_36 (by unfold k_gatherCell; simp only [if_pos c_1])
  · refine lv_aload_n hx hb dX5_gatherCell_5 rfl (lv_at hl 0 rfl) ?_
    refine x_get (C := RX5) (T := TX5) (N := 10) (ci := 6) (fs := (cpOf o σ)) (v := .ref (o + 1)) hx hb hts hin_wsX50 hown hK hP.main rfl 0 (by decide) (index := 11) (List.mem_of_getElem? (i := 1) rfl) rfl dX5_gatherCell_6 ?_
    refine lv_iload_n hx hb dX5_gatherCell_9 rfl (lv_at hl 1 rfl) ?_
    refine x_aald (r := o + 9 + 7 * ((cell).toNatClampNeg)) hx hb hK 3 rfl hP.crow (hc c_1) rfl dX5_gatherCell_10 ?_
    refine x_get (C := RX1) (T := TX1) (N := 7) (ci := 2) (fs := (cfs (o + 9 + 7 * ((cell).toNatClampNeg)) ((cell).toNatClampNeg) σ)) (v := .int ((σ.1 3 ((cell).toNatClampNeg)))) hx hb hts hin_wsX10 hown hK (hP.cell (vp_lt (hc c_1))) rfl 2 (by decide) (index := 99) (List.mem_of_getElem? (i := 2) rfl) rfl dX5_gatherCell_11 ?_
    refine lv_if_le (x := (σ.1 3 ((cell).toNatClampNeg))) (tgt := 35) hx hb dX5_gatherCell_14 (by decide) (fun c_2 => ?_) (fun c_2 => ?_)
    · refine lv_iload_n hx hb dX5_gatherCell_35 rfl (lv_at hl 2 rfl) ?_
      have hsp : σ = k_gatherCell_s σ cell size := (by unfold k_gatherCell_s; simp only [if_neg c_1, if_pos c_2])
      rw [hsp] at hP
      exact x_iret (v := size) hx hb hr hlocks hP hS dX5_gatherCell_36 (by unfold k_gatherCell; simp only [if_neg c_1, if_pos c_2])
    · refine lv_aload_n hx hb dX5_gatherCell_17 rfl (lv_at hl 0 rfl) ?_
      refine x_get (C := RX5) (T := TX5) (N := 10) (ci := 6) (fs := (cpOf o σ)) (v := .ref (o + 8)) hx hb hts hin_wsX50 hown hK hP.main rfl 9 (by decide) (index := 39) (List.mem_of_getElem? (i := 3) rfl) rfl dX5_gatherCell_18 ?_
      refine lv_iload_n hx hb dX5_gatherCell_21 rfl (lv_at hl 1 rfl) ?_
      refine x_zald (v := (σ.1 33 ((cell).toNatClampNeg))) hx hb hK hP.gath (hc c_1) rfl dX5_gatherCell_22 ?_
      refine lv_if_ne (x := (σ.1 33 ((cell).toNatClampNeg))) (tgt := 35) hx hb dX5_gatherCell_23 (by decide) (fun c_3 => ?_) (fun c_3 => ?_)
      · refine lv_iload_n hx hb dX5_gatherCell_35 rfl (lv_at hl 2 rfl) ?_
        have hsp : σ = k_gatherCell_s σ cell size := (by unfold k_gatherCell_s; simp only [if_neg c_1, if_neg c_2, if_neg c_3])
        rw [hsp] at hP
        exact x_iret (v := size) hx hb hr hlocks hP hS dX5_gatherCell_36 (by unfold k_gatherCell; simp only [if_neg c_1, if_neg c_2, if_neg c_3])
      · refine lv_iload_n hx hb dX5_gatherCell_26 rfl (lv_at hl 2 rfl) ?_
        refine lv_aload_n hx hb dX5_gatherCell_27 rfl (lv_at hl 0 rfl) ?_
        refine x_get (C := RX5) (T := TX5) (N := 10) (ci := 6) (fs := (cpOf o σ)) (v := .ref (o + 7)) hx hb hts hin_wsX50 hown hK hP.main rfl 8 (by decide) (index := 35) (List.mem_of_getElem? (i := 4) rfl) rfl dX5_gatherCell_28 ?_
        refine x_alen hx hb hK 0 rfl hP.lake (n := 25) rfl dX5_gatherCell_31 ?_
        refine lv_icmp_lt (x := size) (y := nI (25)) (tgt := 37) hx hb dX5_gatherCell_32 (by decide) (fun c_4 => ?_) (fun c_4 => ?_)
        · refine lv_aload_n hx hb dX5_gatherCell_37 rfl (lv_at hl 0 rfl) ?_
          refine x_get (C := RX5) (T := TX5) (N := 10) (ci := 6) (fs := (cpOf o σ)) (v := .ref (o + 8)) hx hb hts hin_wsX50 hown hK hP.main rfl 9 (by decide) (index := 39) (List.mem_of_getElem? (i := 3) rfl) rfl dX5_gatherCell_38 ?_
          refine lv_iload_n hx hb dX5_gatherCell_41 rfl (lv_at hl 1 rfl) ?_
          refine lv_iconst (v := nI (1)) hx hb dX5_gatherCell_42 (by decide) ?_
          refine p_gath (x := nI (1)) hx hb hK hP hS (i := cell) (hc c_1) dX5_gatherCell_43 (fun H locs hP hS => ?_)
          obtain ⟨s_5, e_6⟩ : ∃ z : Sg, z = (si σ 33 ((cell).toNatClampNeg) (vp_nar .boolean (nI (1)))) := ⟨_, rfl⟩
          rw [← e_6] at hP
          have hR_7 : k_gatherCell σ cell size = k_gatherCell_k44 σ cell size s_5 := (by have q_ := e_6.symm; subst q_; unfold k_gatherCell; simp only [if_neg c_1, if_neg c_2, if_pos c_3, if_pos c_4])
          have hR_8 : k_gatherCell_s σ cell size = k_gatherCell_k44_s σ cell size s_5 := (by have q_ := e_6.symm; subst q_; unfold k_gatherCell_s; simp only [if_neg c_1, if_neg c_2, if_pos c_3, if_pos c_4])
          refine lv_aload_n hx hb dX5_gatherCell_44 rfl (lv_at hl 0 rfl) ?_
          refine x_get (C := RX5) (T := TX5) (N := 10) (ci := 6) (fs := (cpOf o s_5)) (v := .ref (o + 7)) hx hb hts hin_wsX50 hown hK hP.main rfl 8 (by decide) (index := 35) (List.mem_of_getElem? (i := 4) rfl) rfl dX5_gatherCell_45 ?_
          refine lv_iload_n hx hb dX5_gatherCell_48 rfl (lv_at hl 2 rfl) ?_
          refine lv_iload_n hx hb dX5_gatherCell_49 rfl (lv_at hl 1 rfl) ?_
          refine p_lake (x := cell) hx hb hK hP hS (i := size) (vp_26 hs c_4) dX5_gatherCell_50 (fun H locs hP hS => ?_)
          obtain ⟨s_9, e_10⟩ : ∃ z : Sg, z = (si s_5 32 ((size).toNatClampNeg) (cell)) := ⟨_, rfl⟩
          rw [← e_10] at hP
          have hR_11 : k_gatherCell σ cell size = k_gatherCell_k51 σ cell size s_5 s_9 := (Eq.trans hR_7 (by have q_ := e_10.symm; subst q_; unfold k_gatherCell_k44; rfl))
          have hR_12 : k_gatherCell_s σ cell size = k_gatherCell_k51_s σ cell size s_5 s_9 := (Eq.trans hR_8 (by have q_ := e_10.symm; subst q_; unfold k_gatherCell_k44_s; rfl))
          refine lv_iload_n hx hb dX5_gatherCell_51 rfl (lv_at hl 2 rfl) ?_
          refine lv_iconst (v := nI (1)) hx hb dX5_gatherCell_52 (by decide) ?_
          refine lv_iadd (x := size) (y := nI (1)) hx hb dX5_gatherCell_53 ?_
          have hsp : s_9 = k_gatherCell_s σ cell size := (Eq.trans (by unfold k_gatherCell_k51_s; rfl) hR_12.symm)
          rw [hsp] at hP
          exact x_iret (v := (size) + (nI (1))) hx hb hr hlocks hP hS dX5_gatherCell_54 (Eq.trans (by unfold k_gatherCell_k51; rfl) hR_11.symm)
        · refine lv_iload_n hx hb dX5_gatherCell_35 rfl (lv_at hl 2 rfl) ?_
          have hsp : σ = k_gatherCell_s σ cell size := (by unfold k_gatherCell_s; simp only [if_neg c_1, if_neg c_2, if_pos c_3, if_neg c_4])
          rw [hsp] at hP
          exact x_iret (v := size) hx hb hr hlocks hP hS dX5_gatherCell_36 (by unfold k_gatherCell; simp only [if_neg c_1, if_neg c_2, if_pos c_3, if_neg c_4])
