def k_leadHeat_x2_s (σ : Sg) (air : Int32) (z2 : Sg) : Sg := z2
def k_leadHeat_k48 (air : Int32) (i2 : Nat) (z2 : Sg) (s_3 : Sg) (s_6 : Sg) : Sg := s_6
def k_leadHeat_k34 (air : Int32) (i2 : Nat) (z2 : Sg) (s_3 : Sg) : Sg := (k_leadHeat_k48 air i2 z2 s_3 (sl s_3 (26 + 0) (((s_3.2 (26 + 0))) + ((((c_heatFromAir z2 i2 air)) + (nI (10))).toInt64))))
def k_leadHeat_b2 (air : Int32) (i2 : Nat) (z2 : Sg) : Sg := (k_leadHeat_k34 air i2 z2 (c_leadDown_s z2 i2 (c_heatFromAir z2 i2 air) (nI (10))))
def k_leadHeat_s (σ : Sg) (air : Int32) : Sg := (k_leadHeat_x2_s σ air (lp (k_leadHeat_b2 air) 25 σ))
set_option maxHeartbeats 4000000 in
set_option maxRecDepth 100000 in
theorem ck_leadHeat (l : Launch) (G : va_G) (ids : Nat → ClassId) (o z tS tE : Nat) (d : Nat → Nat → Nat) (w : Nat → Nat) (σ : Sg) (air : Int32) : yV l yX5_leadHeat wsX5_leadHeat ({ frames := 3, cells := 0, slots := 0, locals := 66 } : Room) G ids tS tE [.ref (o), .int (air)] (CPic G ids o z tE d w σ) (CPic G ids o z tE d w (k_leadHeat_s σ air)) (cpG o z) := by
  unfold yV
  refine Met.ofW (cc := cX5_leadHeat) (maxL := 4) (ret := none) (by decide) rfl ?_
  intro p e s m args below meth c s₁ B hml hv
  obtain ⟨rfl, hP, hK, hZ⟩ := hv
  have hx := B.exec
  have hb := B.bytes
  have hr := B.returns
  have hts := atoms_spec (ws := wsX5_leadHeat) B.pre
  have hown : s.vm.findClass RX5 = some m.cls := findClass_of_methodNamed B.named
  have hlocks := B.notSynchronized
  have hS : va_S (cpG o z) s.heap s.heap [] := va_S.rf
  have hin_wsX50 : ∀ w ∈ wsX50, w ∈ wsX5_leadHeat := fun w h => List.mem_cons_of_mem _ (List.mem_append_left _ (List.mem_append_left _ (List.mem_append_right _ h)))
  have hin_wsX10 : ∀ w ∈ wsX10, w ∈ wsX5_leadHeat := fun w h => List.mem_cons_of_mem _ (List.mem_append_left _ (List.mem_append_right _ h))
  have hin_wsX40 : ∀ w ∈ wsX40, w ∈ wsX5_leadHeat := fun w h => List.mem_cons_of_mem _ (List.mem_append_right _ h)
  have hl := lv_entry ([.ref (o), .int (air)]) (n := 4) (Nat.le_of_ble_eq_true rfl)
  rw [lg_entry_eq]
  generalize (lg_sl ([.ref (o), .int (air)]) ++ List.replicate (4 - (lg_sl ([.ref (o), .int (air)])).length) Slot.unset).toArray = ls at hl ⊢
  have hl : lv_has ls 4 [(0, .ref (o)), (1, .int (air))] := hl
  refine w_named (fun WW hWW => ?_)
  refine lv_iconst (v := nI (0)) hx hb dX5_leadHeat_0 (by decide) ?_
  refine lv_istore_n (lv' := [(2, .int (nI (0))), (0, .ref (o)), (1, .int (air))]) hx hb dX5_leadHeat_1 rfl hl (by decide) rfl (fun ls hl => ?_)
  have L2 : ∀ (n2 i2 : Nat), i2 ≤ 25 → 25 + 1 ≤ i2 + n2 → ∀ (z2 : Sg), z2 = lp (k_leadHeat_b2 air) i2 σ → ∀ (H : Heap) (locs : List Loc), CPic G ids o z tE d w z2 H → va_S (cpG o z) s.heap H locs → ∀ (ls : Array Slot), lv_has ls 4 [(2, .int (nI (i2))), (0, .ref (o)), (1, .int (air))] → WW H locs 0 0 (F0 m 2 ls []) := by
    intro n2
    induction n2 with
    | zero => intro i2 h1 h2; exact absurd h2 (by omega)
    | succ n2 ih2 =>
      intro i2 hi2 hn2 z2 hz2  H locs hP hS ls hl
      refine (hWW _ _ _ _ _).mpr ?_
      refine lv_iload_n hx hb dX5_leadHeat_2 rfl (lv_at hl 0 rfl) ?_
      refine lv_aload_n hx hb dX5_leadHeat_3 rfl (lv_at hl 1 rfl) ?_
      refine x_get (C := RX5) (T := TX5) (N := 10) (ci := 6) (fs := (cpOf o z2)) (v := .ref (o + 1)) hx hb hts hin_wsX50 hown hK hP.main rfl 0 (by decide) (index := 11) (List.mem_of_getElem? (i := 1) rfl) rfl dX5_leadHeat_4 ?_
      refine x_alen hx hb hK 3 rfl hP.crow (n := 25) rfl dX5_leadHeat_7 ?_
      refine n_icmp_ge (x := i2) (y := 25) (tgt := 54) hx hb (by omega) (by omega) dX5_leadHeat_8 (by decide) (fun c_1 => ?_) (fun c_1 => ?_)
      · have hiN : 25 = i2 := by omega
        subst hiN
        have hR_2 : k_leadHeat_s σ air = k_leadHeat_x2_s σ air z2 := (by have q_ := hz2.symm; subst q_; unfold k_leadHeat_s; rfl)
        have hsp : z2 = k_leadHeat_s σ air := (Eq.trans (by unfold k_leadHeat_x2_s; rfl) hR_2.symm)
        rw [hsp] at hP
        exact x_vret hx hb hr hlocks hP hS dX5_leadHeat_54
      · refine lv_aload_n hx hb dX5_leadHeat_11 rfl (lv_at hl 1 rfl) ?_
        refine x_get (C := RX5) (T := TX5) (N := 10) (ci := 6) (fs := (cpOf o z2)) (v := .ref (o + 1)) hx hb hts hin_wsX50 hown hK hP.main rfl 0 (by decide) (index := 11) (List.mem_of_getElem? (i := 1) rfl) rfl dX5_leadHeat_12 ?_
        refine lv_iload_n hx hb dX5_leadHeat_15 rfl (lv_at hl 0 rfl) ?_
        refine x_aald (r := o + 9 + 7 * i2) hx hb hK 3 rfl hP.crow (vp_in_nI (by omega) (by decide)) (by rw [nI_clamp (by omega)]) dX5_leadHeat_16 ?_
        refine lv_iload_n hx hb dX5_leadHeat_17 rfl (lv_at hl 2 rfl) ?_
        refine x_callI (As := [.int (air)]) (rest := []) (fun q h => cpG_blk (by omega) h) ⟨hx, hb, hml, hown, hts⟩ (cc_heatFromAir l G ids (o + 9 + 7 * i2) i2 z2 air) (cwV 1 hts gX5_leadHeat_X1_heatFromAir rfl rfl rfl (by decide +kernel) ⟨Nat.le_of_ble_eq_true rfl, Nat.le_of_ble_eq_true rfl⟩) hK (hP.cell (by omega)) rfl (hP.blk (by omega)) hS rfl hl.1 rfl (Nat.le_of_ble_eq_true rfl) dX5_leadHeat_18 ⟨Nat.zero_le _, Nat.zero_le _⟩ (fun H locs hP1 _ hk1 hS => ?_)
        replace hP := hP.join (by omega) hP1 hk1 (fun _ _ _ => rfl) rfl
        refine lv_istore_n (lv' := [(3, .int ((c_heatFromAir z2 i2 air))), (2, .int (nI (i2))), (0, .ref (o)), (1, .int (air))]) hx hb dX5_leadHeat_21 rfl hl (by decide) rfl (fun ls hl => ?_)
        refine lv_aload_n hx hb dX5_leadHeat_22 rfl (lv_at hl 2 rfl) ?_
        refine x_get (C := RX5) (T := TX5) (N := 10) (ci := 6) (fs := (cpOf o z2)) (v := .ref (o + 1)) hx hb hts hin_wsX50 hown hK hP.main rfl 0 (by decide) (index := 11) (List.mem_of_getElem? (i := 1) rfl) rfl dX5_leadHeat_23 ?_
        refine lv_iload_n hx hb dX5_leadHeat_26 rfl (lv_at hl 1 rfl) ?_
        refine x_aald (r := o + 9 + 7 * i2) hx hb hK 3 rfl hP.crow (vp_in_nI (by omega) (by decide)) (by rw [nI_clamp (by omega)]) dX5_leadHeat_27 ?_
        refine lv_iload_n hx hb dX5_leadHeat_28 rfl (lv_at hl 0 rfl) ?_
        refine lv_bipush (v := nI (10)) hx hb dX5_leadHeat_29 (by decide) ?_
        refine x_callV (As := [.int ((c_heatFromAir z2 i2 air)), .int (nI (10))]) (rest := []) (fun q h => cpG_blk (by omega) h) ⟨hx, hb, hml, hown, hts⟩ (cc_leadDown l G ids (o + 9 + 7 * i2) i2 z2 (c_heatFromAir z2 i2 air) (nI (10))) (cwV 2 hts gX5_leadHeat_X1_leadDown rfl rfl rfl (by decide +kernel) ⟨Nat.le_of_ble_eq_true rfl, Nat.le_of_ble_eq_true rfl⟩) hK (hP.cell (by omega)) rfl (hP.blk (by omega)) hS rfl hl.1 rfl (Nat.le_of_ble_eq_true rfl) dX5_leadHeat_31 ⟨Nat.zero_le _, Nat.zero_le _⟩ (fun H locs hP1 _ hk1 hS => ?_)
        replace hP := hP.join (by omega) hP1 hk1 c_leadDown_same c_leadDown_2
        obtain ⟨s_3, e_4⟩ : ∃ z : Sg, z = (c_leadDown_s z2 i2 (c_heatFromAir z2 i2 air) (nI (10))) := ⟨_, rfl⟩
        rw [← e_4] at hP
        have hR_5 : k_leadHeat_b2 air i2 z2 = k_leadHeat_k34 air i2 z2 s_3 := (by have q_ := e_4.symm; subst q_; unfold k_leadHeat_b2; rfl)
        refine lv_aload_n hx hb dX5_leadHeat_34 rfl (lv_at hl 2 rfl) ?_
        refine x_get (C := RX5) (T := TX5) (N := 10) (ci := 6) (fs := (cpOf o s_3)) (v := .ref (o + 5)) hx hb hts hin_wsX50 hown hK hP.main rfl 5 (by decide) (index := 28) (List.mem_of_getElem? (i := 2) rfl) rfl dX5_leadHeat_35 ?_
        refine lv_iconst (v := nI (0)) hx hb dX5_leadHeat_38 (by decide) ?_
        refine lv_dup2_11 hx hb dX5_leadHeat_39 rfl rfl ?_
        refine x_lald (v := (s_3.2 (26 + 0))) hx hb hK hP.came (vp_in_nI (by omega) (by decide)) (by rw [nI_clamp (by omega)]; exact if_pos (by omega)) dX5_leadHeat_40 ?_
        refine lv_iload_n hx hb dX5_leadHeat_41 rfl (lv_at hl 0 rfl) ?_
        refine lv_bipush (v := nI (10)) hx hb dX5_leadHeat_42 (by decide) ?_
        refine lv_iadd (x := (c_heatFromAir z2 i2 air)) (y := nI (10)) hx hb dX5_leadHeat_44 ?_
        refine lv_i2l (v := (((c_heatFromAir z2 i2 air)) + (nI (10))).toInt64) hx hb dX5_leadHeat_45 rfl ?_
        refine lv_ladd hx hb dX5_leadHeat_46 ?_
        refine p_cameN (x := ((s_3.2 (26 + 0))) + ((((c_heatFromAir z2 i2 air)) + (nI (10))).toInt64)) hx hb hK hP hS (j := 0) (by omega) dX5_leadHeat_47 (fun H locs hP hS => ?_)
        obtain ⟨s_6, e_7⟩ : ∃ z : Sg, z = (sl s_3 (26 + 0) (((s_3.2 (26 + 0))) + ((((c_heatFromAir z2 i2 air)) + (nI (10))).toInt64))) := ⟨_, rfl⟩
        rw [← e_7] at hP
        have hR_8 : k_leadHeat_b2 air i2 z2 = k_leadHeat_k48 air i2 z2 s_3 s_6 := (Eq.trans hR_5 (by have q_ := e_7.symm; subst q_; unfold k_leadHeat_k34; rfl))
        refine n_iinc (x := i2) (dN := 1) (k := 1) (lv' := [(2, .int (nI (i2 + 1))), (3, .int ((c_heatFromAir z2 i2 air))), (0, .ref (o)), (1, .int (air))]) hx hb dX5_leadHeat_48 hl rfl (by decide) rfl (fun ls hl => ?_)
        refine lv_goto (tgt := 2) hx hb dX5_leadHeat_51 (by decide) ?_
        exact (hWW _ _ _ _ _).mp (ih2 (i2 + 1) (by omega) (by omega) (s_6) (by show _ = k_leadHeat_b2 air i2 (lp (k_leadHeat_b2 air) i2 σ); rw [← hz2]; exact (Eq.trans (by unfold k_leadHeat_k48; rfl) hR_8.symm))  _ _ hP hS _ (lv_sub hl [0, 2, 3] rfl))
  exact (hWW _ _ _ _ _).mp (L2 (25 + 1) 0 (Nat.zero_le _) (by omega) σ rfl  _ _ hP hS _ (lv_sub hl [0, 1, 2] rfl))
