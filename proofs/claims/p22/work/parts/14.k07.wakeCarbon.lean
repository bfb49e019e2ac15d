def k_wakeCarbon_x2_s (σ : Sg) (air : Int32) (z2 : Sg) : Sg := z2
def k_wakeCarbon_j86 (air : Int32) (i2 : Nat) (z2 : Sg) (x_5 : Int32) (s_9 : Sg) (s_12 : Sg) (τ_17 : Sg) : Sg := τ_17
def k_wakeCarbon_k43 (air : Int32) (i2 : Nat) (z2 : Sg) (x_5 : Int32) (s_9 : Sg) (s_12 : Sg) : Sg := (k_wakeCarbon_j86 air i2 z2 x_5 s_9 s_12 (if air ≤ 0 then s_12 else (if (c_isLake s_12 i2) = 0 then (si (sl s_12 (30 + 0) (((s_12.2 (30 + 0))) - (((s_12.1 5 i2)).toInt64))) 11 (5 * i2 + 0) ((((sl s_12 (30 + 0) (((s_12.2 (30 + 0))) - (((s_12.1 5 i2)).toInt64))).1 11 (5 * i2 + 0))) + (((sl s_12 (30 + 0) (((s_12.2 (30 + 0))) - (((s_12.1 5 i2)).toInt64))).1 5 i2)))) else s_12)))
def k_wakeCarbon_k40 (air : Int32) (i2 : Nat) (z2 : Sg) (x_5 : Int32) (s_9 : Sg) : Sg := (k_wakeCarbon_k43 air i2 z2 x_5 s_9 (sl s_9 (30 + ((x_5).toNatClampNeg)) (((z2.2 (30 + ((x_5).toNatClampNeg)))) + (((c_wakeCarbon z2 i2)).toInt64))))
def k_wakeCarbon_j34 (air : Int32) (i2 : Nat) (z2 : Sg) (x_5 : Int32) : Sg := (k_wakeCarbon_k40 air i2 z2 x_5 (c_wakeCarbon_s z2 i2))
def k_wakeCarbon_b2 (air : Int32) (i2 : Nat) (z2 : Sg) : Sg := (k_wakeCarbon_j34 air i2 z2 (if (c_isLake z2 i2) = 0 then nI (0) else nI (1)))
def k_wakeCarbon_s (σ : Sg) (air : Int32) : Sg := (k_wakeCarbon_x2_s σ air (lp (k_wakeCarbon_b2 air) 25 σ))
set_option maxHeartbeats 4000000 in
set_option maxRecDepth 100000 in
theorem ck_wakeCarbon (l : Launch) (G : va_G) (ids : Nat → ClassId) (o z tS tE : Nat) (d : Nat → Nat → Nat) (w : Nat → Nat) (σ : Sg) (air : Int32) : yV l yX5_wakeCarbon wsX5_wakeCarbon ({ frames := 4, cells := 0, slots := 0, locals := 85 } : Room) G ids tS tE [.ref (o), .int (air)] (CPic G ids o z tE d w σ) (CPic G ids o z tE d w (k_wakeCarbon_s σ air)) (cpG o z) := by
  unfold yV
  refine Met.ofW (cc := cX5_wakeCarbon) (maxL := 4) (ret := none) (by decide) rfl ?_
  intro p e s m args below meth c s₁ B hml hv
  obtain ⟨rfl, hP, hK, hZ⟩ := hv
  have hx := B.exec
  have hb := B.bytes
  have hr := B.returns
  have hts := atoms_spec (ws := wsX5_wakeCarbon) B.pre
  have hown : s.vm.findClass RX5 = some m.cls := findClass_of_methodNamed B.named
  have hlocks := B.notSynchronized
  have hS : va_S (cpG o z) s.heap s.heap [] := va_S.rf
  have hin_wsX50 : ∀ w ∈ wsX50, w ∈ wsX5_wakeCarbon := fun w h => List.mem_cons_of_mem _ (List.mem_append_left _ (List.mem_append_left _ (List.mem_append_right _ h)))
  have hin_wsX10 : ∀ w ∈ wsX10, w ∈ wsX5_wakeCarbon := fun w h => List.mem_cons_of_mem _ (List.mem_append_left _ (List.mem_append_right _ h))
  have hin_wsX40 : ∀ w ∈ wsX40, w ∈ wsX5_wakeCarbon := fun w h => List.mem_cons_of_mem _ (List.mem_append_right _ h)
  have hl := lv_entry ([.ref (o), .int (air)]) (n := 4) (Nat.le_of_ble_eq_true rfl)
  rw [lg_entry_eq]
  generalize (lg_sl ([.ref (o), .int (air)]) ++ List.replicate (4 - (lg_sl ([.ref (o), .int (air)])).length) Slot.unset).toArray = ls at hl ⊢
  have hl : lv_has ls 4 [(0, .ref (o)), (1, .int (air))] := hl
  refine w_named (fun WW hWW => ?_)
  refine lv_iconst (v := nI (0)) hx hb dX5_wakeCarbon_0 (by decide) ?_
  refine lv_istore_n (lv' := [(2, .int (nI (0))), (0, .ref (o)), (1, .int (air))]) hx hb dX5_wakeCarbon_1 rfl hl (by decide) rfl (fun ls hl => ?_)
  have L2 : ∀ (n2 i2 : Nat), i2 ≤ 25 → 25 + 1 ≤ i2 + n2 → ∀ (z2 : Sg), z2 = lp (k_wakeCarbon_b2 air) i2 σ → ∀ (H : Heap) (locs : List Loc), CPic G ids o z tE d w z2 H → va_S (cpG o z) s.heap H locs → ∀ (ls : Array Slot), lv_has ls 4 [(2, .int (nI (i2))), (0, .ref (o)), (1, .int (air))] → WW H locs 0 0 (F0 m 2 ls []) := by
    intro n2
    induction n2 with
    | zero => intro i2 h1 h2; exact absurd h2 (by omega)
    | succ n2 ih2 =>
      intro i2 hi2 hn2 z2 hz2  H locs hP hS ls hl
      refine (hWW _ _ _ _ _).mpr ?_
      refine lv_iload_n hx hb dX5_wakeCarbon_2 rfl (lv_at hl 0 rfl) ?_
      refine lv_aload_n hx hb dX5_wakeCarbon_3 rfl (lv_at hl 1 rfl) ?_
      refine x_get (C := RX5) (T := TX5) (N := 10) (ci := 6) (fs := (cpOf o z2)) (v := .ref (o + 1)) hx hb hts hin_wsX50 hown hK hP.main rfl 0 (by decide) (index := 11) (List.mem_of_getElem? (i := 1) rfl) rfl dX5_wakeCarbon_4 ?_
      refine x_alen hx hb hK 3 rfl hP.crow (n := 25) rfl dX5_wakeCarbon_7 ?_
      refine n_icmp_ge (x := i2) (y := 25) (tgt := 92) hx hb (by omega) (by omega) dX5_wakeCarbon_8 (by decide) (fun c_1 => ?_) (fun c_1 => ?_)
      · have hiN : 25 = i2 := by omega
        subst hiN
        have hR_2 : k_wakeCarbon_s σ air = k_wakeCarbon_x2_s σ air z2 := (by have q_ := hz2.symm; subst q_; unfold k_wakeCarbon_s; rfl)
        have hsp : z2 = k_wakeCarbon_s σ air := (Eq.trans (by unfold k_wakeCarbon_x2_s; rfl) hR_2.symm)
        rw [hsp] at hP
        exact x_vret hx hb hr hlocks hP hS dX5_wakeCarbon_92
      · refine lv_aload_n hx hb dX5_wakeCarbon_11 rfl (lv_at hl 1 rfl) ?_
        refine x_get (C := RX5) (T := TX5) (N := 10) (ci := 6) (fs := (cpOf o z2)) (v := .ref (o + 1)) hx hb hts hin_wsX50 hown hK hP.main rfl 0 (by decide) (index := 11) (List.mem_of_getElem? (i := 1) rfl) rfl dX5_wakeCarbon_12 ?_
        refine lv_iload_n hx hb dX5_wakeCarbon_15 rfl (lv_at hl 0 rfl) ?_
        refine x_aald (r := o + 9 + 7 * i2) hx hb hK 3 rfl hP.crow (vp_in_nI (by omega) (by decide)) (by rw [nI_clamp (by omega)]) dX5_wakeCarbon_16 ?_
        refine lv_astore_n (lv' := [(3, .ref (o + 9 + 7 * i2)), (2, .int (nI (i2))), (0, .ref (o)), (1, .int (air))]) hx hb dX5_wakeCarbon_17 rfl hl (by decide) rfl (fun ls hl => ?_)
        refine lv_aload_n hx hb dX5_wakeCarbon_18 rfl (lv_at hl 2 rfl) ?_
        refine x_get (C := RX5) (T := TX5) (N := 10) (ci := 6) (fs := (cpOf o z2)) (v := .ref (o + 6)) hx hb hts hin_wsX50 hown hK hP.main rfl 6 (by decide) (index := 32) (List.mem_of_getElem? (i := 2) rfl) rfl dX5_wakeCarbon_19 ?_
        refine lv_aload_n hx hb dX5_wakeCarbon_22 rfl (lv_at hl 0 rfl) ?_
        refine x_callI (As := []) (rest := [.ref (o + 6)]) (fun q h => cpG_blk (by omega) h) ⟨hx, hb, hml, hown, hts⟩ (cc_isLake l G ids (o + 9 + 7 * i2) i2 z2) (cwV 0 hts gX5_wakeCarbon_X1_isLake rfl rfl rfl (by decide +kernel) ⟨Nat.le_of_ble_eq_true rfl, Nat.le_of_ble_eq_true rfl⟩) hK (hP.cell (by omega)) rfl (hP.blk (by omega)) hS rfl hl.1 rfl (Nat.le_of_ble_eq_true rfl) dX5_wakeCarbon_23 ⟨Nat.zero_le _, Nat.zero_le _⟩ (fun H locs hP1 _ hk1 hS => ?_)
        replace hP := hP.join (by omega) hP1 hk1 (fun _ _ _ => rfl) rfl
        have J34_6 : ∀ (x_5 : Int32), x_5 = (if (c_isLake z2 i2) = 0 then nI (0) else nI (1)) → ∀ (H : Heap) (locs : List Loc), CPic G ids o z tE d w z2 H → va_S (cpG o z) s.heap H locs → ∀ (ls : Array Slot), lv_has ls 4 [(3, .ref (o + 9 + 7 * i2)), (2, .int (nI (i2))), (0, .ref (o)), (1, .int (air))] → WW H locs 0 0 (F0 m 34 ls [.int (x_5), .ref (o + 6)]) := by
          intro x_5 h_7 H locs hP hS ls hl
          refine (hWW _ _ _ _ _).mpr ?_
          have hR_8 : k_wakeCarbon_b2 air i2 z2 = k_wakeCarbon_j34 air i2 z2 x_5 := (by have q_ := h_7.symm; subst q_; unfold k_wakeCarbon_b2; rfl)
          refine lv_dup2_11 hx hb dX5_wakeCarbon_34 rfl rfl ?_
          refine x_lald (v := (z2.2 (30 + ((x_5).toNatClampNeg)))) hx hb hK hP.gas (vp_ite h_7 (vp_in_nI (by decide) (by decide)) (vp_in_nI (by decide) (by decide))) (if_pos (vp_lt (vp_ite h_7 (vp_in_nI (by decide) (by decide)) (vp_in_nI (by decide) (by decide))))) dX5_wakeCarbon_35 ?_
          refine lv_aload_n hx hb dX5_wakeCarbon_36 rfl (lv_at hl 0 rfl) ?_
          refine x_callI (As := []) (rest := [.long ((z2.2 (30 + ((x_5).toNatClampNeg)))), .int (x_5), .ref (o + 6)]) (fun q h => cpG_blk (by omega) h) ⟨hx, hb, hml, hown, hts⟩ (cc_wakeCarbon l G ids (o + 9 + 7 * i2) i2 z2) (cwV 0 hts gX5_wakeCarbon_X1_wakeCarbon rfl rfl rfl (by decide +kernel) ⟨Nat.le_of_ble_eq_true rfl, Nat.le_of_ble_eq_true rfl⟩) hK (hP.cell (by omega)) rfl (hP.blk (by omega)) hS rfl hl.1 rfl (Nat.le_of_ble_eq_true rfl) dX5_wakeCarbon_37 ⟨Nat.zero_le _, Nat.zero_le _⟩ (fun H locs hP1 _ hk1 hS => ?_)
          replace hP := hP.join (by omega) hP1 hk1 c_wakeCarbon_same c_wakeCarbon_2
          obtain ⟨s_9, e_10⟩ : ∃ z : Sg, z = (c_wakeCarbon_s z2 i2) := ⟨_, rfl⟩
          rw [← e_10] at hP
          have hR_11 : k_wakeCarbon_b2 air i2 z2 = k_wakeCarbon_k40 air i2 z2 x_5 s_9 := (Eq.trans hR_8 (by have q_ := e_10.symm; subst q_; unfold k_wakeCarbon_j34; rfl))
          refine lv_i2l (v := ((c_wakeCarbon z2 i2)).toInt64) hx hb dX5_wakeCarbon_40 rfl ?_
          refine lv_ladd hx hb dX5_wakeCarbon_41 ?_
          refine p_gas (x := ((z2.2 (30 + ((x_5).toNatClampNeg)))) + (((c_wakeCarbon z2 i2)).toInt64)) hx hb hK hP hS (i := x_5) (vp_ite h_7 (vp_in_nI (by decide) (by decide)) (vp_in_nI (by decide) (by decide))) dX5_wakeCarbon_42 (fun H locs hP hS => ?_)
          obtain ⟨s_12, e_13⟩ : ∃ z : Sg, z = (sl s_9 (30 + ((x_5).toNatClampNeg)) (((z2.2 (30 + ((x_5).toNatClampNeg)))) + (((c_wakeCarbon z2 i2)).toInt64))) := ⟨_, rfl⟩
          rw [← e_13] at hP
          have hR_14 : k_wakeCarbon_b2 air i2 z2 = k_wakeCarbon_k43 air i2 z2 x_5 s_9 s_12 := (Eq.trans hR_11 (by have q_ := e_13.symm; subst q_; unfold k_wakeCarbon_k40; rfl))
          refine lv_iload_n hx hb dX5_wakeCarbon_43 rfl (lv_at hl 3 rfl) ?_
          have J86_18 : ∀ (τ_17 : Sg), τ_17 = (if air ≤ 0 then s_12 else (if (c_isLake s_12 i2) = 0 then (si (sl s_12 (30 + 0) (((s_12.2 (30 + 0))) - (((s_12.1 5 i2)).toInt64))) 11 (5 * i2 + 0) ((((sl s_12 (30 + 0) (((s_12.2 (30 + 0))) - (((s_12.1 5 i2)).toInt64))).1 11 (5 * i2 + 0))) + (((sl s_12 (30 + 0) (((s_12.2 (30 + 0))) - (((s_12.1 5 i2)).toInt64))).1 5 i2)))) else s_12)) → ∀ (H : Heap) (locs : List Loc), CPic G ids o z tE d w τ_17 H → va_S (cpG o z) s.heap H locs → ∀ (ls : Array Slot), lv_has ls 4 [(3, .ref (o + 9 + 7 * i2)), (2, .int (nI (i2))), (0, .ref (o)), (1, .int (air))] → WW H locs 0 0 (F0 m 86 ls []) := by
            intro τ_17 h_19 H locs hP hS ls hl
            refine (hWW _ _ _ _ _).mpr ?_
            have hR_20 : k_wakeCarbon_b2 air i2 z2 = k_wakeCarbon_j86 air i2 z2 x_5 s_9 s_12 τ_17 := (Eq.trans hR_14 (by have q_ := h_19.symm; subst q_; unfold k_wakeCarbon_k43; rfl))
            refine n_iinc (x := i2) (dN := 1) (k := 1) (lv' := [(2, .int (nI (i2 + 1))), (3, .ref (o + 9 + 7 * i2)), (0, .ref (o)), (1, .int (air))]) hx hb dX5_wakeCarbon_86 hl rfl (by decide) rfl (fun ls hl => ?_)
            refine lv_goto (tgt := 2) hx hb dX5_wakeCarbon_89 (by decide) ?_
            exact (hWW _ _ _ _ _).mp (ih2 (i2 + 1) (by omega) (by omega) (τ_17) (by show _ = k_wakeCarbon_b2 air i2 (lp (k_wakeCarbon_b2 air) i2 σ); rw [← hz2]; exact (Eq.trans (by unfold k_wakeCarbon_j86; rfl) hR_20.symm))  _ _ hP hS _ (lv_sub hl [0, 2, 3] rfl))
          refine lv_if_le (x := air) (tgt := 86) hx hb dX5_wakeCarbon_44 (by decide) (fun c_15 => ?_) (fun c_15 => ?_)
          · exact (hWW _ _ _ _ _).mp (J86_18 _ (by simp only [if_pos c_15]) _ _ hP hS _ (lv_sub hl [0, 1, 2, 3] rfl))
          · refine lv_aload_n hx hb dX5_wakeCarbon_47 rfl (lv_at hl 0 rfl) ?_
            refine x_callI (As := []) (rest := []) (fun q h => cpG_blk (by omega) h) ⟨hx, hb, hml, hown, hts⟩ (cc_isLake l G ids (o + 9 + 7 * i2) i2 s_12) (cwV 0 hts gX5_wakeCarbon_X1_isLake rfl rfl rfl (by decide +kernel) ⟨Nat.le_of_ble_eq_true rfl, Nat.le_of_ble_eq_true rfl⟩) hK (hP.cell (by omega)) rfl (hP.blk (by omega)) hS rfl hl.1 rfl (Nat.le_of_ble_eq_true rfl) dX5_wakeCarbon_48 ⟨Nat.zero_le _, Nat.zero_le _⟩ (fun H locs hP1 _ hk1 hS => ?_)
            replace hP := hP.join (by omega) hP1 hk1 (fun _ _ _ => rfl) rfl
            refine lv_if_ne (x := (c_isLake s_12 i2)) (tgt := 86) hx hb dX5_wakeCarbon_51 (by decide) (fun c_21 => ?_) (fun c_21 => ?_)
            · exact (hWW _ _ _ _ _).mp (J86_18 _ (by simp only [if_neg c_15, if_neg c_21]) _ _ hP hS _ (lv_sub hl [0, 1, 2, 3] rfl))
            · refine lv_aload_n hx hb dX5_wakeCarbon_54 rfl (lv_at hl 2 rfl) ?_
              refine x_get (C := RX5) (T := TX5) (N := 10) (ci := 6) (fs := (cpOf o s_12)) (v := .ref (o + 6)) hx hb hts hin_wsX50 hown hK hP.main rfl 6 (by decide) (index := 32) (List.mem_of_getElem? (i := 2) rfl) rfl dX5_wakeCarbon_55 ?_
              refine lv_iconst (v := nI (0)) hx hb dX5_wakeCarbon_58 (by decide) ?_
              refine lv_dup2_11 hx hb dX5_wakeCarbon_59 rfl rfl ?_
              refine x_lald (v := (s_12.2 (30 + 0))) hx hb hK hP.gas (vp_in_nI (by omega) (by decide)) (by rw [nI_clamp (by omega)]; exact if_pos (by omega)) dX5_wakeCarbon_60 ?_
              refine lv_aload_n hx hb dX5_wakeCarbon_61 rfl (lv_at hl 0 rfl) ?_
              refine x_get (C := RX1) (T := TX1) (N := 7) (ci := 2) (fs := (cfs (o + 9 + 7 * i2) i2 s_12)) (v := .int ((s_12.1 5 i2))) hx hb hts hin_wsX10 hown hK (hP.cell (by omega)) rfl 4 (by decide) (index := 79) (List.mem_of_getElem? (i := 3) rfl) rfl dX5_wakeCarbon_62 ?_
              refine lv_i2l (v := ((s_12.1 5 i2)).toInt64) hx hb dX5_wakeCarbon_65 rfl ?_
              refine lv_lsub hx hb dX5_wakeCarbon_66 ?_
              refine p_gasN (x := ((s_12.2 (30 + 0))) - (((s_12.1 5 i2)).toInt64)) hx hb hK hP hS (j := 0) (by omega) dX5_wakeCarbon_67 (fun H locs hP hS => ?_)
              obtain ⟨s_22, e_23⟩ : ∃ z : Sg, z = (sl s_12 (30 + 0) (((s_12.2 (30 + 0))) - (((s_12.1 5 i2)).toInt64))) := ⟨_, rfl⟩
              rw [← e_23] at hP
              refine lv_aload_n hx hb dX5_wakeCarbon_68 rfl (lv_at hl 0 rfl) ?_
              refine x_get (C := RX1) (T := TX1) (N := 7) (ci := 2) (fs := (cfs (o + 9 + 7 * i2) i2 s_22)) (v := .ref (o + 9 + 7 * i2 + 1)) hx hb hts hin_wsX10 hown hK (hP.cell (by omega)) rfl 0 (by decide) (index := 56) (List.mem_of_getElem? (i := 4) rfl) rfl dX5_wakeCarbon_69 ?_
              refine lv_iconst (v := nI (0)) hx hb dX5_wakeCarbon_72 (by decide) ?_
              refine x_aald (r := o + 9 + 7 * i2 + 2 + 0) hx hb hK 4 rfl (hP.row (by omega)) (vp_in_nI (by omega) (by decide)) (by rw [nI_clamp (by omega)]) dX5_wakeCarbon_73 ?_
              refine lv_dup hx hb dX5_wakeCarbon_74 rfl ?_
              refine x_get (C := RX4) (T := TX4) (N := 4) (ci := 5) (fs := (lfs (5 * i2 + 0) s_22)) (v := .int ((s_22.1 11 (5 * i2 + 0)))) hx hb hts hin_wsX40 hown hK (hP.lay (by omega) (by omega)) rfl 3 (by decide) (index := 76) (List.mem_of_getElem? (i := 5) rfl) rfl dX5_wakeCarbon_75 ?_
              refine lv_aload_n hx hb dX5_wakeCarbon_78 rfl (lv_at hl 0 rfl) ?_
              refine x_get (C := RX1) (T := TX1) (N := 7) (ci := 2) (fs := (cfs (o + 9 + 7 * i2) i2 s_22)) (v := .int ((s_22.1 5 i2))) hx hb hts hin_wsX10 hown hK (hP.cell (by omega)) rfl 4 (by decide) (index := 79) (List.mem_of_getElem? (i := 3) rfl) rfl dX5_wakeCarbon_79 ?_
              refine lv_iadd (x := (s_22.1 11 (5 * i2 + 0))) (y := (s_22.1 5 i2)) hx hb dX5_wakeCarbon_82 ?_
              refine p_lput (i := i2) (j := 0) (v := ((s_22.1 11 (5 * i2 + 0))) + ((s_22.1 5 i2))) hx hb hts hin_wsX40 hown hK hP (by omega) (by omega) hS 3 (by decide) (index := 76) (List.mem_of_getElem? (i := 5) rfl) dX5_wakeCarbon_83 (fun H locs hP hS => ?_)
              exact (hWW _ _ _ _ _).mp (J86_18 _ (by have q_ := e_23.symm; subst q_; simp only [if_neg c_15, if_pos c_21]) _ _ hP hS _ (lv_sub hl [0, 1, 2, 3] rfl))
        refine lv_if_eq (x := (c_isLake z2 i2)) (tgt := 33) hx hb dX5_wakeCarbon_26 (by decide) (fun c_3 => ?_) (fun c_3 => ?_)
        · refine lv_iconst (v := nI (0)) hx hb dX5_wakeCarbon_33 (by decide) ?_
          exact (hWW _ _ _ _ _).mp (J34_6 _ (by simp only [if_pos c_3]) _ _ hP hS _ (lv_sub hl [0, 1, 2, 3] rfl))
        · refine lv_iconst (v := nI (1)) hx hb dX5_wakeCarbon_29 (by decide) ?_
          refine lv_goto (tgt := 34) hx hb dX5_wakeCarbon_30 (by decide) ?_
          exact (hWW _ _ _ _ _).mp (J34_6 _ (by simp only [if_neg c_3]) _ _ hP hS _ (lv_sub hl [0, 1, 2, 3] rfl))
  exact (hWW _ _ _ _ _).mp (L2 (25 + 1) 0 (Nat.zero_le _) (by omega) σ rfl  _ _ hP hS _ (lv_sub hl [0, 1, 2] rfl))
