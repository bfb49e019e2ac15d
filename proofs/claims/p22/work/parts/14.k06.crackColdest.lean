def k_crackColdest_j67_s (σ : Sg) (air : Int32) (z16 : Nat) (τ_6 : Sg) : Sg := τ_6
def k_crackColdest_x16_s (σ : Sg) (air : Int32) (z16 : Nat) : Sg := (k_crackColdest_j67_s σ air z16 (if (-10) < (c_crackingTemperature σ z16) then σ else (c_crack_s σ z16)))
def k_crackColdest_j48 (σ : Sg) (i16 : Nat) (z16 : Nat) (y_12 : Nat) : Nat := y_12
def k_crackColdest_b16 (σ : Sg) (i16 : Nat) (z16 : Nat) : Nat := (k_crackColdest_j48 σ i16 z16 (if (c_crackingTemperature σ z16) ≤ (c_crackingTemperature σ (1 + i16)) then z16 else 1 + i16))
def k_crackColdest_s (σ : Sg) (air : Int32) : Sg := (if air ≤ (-20) then (k_crackColdest_x16_s σ air (lp (k_crackColdest_b16 σ) 24 0)) else σ)
theorem k_coldest_inv (σ : Sg) (i : Nat) (hi : i ≤ 24) : lp (k_crackColdest_b16 σ) i 0 < 25 := by
  refine lp_invB (f := k_crackColdest_b16 σ) (z := 0) (P := fun _ z => z < 25) (N := 24) (by decide) (fun i z hi hz => ?_) i hi
  simp only [k_crackColdest_b16, k_crackColdest_j67_s, k_crackColdest_x16_s, k_crackColdest_j48, k_crackColdest_s]
  split
  · exact hz
  · omega
set_option maxHeartbeats 4000000 in
set_option maxRecDepth 100000 in
theorem ck_crackColdest (l : Launch) (G : va_G) (ids : Nat → ClassId) (o z tS tE : Nat) (d : Nat → Nat → Nat) (w : Nat → Nat) (σ : Sg) (air : Int32) : yV l yX5_crackColdest wsX5_crackColdest ({ frames := 3, cells := 0, slots := 0, locals := 61 } : Room) G ids tS tE [.ref (o), .int (air)] (CPic G ids o z tE d w σ) (CPic G ids o z tE d w (k_crackColdest_s σ air)) (cpG o z) := by
  unfold yV
  refine Met.ofW (cc := cX5_crackColdest) (maxL := 4) (ret := none) (by decide) rfl ?_
  intro p e s m args below meth c s₁ B hml hv
  obtain ⟨rfl, hP, hK, hZ⟩ := hv
  have hx := B.exec
  have hb := B.bytes
  have hr := B.returns
  have hts := atoms_spec (ws := wsX5_crackColdest) B.pre
  have hown : s.vm.findClass RX5 = some m.cls := findClass_of_methodNamed B.named
  have hlocks := B.notSynchronized
  have hS : va_S (cpG o z) s.heap s.heap [] := va_S.rf
  have hin_wsX50 : ∀ w ∈ wsX50, w ∈ wsX5_crackColdest := fun w h => List.mem_cons_of_mem _ (List.mem_append_left _ (List.mem_append_left _ (List.mem_append_right _ h)))
  have hin_wsX10 : ∀ w ∈ wsX10, w ∈ wsX5_crackColdest := fun w h => List.mem_cons_of_mem _ (List.mem_append_left _ (List.mem_append_right _ h))
  have hin_wsX40 : ∀ w ∈ wsX40, w ∈ wsX5_crackColdest := fun w h => List.mem_cons_of_mem _ (List.mem_append_right _ h)
  have hl := lv_entry ([.ref (o), .int (air)]) (n := 4) (Nat.le_of_ble_eq_true rfl)
  rw [lg_entry_eq]
  generalize (lg_sl ([.ref (o), .int (air)]) ++ List.replicate (4 - (lg_sl ([.ref (o), .int (air)])).length) Slot.unset).toArray = ls at hl ⊢
  have hl : lv_has ls 4 [(0, .ref (o)), (1, .int (air))] := hl
  refine w_named (fun WW hWW => ?_)
  refine lv_iload_n hx hb dX5_crackColdest_0 rfl (lv_at hl 1 rfl) ?_
  refine lv_bipush (v := (-20)) hx hb dX5_crackColdest_1 (by decide) ?_
  refine lv_icmp_le (x := air) (y := (-20)) (tgt := 7) hx hb dX5_crackColdest_3 (by decide) (fun c_1 => ?_) (fun c_1 => ?_)
  · refine lv_aload_n hx hb dX5_crackColdest_7 rfl (lv_at hl 0 rfl) ?_
    refine x_get (C := RX5) (T := TX5) (N := 10) (ci := 6) (fs := (cpOf o σ)) (v := .ref (o + 1)) hx hb hts hin_wsX50 hown hK hP.main rfl 0 (by decide) (index := 11) (List.mem_of_getElem? (i := 1) rfl) rfl dX5_crackColdest_8 ?_
    refine lv_iconst (v := nI (0)) hx hb dX5_crackColdest_11 (by decide) ?_
    refine x_aald (r := o + 9 + 7 * 0) hx hb hK 3 rfl hP.crow (vp_in_nI (by omega) (by decide)) (by rw [nI_clamp (by omega)]) dX5_crackColdest_12 ?_
    refine lv_astore_n (lv' := [(2, .ref (o + 9 + 7 * 0)), (0, .ref (o)), (1, .int (air))]) hx hb dX5_crackColdest_13 rfl hl (by decide) rfl (fun ls hl => ?_)
    refine lv_iconst (v := nI (1)) hx hb dX5_crackColdest_14 (by decide) ?_
    refine lv_istore_n (lv' := [(3, .int (nI (1))), (2, .ref (o + 9 + 7 * 0)), (0, .ref (o)), (1, .int (air))]) hx hb dX5_crackColdest_15 rfl hl (by decide) rfl (fun ls hl => ?_)
    have L16 : ∀ (n16 i16 : Nat), i16 ≤ 24 → 24 + 1 ≤ i16 + n16 → ∀ (z16 : Nat), z16 = lp (k_crackColdest_b16 σ) i16 0 → ∀ (H : Heap) (locs : List Loc), CPic G ids o z tE d w σ H → va_S (cpG o z) s.heap H locs → ∀ (ls : Array Slot), lv_has ls 4 [(3, .int (nI (1 + i16))), (2, .ref (o + 9 + 7 * z16)), (0, .ref (o)), (1, .int (air))] → WW H locs 0 0 (F0 m 16 ls []) := by
      intro n16
      induction n16 with
      | zero => intro i16 h1 h2; exact absurd h2 (by omega)
      | succ n16 ih16 =>
        intro i16 hi16 hn16 z16 hz16  H locs hP hS ls hl
        refine (hWW _ _ _ _ _).mpr ?_
        have hv := k_coldest_inv σ i16 hi16; rw [← hz16] at hv
        refine lv_iload_n hx hb dX5_crackColdest_16 rfl (lv_at hl 0 rfl) ?_
        refine lv_aload_n hx hb dX5_crackColdest_17 rfl (lv_at hl 2 rfl) ?_
        refine x_get (C := RX5) (T := TX5) (N := 10) (ci := 6) (fs := (cpOf o σ)) (v := .ref (o + 1)) hx hb hts hin_wsX50 hown hK hP.main rfl 0 (by decide) (index := 11) (List.mem_of_getElem? (i := 1) rfl) rfl dX5_crackColdest_18 ?_
        refine x_alen hx hb hK 3 rfl hP.crow (n := 25) rfl dX5_crackColdest_21 ?_
        refine n_icmp_ge (x := 1 + i16) (y := 25) (tgt := 54) hx hb (by omega) (by omega) dX5_crackColdest_22 (by decide) (fun c_2 => ?_) (fun c_2 => ?_)
        · have hiN : 24 = i16 := by omega
          subst hiN
          have hR_3 : k_crackColdest_s σ air = k_crackColdest_x16_s σ air z16 := (by have q_ := hz16.symm; subst q_; unfold k_crackColdest_s; simp only [if_pos c_1])
          refine lv_aload_n hx hb dX5_crackColdest_54 rfl (lv_at hl 1 rfl) ?_
          refine x_callI (As := []) (rest := []) (fun q h => cpG_blk hv h) ⟨hx, hb, hml, hown, hts⟩ (cc_crackingTemperature l G ids (o + 9 + 7 * z16) z16 σ) (cwV 0 hts gX5_crackColdest_X1_crackingTemperature rfl rfl rfl (by decide +kernel) ⟨Nat.le_of_ble_eq_true rfl, Nat.le_of_ble_eq_true rfl⟩) hK (hP.cell hv) rfl (hP.blk hv) hS rfl hl.1 rfl (Nat.le_of_ble_eq_true rfl) dX5_crackColdest_55 ⟨Nat.zero_le _, Nat.zero_le _⟩ (fun H locs hP1 _ hk1 hS => ?_)
          replace hP := hP.join hv hP1 hk1 (fun _ _ _ => rfl) rfl
          refine lv_bipush (v := (-10)) hx hb dX5_crackColdest_58 (by decide) ?_
          have J67_7 : ∀ (τ_6 : Sg), τ_6 = (if (-10) < (c_crackingTemperature σ z16) then σ else (c_crack_s σ z16)) → ∀ (H : Heap) (locs : List Loc), CPic G ids o z tE d w τ_6 H → va_S (cpG o z) s.heap H locs → ∀ (ls : Array Slot), lv_has ls 4 [(3, .int (nI (1 + 24))), (2, .ref (o + 9 + 7 * z16)), (0, .ref (o)), (1, .int (air))] → WW H locs 0 0 (F0 m 67 ls []) := by
            intro τ_6 h_8 H locs hP hS ls hl
            refine (hWW _ _ _ _ _).mpr ?_
            have hR_9 : k_crackColdest_s σ air = k_crackColdest_j67_s σ air z16 τ_6 := (Eq.trans hR_3 (by have q_ := h_8.symm; subst q_; unfold k_crackColdest_x16_s; rfl))
            have hsp : τ_6 = k_crackColdest_s σ air := (Eq.trans (by unfold k_crackColdest_j67_s; rfl) hR_9.symm)
            rw [hsp] at hP
            exact x_vret hx hb hr hlocks hP hS dX5_crackColdest_67
          refine lv_icmp_gt (x := (c_crackingTemperature σ z16)) (y := (-10)) (tgt := 67) hx hb dX5_crackColdest_60 (by decide) (fun c_4 => ?_) (fun c_4 => ?_)
          · exact (hWW _ _ _ _ _).mp (J67_7 _ (by simp only [if_pos c_4]) _ _ hP hS _ (lv_sub hl [0, 1, 2, 3] rfl))
          · refine lv_aload_n hx hb dX5_crackColdest_63 rfl (lv_at hl 1 rfl) ?_
            refine x_callV (As := []) (rest := []) (fun q h => cpG_blk hv h) ⟨hx, hb, hml, hown, hts⟩ (cc_crack l G ids (o + 9 + 7 * z16) z16 σ) (cwV 0 hts gX5_crackColdest_X1_crack rfl rfl rfl (by decide +kernel) ⟨Nat.le_of_ble_eq_true rfl, Nat.le_of_ble_eq_true rfl⟩) hK (hP.cell hv) rfl (hP.blk hv) hS rfl hl.1 rfl (Nat.le_of_ble_eq_true rfl) dX5_crackColdest_64 ⟨Nat.zero_le _, Nat.zero_le _⟩ (fun H locs hP1 _ hk1 hS => ?_)
            replace hP := hP.join hv hP1 hk1 c_crack_same c_crack_2
            exact (hWW _ _ _ _ _).mp (J67_7 _ (by simp only [if_neg c_4]) _ _ hP hS _ (lv_sub hl [0, 1, 2, 3] rfl))
        · refine lv_aload_n hx hb dX5_crackColdest_25 rfl (lv_at hl 2 rfl) ?_
          refine x_get (C := RX5) (T := TX5) (N := 10) (ci := 6) (fs := (cpOf o σ)) (v := .ref (o + 1)) hx hb hts hin_wsX50 hown hK hP.main rfl 0 (by decide) (index := 11) (List.mem_of_getElem? (i := 1) rfl) rfl dX5_crackColdest_26 ?_
          refine lv_iload_n hx hb dX5_crackColdest_29 rfl (lv_at hl 0 rfl) ?_
          refine x_aald (r := o + 9 + 7 * (1 + i16)) hx hb hK 3 rfl hP.crow (vp_in_nI (by omega) (by decide)) (by rw [nI_clamp (by omega)]) dX5_crackColdest_30 ?_
          refine x_callI (As := []) (rest := []) (fun q h => cpG_blk (by omega) h) ⟨hx, hb, hml, hown, hts⟩ (cc_crackingTemperature l G ids (o + 9 + 7 * (1 + i16)) (1 + i16) σ) (cwV 0 hts gX5_crackColdest_X1_crackingTemperature rfl rfl rfl (by decide +kernel) ⟨Nat.le_of_ble_eq_true rfl, Nat.le_of_ble_eq_true rfl⟩) hK (hP.cell (by omega)) rfl (hP.blk (by omega)) hS rfl hl.1 rfl (Nat.le_of_ble_eq_true rfl) dX5_crackColdest_31 ⟨Nat.zero_le _, Nat.zero_le _⟩ (fun H locs hP1 _ hk1 hS => ?_)
          replace hP := hP.join (by omega) hP1 hk1 (fun _ _ _ => rfl) rfl
          refine lv_aload_n hx hb dX5_crackColdest_34 rfl (lv_at hl 1 rfl) ?_
          refine x_callI (As := []) (rest := [.int ((c_crackingTemperature σ (1 + i16)))]) (fun q h => cpG_blk hv h) ⟨hx, hb, hml, hown, hts⟩ (cc_crackingTemperature l G ids (o + 9 + 7 * z16) z16 σ) (cwV 0 hts gX5_crackColdest_X1_crackingTemperature rfl rfl rfl (by decide +kernel) ⟨Nat.le_of_ble_eq_true rfl, Nat.le_of_ble_eq_true rfl⟩) hK (hP.cell hv) rfl (hP.blk hv) hS rfl hl.1 rfl (Nat.le_of_ble_eq_true rfl) dX5_crackColdest_35 ⟨Nat.zero_le _, Nat.zero_le _⟩ (fun H locs hP1 _ hk1 hS => ?_)
          replace hP := hP.join hv hP1 hk1 (fun _ _ _ => rfl) rfl
          have J48_13 : ∀ (y_12 : Nat), y_12 = (if (c_crackingTemperature σ z16) ≤ (c_crackingTemperature σ (1 + i16)) then z16 else 1 + i16) → ∀ (H : Heap) (locs : List Loc), CPic G ids o z tE d w σ H → va_S (cpG o z) s.heap H locs → ∀ (ls : Array Slot), lv_has ls 4 [(3, .int (nI (1 + i16))), (2, .ref (o + 9 + 7 * y_12)), (0, .ref (o)), (1, .int (air))] → WW H locs 0 0 (F0 m 48 ls []) := by
            intro y_12 h_14 H locs hP hS ls hl
            refine (hWW _ _ _ _ _).mpr ?_
            have hR_15 : k_crackColdest_b16 σ i16 z16 = k_crackColdest_j48 σ i16 z16 y_12 := (by have q_ := h_14.symm; subst q_; unfold k_crackColdest_b16; rfl)
            refine n_iinc (x := 1 + i16) (dN := 1) (k := 0) (lv' := [(3, .int (nI (1 + i16 + 1))), (2, .ref (o + 9 + 7 * y_12)), (0, .ref (o)), (1, .int (air))]) hx hb dX5_crackColdest_48 hl rfl (by decide) rfl (fun ls hl => ?_)
            refine lv_goto (tgt := 16) hx hb dX5_crackColdest_51 (by decide) ?_
            exact (hWW _ _ _ _ _).mp (ih16 (i16 + 1) (by omega) (by omega) (y_12) (by show _ = k_crackColdest_b16 σ i16 (lp (k_crackColdest_b16 σ) i16 0); rw [← hz16]; exact (Eq.trans (by unfold k_crackColdest_j48; rfl) hR_15.symm))  _ _ hP hS _ (lv_sub hl [0, 1, 2, 3] rfl))
          refine lv_icmp_ge (x := (c_crackingTemperature σ (1 + i16))) (y := (c_crackingTemperature σ z16)) (tgt := 48) hx hb dX5_crackColdest_38 (by decide) (fun c_10 => ?_) (fun c_10 => ?_)
          · exact (hWW _ _ _ _ _).mp (J48_13 _ (by simp only [if_pos c_10]) _ _ hP hS _ (lv_sub hl [0, 1, 2, 3] rfl))
          · refine lv_aload_n hx hb dX5_crackColdest_41 rfl (lv_at hl 2 rfl) ?_
            refine x_get (C := RX5) (T := TX5) (N := 10) (ci := 6) (fs := (cpOf o σ)) (v := .ref (o + 1)) hx hb hts hin_wsX50 hown hK hP.main rfl 0 (by decide) (index := 11) (List.mem_of_getElem? (i := 1) rfl) rfl dX5_crackColdest_42 ?_
            refine lv_iload_n hx hb dX5_crackColdest_45 rfl (lv_at hl 0 rfl) ?_
            refine x_aald (r := o + 9 + 7 * (1 + i16)) hx hb hK 3 rfl hP.crow (vp_in_nI (by omega) (by decide)) (by rw [nI_clamp (by omega)]) dX5_crackColdest_46 ?_
            refine lv_astore_n (lv' := [(2, .ref (o + 9 + 7 * (1 + i16))), (3, .int (nI (1 + i16))), (0, .ref (o)), (1, .int (air))]) hx hb dX5_crackColdest_47 rfl hl (by decide) rfl (fun ls hl => ?_)
            exact (hWW _ _ _ _ _).mp (J48_13 _ (by simp only [if_neg c_10]) _ _ hP hS _ (lv_sub hl [1, 0, 2, 3] rfl))
    exact (hWW _ _ _ _ _).mp (L16 (24 + 1) 0 (Nat.zero_le _) (by omega) 0 rfl  _ _ hP hS _ (lv_sub hl [0, 1, 2, 3] rfl))
  · have hsp : σ = k_crackColdest_s σ air := (by unfold k_crackColdest_s; simp only [if_neg c_1])
    rw [hsp] at hP
    exact x_vret hx hb hr hlocks hP hS dX5_crackColdest_6
