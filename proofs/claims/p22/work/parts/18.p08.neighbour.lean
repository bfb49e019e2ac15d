def k_neighbour (σ : Sg) (cell : Int32) (at_ : Int32) : Int32 := (if 0 ≤ at_ then (if (k_stepFrom cell (cpS 0)) = (-1) then (if (k_stepFrom cell (cpS 1)) = (-1) then (if (k_stepFrom cell (cpS 2)) = (-1) then (if (k_stepFrom cell (cpS 3)) = (-1) then (-1) else (if nI (0) = at_ then (k_stepFrom cell (cpS 3)) else (-1))) else (if nI (0) = at_ then (k_stepFrom cell (cpS 2)) else (if (k_stepFrom cell (cpS 3)) = (-1) then (-1) else (if nI (1) = at_ then (k_stepFrom cell (cpS 3)) else (-1))))) else (if nI (0) = at_ then (k_stepFrom cell (cpS 1)) else (if (k_stepFrom cell (cpS 2)) = (-1) then (if (k_stepFrom cell (cpS 3)) = (-1) then (-1) else (if nI (1) = at_ then (k_stepFrom cell (cpS 3)) else (-1))) else (if nI (1) = at_ then (k_stepFrom cell (cpS 2)) else (if (k_stepFrom cell (cpS 3)) = (-1) then (-1) else (if nI (2) = at_ then (k_stepFrom cell (cpS 3)) else (-1))))))) else (if nI (0) = at_ then (k_stepFrom cell (cpS 0)) else (if (k_stepFrom cell (cpS 1)) = (-1) then (if (k_stepFrom cell (cpS 2)) = (-1) then (if (k_stepFrom cell (cpS 3)) = (-1) then (-1) else (if nI (1) = at_ then (k_stepFrom cell (cpS 3)) else (-1))) else (if nI (1) = at_ then (k_stepFrom cell (cpS 2)) else (if (k_stepFrom cell (cpS 3)) = (-1) then (-1) else (if nI (2) = at_ then (k_stepFrom cell (cpS 3)) else (-1))))) else (if nI (1) = at_ then (k_stepFrom cell (cpS 1)) else (if (k_stepFrom cell (cpS 2)) = (-1) then (if (k_stepFrom cell (cpS 3)) = (-1) then (-1) else (if nI (2) = at_ then (k_stepFrom cell (cpS 3)) else (-1))) else (if nI (2) = at_ then (k_stepFrom cell (cpS 2)) else (if (k_stepFrom cell (cpS 3)) = (-1) then (-1) else (if nI (3) = at_ then (k_stepFrom cell (cpS 3)) else (-1))))))))) else nI (0))
def kx_neighbour (σ : Sg) (cell : Int32) (at_ : Int32) : Nat := xs (xIx (cell) (nI (25))) (xs ((if 0 ≤ at_ then 0 else 1)) (0))
set_option maxHeartbeats 4000000 in
set_option maxRecDepth 100000 in
theorem cx_neighbour (l : Launch) (hl0 : l.stackTraces = false) (G : va_G) (ids : Nat → ClassId) (o z tS tE : Nat) (d : Nat → Nat → Nat) (w : Nat → Nat) (σ : Sg) (cell : Int32) (at_ : Int32) : zI l yX5_neighbour wsX5_neighbour ({ frames := 7, cells := 2, slots := 12, locals := 121 } : Room) G ids tS tE [.ref (o), .int (cell), .int (at_)] (CPic G ids o z tE d w σ) (kx_neighbour σ cell at_) (k_neighbour σ cell at_) (CPic G ids o z tE d w σ) (cpG o z) 2 12 := by
  unfold zI
  refine vx_ofW (cc := cX5_neighbour) (maxL := 6) (ret := (some .int)) (by decide) rfl ?_
  intro p e s m args below meth c s₁ B hml hno hv
  obtain ⟨rfl, hP, hK, hZ⟩ := hv
  have hx := B.exec
  have hb := B.bytes
  have hr := B.returns
  have hts := atoms_spec (ws := wsX5_neighbour) B.pre
  have hown : s.vm.findClass RX5 = some m.cls := findClass_of_methodNamed B.named
  have hlocks := B.notSynchronized
  have hS : va_S (cpG o z) s.heap s.heap [] := va_S.rf
  have hl := lv_entry ([.ref (o), .int (cell), .int (at_)]) (n := 6) (Nat.le_of_ble_eq_true rfl)
  rw [lg_entry_eq]
  generalize (lg_sl ([.ref (o), .int (cell), .int (at_)]) ++ List.replicate (6 - (lg_sl ([.ref (o), .int (cell), .int (at_)])).length) Slot.unset).toArray = ls at hl ⊢
  have hl : lv_has ls 6 [(0, .ref (o)), (1, .int (cell)), (2, .int (at_))] := hl
  refine w_named (fun WW hWW => ?_)
  refine lv_iload_n hx hb dX5_neighbour_0 rfl (lv_at hl 1 rfl) ?_
  refine lv_bipush (v := nI (25)) hx hb dX5_neighbour_1 (by decide) ?_
  refine p_need (As := [.int (cell), .int (nI (25))]) (rest := []) (X := xIx (cell) (nI (25))) (c1 := 1) (s1 := 6) ⟨hx, hb, hml, hown, hts⟩ (ck_needIndex l hl0 tS tE (cell) (nI (25))) (va_cwS 2 hts gX5_neighbour_X5_needIndex rfl rfl rfl (by decide +kernel) ⟨Nat.le_of_ble_eq_true rfl, Nat.le_of_ble_eq_true rfl⟩) hno hlocks hZ hP hS rfl hl.1 rfl (Nat.le_of_ble_eq_true rfl) dX5_neighbour_3 ⟨Nat.le_of_ble_eq_true rfl, Nat.le_of_ble_eq_true rfl⟩ rfl rfl (Nat.le_of_ble_eq_true rfl) (Nat.le_of_ble_eq_true rfl) (fun hq_2 => by unfold kx_neighbour; simp only [xs, if_neg hq_2]) (fun hX_1 H locs hP hS => ?_)
  refine lv_iload_n hx hb dX5_neighbour_6 rfl (lv_at hl 2 rfl) ?_
  refine lv_if_ge (x := at_) (tgt := 18) hx hb dX5_neighbour_7 (by decide) (fun c_3 => ?_) (fun c_3 => ?_)
  · have hXz : (kx_neighbour σ cell at_) = 0 := by unfold kx_neighbour; simp only [xs, if_pos hX_1, if_pos c_3] <;> decide
    refine lv_iconst (v := nI (0)) hx hb dX5_neighbour_18 (by decide) ?_
    refine lv_istore_n (lv' := [(3, .int (nI (0))), (0, .ref (o)), (1, .int (cell)), (2, .int (at_))]) hx hb dX5_neighbour_19 rfl hl (by decide) rfl (fun ls hl => ?_)
    refine lv_iconst (v := nI (0)) hx hb dX5_neighbour_20 (by decide) ?_
    refine lv_istore (lv' := [(4, .int (nI (0))), (3, .int (nI (0))), (0, .ref (o)), (1, .int (cell)), (2, .int (at_))]) hx hb dX5_neighbour_21 hl (by decide) rfl (fun ls hl => ?_)
    refine lv_iload hx hb dX5_neighbour_23 (lv_at hl 0 rfl) ?_
    refine va_gets hx hb hZ.1.1 hS hown (hts _ (List.mem_of_getElem? (i := 3) rfl)) (fun _ h => h) dX5_neighbour_25 ?_
    refine va_tlen hx hb hZ.1.2 hS (v := nI 4) rfl dX5_neighbour_28 ?_
    refine n_icmp_ge (x := 0) (y := 4) (tgt := 67) hx hb (by omega) (by omega) dX5_neighbour_29 (by decide) (fun c_4 => absurd c_4 (by omega)) (fun c_4 => ?_)
    refine lv_iload_n hx hb dX5_neighbour_32 rfl (lv_at hl 3 rfl) ?_
    refine va_gets hx hb hZ.1.1 hS hown (hts _ (List.mem_of_getElem? (i := 3) rfl)) (fun _ h => h) dX5_neighbour_33 ?_
    refine lv_iload hx hb dX5_neighbour_36 (lv_at hl 0 rfl) ?_
    refine va_ti hx hb hZ.1.2 hS (vp_in_nI (by omega) (by decide)) (v := .int (cpS 0)) (by show Value.int (cpS (nI (0)).toNatClampNeg) = _; rw [nI_clamp (by omega)]) dX5_neighbour_38 ?_
    refine p_callS (As := [.int (cell), .int (cpS 0)]) (rest := []) ⟨hx, hb, hml, hown, hts⟩ (ck_stepFrom l cell (cpS 0)) (va_cwS 2 hts gX5_neighbour_X5_stepFrom rfl rfl rfl (by decide +kernel) ⟨Nat.le_of_ble_eq_true rfl, Nat.le_of_ble_eq_true rfl⟩) hP hS rfl hl.1 rfl (Nat.le_of_ble_eq_true rfl) dX5_neighbour_39 ⟨Nat.le_of_ble_eq_true rfl, Nat.le_of_ble_eq_true rfl⟩ (fun H locs hP hS => ?_)
    refine lv_istore (lv' := [(5, .int ((k_stepFrom cell (cpS 0)))), (4, .int (nI (0))), (3, .int (nI (0))), (0, .ref (o)), (1, .int (cell)), (2, .int (at_))]) hx hb dX5_neighbour_42 hl (by decide) rfl (fun ls hl => ?_)
    refine lv_iload hx hb dX5_neighbour_44 (lv_at hl 0 rfl) ?_
    refine lv_iconst (v := (-1)) hx hb dX5_neighbour_46 (by decide) ?_
    refine lv_icmp_eq (x := (k_stepFrom cell (cpS 0))) (y := (-1)) (tgt := 61) hx hb dX5_neighbour_47 (by decide) (fun c_5 => ?_) (fun c_5 => ?_)
    · refine n_iinc (x := 0) (dN := 1) (k := 1) (lv' := [(4, .int (nI (1))), (5, .int ((k_stepFrom cell (cpS 0)))), (3, .int (nI (0))), (0, .ref (o)), (1, .int (cell)), (2, .int (at_))]) hx hb dX5_neighbour_61 hl rfl (by decide) rfl (fun ls hl => ?_)
      refine lv_goto (tgt := 23) hx hb dX5_neighbour_64 (by decide) ?_
      refine lv_iload hx hb dX5_neighbour_23 (lv_at hl 0 rfl) ?_
      refine va_gets hx hb hZ.1.1 hS hown (hts _ (List.mem_of_getElem? (i := 3) rfl)) (fun _ h => h) dX5_neighbour_25 ?_
      refine va_tlen hx hb hZ.1.2 hS (v := nI 4) rfl dX5_neighbour_28 ?_
      refine n_icmp_ge (x := 1) (y := 4) (tgt := 67) hx hb (by omega) (by omega) dX5_neighbour_29 (by decide) (fun c_6 => absurd c_6 (by omega)) (fun c_6 => ?_)
      refine lv_iload_n hx hb dX5_neighbour_32 rfl (lv_at hl 4 rfl) ?_
      refine va_gets hx hb hZ.1.1 hS hown (hts _ (List.mem_of_getElem? (i := 3) rfl)) (fun _ h => h) dX5_neighbour_33 ?_
      refine lv_iload hx hb dX5_neighbour_36 (lv_at hl 0 rfl) ?_
      refine va_ti hx hb hZ.1.2 hS (vp_in_nI (by omega) (by decide)) (v := .int (cpS 1)) (by show Value.int (cpS (nI (1)).toNatClampNeg) = _; rw [nI_clamp (by omega)]) dX5_neighbour_38 ?_
      refine p_callS (As := [.int (cell), .int (cpS 1)]) (rest := []) ⟨hx, hb, hml, hown, hts⟩ (ck_stepFrom l cell (cpS 1)) (va_cwS 2 hts gX5_neighbour_X5_stepFrom rfl rfl rfl (by decide +kernel) ⟨Nat.le_of_ble_eq_true rfl, Nat.le_of_ble_eq_true rfl⟩) hP hS rfl hl.1 rfl (Nat.le_of_ble_eq_true rfl) dX5_neighbour_39 ⟨Nat.le_of_ble_eq_true rfl, Nat.le_of_ble_eq_true rfl⟩ (fun H locs hP hS => ?_)
      refine lv_istore (lv' := [(5, .int ((k_stepFrom cell (cpS 1)))), (4, .int (nI (1))), (3, .int (nI (0))), (0, .ref (o)), (1, .int (cell)), (2, .int (at_))]) hx hb dX5_neighbour_42 hl (by decide) rfl (fun ls hl => ?_)
      refine lv_iload hx hb dX5_neighbour_44 (lv_at hl 0 rfl) ?_
      refine lv_iconst (v := (-1)) hx hb dX5_neighbour_46 (by decide) ?_
      refine lv_icmp_eq (x := (k_stepFrom cell (cpS 1))) (y := (-1)) (tgt := 61) hx hb dX5_neighbour_47 (by decide) (fun c_7 => ?_) (fun c_7 => ?_)
      · refine n_iinc (x := 1) (dN := 1) (k := 1) (lv' := [(4, .int (nI (2))), (5, .int ((k_stepFrom cell (cpS 1)))), (3, .int (nI (0))), (0, .ref (o)), (1, .int (cell)), (2, .int (at_))]) hx hb dX5_neighbour_61 hl rfl (by decide) rfl (fun ls hl => ?_)
        refine lv_goto (tgt := 23) hx hb dX5_neighbour_64 (by decide) ?_
        refine lv_iload hx hb dX5_neighbour_23 (lv_at hl 0 rfl) ?_
        refine va_gets hx hb hZ.1.1 hS hown (hts _ (List.mem_of_getElem? (i := 3) rfl)) (fun _ h => h) dX5_neighbour_25 ?_
        refine va_tlen hx hb hZ.1.2 hS (v := nI 4) rfl dX5_neighbour_28 ?_
        refine n_icmp_ge (x := 2) (y := 4) (tgt := 67) hx hb (by omega) (by omega) dX5_neighbour_29 (by decide) (fun c_8 => absurd c_8 (by omega)) (fun c_8 => ?_)
        refine lv_iload_n hx hb dX5_neighbour_32 rfl (lv_at hl 4 rfl) ?_
        refine va_gets hx hb hZ.1.1 hS hown (hts _ (List.mem_of_getElem? (i := 3) rfl)) (fun _ h => h) dX5_neighbour_33 ?_
        refine lv_iload hx hb dX5_neighbour_36 (lv_at hl 0 rfl) ?_
        refine va_ti hx hb hZ.1.2 hS (vp_in_nI (by omega) (by decide)) (v := .int (cpS 2)) (by show Value.int (cpS (nI (2)).toNatClampNeg) = _; rw [nI_clamp (by omega)]) dX5_neighbour_38 ?_
        refine p_callS (As := [.int (cell), .int (cpS 2)]) (rest := []) ⟨hx, hb, hml, hown, hts⟩ (ck_stepFrom l cell (cpS 2)) (va_cwS 2 hts gX5_neighbour_X5_stepFrom rfl rfl rfl (by decide +kernel) ⟨Nat.le_of_ble_eq_true rfl, Nat.le_of_ble_eq_true rfl⟩) hP hS rfl hl.1 rfl (Nat.le_of_ble_eq_true rfl) dX5_neighbour_39 ⟨Nat.le_of_ble_eq_true rfl, Nat.le_of_ble_eq_true rfl⟩ (fun H locs hP hS => ?_)
        refine lv_istore (lv' := [(5, .int ((k_stepFrom cell (cpS 2)))), (4, .int (nI (2))), (3, .int (nI (0))), (0, .ref (o)), (1, .int (cell)), (2, .int (at_))]) hx hb dX5_neighbour_42 hl (by decide) rfl (fun ls hl => ?_)
        refine lv_iload hx hb dX5_neighbour_44 (lv_at hl 0 rfl) ?_
        refine lv_iconst (v := (-1)) hx hb dX5_neighbour_46 (by decide) ?_
        refine lv_icmp_eq (x := (k_stepFrom cell (cpS 2))) (y := (-1)) (tgt := 61) hx hb dX5_neighbour_47 (by decide) (fun c_9 => ?_) (fun c_9 => ?_)
        · refine n_iinc (x := 2) (dN := 1) (k := 1) (lv' := [(4, .int (nI (3))), (5, .int ((k_stepFrom cell (cpS 2)))), (3, .int (nI (0))), (0, .ref (o)), (1, .int (cell)), (2, .int (at_))]) hx hb dX5_neighbour_61 hl rfl (by decide) rfl (fun ls hl => ?_)
          refine lv_goto (tgt := 23) hx hb dX5_neighbour_64 (by decide) ?_
          refine lv_iload hx hb dX5_neighbour_23 (lv_at hl 0 rfl) ?_
          refine va_gets hx hb hZ.1.1 hS hown (hts _ (List.mem_of_getElem? (i := 3) rfl)) (fun _ h => h) dX5_neighbour_25 ?_
          refine va_tlen hx hb hZ.1.2 hS (v := nI 4) rfl dX5_neighbour_28 ?_
          refine n_icmp_ge (x := 3) (y := 4) (tgt := 67) hx hb (by omega) (by omega) dX5_neighbour_29 (by decide) (fun c_10 => absurd c_10 (by omega)) (fun c_10 => ?_)
          refine lv_iload_n hx hb dX5_neighbour_32 rfl (lv_at hl 4 rfl) ?_
          refine va_gets hx hb hZ.1.1 hS hown (hts _ (List.mem_of_getElem? (i := 3) rfl)) (fun _ h => h) dX5_neighbour_33 ?_
          refine lv_iload hx hb dX5_neighbour_36 (lv_at hl 0 rfl) ?_
          refine va_ti hx hb hZ.1.2 hS (vp_in_nI (by omega) (by decide)) (v := .int (cpS 3)) (by show Value.int (cpS (nI (3)).toNatClampNeg) = _; rw [nI_clamp (by omega)]) dX5_neighbour_38 ?_
          refine p_callS (As := [.int (cell), .int (cpS 3)]) (rest := []) ⟨hx, hb, hml, hown, hts⟩ (ck_stepFrom l cell (cpS 3)) (va_cwS 2 hts gX5_neighbour_X5_stepFrom rfl rfl rfl (by decide +kernel) ⟨Nat.le_of_ble_eq_true rfl, Nat.le_of_ble_eq_true rfl⟩) hP hS rfl hl.1 rfl (Nat.le_of_ble_eq_true rfl) dX5_neighbour_39 ⟨Nat.le_of_ble_eq_true rfl, Nat.le_of_ble_eq_true rfl⟩ (fun H locs hP hS => ?_)
          refine lv_istore (lv' := [(5, .int ((k_stepFrom cell (cpS 3)))), (4, .int (nI (3))), (3, .int (nI (0))), (0, .ref (o)), (1, .int (cell)), (2, .int (at_))]) hx hb dX5_neighbour_42 hl (by decide) rfl (fun ls hl => ?_)
          refine lv_iload hx hb dX5_neighbour_44 (lv_at hl 0 rfl) ?_
          refine lv_iconst (v := (-1)) hx hb dX5_neighbour_46 (by decide) ?_
          refine lv_icmp_eq (x := (k_stepFrom cell (cpS 3))) (y := (-1)) (tgt := 61) hx hb dX5_neighbour_47 (by decide) (fun c_11 => ?_) (fun c_11 => ?_)
          · refine n_iinc (x := 3) (dN := 1) (k := 1) (lv' := [(4, .int (nI (4))), (5, .int ((k_stepFrom cell (cpS 3)))), (3, .int (nI (0))), (0, .ref (o)), (1, .int (cell)), (2, .int (at_))]) hx hb dX5_neighbour_61 hl rfl (by decide) rfl (fun ls hl => ?_)
            refine lv_goto (tgt := 23) hx hb dX5_neighbour_64 (by decide) ?_
            refine lv_iload hx hb dX5_neighbour_23 (lv_at hl 0 rfl) ?_
            refine va_gets hx hb hZ.1.1 hS hown (hts _ (List.mem_of_getElem? (i := 3) rfl)) (fun _ h => h) dX5_neighbour_25 ?_
            refine va_tlen hx hb hZ.1.2 hS (v := nI 4) rfl dX5_neighbour_28 ?_
            refine n_icmp_ge (x := 4) (y := 4) (tgt := 67) hx hb (by omega) (by omega) dX5_neighbour_29 (by decide) (fun c_12 => ?_) (fun c_12 => absurd c_12 (by omega))
            refine lv_iconst (v := (-1)) hx hb dX5_neighbour_67 (by decide) ?_
            exact z_iret (v := (-1)) hx hb hr hlocks hXz (Nat.le_of_ble_eq_true rfl) (Nat.le_of_ble_eq_true rfl) hP hS dX5_neighbour_68 (by unfold k_neighbour; simp only [if_pos c_3, if_pos c_5, if_pos c_7, if_pos c_9, if_pos c_11])
          · refine lv_iload_n hx hb dX5_neighbour_50 rfl (lv_at hl 2 rfl) ?_
            refine lv_iload_n hx hb dX5_neighbour_51 rfl (lv_at hl 5 rfl) ?_
            refine lv_icmp_ne (x := nI (0)) (y := at_) (tgt := 58) hx hb dX5_neighbour_52 (by decide) (fun c_13 => ?_) (fun c_13 => ?_)
            · refine n_iinc (x := 0) (dN := 1) (k := 2) (lv' := [(3, .int (nI (1))), (5, .int ((k_stepFrom cell (cpS 3)))), (4, .int (nI (3))), (0, .ref (o)), (1, .int (cell)), (2, .int (at_))]) hx hb dX5_neighbour_58 hl rfl (by decide) rfl (fun ls hl => ?_)
              refine n_iinc (x := 3) (dN := 1) (k := 2) (lv' := [(4, .int (nI (4))), (3, .int (nI (1))), (5, .int ((k_stepFrom cell (cpS 3)))), (0, .ref (o)), (1, .int (cell)), (2, .int (at_))]) hx hb dX5_neighbour_61 hl rfl (by decide) rfl (fun ls hl => ?_)
              refine lv_goto (tgt := 23) hx hb dX5_neighbour_64 (by decide) ?_
              refine lv_iload hx hb dX5_neighbour_23 (lv_at hl 0 rfl) ?_
              refine va_gets hx hb hZ.1.1 hS hown (hts _ (List.mem_of_getElem? (i := 3) rfl)) (fun _ h => h) dX5_neighbour_25 ?_
              refine va_tlen hx hb hZ.1.2 hS (v := nI 4) rfl dX5_neighbour_28 ?_
              refine n_icmp_ge (x := 4) (y := 4) (tgt := 67) hx hb (by omega) (by omega) dX5_neighbour_29 (by decide) (fun c_14 => ?_) (fun c_14 => absurd c_14 (by omega))
              refine lv_iconst (v := (-1)) hx hb dX5_neighbour_67 (by decide) ?_
              exact z_iret (v := (-1)) hx hb hr hlocks hXz (Nat.le_of_ble_eq_true rfl) (Nat.le_of_ble_eq_true rfl) hP hS dX5_neighbour_68 (by unfold k_neighbour; simp only [if_pos c_3, if_pos c_5, if_pos c_7, if_pos c_9, if_neg c_11, if_neg c_13])
            · refine lv_iload hx hb dX5_neighbour_55 (lv_at hl 0 rfl) ?_
              exact z_iret (v := (k_stepFrom cell (cpS 3))) hx hb hr hlocks hXz (Nat.le_of_ble_eq_true rfl) (Nat.le_of_ble_eq_true rfl) hP hS dX5_neighbour_57 (by unfold k_neighbour; simp only [if_pos c_3, if_pos c_5, if_pos c_7, if_pos c_9, if_neg c_11, if_pos c_13])
        · refine lv_iload_n hx hb dX5_neighbour_50 rfl (lv_at hl 2 rfl) ?_
          refine lv_iload_n hx hb dX5_neighbour_51 rfl (lv_at hl 5 rfl) ?_
          refine lv_icmp_ne (x := nI (0)) (y := at_) (tgt := 58) hx hb dX5_neighbour_52 (by decide) (fun c_15 => ?_) (fun c_15 => ?_)
          · refine n_iinc (x := 0) (dN := 1) (k := 2) (lv' := [(3, .int (nI (1))), (5, .int ((k_stepFrom cell (cpS 2)))), (4, .int (nI (2))), (0, .ref (o)), (1, .int (cell)), (2, .int (at_))]) hx hb dX5_neighbour_58 hl rfl (by decide) rfl (fun ls hl => ?_)
            refine n_iinc (x := 2) (dN := 1) (k := 2) (lv' := [(4, .int (nI (3))), (3, .int (nI (1))), (5, .int ((k_stepFrom cell (cpS 2)))), (0, .ref (o)), (1, .int (cell)), (2, .int (at_))]) hx hb dX5_neighbour_61 hl rfl (by decide) rfl (fun ls hl => ?_)
            refine lv_goto (tgt := 23) hx hb dX5_neighbour_64 (by decide) ?_
            refine lv_iload hx hb dX5_neighbour_23 (lv_at hl 0 rfl) ?_
            refine va_gets hx hb hZ.1.1 hS hown (hts _ (List.mem_of_getElem? (i := 3) rfl)) (fun _ h => h) dX5_neighbour_25 ?_
            refine va_tlen hx hb hZ.1.2 hS (v := nI 4) rfl dX5_neighbour_28 ?_
            refine n_icmp_ge (x := 3) (y := 4) (tgt := 67) hx hb (by omega) (by omega) dX5_neighbour_29 (by decide) (fun c_16 => absurd c_16 (by omega)) (fun c_16 => ?_)
            refine lv_iload_n hx hb dX5_neighbour_32 rfl (lv_at hl 4 rfl) ?_
            refine va_gets hx hb hZ.1.1 hS hown (hts _ (List.mem_of_getElem? (i := 3) rfl)) (fun _ h => h) dX5_neighbour_33 ?_
            refine lv_iload hx hb dX5_neighbour_36 (lv_at hl 0 rfl) ?_
            refine va_ti hx hb hZ.1.2 hS (vp_in_nI (by omega) (by decide)) (v := .int (cpS 3)) (by show Value.int (cpS (nI (3)).toNatClampNeg) = _; rw [nI_clamp (by omega)]) dX5_neighbour_38 ?_
            refine p_callS (As := [.int (cell), .int (cpS 3)]) (rest := []) ⟨hx, hb, hml, hown, hts⟩ (ck_stepFrom l cell (cpS 3)) (va_cwS 2 hts gX5_neighbour_X5_stepFrom rfl rfl rfl (by decide +kernel) ⟨Nat.le_of_ble_eq_true rfl, Nat.le_of_ble_eq_true rfl⟩) hP hS rfl hl.1 rfl (Nat.le_of_ble_eq_true rfl) dX5_neighbour_39 ⟨Nat.le_of_ble_eq_true rfl, Nat.le_of_ble_eq_true rfl⟩ (fun H locs hP hS => ?_)
            refine lv_istore (lv' := [(5, .int ((k_stepFrom cell (cpS 3)))), (4, .int (nI (3))), (3, .int (nI (1))), (0, .ref (o)), (1, .int (cell)), (2, .int (at_))]) hx hb dX5_neighbour_42 hl (by decide) rfl (fun ls hl => ?_)
            refine lv_iload hx hb dX5_neighbour_44 (lv_at hl 0 rfl) ?_
            refine lv_iconst (v := (-1)) hx hb dX5_neighbour_46 (by decide) ?_
            refine lv_icmp_eq (x := (k_stepFrom cell (cpS 3))) (y := (-1)) (tgt := 61) hx hb dX5_neighbour_47 (by decide) (fun c_17 => ?_) (fun c_17 => ?_)
            · refine n_iinc (x := 3) (dN := 1) (k := 1) (lv' := [(4, .int (nI (4))), (5, .int ((k_stepFrom cell (cpS 3)))), (3, .int (nI (1))), (0, .ref (o)), (1, .int (cell)), (2, .int (at_))]) hx hb dX5_neighbour_61 hl rfl (by decide) rfl (fun ls hl => ?_)
              refine lv_goto (tgt := 23) hx hb dX5_neighbour_64 (by decide) ?_
              refine lv_iload hx hb dX5_neighbour_23 (lv_at hl 0 rfl) ?_
              refine va_gets hx hb hZ.1.1 hS hown (hts _ (List.mem_of_getElem? (i := 3) rfl)) (fun _ h => h) dX5_neighbour_25 ?_
              refine va_tlen hx hb hZ.1.2 hS (v := nI 4) rfl dX5_neighbour_28 ?_
              refine n_icmp_ge (x := 4) (y := 4) (tgt := 67) hx hb (by omega) (by omega) dX5_neighbour_29 (by decide) (fun c_18 => ?_) (fun c_18 => absurd c_18 (by omega))
              refine lv_iconst (v := (-1)) hx hb dX5_neighbour_67 (by decide) ?_
              exact z_iret (v := (-1)) hx hb hr hlocks hXz (Nat.le_of_ble_eq_true rfl) (Nat.le_of_ble_eq_true rfl) hP hS dX5_neighbour_68 (by unfold k_neighbour; simp only [if_pos c_3, if_pos c_5, if_pos c_7, if_neg c_9, if_neg c_15, if_pos c_17])
            · refine lv_iload_n hx hb dX5_neighbour_50 rfl (lv_at hl 2 rfl) ?_
              refine lv_iload_n hx hb dX5_neighbour_51 rfl (lv_at hl 5 rfl) ?_
              refine lv_icmp_ne (x := nI (1)) (y := at_) (tgt := 58) hx hb dX5_neighbour_52 (by decide) (fun c_19 => ?_) (fun c_19 => ?_)
              · refine n_iinc (x := 1) (dN := 1) (k := 2) (lv' := [(3, .int (nI (2))), (5, .int ((k_stepFrom cell (cpS 3)))), (4, .int (nI (3))), (0, .ref (o)), (1, .int (cell)), (2, .int (at_))]) hx hb dX5_neighbour_58 hl rfl (by decide) rfl (fun ls hl => ?_)
                refine n_iinc (x := 3) (dN := 1) (k := 2) (lv' := [(4, .int (nI (4))), (3, .int (nI (2))), (5, .int ((k_stepFrom cell (cpS 3)))), (0, .ref (o)), (1, .int (cell)), (2, .int (at_))]) hx hb dX5_neighbour_61 hl rfl (by decide) rfl (fun ls hl => ?_)
                refine lv_goto (tgt := 23) hx hb dX5_neighbour_64 (by decide) ?_
                refine lv_iload hx hb dX5_neighbour_23 (lv_at hl 0 rfl) ?_
                refine va_gets hx hb hZ.1.1 hS hown (hts _ (List.mem_of_getElem? (i := 3) rfl)) (fun _ h => h) dX5_neighbour_25 ?_
                refine va_tlen hx hb hZ.1.2 hS (v := nI 4) rfl dX5_neighbour_28 ?_
                refine n_icmp_ge (x := 4) (y := 4) (tgt := 67) hx hb (by omega) (by omega) dX5_neighbour_29 (by decide) (fun c_20 => ?_) (fun c_20 => absurd c_20 (by omega))
                refine lv_iconst (v := (-1)) hx hb dX5_neighbour_67 (by decide) ?_
                exact z_iret (v := (-1)) hx hb hr hlocks hXz (Nat.le_of_ble_eq_true rfl) (Nat.le_of_ble_eq_true rfl) hP hS dX5_neighbour_68 (by unfold k_neighbour; simp only [if_pos c_3, if_pos c_5, if_pos c_7, if_neg c_9, if_neg c_15, if_neg c_17, if_neg c_19])
              · refine lv_iload hx hb dX5_neighbour_55 (lv_at hl 0 rfl) ?_
                exact z_iret (v := (k_stepFrom cell (cpS 3))) hx hb hr hlocks hXz (Nat.le_of_ble_eq_true rfl) (Nat.le_of_ble_eq_true rfl) hP hS dX5_neighbour_57 (by unfold k_neighbour; simp only [if_pos c_3, if_pos c_5, if_pos c_7, if_neg c_9, if_neg c_15, if_neg c_17, if_pos c_19])
          · refine lv_iload hx hb dX5_neighbour_55 (lv_at hl 0 rfl) ?_
            exact z_iret (v := (k_stepFrom cell (cpS 2))) hx hb hr hlocks hXz (Nat.le_of_ble_eq_true rfl) (Nat.le_of_ble_eq_true rfl) hP hS dX5_neighbour_57 (by unfold k_neighbour; simp only [if_pos c_3, if_pos c_5, if_pos c_7, if_neg c_9, if_pos c_15])
      · refine lv_iload_n hx hb dX5_neighbour_50 rfl (lv_at hl 2 rfl) ?_
        refine lv_iload_n hx hb dX5_neighbour_51 rfl (lv_at hl 5 rfl) ?_
        refine lv_icmp_ne (x := nI (0)) (y := at_) (tgt := 58) hx hb dX5_neighbour_52 (by decide) (fun c_21 => ?_) (fun c_21 => ?_)
        · refine n_iinc (x := 0) (dN := 1) (k := 2) (lv' := [(3, .int (nI (1))), (5, .int ((k_stepFrom cell (cpS 1)))), (4, .int (nI (1))), (0, .ref (o)), (1, .int (cell)), (2, .int (at_))]) hx hb dX5_neighbour_58 hl rfl (by decide) rfl (fun ls hl => ?_)
          refine n_iinc (x := 1) (dN := 1) (k := 2) (lv' := [(4, .int (nI (2))), (3, .int (nI (1))), (5, .int ((k_stepFrom cell (cpS 1)))), (0, .ref (o)), (1, .int (cell)), (2, .int (at_))]) hx hb dX5_neighbour_61 hl rfl (by decide) rfl (fun ls hl => ?_)
          refine lv_goto (tgt := 23) hx hb dX5_neighbour_64 (by decide) ?_
          refine lv_iload hx hb dX5_neighbour_23 (lv_at hl 0 rfl) ?_
          refine va_gets hx hb hZ.1.1 hS hown (hts _ (List.mem_of_getElem? (i := 3) rfl)) (fun _ h => h) dX5_neighbour_25 ?_
          refine va_tlen hx hb hZ.1.2 hS (v := nI 4) rfl dX5_neighbour_28 ?_
          refine n_icmp_ge (x := 2) (y := 4) (tgt := 67) hx hb (by omega) (by omega) dX5_neighbour_29 (by decide) (fun c_22 => absurd c_22 (by omega)) (fun c_22 => ?_)
          refine lv_iload_n hx hb dX5_neighbour_32 rfl (lv_at hl 4 rfl) ?_
          refine va_gets hx hb hZ.1.1 hS hown (hts _ (List.mem_of_getElem? (i := 3) rfl)) (fun _ h => h) dX5_neighbour_33 ?_
          refine lv_iload hx hb dX5_neighbour_36 (lv_at hl 0 rfl) ?_
          refine va_ti hx hb hZ.1.2 hS (vp_in_nI (by omega) (by decide)) (v := .int (cpS 2)) (by show Value.int (cpS (nI (2)).toNatClampNeg) = _; rw [nI_clamp (by omega)]) dX5_neighbour_38 ?_
          refine p_callS (As := [.int (cell), .int (cpS 2)]) (rest := []) ⟨hx, hb, hml, hown, hts⟩ (ck_stepFrom l cell (cpS 2)) (va_cwS 2 hts gX5_neighbour_X5_stepFrom rfl rfl rfl (by decide +kernel) ⟨Nat.le_of_ble_eq_true rfl, Nat.le_of_ble_eq_true rfl⟩) hP hS rfl hl.1 rfl (Nat.le_of_ble_eq_true rfl) dX5_neighbour_39 ⟨Nat.le_of_ble_eq_true rfl, Nat.le_of_ble_eq_true rfl⟩ (fun H locs hP hS => ?_)
          refine lv_istore (lv' := [(5, .int ((k_stepFrom cell (cpS 2)))), (4, .int (nI (2))), (3, .int (nI (1))), (0, .ref (o)), (1, .int (cell)), (2, .int (at_))]) hx hb dX5_neighbour_42 hl (by decide) rfl (fun ls hl => ?_)
          refine lv_iload hx hb dX5_neighbour_44 (lv_at hl 0 rfl) ?_
          refine lv_iconst (v := (-1)) hx hb dX5_neighbour_46 (by decide) ?_
          refine lv_icmp_eq (x := (k_stepFrom cell (cpS 2))) (y := (-1)) (tgt := 61) hx hb dX5_neighbour_47 (by decide) (fun c_23 => ?_) (fun c_23 => ?_)
          · refine n_iinc (x := 2) (dN := 1) (k := 1) (lv' := [(4, .int (nI (3))), (5, .int ((k_stepFrom cell (cpS 2)))), (3, .int (nI (1))), (0, .ref (o)), (1, .int (cell)), (2, .int (at_))]) hx hb dX5_neighbour_61 hl rfl (by decide) rfl (fun ls hl => ?_)
            refine lv_goto (tgt := 23) hx hb dX5_neighbour_64 (by decide) ?_
            refine lv_iload hx hb dX5_neighbour_23 (lv_at hl 0 rfl) ?_
            refine va_gets hx hb hZ.1.1 hS hown (hts _ (List.mem_of_getElem? (i := 3) rfl)) (fun _ h => h) dX5_neighbour_25 ?_
            refine va_tlen hx hb hZ.1.2 hS (v := nI 4) rfl dX5_neighbour_28 ?_
            refine n_icmp_ge (x := 3) (y := 4) (tgt := 67) hx hb (by omega) (by omega) dX5_neighbour_29 (by decide) (fun c_24 => absurd c_24 (by omega)) (fun c_24 => ?_)
            refine lv_iload_n hx hb dX5_neighbour_32 rfl (lv_at hl 4 rfl) ?_
            refine va_gets hx hb hZ.1.1 hS hown (hts _ (List.mem_of_getElem? (i := 3) rfl)) (fun _ h => h) dX5_neighbour_33 ?_
            refine lv_iload hx hb dX5_neighbour_36 (lv_at hl 0 rfl) ?_
            refine va_ti hx hb hZ.1.2 hS (vp_in_nI (by omega) (by decide)) (v := .int (cpS 3)) (by show Value.int (cpS (nI (3)).toNatClampNeg) = _; rw [nI_clamp (by omega)]) dX5_neighbour_38 ?_
            refine p_callS (As := [.int (cell), .int (cpS 3)]) (rest := []) ⟨hx, hb, hml, hown, hts⟩ (ck_stepFrom l cell (cpS 3)) (va_cwS 2 hts gX5_neighbour_X5_stepFrom rfl rfl rfl (by decide +kernel) ⟨Nat.le_of_ble_eq_true rfl, Nat.le_of_ble_eq_true rfl⟩) hP hS rfl hl.1 rfl (Nat.le_of_ble_eq_true rfl) dX5_neighbour_39 ⟨Nat.le_of_ble_eq_true rfl, Nat.le_of_ble_eq_true rfl⟩ (fun H locs hP hS => ?_)
            refine lv_istore (lv' := [(5, .int ((k_stepFrom cell (cpS 3)))), (4, .int (nI (3))), (3, .int (nI (1))), (0, .ref (o)), (1, .int (cell)), (2, .int (at_))]) hx hb dX5_neighbour_42 hl (by decide) rfl (fun ls hl => ?_)
            refine lv_iload hx hb dX5_neighbour_44 (lv_at hl 0 rfl) ?_
            refine lv_iconst (v := (-1)) hx hb dX5_neighbour_46 (by decide) ?_
            refine lv_icmp_eq (x := (k_stepFrom cell (cpS 3))) (y := (-1)) (tgt := 61) hx hb dX5_neighbour_47 (by decide) (fun c_25 => ?_) (fun c_25 => ?_)
            · refine n_iinc (x := 3) (dN := 1) (k := 1) (lv' := [(4, .int (nI (4))), (5, .int ((k_stepFrom cell (cpS 3)))), (3, .int (nI (1))), (0, .ref (o)), (1, .int (cell)), (2, .int (at_))]) hx hb dX5_neighbour_61 hl rfl (by decide) rfl (fun ls hl => ?_)
              refine lv_goto (tgt := 23) hx hb dX5_neighbour_64 (by decide) ?_
              refine lv_iload hx hb dX5_neighbour_23 (lv_at hl 0 rfl) ?_
              refine va_gets hx hb hZ.1.1 hS hown (hts _ (List.mem_of_getElem? (i := 3) rfl)) (fun _ h => h) dX5_neighbour_25 ?_
              refine va_tlen hx hb hZ.1.2 hS (v := nI 4) rfl dX5_neighbour_28 ?_
              refine n_icmp_ge (x := 4) (y := 4) (tgt := 67) hx hb (by omega) (by omega) dX5_neighbour_29 (by decide) (fun c_26 => ?_) (fun c_26 => absurd c_26 (by omega))
              refine lv_iconst (v := (-1)) hx hb dX5_neighbour_67 (by decide) ?_
              exact z_iret (v := (-1)) hx hb hr hlocks hXz (Nat.le_of_ble_eq_true rfl) (Nat.le_of_ble_eq_true rfl) hP hS dX5_neighbour_68 (by unfold k_neighbour; simp only [if_pos c_3, if_pos c_5, if_neg c_7, if_neg c_21, if_pos c_23, if_pos c_25])
            · refine lv_iload_n hx hb dX5_neighbour_50 rfl (lv_at hl 2 rfl) ?_
              refine lv_iload_n hx hb dX5_neighbour_51 rfl (lv_at hl 5 rfl) ?_
              refine lv_icmp_ne (x := nI (1)) (y := at_) (tgt := 58) hx hb dX5_neighbour_52 (by decide) (fun c_27 => ?_) (fun c_27 => ?_)
              · refine n_iinc (x := 1) (dN := 1) (k := 2) (lv' := [(3, .int (nI (2))), (5, .int ((k_stepFrom cell (cpS 3)))), (4, .int (nI (3))), (0, .ref (o)), (1, .int (cell)), (2, .int (at_))]) hx hb dX5_neighbour_58 hl rfl (by decide) rfl (fun ls hl => ?_)
                refine n_iinc (x := 3) (dN := 1) (k := 2) (lv' := [(4, .int (nI (4))), (3, .int (nI (2))), (5, .int ((k_stepFrom cell (cpS 3)))), (0, .ref (o)), (1, .int (cell)), (2, .int (at_))]) hx hb dX5_neighbour_61 hl rfl (by decide) rfl (fun ls hl => ?_)
                refine lv_goto (tgt := 23) hx hb dX5_neighbour_64 (by decide) ?_
                refine lv_iload hx hb dX5_neighbour_23 (lv_at hl 0 rfl) ?_
                refine va_gets hx hb hZ.1.1 hS hown (hts _ (List.mem_of_getElem? (i := 3) rfl)) (fun _ h => h) dX5_neighbour_25 ?_
                refine va_tlen hx hb hZ.1.2 hS (v := nI 4) rfl dX5_neighbour_28 ?_
                refine n_icmp_ge (x := 4) (y := 4) (tgt := 67) hx hb (by omega) (by omega) dX5_neighbour_29 (by decide) (fun c_28 => ?_) (fun c_28 => absurd c_28 (by omega))
                refine lv_iconst (v := (-1)) hx hb dX5_neighbour_67 (by decide) ?_
                exact z_iret (v := (-1)) hx hb hr hlocks hXz (Nat.le_of_ble_eq_true rfl) (Nat.le_of_ble_eq_true rfl) hP hS dX5_neighbour_68 (by unfold k_neighbour; simp only [if_pos c_3, if_pos c_5, if_neg c_7, if_neg c_21, if_pos c_23, if_neg c_25, if_neg c_27])
              · refine lv_iload hx hb dX5_neighbour_55 (lv_at hl 0 rfl) ?_
                exact z_iret (v := (k_stepFrom cell (cpS 3))) hx hb hr hlocks hXz (Nat.le_of_ble_eq_true rfl) (Nat.le_of_ble_eq_true rfl) hP hS dX5_neighbour_57 (by unfold k_neighbour; simp only [if_pos c_3, if_pos c_5, if_neg c_7, if_neg c_21, if_pos c_23, if_neg c_25, if_pos c_27])
          · refine lv_iload_n hx hb dX5_neighbour_50 rfl (lv_at hl 2 rfl) ?_
            refine lv_iload_n hx hb dX5_neighbour_51 rfl (lv_at hl 5 rfl) ?_
            refine lv_icmp_ne (x := nI (1)) (y := at_) (tgt := 58) hx hb dX5_neighbour_52 (by decide) (fun c_29 => ?_) (fun c_29 => ?_)
            · refine n_iinc (x := 1) (dN := 1) (k := 2) (lv' := [(3, .int (nI (2))), (5, .int ((k_stepFrom cell (cpS 2)))), (4, .int (nI (2))), (0, .ref (o)), (1, .int (cell)), (2, .int (at_))]) hx hb dX5_neighbour_58 hl rfl (by decide) rfl (fun ls hl => ?_)
              refine n_iinc (x := 2) (dN := 1) (k := 2) (lv' := [(4, .int (nI (3))), (3, .int (nI (2))), (5, .int ((k_stepFrom cell (cpS 2)))), (0, .ref (o)), (1, .int (cell)), (2, .int (at_))]) hx hb dX5_neighbour_61 hl rfl (by decide) rfl (fun ls hl => ?_)
              refine lv_goto (tgt := 23) hx hb dX5_neighbour_64 (by decide) ?_
              refine lv_iload hx hb dX5_neighbour_23 (lv_at hl 0 rfl) ?_
              refine va_gets hx hb hZ.1.1 hS hown (hts _ (List.mem_of_getElem? (i := 3) rfl)) (fun _ h => h) dX5_neighbour_25 ?_
              refine va_tlen hx hb hZ.1.2 hS (v := nI 4) rfl dX5_neighbour_28 ?_
              refine n_icmp_ge (x := 3) (y := 4) (tgt := 67) hx hb (by omega) (by omega) dX5_neighbour_29 (by decide) (fun c_30 => absurd c_30 (by omega)) (fun c_30 => ?_)
              refine lv_iload_n hx hb dX5_neighbour_32 rfl (lv_at hl 4 rfl) ?_
              refine va_gets hx hb hZ.1.1 hS hown (hts _ (List.mem_of_getElem? (i := 3) rfl)) (fun _ h => h) dX5_neighbour_33 ?_
              refine lv_iload hx hb dX5_neighbour_36 (lv_at hl 0 rfl) ?_
              refine va_ti hx hb hZ.1.2 hS (vp_in_nI (by omega) (by decide)) (v := .int (cpS 3)) (by show Value.int (cpS (nI (3)).toNatClampNeg) = _; rw [nI_clamp (by omega)]) dX5_neighbour_38 ?_
              refine p_callS (As := [.int (cell), .int (cpS 3)]) (rest := []) ⟨hx, hb, hml, hown, hts⟩ (ck_stepFrom l cell (cpS 3)) (va_cwS 2 hts gX5_neighbour_X5_stepFrom rfl rfl rfl (by decide +kernel) ⟨Nat.le_of_ble_eq_true rfl, Nat.le_of_ble_eq_true rfl⟩) hP hS rfl hl.1 rfl (Nat.le_of_ble_eq_true rfl) dX5_neighbour_39 ⟨Nat.le_of_ble_eq_true rfl, Nat.le_of_ble_eq_true rfl⟩ (fun H locs hP hS => ?_)
              refine lv_istore (lv' := [(5, .int ((k_stepFrom cell (cpS 3)))), (4, .int (nI (3))), (3, .int (nI (2))), (0, .ref (o)), (1, .int (cell)), (2, .int (at_))]) hx hb dX5_neighbour_42 hl (by decide) rfl (fun ls hl => ?_)
              refine lv_iload hx hb dX5_neighbour_44 (lv_at hl 0 rfl) ?_
              refine lv_iconst (v := (-1)) hx hb dX5_neighbour_46 (by decide) ?_
              refine lv_icmp_eq (x := (k_stepFrom cell (cpS 3))) (y := (-1)) (tgt := 61) hx hb dX5_neighbour_47 (by decide) (fun c_31 => ?_) (fun c_31 => ?_)
              · refine n_iinc (x := 3) (dN := 1) (k := 1) (lv' := [(4, .int (nI (4))), (5, .int ((k_stepFrom cell (cpS 3)))), (3, .int (nI (2))), (0, .ref (o)), (1, .int (cell)), (2, .int (at_))]) hx hb dX5_neighbour_61 hl rfl (by decide) rfl (fun ls hl => ?_)
                refine lv_goto (tgt := 23) hx hb dX5_neighbour_64 (by decide) ?_
                refine lv_iload hx hb dX5_neighbour_23 (lv_at hl 0 rfl) ?_
                refine va_gets hx hb hZ.1.1 hS hown (hts _ (List.mem_of_getElem? (i := 3) rfl)) (fun _ h => h) dX5_neighbour_25 ?_
                refine va_tlen hx hb hZ.1.2 hS (v := nI 4) rfl dX5_neighbour_28 ?_
                refine n_icmp_ge (x := 4) (y := 4) (tgt := 67) hx hb (by omega) (by omega) dX5_neighbour_29 (by decide) (fun c_32 => ?_) (fun c_32 => absurd c_32 (by omega))
                refine lv_iconst (v := (-1)) hx hb dX5_neighbour_67 (by decide) ?_
                exact z_iret (v := (-1)) hx hb hr hlocks hXz (Nat.le_of_ble_eq_true rfl) (Nat.le_of_ble_eq_true rfl) hP hS dX5_neighbour_68 (by unfold k_neighbour; simp only [if_pos c_3, if_pos c_5, if_neg c_7, if_neg c_21, if_neg c_23, if_neg c_29, if_pos c_31])
              · refine lv_iload_n hx hb dX5_neighbour_50 rfl (lv_at hl 2 rfl) ?_
                refine lv_iload_n hx hb dX5_neighbour_51 rfl (lv_at hl 5 rfl) ?_
                refine lv_icmp_ne (x := nI (2)) (y := at_) (tgt := 58) hx hb dX5_neighbour_52 (by decide) (fun c_33 => ?_) (fun c_33 => ?_)
                · refine n_iinc (x := 2) (dN := 1) (k := 2) (lv' := [(3, .int (nI (3))), (5, .int ((k_stepFrom cell (cpS 3)))), (4, .int (nI (3))), (0, .ref (o)), (1, .int (cell)), (2, .int (at_))]) hx hb dX5_neighbour_58 hl rfl (by decide) rfl (fun ls hl => ?_)
                  refine n_iinc (x := 3) (dN := 1) (k := 2) (lv' := [(4, .int (nI (4))), (3, .int (nI (3))), (5, .int ((k_stepFrom cell (cpS 3)))), (0, .ref (o)), (1, .int (cell)), (2, .int (at_))]) hx hb dX5_neighbour_61 hl rfl (by decide) rfl (fun ls hl => ?_)
                  refine lv_goto (tgt := 23) hx hb dX5_neighbour_64 (by decide) ?_
                  refine lv_iload hx hb dX5_neighbour_23 (lv_at hl 0 rfl) ?_
                  refine va_gets hx hb hZ.1.1 hS hown (hts _ (List.mem_of_getElem? (i := 3) rfl)) (fun _ h => h) dX5_neighbour_25 ?_
                  refine va_tlen hx hb hZ.1.2 hS (v := nI 4) rfl dX5_neighbour_28 ?_
                  refine n_icmp_ge (x := 4) (y := 4) (tgt := 67) hx hb (by omega) (by omega) dX5_neighbour_29 (by decide) (fun c_34 => ?_) (fun c_34 => absurd c_34 (by omega))
                  refine lv_iconst (v := (-1)) hx hb dX5_neighbour_67 (by decide) ?_
                  exact z_iret (v := (-1)) hx hb hr hlocks hXz (Nat.le_of_ble_eq_true rfl) (Nat.le_of_ble_eq_true rfl) hP hS dX5_neighbour_68 (by unfold k_neighbour; simp only [if_pos c_3, if_pos c_5, if_neg c_7, if_neg c_21, if_neg c_23, if_neg c_29, if_neg c_31, if_neg c_33])
                · refine lv_iload hx hb dX5_neighbour_55 (lv_at hl 0 rfl) ?_
                  exact z_iret (v := (k_stepFrom cell (cpS 3))) hx hb hr hlocks hXz (Nat.le_of_ble_eq_true rfl) (Nat.le_of_ble_eq_true rfl) hP hS dX5_neighbour_57 (by unfold k_neighbour; simp only [if_pos c_3, if_pos c_5, if_neg c_7, if_neg c_21, if_neg c_23, if_neg c_29, if_neg c_31, if_pos c_33])
            · refine lv_iload hx hb dX5_neighbour_55 (lv_at hl 0 rfl) ?_
              exact z_iret (v := (k_stepFrom cell (cpS 2))) hx hb hr hlocks hXz (Nat.le_of_ble_eq_true rfl) (Nat.le_of_ble_eq_true rfl) hP hS dX5_neighbour_57 (by unfold k_neighbour; simp only [if_pos c_3, if_pos c_5, if_neg c_7, if_neg c_21, if_neg c_23, if_pos c_29])
        · refine lv_iload hx hb dX5_neighbour_55 (lv_at hl 0 rfl) ?_
          exact z_iret (v := (k_stepFrom cell (cpS 1))) hx hb hr hlocks hXz (Nat.le_of_ble_eq_true rfl) (Nat.le_of_ble_eq_true rfl) hP hS dX5_neighbour_57 (by unfold k_neighbour; simp only [if_pos c_3, if_pos c_5, if_neg c_7, if_pos c_21])
    · refine lv_iload_n hx hb dX5_neighbour_50 rfl (lv_at hl 2 rfl) ?_
      refine lv_iload_n hx hb dX5_neighbour_51 rfl (lv_at hl 5 rfl) ?_
      refine lv_icmp_ne (x := nI (0)) (y := at_) (tgt := 58) hx hb dX5_neighbour_52 (by decide) (fun c_35 => ?_) (fun c_35 => ?_)
      · refine n_iinc (x := 0) (dN := 1) (k := 2) (lv' := [(3, .int (nI (1))), (5, .int ((k_stepFrom cell (cpS 0)))), (4, .int (nI (0))), (0, .ref (o)), (1, .int (cell)), (2, .int (at_))]) hx hb dX5_neighbour_58 hl rfl (by decide) rfl (fun ls hl => ?_)
        refine n_iinc (x := 0) (dN := 1) (k := 2) (lv' := [(4, .int (nI (1))), (3, .int (nI (1))), (5, .int ((k_stepFrom cell (cpS 0)))), (0, .ref (o)), (1, .int (cell)), (2, .int (at_))]) hx hb dX5_neighbour_61 hl rfl (by decide) rfl (fun ls hl => ?_)
        refine lv_goto (tgt := 23) hx hb dX5_neighbour_64 (by decide) ?_
        refine lv_iload hx hb dX5_neighbour_23 (lv_at hl 0 rfl) ?_
        refine va_gets hx hb hZ.1.1 hS hown (hts _ (List.mem_of_getElem? (i := 3) rfl)) (fun _ h => h) dX5_neighbour_25 ?_
        refine va_tlen hx hb hZ.1.2 hS (v := nI 4) rfl dX5_neighbour_28 ?_
        refine n_icmp_ge (x := 1) (y := 4) (tgt := 67) hx hb (by omega) (by omega) dX5_neighbour_29 (by decide) (fun c_36 => absurd c_36 (by omega)) (fun c_36 => ?_)
        refine lv_iload_n hx hb dX5_neighbour_32 rfl (lv_at hl 4 rfl) ?_
        refine va_gets hx hb hZ.1.1 hS hown (hts _ (List.mem_of_getElem? (i := 3) rfl)) (fun _ h => h) dX5_neighbour_33 ?_
        refine lv_iload hx hb dX5_neighbour_36 (lv_at hl 0 rfl) ?_
        refine va_ti hx hb hZ.1.2 hS (vp_in_nI (by omega) (by decide)) (v := .int (cpS 1)) (by show Value.int (cpS (nI (1)).toNatClampNeg) = _; rw [nI_clamp (by omega)]) dX5_neighbour_38 ?_
        refine p_callS (As := [.int (cell), .int (cpS 1)]) (rest := []) ⟨hx, hb, hml, hown, hts⟩ (ck_stepFrom l cell (cpS 1)) (va_cwS 2 hts gX5_neighbour_X5_stepFrom rfl rfl rfl (by decide +kernel) ⟨Nat.le_of_ble_eq_true rfl, Nat.le_of_ble_eq_true rfl⟩) hP hS rfl hl.1 rfl (Nat.le_of_ble_eq_true rfl) dX5_neighbour_39 ⟨Nat.le_of_ble_eq_true rfl, Nat.le_of_ble_eq_true rfl⟩ (fun H locs hP hS => ?_)
        refine lv_istore (lv' := [(5, .int ((k_stepFrom cell (cpS 1)))), (4, .int (nI (1))), (3, .int (nI (1))), (0, .ref (o)), (1, .int (cell)), (2, .int (at_))]) hx hb dX5_neighbour_42 hl (by decide) rfl (fun ls hl => ?_)
        refine lv_iload hx hb dX5_neighbour_44 (lv_at hl 0 rfl) ?_
        refine lv_iconst (v := (-1)) hx hb dX5_neighbour_46 (by decide) ?_
        refine lv_icmp_eq (x := (k_stepFrom cell (cpS 1))) (y := (-1)) (tgt := 61) hx hb dX5_neighbour_47 (by decide) (fun c_37 => ?_) (fun c_37 => ?_)
        · refine n_iinc (x := 1) (dN := 1) (k := 1) (lv' := [(4, .int (nI (2))), (5, .int ((k_stepFrom cell (cpS 1)))), (3, .int (nI (1))), (0, .ref (o)), (1, .int (cell)), (2, .int (at_))]) hx hb dX5_neighbour_61 hl rfl (by decide) rfl (fun ls hl => ?_)
          refine lv_goto (tgt := 23) hx hb dX5_neighbour_64 (by decide) ?_
          refine lv_iload hx hb dX5_neighbour_23 (lv_at hl 0 rfl) ?_
          refine va_gets hx hb hZ.1.1 hS hown (hts _ (List.mem_of_getElem? (i := 3) rfl)) (fun _ h => h) dX5_neighbour_25 ?_
          refine va_tlen hx hb hZ.1.2 hS (v := nI 4) rfl dX5_neighbour_28 ?_
          refine n_icmp_ge (x := 2) (y := 4) (tgt := 67) hx hb (by omega) (by omega) dX5_neighbour_29 (by decide) (fun c_38 => absurd c_38 (by omega)) (fun c_38 => ?_)
          refine lv_iload_n hx hb dX5_neighbour_32 rfl (lv_at hl 4 rfl) ?_
          refine va_gets hx hb hZ.1.1 hS hown (hts _ (List.mem_of_getElem? (i := 3) rfl)) (fun _ h => h) dX5_neighbour_33 ?_
          refine lv_iload hx hb dX5_neighbour_36 (lv_at hl 0 rfl) ?_
          refine va_ti hx hb hZ.1.2 hS (vp_in_nI (by omega) (by decide)) (v := .int (cpS 2)) (by show Value.int (cpS (nI (2)).toNatClampNeg) = _; rw [nI_clamp (by omega)]) dX5_neighbour_38 ?_
          refine p_callS (As := [.int (cell), .int (cpS 2)]) (rest := []) ⟨hx, hb, hml, hown, hts⟩ (ck_stepFrom l cell (cpS 2)) (va_cwS 2 hts gX5_neighbour_X5_stepFrom rfl rfl rfl (by decide +kernel) ⟨Nat.le_of_ble_eq_true rfl, Nat.le_of_ble_eq_true rfl⟩) hP hS rfl hl.1 rfl (Nat.le_of_ble_eq_true rfl) dX5_neighbour_39 ⟨Nat.le_of_ble_eq_true rfl, Nat.le_of_ble_eq_true rfl⟩ (fun H locs hP hS => ?_)
          refine lv_istore (lv' := [(5, .int ((k_stepFrom cell (cpS 2)))), (4, .int (nI (2))), (3, .int (nI (1))), (0, .ref (o)), (1, .int (cell)), (2, .int (at_))]) hx hb dX5_neighbour_42 hl (by decide) rfl (fun ls hl => ?_)
          refine lv_iload hx hb dX5_neighbour_44 (lv_at hl 0 rfl) ?_
          refine lv_iconst (v := (-1)) hx hb dX5_neighbour_46 (by decide) ?_
          refine lv_icmp_eq (x := (k_stepFrom cell (cpS 2))) (y := (-1)) (tgt := 61) hx hb dX5_neighbour_47 (by decide) (fun c_39 => ?_) (fun c_39 => ?_)
          · refine n_iinc (x := 2) (dN := 1) (k := 1) (lv' := [(4, .int (nI (3))), (5, .int ((k_stepFrom cell (cpS 2)))), (3, .int (nI (1))), (0, .ref (o)), (1, .int (cell)), (2, .int (at_))]) hx hb dX5_neighbour_61 hl rfl (by decide) rfl (fun ls hl => ?_)
            refine lv_goto (tgt := 23) hx hb dX5_neighbour_64 (by decide) ?_
            refine lv_iload hx hb dX5_neighbour_23 (lv_at hl 0 rfl) ?_
            refine va_gets hx hb hZ.1.1 hS hown (hts _ (List.mem_of_getElem? (i := 3) rfl)) (fun _ h => h) dX5_neighbour_25 ?_
            refine va_tlen hx hb hZ.1.2 hS (v := nI 4) rfl dX5_neighbour_28 ?_
            refine n_icmp_ge (x := 3) (y := 4) (tgt := 67) hx hb (by omega) (by omega) dX5_neighbour_29 (by decide) (fun c_40 => absurd c_40 (by omega)) (fun c_40 => ?_)
            refine lv_iload_n hx hb dX5_neighbour_32 rfl (lv_at hl 4 rfl) ?_
            refine va_gets hx hb hZ.1.1 hS hown (hts _ (List.mem_of_getElem? (i := 3) rfl)) (fun _ h => h) dX5_neighbour_33 ?_
            refine lv_iload hx hb dX5_neighbour_36 (lv_at hl 0 rfl) ?_
            refine va_ti hx hb hZ.1.2 hS (vp_in_nI (by omega) (by decide)) (v := .int (cpS 3)) (by show Value.int (cpS (nI (3)).toNatClampNeg) = _; rw [nI_clamp (by omega)]) dX5_neighbour_38 ?_
            refine p_callS (As := [.int (cell), .int (cpS 3)]) (rest := []) ⟨hx, hb, hml, hown, hts⟩ (ck_stepFrom l cell (cpS 3)) (va_cwS 2 hts gX5_neighbour_X5_stepFrom rfl rfl rfl (by decide +kernel) ⟨Nat.le_of_ble_eq_true rfl, Nat.le_of_ble_eq_true rfl⟩) hP hS rfl hl.1 rfl (Nat.le_of_ble_eq_true rfl) dX5_neighbour_39 ⟨Nat.le_of_ble_eq_true rfl, Nat.le_of_ble_eq_true rfl⟩ (fun H locs hP hS => ?_)
            refine lv_istore (lv' := [(5, .int ((k_stepFrom cell (cpS 3)))), (4, .int (nI (3))), (3, .int (nI (1))), (0, .ref (o)), (1, .int (cell)), (2, .int (at_))]) hx hb dX5_neighbour_42 hl (by decide) rfl (fun ls hl => ?_)
            refine lv_iload hx hb dX5_neighbour_44 (lv_at hl 0 rfl) ?_
            refine lv_iconst (v := (-1)) hx hb dX5_neighbour_46 (by decide) ?_
            refine lv_icmp_eq (x := (k_stepFrom cell (cpS 3))) (y := (-1)) (tgt := 61) hx hb dX5_neighbour_47 (by decide) (fun c_41 => ?_) (fun c_41 => ?_)
            · refine n_iinc (x := 3) (dN := 1) (k := 1) (lv' := [(4, .int (nI (4))), (5, .int ((k_stepFrom cell (cpS 3)))), (3, .int (nI (1))), (0, .ref (o)), (1, .int (cell)), (2, .int (at_))]) hx hb dX5_neighbour_61 hl rfl (by decide) rfl (fun ls hl => ?_)
              refine lv_goto (tgt := 23) hx hb dX5_neighbour_64 (by decide) ?_
              refine lv_iload hx hb dX5_neighbour_23 (lv_at hl 0 rfl) ?_
              refine va_gets hx hb hZ.1.1 hS hown (hts _ (List.mem_of_getElem? (i := 3) rfl)) (fun _ h => h) dX5_neighbour_25 ?_
              refine va_tlen hx hb hZ.1.2 hS (v := nI 4) rfl dX5_neighbour_28 ?_
              refine n_icmp_ge (x := 4) (y := 4) (tgt := 67) hx hb (by omega) (by omega) dX5_neighbour_29 (by decide) (fun c_42 => ?_) (fun c_42 => absurd c_42 (by omega))
              refine lv_iconst (v := (-1)) hx hb dX5_neighbour_67 (by decide) ?_
              exact z_iret (v := (-1)) hx hb hr hlocks hXz (Nat.le_of_ble_eq_true rfl) (Nat.le_of_ble_eq_true rfl) hP hS dX5_neighbour_68 (by unfold k_neighbour; simp only [if_pos c_3, if_neg c_5, if_neg c_35, if_pos c_37, if_pos c_39, if_pos c_41])
            · refine lv_iload_n hx hb dX5_neighbour_50 rfl (lv_at hl 2 rfl) ?_
              refine lv_iload_n hx hb dX5_neighbour_51 rfl (lv_at hl 5 rfl) ?_
              refine lv_icmp_ne (x := nI (1)) (y := at_) (tgt := 58) hx hb dX5_neighbour_52 (by decide) (fun c_43 => ?_) (fun c_43 => ?_)
              · refine n_iinc (x := 1) (dN := 1) (k := 2) (lv' := [(3, .int (nI (2))), (5, .int ((k_stepFrom cell (cpS 3)))), (4, .int (nI (3))), (0, .ref (o)), (1, .int (cell)), (2, .int (at_))]) hx hb dX5_neighbour_58 hl rfl (by decide) rfl (fun ls hl => ?_)
                refine n_iinc (x := 3) (dN := 1) (k := 2) (lv' := [(4, .int (nI (4))), (3, .int (nI (2))), (5, .int ((k_stepFrom cell (cpS 3)))), (0, .ref (o)), (1, .int (cell)), (2, .int (at_))]) hx hb dX5_neighbour_61 hl rfl (by decide) rfl (fun ls hl => ?_)
                refine lv_goto (tgt := 23) hx hb dX5_neighbour_64 (by decide) ?_
                refine lv_iload hx hb dX5_neighbour_23 (lv_at hl 0 rfl) ?_
                refine va_gets hx hb hZ.1.1 hS hown (hts _ (List.mem_of_getElem? (i := 3) rfl)) (fun _ h => h) dX5_neighbour_25 ?_
                refine va_tlen hx hb hZ.1.2 hS (v := nI 4) rfl dX5_neighbour_28 ?_
                refine n_icmp_ge (x := 4) (y := 4) (tgt := 67) hx hb (by omega) (by omega) dX5_neighbour_29 (by decide) (fun c_44 => ?_) (fun c_44 => absurd c_44 (by omega))
                refine lv_iconst (v := (-1)) hx hb dX5_neighbour_67 (by decide) ?_
                exact z_iret (v := (-1)) hx hb hr hlocks hXz (Nat.le_of_ble_eq_true rfl) (Nat.le_of_ble_eq_true rfl) hP hS dX5_neighbour_68 (by unfold k_neighbour; simp only [if_pos c_3, if_neg c_5, if_neg c_35, if_pos c_37, if_pos c_39, if_neg c_41, if_neg c_43])
              · refine lv_iload hx hb dX5_neighbour_55 (lv_at hl 0 rfl) ?_
                exact z_iret (v := (k_stepFrom cell (cpS 3))) hx hb hr hlocks hXz (Nat.le_of_ble_eq_true rfl) (Nat.le_of_ble_eq_true rfl) hP hS dX5_neighbour_57 (by unfold k_neighbour; simp only [if_pos c_3, if_neg c_5, if_neg c_35, if_pos c_37, if_pos c_39, if_neg c_41, if_pos c_43])
          · refine lv_iload_n hx hb dX5_neighbour_50 rfl (lv_at hl 2 rfl) ?_
            refine lv_iload_n hx hb dX5_neighbour_51 rfl (lv_at hl 5 rfl) ?_
            refine lv_icmp_ne (x := nI (1)) (y := at_) (tgt := 58) hx hb dX5_neighbour_52 (by decide) (fun c_45 => ?_) (fun c_45 => ?_)
            · refine n_iinc (x := 1) (dN := 1) (k := 2) (lv' := [(3, .int (nI (2))), (5, .int ((k_stepFrom cell (cpS 2)))), (4, .int (nI (2))), (0, .ref (o)), (1, .int (cell)), (2, .int (at_))]) hx hb dX5_neighbour_58 hl rfl (by decide) rfl (fun ls hl => ?_)
              refine n_iinc (x := 2) (dN := 1) (k := 2) (lv' := [(4, .int (nI (3))), (3, .int (nI (2))), (5, .int ((k_stepFrom cell (cpS 2)))), (0, .ref (o)), (1, .int (cell)), (2, .int (at_))]) hx hb dX5_neighbour_61 hl rfl (by decide) rfl (fun ls hl => ?_)
              refine lv_goto (tgt := 23) hx hb dX5_neighbour_64 (by decide) ?_
              refine lv_iload hx hb dX5_neighbour_23 (lv_at hl 0 rfl) ?_
              refine va_gets hx hb hZ.1.1 hS hown (hts _ (List.mem_of_getElem? (i := 3) rfl)) (fun _ h => h) dX5_neighbour_25 ?_
              refine va_tlen hx hb hZ.1.2 hS (v := nI 4) rfl dX5_neighbour_28 ?_
              refine n_icmp_ge (x := 3) (y := 4) (tgt := 67) hx hb (by omega) (by omega) dX5_neighbour_29 (by decide) (fun c_46 => absurd c_46 (by omega)) (fun c_46 => ?_)
              refine lv_iload_n hx hb dX5_neighbour_32 rfl (lv_at hl 4 rfl) ?_
              refine va_gets hx hb hZ.1.1 hS hown (hts _ (List.mem_of_getElem? (i := 3) rfl)) (fun _ h => h) dX5_neighbour_33 ?_
              refine lv_iload hx hb dX5_neighbour_36 (lv_at hl 0 rfl) ?_
              refine va_ti hx hb hZ.1.2 hS (vp_in_nI (by omega) (by decide)) (v := .int (cpS 3)) (by show Value.int (cpS (nI (3)).toNatClampNeg) = _; rw [nI_clamp (by omega)]) dX5_neighbour_38 ?_
              refine p_callS (As := [.int (cell), .int (cpS 3)]) (rest := []) ⟨hx, hb, hml, hown, hts⟩ (ck_stepFrom l cell (cpS 3)) (va_cwS 2 hts gX5_neighbour_X5_stepFrom rfl rfl rfl (by decide +kernel) ⟨Nat.le_of_ble_eq_true rfl, Nat.le_of_ble_eq_true rfl⟩) hP hS rfl hl.1 rfl (Nat.le_of_ble_eq_true rfl) dX5_neighbour_39 ⟨Nat.le_of_ble_eq_true rfl, Nat.le_of_ble_eq_true rfl⟩ (fun H locs hP hS => ?_)
              refine lv_istore (lv' := [(5, .int ((k_stepFrom cell (cpS 3)))), (4, .int (nI (3))), (3, .int (nI (2))), (0, .ref (o)), (1, .int (cell)), (2, .int (at_))]) hx hb dX5_neighbour_42 hl (by decide) rfl (fun ls hl => ?_)
              refine lv_iload hx hb dX5_neighbour_44 (lv_at hl 0 rfl) ?_
              refine lv_iconst (v := (-1)) hx hb dX5_neighbour_46 (by decide) ?_
              refine lv_icmp_eq (x := (k_stepFrom cell (cpS 3))) (y := (-1)) (tgt := 61) hx hb dX5_neighbour_47 (by decide) (fun c_47 => ?_) (fun c_47 => ?_)
              · refine n_iinc (x := 3) (dN := 1) (k := 1) (lv' := [(4, .int (nI (4))), (5, .int ((k_stepFrom cell (cpS 3)))), (3, .int (nI (2))), (0, .ref (o)), (1, .int (cell)), (2, .int (at_))]) hx hb dX5_neighbour_61 hl rfl (by decide) rfl (fun ls hl => ?_)
                refine lv_goto (tgt := 23) hx hb dX5_neighbour_64 (by decide) ?_
                refine lv_iload hx hb dX5_neighbour_23 (lv_at hl 0 rfl) ?_
                refine va_gets hx hb hZ.1.1 hS hown (hts _ (List.mem_of_getElem? (i := 3) rfl)) (fun _ h => h) dX5_neighbour_25 ?_
                refine va_tlen hx hb hZ.1.2 hS (v := nI 4) rfl dX5_neighbour_28 ?_
                refine n_icmp_ge (x := 4) (y := 4) (tgt := 67) hx hb (by omega) (by omega) dX5_neighbour_29 (by decide) (fun c_48 => ?_) (fun c_48 => absurd c_48 (by omega))
                refine lv_iconst (v := (-1)) hx hb dX5_neighbour_67 (by decide) ?_
                exact z_iret (v := (-1)) hx hb hr hlocks hXz (Nat.le_of_ble_eq_true rfl) (Nat.le_of_ble_eq_true rfl) hP hS dX5_neighbour_68 (by unfold k_neighbour; simp only [if_pos c_3, if_neg c_5, if_neg c_35, if_pos c_37, if_neg c_39, if_neg c_45, if_pos c_47])
              · refine lv_iload_n hx hb dX5_neighbour_50 rfl (lv_at hl 2 rfl) ?_
                refine lv_iload_n hx hb dX5_neighbour_51 rfl (lv_at hl 5 rfl) ?_
                refine lv_icmp_ne (x := nI (2)) (y := at_) (tgt := 58) hx hb dX5_neighbour_52 (by decide) (fun c_49 => ?_) (fun c_49 => ?_)
                · refine n_iinc (x := 2) (dN := 1) (k := 2) (lv' := [(3, .int (nI (3))), (5, .int ((k_stepFrom cell (cpS 3)))), (4, .int (nI (3))), (0, .ref (o)), (1, .int (cell)), (2, .int (at_))]) hx hb dX5_neighbour_58 hl rfl (by decide) rfl (fun ls hl => ?_)
                  refine n_iinc (x := 3) (dN := 1) (k := 2) (lv' := [(4, .int (nI (4))), (3, .int (nI (3))), (5, .int ((k_stepFrom cell (cpS 3)))), (0, .ref (o)), (1, .int (cell)), (2, .int (at_))]) hx hb dX5_neighbour_61 hl rfl (by decide) rfl (fun ls hl => ?_)
                  refine lv_goto (tgt := 23) hx hb dX5_neighbour_64 (by decide) ?_
                  refine lv_iload hx hb dX5_neighbour_23 (lv_at hl 0 rfl) ?_
                  refine va_gets hx hb hZ.1.1 hS hown (hts _ (List.mem_of_getElem? (i := 3) rfl)) (fun _ h => h) dX5_neighbour_25 ?_
                  refine va_tlen hx hb hZ.1.2 hS (v := nI 4) rfl dX5_neighbour_28 ?_
                  refine n_icmp_ge (x := 4) (y := 4) (tgt := 67) hx hb (by omega) (by omega) dX5_neighbour_29 (by decide) (fun c_50 => ?_) (fun c_50 => absurd c_50 (by omega))
                  refine lv_iconst (v := (-1)) hx hb dX5_neighbour_67 (by decide) ?_
                  exact z_iret (v := (-1)) hx hb hr hlocks hXz (Nat.le_of_ble_eq_true rfl) (Nat.le_of_ble_eq_true rfl) hP hS dX5_neighbour_68 (by unfold k_neighbour; simp only [if_pos c_3, if_neg c_5, if_neg c_35, if_pos c_37, if_neg c_39, if_neg c_45, if_neg c_47, if_neg c_49])
                · refine lv_iload hx hb dX5_neighbour_55 (lv_at hl 0 rfl) ?_
                  exact z_iret (v := (k_stepFrom cell (cpS 3))) hx hb hr hlocks hXz (Nat.le_of_ble_eq_true rfl) (Nat.le_of_ble_eq_true rfl) hP hS dX5_neighbour_57 (by unfold k_neighbour; simp only [if_pos c_3, if_neg c_5, if_neg c_35, if_pos c_37, if_neg c_39, if_neg c_45, if_neg c_47, if_pos c_49])
            · refine lv_iload hx hb dX5_neighbour_55 (lv_at hl 0 rfl) ?_
              exact z_iret (v := (k_stepFrom cell (cpS 2))) hx hb hr hlocks hXz (Nat.le_of_ble_eq_true rfl) (Nat.le_of_ble_eq_true rfl) hP hS dX5_neighbour_57 (by unfold k_neighbour; simp only [if_pos c_3, if_neg c_5, if_neg c_35, if_pos c_37, if_neg c_39, if_pos c_45])
        · refine lv_iload_n hx hb dX5_neighbour_50 rfl (lv_at hl 2 rfl) ?_
          refine lv_iload_n hx hb dX5_neighbour_51 rfl (lv_at hl 5 rfl) ?_
          refine lv_icmp_ne (x := nI (1)) (y := at_) (tgt := 58) hx hb dX5_neighbour_52 (by decide) (fun c_51 => ?_) (fun c_51 => ?_)
          · refine n_iinc (x := 1) (dN := 1) (k := 2) (lv' := [(3, .int (nI (2))), (5, .int ((k_stepFrom cell (cpS 1)))), (4, .int (nI (1))), (0, .ref (o)), (1, .int (cell)), (2, .int (at_))]) hx hb dX5_neighbour_58 hl rfl (by decide) rfl (fun ls hl => ?_)
            refine n_iinc (x := 1) (dN := 1) (k := 2) (lv' := [(4, .int (nI (2))), (3, .int (nI (2))), (5, .int ((k_stepFrom cell (cpS 1)))), (0, .ref (o)), (1, .int (cell)), (2, .int (at_))]) hx hb dX5_neighbour_61 hl rfl (by decide) rfl (fun ls hl => ?_)
            refine lv_goto (tgt := 23) hx hb dX5_neighbour_64 (by decide) ?_
            refine lv_iload hx hb dX5_neighbour_23 (lv_at hl 0 rfl) ?_
            refine va_gets hx hb hZ.1.1 hS hown (hts _ (List.mem_of_getElem? (i := 3) rfl)) (fun _ h => h) dX5_neighbour_25 ?_
            refine va_tlen hx hb hZ.1.2 hS (v := nI 4) rfl dX5_neighbour_28 ?_
            refine n_icmp_ge (x := 2) (y := 4) (tgt := 67) hx hb (by omega) (by omega) dX5_neighbour_29 (by decide) (fun c_52 => absurd c_52 (by omega)) (fun c_52 => ?_)
            refine lv_iload_n hx hb dX5_neighbour_32 rfl (lv_at hl 4 rfl) ?_
            refine va_gets hx hb hZ.1.1 hS hown (hts _ (List.mem_of_getElem? (i := 3) rfl)) (fun _ h => h) dX5_neighbour_33 ?_
            refine lv_iload hx hb dX5_neighbour_36 (lv_at hl 0 rfl) ?_
            refine va_ti hx hb hZ.1.2 hS (vp_in_nI (by omega) (by decide)) (v := .int (cpS 2)) (by show Value.int (cpS (nI (2)).toNatClampNeg) = _; rw [nI_clamp (by omega)]) dX5_neighbour_38 ?_
            refine p_callS (As := [.int (cell), .int (cpS 2)]) (rest := []) ⟨hx, hb, hml, hown, hts⟩ (ck_stepFrom l cell (cpS 2)) (va_cwS 2 hts gX5_neighbour_X5_stepFrom rfl rfl rfl (by decide +kernel) ⟨Nat.le_of_ble_eq_true rfl, Nat.le_of_ble_eq_true rfl⟩) hP hS rfl hl.1 rfl (Nat.le_of_ble_eq_true rfl) dX5_neighbour_39 ⟨Nat.le_of_ble_eq_true rfl, Nat.le_of_ble_eq_true rfl⟩ (fun H locs hP hS => ?_)
            refine lv_istore (lv' := [(5, .int ((k_stepFrom cell (cpS 2)))), (4, .int (nI (2))), (3, .int (nI (2))), (0, .ref (o)), (1, .int (cell)), (2, .int (at_))]) hx hb dX5_neighbour_42 hl (by decide) rfl (fun ls hl => ?_)
            refine lv_iload hx hb dX5_neighbour_44 (lv_at hl 0 rfl) ?_
            refine lv_iconst (v := (-1)) hx hb dX5_neighbour_46 (by decide) ?_
            refine lv_icmp_eq (x := (k_stepFrom cell (cpS 2))) (y := (-1)) (tgt := 61) hx hb dX5_neighbour_47 (by decide) (fun c_53 => ?_) (fun c_53 => ?_)
            · refine n_iinc (x := 2) (dN := 1) (k := 1) (lv' := [(4, .int (nI (3))), (5, .int ((k_stepFrom cell (cpS 2)))), (3, .int (nI (2))), (0, .ref (o)), (1, .int (cell)), (2, .int (at_))]) hx hb dX5_neighbour_61 hl rfl (by decide) rfl (fun ls hl => ?_)
              refine lv_goto (tgt := 23) hx hb dX5_neighbour_64 (by decide) ?_
              refine lv_iload hx hb dX5_neighbour_23 (lv_at hl 0 rfl) ?_
              refine va_gets hx hb hZ.1.1 hS hown (hts _ (List.mem_of_getElem? (i := 3) rfl)) (fun _ h => h) dX5_neighbour_25 ?_
              refine va_tlen hx hb hZ.1.2 hS (v := nI 4) rfl dX5_neighbour_28 ?_
              refine n_icmp_ge (x := 3) (y := 4) (tgt := 67) hx hb (by omega) (by omega) dX5_neighbour_29 (by decide) (fun c_54 => absurd c_54 (by omega)) (fun c_54 => ?_)
              refine lv_iload_n hx hb dX5_neighbour_32 rfl (lv_at hl 4 rfl) ?_
              refine va_gets hx hb hZ.1.1 hS hown (hts _ (List.mem_of_getElem? (i := 3) rfl)) (fun _ h => h) dX5_neighbour_33 ?_
              refine lv_iload hx hb dX5_neighbour_36 (lv_at hl 0 rfl) ?_
              refine va_ti hx hb hZ.1.2 hS (vp_in_nI (by omega) (by decide)) (v := .int (cpS 3)) (by show Value.int (cpS (nI (3)).toNatClampNeg) = _; rw [nI_clamp (by omega)]) dX5_neighbour_38 ?_
              refine p_callS (As := [.int (cell), .int (cpS 3)]) (rest := []) ⟨hx, hb, hml, hown, hts⟩ (ck_stepFrom l cell (cpS 3)) (va_cwS 2 hts gX5_neighbour_X5_stepFrom rfl rfl rfl (by decide +kernel) ⟨Nat.le_of_ble_eq_true rfl, Nat.le_of_ble_eq_true rfl⟩) hP hS rfl hl.1 rfl (Nat.le_of_ble_eq_true rfl) dX5_neighbour_39 ⟨Nat.le_of_ble_eq_true rfl, Nat.le_of_ble_eq_true rfl⟩ (fun H locs hP hS => ?_)
              refine lv_istore (lv' := [(5, .int ((k_stepFrom cell (cpS 3)))), (4, .int (nI (3))), (3, .int (nI (2))), (0, .ref (o)), (1, .int (cell)), (2, .int (at_))]) hx hb dX5_neighbour_42 hl (by decide) rfl (fun ls hl => ?_)
              refine lv_iload hx hb dX5_neighbour_44 (lv_at hl 0 rfl) ?_
              refine lv_iconst (v := (-1)) hx hb dX5_neighbour_46 (by decide) ?_
              refine lv_icmp_eq (x := (k_stepFrom cell (cpS 3))) (y := (-1)) (tgt := 61) hx hb dX5_neighbour_47 (by decide) (fun c_55 => ?_) (fun c_55 => ?_)
              · refine n_iinc (x := 3) (dN := 1) (k := 1) (lv' := [(4, .int (nI (4))), (5, .int ((k_stepFrom cell (cpS 3)))), (3, .int (nI (2))), (0, .ref (o)), (1, .int (cell)), (2, .int (at_))]) hx hb dX5_neighbour_61 hl rfl (by decide) rfl (fun ls hl => ?_)
                refine lv_goto (tgt := 23) hx hb dX5_neighbour_64 (by decide) ?_
                refine lv_iload hx hb dX5_neighbour_23 (lv_at hl 0 rfl) ?_
                refine va_gets hx hb hZ.1.1 hS hown (hts _ (List.mem_of_getElem? (i := 3) rfl)) (fun _ h => h) dX5_neighbour_25 ?_
                refine va_tlen hx hb hZ.1.2 hS (v := nI 4) rfl dX5_neighbour_28 ?_
                refine n_icmp_ge (x := 4) (y := 4) (tgt := 67) hx hb (by omega) (by omega) dX5_neighbour_29 (by decide) (fun c_56 => ?_) (fun c_56 => absurd c_56 (by omega))
                refine lv_iconst (v := (-1)) hx hb dX5_neighbour_67 (by decide) ?_
                exact z_iret (v := (-1)) hx hb hr hlocks hXz (Nat.le_of_ble_eq_true rfl) (Nat.le_of_ble_eq_true rfl) hP hS dX5_neighbour_68 (by unfold k_neighbour; simp only [if_pos c_3, if_neg c_5, if_neg c_35, if_neg c_37, if_neg c_51, if_pos c_53, if_pos c_55])
              · refine lv_iload_n hx hb dX5_neighbour_50 rfl (lv_at hl 2 rfl) ?_
                refine lv_iload_n hx hb dX5_neighbour_51 rfl (lv_at hl 5 rfl) ?_
                refine lv_icmp_ne (x := nI (2)) (y := at_) (tgt := 58) hx hb dX5_neighbour_52 (by decide) (fun c_57 => ?_) (fun c_57 => ?_)
                · refine n_iinc (x := 2) (dN := 1) (k := 2) (lv' := [(3, .int (nI (3))), (5, .int ((k_stepFrom cell (cpS 3)))), (4, .int (nI (3))), (0, .ref (o)), (1, .int (cell)), (2, .int (at_))]) hx hb dX5_neighbour_58 hl rfl (by decide) rfl (fun ls hl => ?_)
                  refine n_iinc (x := 3) (dN := 1) (k := 2) (lv' := [(4, .int (nI (4))), (3, .int (nI (3))), (5, .int ((k_stepFrom cell (cpS 3)))), (0, .ref (o)), (1, .int (cell)), (2, .int (at_))]) hx hb dX5_neighbour_61 hl rfl (by decide) rfl (fun ls hl => ?_)
                  refine lv_goto (tgt := 23) hx hb dX5_neighbour_64 (by decide) ?_
                  refine lv_iload hx hb dX5_neighbour_23 (lv_at hl 0 rfl) ?_
                  refine va_gets hx hb hZ.1.1 hS hown (hts _ (List.mem_of_getElem? (i := 3) rfl)) (fun _ h => h) dX5_neighbour_25 ?_
                  refine va_tlen hx hb hZ.1.2 hS (v := nI 4) rfl dX5_neighbour_28 ?_
                  refine n_icmp_ge (x := 4) (y := 4) (tgt := 67) hx hb (by omega) (by omega) dX5_neighbour_29 (by decide) (fun c_58 => ?_) (fun c_58 => absurd c_58 (by omega))
                  refine lv_iconst (v := (-1)) hx hb dX5_neighbour_67 (by decide) ?_
                  exact z_iret (v := (-1)) hx hb hr hlocks hXz (Nat.le_of_ble_eq_true rfl) (Nat.le_of_ble_eq_true rfl) hP hS dX5_neighbour_68 (by unfold k_neighbour; simp only [if_pos c_3, if_neg c_5, if_neg c_35, if_neg c_37, if_neg c_51, if_pos c_53, if_neg c_55, if_neg c_57])
                · refine lv_iload hx hb dX5_neighbour_55 (lv_at hl 0 rfl) ?_
                  exact z_iret (v := (k_stepFrom cell (cpS 3))) hx hb hr hlocks hXz (Nat.le_of_ble_eq_true rfl) (Nat.le_of_ble_eq_true rfl) hP hS dX5_neighbour_57 (by unfold k_neighbour; simp only [if_pos c_3, if_neg c_5, if_neg c_35, if_neg c_37, if_neg c_51, if_pos c_53, if_neg c_55, if_pos c_57])
            · refine lv_iload_n hx hb dX5_neighbour_50 rfl (lv_at hl 2 rfl) ?_
              refine lv_iload_n hx hb dX5_neighbour_51 rfl (lv_at hl 5 rfl) ?_
              refine lv_icmp_ne (x := nI (2)) (y := at_) (tgt := 58) hx hb dX5_neighbour_52 (by decide) (fun c_59 => ?_) (fun c_59 => ?_)
              · refine n_iinc (x := 2) (dN := 1) (k := 2) (lv' := [(3, .int (nI (3))), (5, .int ((k_stepFrom cell (cpS 2)))), (4, .int (nI (2))), (0, .ref (o)), (1, .int (cell)), (2, .int (at_))]) hx hb dX5_neighbour_58 hl rfl (by decide) rfl (fun ls hl => ?_)
                refine n_iinc (x := 2) (dN := 1) (k := 2) (lv' := [(4, .int (nI (3))), (3, .int (nI (3))), (5, .int ((k_stepFrom cell (cpS 2)))), (0, .ref (o)), (1, .int (cell)), (2, .int (at_))]) hx hb dX5_neighbour_61 hl rfl (by decide) rfl (fun ls hl => ?_)
                refine lv_goto (tgt := 23) hx hb dX5_neighbour_64 (by decide) ?_
                refine lv_iload hx hb dX5_neighbour_23 (lv_at hl 0 rfl) ?_
                refine va_gets hx hb hZ.1.1 hS hown (hts _ (List.mem_of_getElem? (i := 3) rfl)) (fun _ h => h) dX5_neighbour_25 ?_
                refine va_tlen hx hb hZ.1.2 hS (v := nI 4) rfl dX5_neighbour_28 ?_
                refine n_icmp_ge (x := 3) (y := 4) (tgt := 67) hx hb (by omega) (by omega) dX5_neighbour_29 (by decide) (fun c_60 => absurd c_60 (by omega)) (fun c_60 => ?_)
                refine lv_iload_n hx hb dX5_neighbour_32 rfl (lv_at hl 4 rfl) ?_
                refine va_gets hx hb hZ.1.1 hS hown (hts _ (List.mem_of_getElem? (i := 3) rfl)) (fun _ h => h) dX5_neighbour_33 ?_
                refine lv_iload hx hb dX5_neighbour_36 (lv_at hl 0 rfl) ?_
                refine va_ti hx hb hZ.1.2 hS (vp_in_nI (by omega) (by decide)) (v := .int (cpS 3)) (by show Value.int (cpS (nI (3)).toNatClampNeg) = _; rw [nI_clamp (by omega)]) dX5_neighbour_38 ?_
                refine p_callS (As := [.int (cell), .int (cpS 3)]) (rest := []) ⟨hx, hb, hml, hown, hts⟩ (ck_stepFrom l cell (cpS 3)) (va_cwS 2 hts gX5_neighbour_X5_stepFrom rfl rfl rfl (by decide +kernel) ⟨Nat.le_of_ble_eq_true rfl, Nat.le_of_ble_eq_true rfl⟩) hP hS rfl hl.1 rfl (Nat.le_of_ble_eq_true rfl) dX5_neighbour_39 ⟨Nat.le_of_ble_eq_true rfl, Nat.le_of_ble_eq_true rfl⟩ (fun H locs hP hS => ?_)
                refine lv_istore (lv' := [(5, .int ((k_stepFrom cell (cpS 3)))), (4, .int (nI (3))), (3, .int (nI (3))), (0, .ref (o)), (1, .int (cell)), (2, .int (at_))]) hx hb dX5_neighbour_42 hl (by decide) rfl (fun ls hl => ?_)
                refine lv_iload hx hb dX5_neighbour_44 (lv_at hl 0 rfl) ?_
                refine lv_iconst (v := (-1)) hx hb dX5_neighbour_46 (by decide) ?_
                refine lv_icmp_eq (x := (k_stepFrom cell (cpS 3))) (y := (-1)) (tgt := 61) hx hb dX5_neighbour_47 (by decide) (fun c_61 => ?_) (fun c_61 => ?_)
                · refine n_iinc (x := 3) (dN := 1) (k := 1) (lv' := [(4, .int (nI (4))), (5, .int ((k_stepFrom cell (cpS 3)))), (3, .int (nI (3))), (0, .ref (o)), (1, .int (cell)), (2, .int (at_))]) hx hb dX5_neighbour_61 hl rfl (by decide) rfl (fun ls hl => ?_)
                  refine lv_goto (tgt := 23) hx hb dX5_neighbour_64 (by decide) ?_
                  refine lv_iload hx hb dX5_neighbour_23 (lv_at hl 0 rfl) ?_
                  refine va_gets hx hb hZ.1.1 hS hown (hts _ (List.mem_of_getElem? (i := 3) rfl)) (fun _ h => h) dX5_neighbour_25 ?_
                  refine va_tlen hx hb hZ.1.2 hS (v := nI 4) rfl dX5_neighbour_28 ?_
                  refine n_icmp_ge (x := 4) (y := 4) (tgt := 67) hx hb (by omega) (by omega) dX5_neighbour_29 (by decide) (fun c_62 => ?_) (fun c_62 => absurd c_62 (by omega))
                  refine lv_iconst (v := (-1)) hx hb dX5_neighbour_67 (by decide) ?_
                  exact z_iret (v := (-1)) hx hb hr hlocks hXz (Nat.le_of_ble_eq_true rfl) (Nat.le_of_ble_eq_true rfl) hP hS dX5_neighbour_68 (by unfold k_neighbour; simp only [if_pos c_3, if_neg c_5, if_neg c_35, if_neg c_37, if_neg c_51, if_neg c_53, if_neg c_59, if_pos c_61])
                · refine lv_iload_n hx hb dX5_neighbour_50 rfl (lv_at hl 2 rfl) ?_
                  refine lv_iload_n hx hb dX5_neighbour_51 rfl (lv_at hl 5 rfl) ?_
                  refine lv_icmp_ne (x := nI (3)) (y := at_) (tgt := 58) hx hb dX5_neighbour_52 (by decide) (fun c_63 => ?_) (fun c_63 => ?_)
                  · refine n_iinc (x := 3) (dN := 1) (k := 2) (lv' := [(3, .int (nI (4))), (5, .int ((k_stepFrom cell (cpS 3)))), (4, .int (nI (3))), (0, .ref (o)), (1, .int (cell)), (2, .int (at_))]) hx hb dX5_neighbour_58 hl rfl (by decide) rfl (fun ls hl => ?_)
                    refine n_iinc (x := 3) (dN := 1) (k := 2) (lv' := [(4, .int (nI (4))), (3, .int (nI (4))), (5, .int ((k_stepFrom cell (cpS 3)))), (0, .ref (o)), (1, .int (cell)), (2, .int (at_))]) hx hb dX5_neighbour_61 hl rfl (by decide) rfl (fun ls hl => ?_)
                    refine lv_goto (tgt := 23) hx hb dX5_neighbour_64 (by decide) ?_
                    refine lv_iload hx hb dX5_neighbour_23 (lv_at hl 0 rfl) ?_
                    refine va_gets hx hb hZ.1.1 hS hown (hts _ (List.mem_of_getElem? (i := 3) rfl)) (fun _ h => h) dX5_neighbour_25 ?_
                    refine va_tlen hx hb hZ.1.2 hS (v := nI 4) rfl dX5_neighbour_28 ?_
                    refine n_icmp_ge (x := 4) (y := 4) (tgt := 67) hx hb (by omega) (by omega) dX5_neighbour_29 (by decide) (fun c_64 => ?_) (fun c_64 => absurd c_64 (by omega))
                    refine lv_iconst (v := (-1)) hx hb dX5_neighbour_67 (by decide) ?_
                    exact z_iret (v := (-1)) hx hb hr hlocks hXz (Nat.le_of_ble_eq_true rfl) (Nat.le_of_ble_eq_true rfl) hP hS dX5_neighbour_68 (by unfold k_neighbour; simp only [if_pos c_3, if_neg c_5, if_neg c_35, if_neg c_37, if_neg c_51, if_neg c_53, if_neg c_59, if_neg c_61, if_neg c_63])
                  · refine lv_iload hx hb dX5_neighbour_55 (lv_at hl 0 rfl) ?_
                    exact z_iret (v := (k_stepFrom cell (cpS 3))) hx hb hr hlocks hXz (Nat.le_of_ble_eq_true rfl) (Nat.le_of_ble_eq_true rfl) hP hS dX5_neighbour_57 (by unfold k_neighbour; simp only [if_pos c_3, if_neg c_5, if_neg c_35, if_neg c_37, if_neg c_51, if_neg c_53, if_neg c_59, if_neg c_61, if_pos c_63])
              · refine lv_iload hx hb dX5_neighbour_55 (lv_at hl 0 rfl) ?_
                exact z_iret (v := (k_stepFrom cell (cpS 2))) hx hb hr hlocks hXz (Nat.le_of_ble_eq_true rfl) (Nat.le_of_ble_eq_true rfl) hP hS dX5_neighbour_57 (by unfold k_neighbour; simp only [if_pos c_3, if_neg c_5, if_neg c_35, if_neg c_37, if_neg c_51, if_neg c_53, if_pos c_59])
          · refine lv_iload hx hb dX5_neighbour_55 (lv_at hl 0 rfl) ?_
            exact z_iret (v := (k_stepFrom cell (cpS 1))) hx hb hr hlocks hXz (Nat.le_of_ble_eq_true rfl) (Nat.le_of_ble_eq_true rfl) hP hS dX5_neighbour_57 (by unfold k_neighbour; simp only [if_pos c_3, if_neg c_5, if_neg c_35, if_neg c_37, if_pos c_51])
      · refine lv_iload hx hb dX5_neighbour_55 (lv_at hl 0 rfl) ?_
        exact z_iret (v := (k_stepFrom cell (cpS 0))) hx hb hr hlocks hXz (Nat.le_of_ble_eq_true rfl) (Nat.le_of_ble_eq_true rfl) hP hS dX5_neighbour_57 (by unfold k_neighbour; simp only [if_pos c_3, if_neg c_5, if_pos c_35])
  · have hXt_65 : (kx_neighbour σ cell at_) = 1 := by unfold kx_neighbour; simp only [xs, if_pos hX_1, if_neg c_3] <;> decide
    exact p_throw hx hb hl0 (own := RX5) (cls := "java/lang/IndexOutOfBoundsException") (names := ["java/lang/RuntimeException", "java/lang/Exception"]) (ik := 160) (ic := 162) hown (by decide +kernel) (by decide +kernel) (hts _ (List.mem_of_getElem? (i := 1) rfl)) (hts _ (List.mem_of_getElem? (i := 2) rfl)) (vx_hat (B := xNW) (fun w hw => hts _ ((fun w h => List.mem_cons_of_mem _ (List.mem_append_right _ h)) w hw)) (by decide +kernel) (fun w hw => va_Nw.use (xNW_tab w hw) (hZ.2.2.2.2.1 w hw))) (by decide +kernel) hno hlocks hZ hP hS (hl.1.trans hml.symm) dX5_neighbour_10 dX5_neighbour_13 dX5_neighbour_14 dX5_neighbour_17 (Nat.le_of_ble_eq_true rfl) (Nat.le_of_ble_eq_true rfl) (Nat.le_of_ble_eq_true rfl) (Nat.le_of_ble_eq_true rfl) (by rw [hXt_65]; decide) (by rw [hXt_65]; rfl) (Nat.le_of_ble_eq_true rfl) (Nat.le_of_ble_eq_true rfl)
