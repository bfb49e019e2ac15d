def k_breach_k88 (σ : Sg) (cell : Int32) (x_5 : Int32) (s_12 : Sg) (z37 : Int32 × Sg) (s_19 : Sg) : Int32 := z37.1
def k_breach_k88_s (σ : Sg) (cell : Int32) (x_5 : Int32) (s_12 : Sg) (z37 : Int32 × Sg) (s_19 : Sg) : Sg := s_19
def k_breach_x37 (σ : Sg) (cell : Int32) (x_5 : Int32) (s_12 : Sg) (z37 : Int32 × Sg) : Int32 := (k_breach_k88 σ cell x_5 s_12 z37 (sl z37.2 29 (((z37.2.2 29)) + ((z37.1).toInt64))))
def k_breach_x37_s (σ : Sg) (cell : Int32) (x_5 : Int32) (s_12 : Sg) (z37 : Int32 × Sg) : Sg := (k_breach_k88_s σ cell x_5 s_12 z37 (sl z37.2 29 (((z37.2.2 29)) + ((z37.1).toInt64))))
def k_breach_k71 (i37 : Nat) (z37 : Int32 × Sg) (s_23 : Sg) : Int32 × Sg := ((z37.1) + ((z37.2.1 3 (((z37.2.1 32 i37)).toNatClampNeg))), s_23)
def k_breach_b37  (i37 : Nat) (z37 : Int32 × Sg) : Int32 × Sg := (k_breach_k71 i37 z37 (si z37.2 3 (((z37.2.1 32 i37)).toNatClampNeg) (nI (0))))
def k_breach_k31 (σ : Sg) (cell : Int32) (x_5 : Int32) (s_12 : Sg) : Int32 := (k_breach_x37 σ cell x_5 s_12 (lp (k_breach_b37) ((k_gatherOneLake σ cell).toNatClampNeg) (nI (0), s_12)))
def k_breach_k31_s (σ : Sg) (cell : Int32) (x_5 : Int32) (s_12 : Sg) : Sg := (k_breach_x37_s σ cell x_5 s_12 (lp (k_breach_b37) ((k_gatherOneLake σ cell).toNatClampNeg) (nI (0), s_12)))
def k_breach_j23 (σ : Sg) (cell : Int32) (x_5 : Int32) : Int32 := (k_breach_k31 σ cell x_5 (k_gatherOneLake_s σ cell))
def k_breach_j23_s (σ : Sg) (cell : Int32) (x_5 : Int32) : Sg := (k_breach_k31_s σ cell x_5 (k_gatherOneLake_s σ cell))
def k_breach (σ : Sg) (cell : Int32) : Int32 := (k_breach_j23 σ cell (if (σ.1 3 ((cell).toNatClampNeg)) ≤ 0 then nI (0) else nI (1)))
def k_breach_s (σ : Sg) (cell : Int32) : Sg := (k_breach_j23_s σ cell (if (σ.1 3 ((cell).toNatClampNeg)) ≤ 0 then nI (0) else nI (1)))
def kx_breach (σ : Sg) (cell : Int32) : Nat := xs (xIx (cell) (nI (25))) (xs (xSt ((if (σ.1 3 ((cell).toNatClampNeg)) ≤ 0 then nI (0) else nI (1)))) (0))
theorem k_breach_32 (n : Nat) (z : Int32 × Sg) : (lp (k_breach_b37) n z).2.1 32 = z.2.1 32 := lp_kpB (P := fun (z : Int32 × Sg) => z.2.1 32) (fun i z => by simp only [k_breach_b37, k_breach_k88, k_breach_k88_s, k_breach_x37, k_breach_x37_s, k_breach_k71, k_breach_k31, k_breach_k31_s, k_breach_j23, k_breach_j23_s, k_breach, k_breach_s, kx_breach]; exact si_ne (by decide)) n z
set_option maxHeartbeats 4000000 in
set_option maxRecDepth 100000 in
theorem cx_breach (l : Launch) (hl0 : l.stackTraces = false) (G : va_G) (ids : Nat → ClassId) (o z tS tE : Nat) (d : Nat → Nat → Nat) (w : Nat → Nat) (σ : Sg) (cell : Int32) : zI l yX5_breach wsX5_breach ({ frames := 7, cells := 2, slots := 12, locals := 121 } : Room) G ids tS tE [.ref (o), .int (cell)] (CPic G ids o z tE d w σ) (kx_breach σ cell) (k_breach σ cell) (CPic G ids o z tE d w (k_breach_s σ cell)) (cpG o z) 2 12 := by
  unfold zI
  refine vx_ofW (cc := cX5_breach) (maxL := 6) (ret := (some .int)) (by decide) rfl ?_
  intro p e s m args below meth c s₁ B hml hno hv
  obtain ⟨rfl, hP, hK, hZ⟩ := hv
  have hx := B.exec
  have hb := B.bytes
  have hr := B.returns
  have hts := atoms_spec (ws := wsX5_breach) B.pre
  have hown : s.vm.findClass RX5 = some m.cls := findClass_of_methodNamed B.named
  have hlocks := B.notSynchronized
  have hS : va_S (cpG o z) s.heap s.heap [] := va_S.rf
  have hin_wsX50 : ∀ w ∈ wsX50, w ∈ wsX5_breach := fun w h => List.mem_cons_of_mem _ (List.mem_append_left _ (List.mem_append_left _ (List.mem_append_left _ (List.mem_append_right _ h))))
  have hin_wsX10 : ∀ w ∈ wsX10, w ∈ wsX5_breach := fun w h => List.mem_cons_of_mem _ (List.mem_append_left _ (List.mem_append_left _ (List.mem_append_right _ h)))
  have hl := lv_entry ([.ref (o), .int (cell)]) (n := 6) (Nat.le_of_ble_eq_true rfl)
  rw [lg_entry_eq]
  generalize (lg_sl ([.ref (o), .int (cell)]) ++ List.replicate (6 - (lg_sl ([.ref (o), .int (cell)])).length) Slot.unset).toArray = ls at hl ⊢
  have hl : lv_has ls 6 [(0, .ref (o)), (1, .int (cell))] := hl
  refine w_named (fun WW hWW => ?_)
  refine lv_iload_n hx hb dX5_breach_0 rfl (lv_at hl 1 rfl) ?_
  refine lv_bipush (v := nI (25)) hx hb dX5_breach_1 (by decide) ?_
  refine p_need (As := [.int (cell), .int (nI (25))]) (rest := []) (X := xIx (cell) (nI (25))) (c1 := 1) (s1 := 6) ⟨hx, hb, hml, hown, hts⟩ (ck_needIndex l hl0 tS tE (cell) (nI (25))) (va_cwS 2 hts gX5_breach_X5_needIndex rfl rfl rfl (by decide +kernel) ⟨Nat.le_of_ble_eq_true rfl, Nat.le_of_ble_eq_true rfl⟩) hno hlocks hZ hP hS rfl hl.1 rfl (Nat.le_of_ble_eq_true rfl) dX5_breach_3 ⟨Nat.le_of_ble_eq_true rfl, Nat.le_of_ble_eq_true rfl⟩ rfl rfl (Nat.le_of_ble_eq_true rfl) (Nat.le_of_ble_eq_true rfl) (fun hq_2 => by unfold kx_breach; simp only [xs, if_neg hq_2]) (fun hX_1 H locs hP hS => ?_)
  have hcell := hX_1
  refine lv_aload_n hx hb dX5_breach_6 rfl (lv_at hl 0 rfl) ?_
  refine x_get (C := RX5) (T := TX5) (N := 10) (ci := 6) (fs := (cpOf o σ)) (v := .ref (o + 1)) hx hb hts hin_wsX50 hown hK hP.main rfl 0 (by decide) (index := 11) (List.mem_of_getElem? (i := 1) rfl) rfl dX5_breach_7 ?_
  refine lv_iload_n hx hb dX5_breach_10 rfl (lv_at hl 1 rfl) ?_
  refine x_aald (r := o + 9 + 7 * ((cell).toNatClampNeg)) hx hb hK 3 rfl hP.crow (xIx_in (by decide) hcell) rfl dX5_breach_11 ?_
  refine x_get (C := RX1) (T := TX1) (N := 7) (ci := 2) (fs := (cfs (o + 9 + 7 * ((cell).toNatClampNeg)) ((cell).toNatClampNeg) σ)) (v := .int ((σ.1 3 ((cell).toNatClampNeg)))) hx hb hts hin_wsX10 hown hK (hP.cell (vp_lt (xIx_in (by decide) hcell))) rfl 2 (by decide) (index := 99) (List.mem_of_getElem? (i := 2) rfl) rfl dX5_breach_12 ?_
  have J23_6 : ∀ (x_5 : Int32), x_5 = (if (σ.1 3 ((cell).toNatClampNeg)) ≤ 0 then nI (0) else nI (1)) → ∀ (H : Heap) (locs : List Loc), CPic G ids o z tE d w σ H → va_S (cpG o z) s.heap H locs → ∀ (ls : Array Slot), lv_has ls 6 [(0, .ref (o)), (1, .int (cell))] → WW H locs 1 6 (F0 m 23 ls [.int (x_5)]) := by
    intro x_5 h_7 H locs hP hS ls hl
    refine (hWW _ _ _ _ _).mpr ?_
    have hR_8 : k_breach σ cell = k_breach_j23 σ cell x_5 := (by have q_ := h_7.symm; subst q_; unfold k_breach; rfl)
    have hR_9 : k_breach_s σ cell = k_breach_j23_s σ cell x_5 := (by have q_ := h_7.symm; subst q_; unfold k_breach_s; rfl)
    refine p_need (As := [.int (x_5)]) (rest := []) (X := xSt (x_5)) (c1 := 2) (s1 := 12) ⟨hx, hb, hml, hown, hts⟩ (ck_needState l hl0 tS tE (x_5)) (va_cwS 1 hts gX5_breach_X5_needState rfl rfl rfl (by decide +kernel) ⟨Nat.le_of_ble_eq_true rfl, Nat.le_of_ble_eq_true rfl⟩) hno hlocks hZ hP hS rfl hl.1 rfl (Nat.le_of_ble_eq_true rfl) dX5_breach_23 ⟨Nat.le_of_ble_eq_true rfl, Nat.le_of_ble_eq_true rfl⟩ rfl rfl (Nat.le_of_ble_eq_true rfl) (Nat.le_of_ble_eq_true rfl) (fun hq_11 => by have q_ := h_7.symm; subst q_; unfold kx_breach; simp only [xs, if_pos hX_1, if_neg hq_11]) (fun hX_10 H locs hP hS => ?_)
    have hXz : (kx_breach σ cell) = 0 := by have q_ := h_7.symm; subst q_; unfold kx_breach; simp only [xs, if_pos hX_1, if_pos hX_10]
    refine lv_aload_n hx hb dX5_breach_26 rfl (lv_at hl 0 rfl) ?_
    refine lv_iload_n hx hb dX5_breach_27 rfl (lv_at hl 1 rfl) ?_
    refine y_callI (As := [.int (cell)]) (rest := []) ⟨hx, hb, hml, hown, hts⟩ (ck_gatherOneLake l G ids o z tS tE d w σ cell (fun _ => xIx_in (by decide) hcell)) (cwV 1 hts gX5_breach_X5_gatherOneLake rfl rfl rfl (by decide +kernel) ⟨Nat.le_of_ble_eq_true rfl, Nat.le_of_ble_eq_true rfl⟩) hK hZ hP.main rfl hP hS rfl hl.1 rfl (Nat.le_of_ble_eq_true rfl) dX5_breach_28 ⟨Nat.le_of_ble_eq_true rfl, Nat.le_of_ble_eq_true rfl⟩ (fun H locs hP hS => ?_)
    obtain ⟨s_12, e_13⟩ : ∃ z : Sg, z = (k_gatherOneLake_s σ cell) := ⟨_, rfl⟩
    rw [← e_13] at hP
    have hR_14 : k_breach σ cell = k_breach_k31 σ cell x_5 s_12 := (Eq.trans hR_8 (by have q_ := e_13.symm; subst q_; unfold k_breach_j23; rfl))
    have hR_15 : k_breach_s σ cell = k_breach_k31_s σ cell x_5 s_12 := (Eq.trans hR_9 (by have q_ := e_13.symm; subst q_; unfold k_breach_j23_s; rfl))
    have hG : gOK (k_gatherOneLake σ cell, s_12) := by rw [e_13]; exact k_gatherOneLake_ok (fun _ => xIx_in (by decide) hcell)
    have hG1 : vp_in (k_gatherOneLake σ cell) 26 := gOK_1 hG
    have hG2 : ∀ j, j < (k_gatherOneLake σ cell).toNatClampNeg → vp_in (s_12.1 32 j) 25 := gOK_2 hG
    have hsz := vp_lt hG1
    refine lv_istore_n (lv' := [(2, .int ((k_gatherOneLake σ cell))), (0, .ref (o)), (1, .int (cell))]) hx hb dX5_breach_31 rfl hl (by decide) rfl (fun ls hl => ?_)
    refine lv_iconst (v := nI (0)) hx hb dX5_breach_32 (by decide) ?_
    refine lv_istore_n (lv' := [(3, .int (nI (0))), (2, .int ((k_gatherOneLake σ cell))), (0, .ref (o)), (1, .int (cell))]) hx hb dX5_breach_33 rfl hl (by decide) rfl (fun ls hl => ?_)
    refine lv_iconst (v := nI (0)) hx hb dX5_breach_34 (by decide) ?_
    refine lv_istore (lv' := [(4, .int (nI (0))), (3, .int (nI (0))), (2, .int ((k_gatherOneLake σ cell))), (0, .ref (o)), (1, .int (cell))]) hx hb dX5_breach_35 hl (by decide) rfl (fun ls hl => ?_)
    have L37 : ∀ (n37 i37 : Nat), i37 ≤ (k_gatherOneLake σ cell).toNatClampNeg → ((k_gatherOneLake σ cell).toNatClampNeg) + 1 ≤ i37 + n37 → ∀ (z37 : Int32 × Sg), z37 = lp (k_breach_b37) i37 (nI (0), s_12) → ∀ (H : Heap) (locs : List Loc), CPic G ids o z tE d w z37.2 H → va_S (cpG o z) s.heap H locs → ∀ (ls : Array Slot), lv_has ls 6 [(4, .int (nI (i37))), (3, .int (z37.1)), (2, .int ((k_gatherOneLake σ cell))), (0, .ref (o)), (1, .int (cell))] → WW H locs 2 12 (F0 m 37 ls []) := by
      intro n37
      induction n37 with
      | zero => intro i37 h1 h2; exact absurd h2 (by omega)
      | succ n37 ih37 =>
        intro i37 hi37 hn37 z37 hz37  H locs hP hS ls hl
        refine (hWW _ _ _ _ _).mpr ?_
        have k32 : z37.2.1 32 = s_12.1 32 := by rw [hz37]; exact k_breach_32 _ _
        refine lv_iload hx hb dX5_breach_37 (lv_at hl 0 rfl) ?_
        refine lv_iload_n hx hb dX5_breach_39 rfl (lv_at hl 2 rfl) ?_
        refine W.eq (g2 := F0 m 40 ls (.int (nI ((k_gatherOneLake σ cell).toNatClampNeg)) :: .int (nI (i37)) :: [])) (congrArg (fun v => F0 m 40 ls (Value.int v :: .int (nI (i37)) :: [])) (vp_self hG1)) ?_
        refine n_icmp_ge (x := i37) (y := (k_gatherOneLake σ cell).toNatClampNeg) (tgt := 77) hx hb (by omega) (by omega) dX5_breach_40 (by decide) (fun c_16 => ?_) (fun c_16 => ?_)
        · have hiN : (k_gatherOneLake σ cell).toNatClampNeg = i37 := by omega
          subst hiN
          have hR_17 : k_breach σ cell = k_breach_x37 σ cell x_5 s_12 z37 := (Eq.trans hR_14 (by have q_ := hz37.symm; subst q_; unfold k_breach_k31; rfl))
          have hR_18 : k_breach_s σ cell = k_breach_x37_s σ cell x_5 s_12 z37 := (Eq.trans hR_15 (by have q_ := hz37.symm; subst q_; unfold k_breach_k31_s; rfl))
          refine lv_aload_n hx hb dX5_breach_77 rfl (lv_at hl 3 rfl) ?_
          refine lv_dup hx hb dX5_breach_78 rfl ?_
          refine x_get (C := RX5) (T := TX5) (N := 10) (ci := 6) (fs := (cpOf o z37.2)) (v := .long ((z37.2.2 29))) hx hb hts hin_wsX50 hown hK hP.main rfl 7 (by decide) (index := 105) (List.mem_of_getElem? (i := 4) rfl) rfl dX5_breach_79 ?_
          refine lv_iload_n hx hb dX5_breach_82 rfl (lv_at hl 1 rfl) ?_
          refine lv_i2l (v := (z37.1).toInt64) hx hb dX5_breach_83 rfl ?_
          refine lv_ladd hx hb dX5_breach_84 ?_
          refine p_drained (v := ((z37.2.2 29)) + ((z37.1).toInt64)) hx hb hts hin_wsX50 hown hK hP hS (index := 105) (List.mem_of_getElem? (i := 4) rfl) dX5_breach_85 (fun H locs hP hS => ?_)
          obtain ⟨s_19, e_20⟩ : ∃ z : Sg, z = (sl z37.2 29 (((z37.2.2 29)) + ((z37.1).toInt64))) := ⟨_, rfl⟩
          rw [← e_20] at hP
          have hR_21 : k_breach σ cell = k_breach_k88 σ cell x_5 s_12 z37 s_19 := (Eq.trans hR_17 (by have q_ := e_20.symm; subst q_; unfold k_breach_x37; rfl))
          have hR_22 : k_breach_s σ cell = k_breach_k88_s σ cell x_5 s_12 z37 s_19 := (Eq.trans hR_18 (by have q_ := e_20.symm; subst q_; unfold k_breach_x37_s; rfl))
          refine lv_iload_n hx hb dX5_breach_88 rfl (lv_at hl 1 rfl) ?_
          have hsp : s_19 = k_breach_s σ cell := (Eq.trans (by unfold k_breach_k88_s; rfl) hR_22.symm)
          rw [hsp] at hP
          exact z_iret (v := z37.1) hx hb hr hlocks hXz (Nat.le_of_ble_eq_true rfl) (Nat.le_of_ble_eq_true rfl) hP hS dX5_breach_89 (Eq.trans (by unfold k_breach_k88; rfl) hR_21.symm)
        · refine lv_aload_n hx hb dX5_breach_43 rfl (lv_at hl 3 rfl) ?_
          refine x_get (C := RX5) (T := TX5) (N := 10) (ci := 6) (fs := (cpOf o z37.2)) (v := .ref (o + 1)) hx hb hts hin_wsX50 hown hK hP.main rfl 0 (by decide) (index := 11) (List.mem_of_getElem? (i := 1) rfl) rfl dX5_breach_44 ?_
          refine lv_aload_n hx hb dX5_breach_47 rfl (lv_at hl 3 rfl) ?_
          refine x_get (C := RX5) (T := TX5) (N := 10) (ci := 6) (fs := (cpOf o z37.2)) (v := .ref (o + 7)) hx hb hts hin_wsX50 hown hK hP.main rfl 8 (by decide) (index := 35) (List.mem_of_getElem? (i := 3) rfl) rfl dX5_breach_48 ?_
          refine lv_iload hx hb dX5_breach_51 (lv_at hl 0 rfl) ?_
          refine x_iald (v := (z37.2.1 32 i37)) hx hb hK hP.lake (vp_in_nI (by omega) (by decide)) (by rw [nI_clamp (by omega)]) dX5_breach_53 ?_
          refine x_aald (r := o + 9 + 7 * (((z37.2.1 32 i37)).toNatClampNeg)) hx hb hK 3 rfl hP.crow ((by rw [k32]; exact hG2 i37 (by omega))) rfl dX5_breach_54 ?_
          refine lv_astore (lv' := [(5, .ref (o + 9 + 7 * (((z37.2.1 32 i37)).toNatClampNeg))), (4, .int (nI (i37))), (3, .int (z37.1)), (2, .int ((k_gatherOneLake σ cell))), (0, .ref (o)), (1, .int (cell))]) hx hb dX5_breach_55 hl (by decide) rfl (fun ls hl => ?_)
          refine lv_iload_n hx hb dX5_breach_57 rfl (lv_at hl 2 rfl) ?_
          refine lv_aload hx hb dX5_breach_58 (lv_at hl 0 rfl) ?_
          refine x_get (C := RX1) (T := TX1) (N := 7) (ci := 2) (fs := (cfs (o + 9 + 7 * (((z37.2.1 32 i37)).toNatClampNeg)) (((z37.2.1 32 i37)).toNatClampNeg) z37.2)) (v := .int ((z37.2.1 3 (((z37.2.1 32 i37)).toNatClampNeg)))) hx hb hts hin_wsX10 hown hK (hP.cell (vp_lt ((by rw [k32]; exact hG2 i37 (by omega))))) rfl 2 (by decide) (index := 99) (List.mem_of_getElem? (i := 2) rfl) rfl dX5_breach_60 ?_
          refine lv_iadd (x := z37.1) (y := (z37.2.1 3 (((z37.2.1 32 i37)).toNatClampNeg))) hx hb dX5_breach_63 ?_
          refine lv_istore_n (lv' := [(3, .int ((z37.1) + ((z37.2.1 3 (((z37.2.1 32 i37)).toNatClampNeg))))), (5, .ref (o + 9 + 7 * (((z37.2.1 32 i37)).toNatClampNeg))), (4, .int (nI (i37))), (2, .int ((k_gatherOneLake σ cell))), (0, .ref (o)), (1, .int (cell))]) hx hb dX5_breach_64 rfl hl (by decide) rfl (fun ls hl => ?_)
          refine lv_aload hx hb dX5_breach_65 (lv_at hl 1 rfl) ?_
          refine lv_iconst (v := nI (0)) hx hb dX5_breach_67 (by decide) ?_
          refine p_cput (i := ((z37.2.1 32 i37)).toNatClampNeg) (v := nI (0)) hx hb hts hin_wsX10 hown hK hP (vp_lt ((by rw [k32]; exact hG2 i37 (by omega)))) hS 2 3 (by decide) (index := 99) (List.mem_of_getElem? (i := 2) rfl) dX5_breach_68 (fun H locs hP hS => ?_)
          obtain ⟨s_23, e_24⟩ : ∃ z : Sg, z = (si z37.2 3 (((z37.2.1 32 i37)).toNatClampNeg) (nI (0))) := ⟨_, rfl⟩
          rw [← e_24] at hP
          have hR_25 : k_breach_b37 i37 z37 = k_breach_k71 i37 z37 s_23 := (by have q_ := e_24.symm; subst q_; unfold k_breach_b37; rfl)
          refine n_iinc (x := i37) (dN := 1) (k := 2) (lv' := [(4, .int (nI (i37 + 1))), (3, .int ((z37.1) + ((z37.2.1 3 (((z37.2.1 32 i37)).toNatClampNeg))))), (5, .ref (o + 9 + 7 * (((z37.2.1 32 i37)).toNatClampNeg))), (2, .int ((k_gatherOneLake σ cell))), (0, .ref (o)), (1, .int (cell))]) hx hb dX5_breach_71 hl rfl (by decide) rfl (fun ls hl => ?_)
          refine lv_goto (tgt := 37) hx hb dX5_breach_74 (by decide) ?_
          exact (hWW _ _ _ _ _).mp (ih37 (i37 + 1) (by omega) (by omega) (((z37.1) + ((z37.2.1 3 (((z37.2.1 32 i37)).toNatClampNeg))), s_23)) (by show _ = k_breach_b37 i37 (lp (k_breach_b37) i37 (nI (0), s_12)); rw [← hz37]; exact (Eq.trans (by unfold k_breach_k71; rfl) hR_25.symm))  _ _ hP hS _ (lv_sub hl [0, 1, 3, 4, 5] rfl))
    exact (hWW _ _ _ _ _).mp (L37 ((k_gatherOneLake σ cell).toNatClampNeg + 1) 0 (Nat.zero_le _) (by omega) (nI (0), s_12) rfl  _ _ hP hS _ (lv_sub hl [0, 1, 2, 3, 4] rfl))
  refine lv_if_le (x := (σ.1 3 ((cell).toNatClampNeg))) (tgt := 22) hx hb dX5_breach_15 (by decide) (fun c_3 => ?_) (fun c_3 => ?_)
  · refine lv_iconst (v := nI (0)) hx hb dX5_breach_22 (by decide) ?_
    exact (hWW _ _ _ _ _).mp (J23_6 _ (by simp only [if_pos c_3]) _ _ hP hS _ (lv_sub hl [0, 1] rfl))
  · refine lv_iconst (v := nI (1)) hx hb dX5_breach_18 (by decide) ?_
    refine lv_goto (tgt := 23) hx hb dX5_breach_19 (by decide) ?_
    exact (hWW _ _ _ _ _).mp (J23_6 _ (by simp only [if_neg c_3]) _ _ hP hS _ (lv_sub hl [0, 1] rfl))
