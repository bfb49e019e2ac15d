def k_lowestNeighbour_x4 (σ : Sg) (cell : Int32) (z4 : Int32) : Int32 := z4
def k_lowestNeighbour_j59 (σ : Sg) (cell : Int32) (i4 : Nat) (z4 : Int32) (y_5 : Int32) : Int32 := y_5
def k_lowestNeighbour_b4 (σ : Sg) (cell : Int32) (i4 : Nat) (z4 : Int32) : Int32 := (k_lowestNeighbour_j59 σ cell i4 z4 (if (k_stepFrom cell (cpS i4)) = (-1) then z4 else (if z4 = (-1) then (k_stepFrom cell (cpS i4)) else (if (c_level σ ((z4).toNatClampNeg)) ≤ (c_level σ (((k_stepFrom cell (cpS i4))).toNatClampNeg)) then z4 else (k_stepFrom cell (cpS i4))))))
def k_lowestNeighbour (σ : Sg) (cell : Int32) : Int32 := (k_lowestNeighbour_x4 σ cell (lp (k_lowestNeighbour_b4 σ cell) 4 (-1)))
theorem vp_ite {P : Prop} [Decidable P] {x a b : Int32} {n : Nat} (hx : x = if P then a else b) (ha : vp_in a n) (hb : vp_in b n) : vp_in x n := by
  subst hx
  by_cases h : P
  · rw [if_pos h]; exact ha
  · rw [if_neg h]; exact hb
theorem vp_lt25 {x : Int32} (h0 : ¬ x < 0) (h : x < nI 25) : vp_in x 25 := by
  rw [i_lt] at h0 h
  rw [nI_toInt (by decide)] at h
  have e0 : (0 : Int32).toInt = 0 := by decide
  rw [e0] at h0
  exact vp_in_iff.mpr ⟨by omega, by omega⟩
theorem k_stepFrom_in {c s : Int32} (h : ¬ k_stepFrom c s = -1) : vp_in (k_stepFrom c s) 25 := by
  simp only [k_stepFrom_j50, k_stepFrom_j31, k_stepFrom] at h ⊢
  by_cases h1 : c + s < 0
  · rw [if_pos h1] at h; exact absurd rfl h
  · rw [if_neg h1] at h ⊢
    by_cases h2 : c + s < nI 25
    · rw [if_pos h2] at h ⊢
      have hin := vp_lt25 h1 h2
      generalize (if s = -1 then nI 1 else if s = nI 1 then nI 1 else nI 0) = x at h ⊢
      by_cases hx : x = 0
      · rw [if_pos hx]; exact hin
      · rw [if_neg hx] at h ⊢
        by_cases hq : (c + s) / nI 5 = c / nI 5
        · rw [if_pos hq]; exact hin
        · rw [if_neg hq] at h; exact absurd rfl h
    · rw [if_neg h2] at h; exact absurd rfl h
theorem k_lowest_inv (σ : Sg) (cell : Int32) (i : Nat) : ¬ lp (k_lowestNeighbour_b4 σ cell) i (-1) = -1 → vp_in (lp (k_lowestNeighbour_b4 σ cell) i (-1)) 25 := by
  refine lp_inv (f := k_lowestNeighbour_b4 σ cell) (z := -1) (P := fun _ z => ¬ z = -1 → vp_in z 25) (fun h => absurd rfl h) (fun i z hz => ?_) i
  simp only [k_lowestNeighbour_b4, k_lowestNeighbour_x4, k_lowestNeighbour_j59, k_lowestNeighbour]
  by_cases h : k_stepFrom cell (cpS i) = -1
  · simp only [if_pos h]; exact hz
  · simp only [if_neg h]
    have hn := k_stepFrom_in h
    split
    · exact fun _ => hn
    · split
      · first | exact fun _ => hn | exact hz
      · first | exact fun _ => hn | exact hz
theorem k_lowestNeighbour_in {σ : Sg} {cell : Int32} (h : ¬ k_lowestNeighbour σ cell = -1) : vp_in (k_lowestNeighbour σ cell) 25 := by
  simp only [k_lowestNeighbour_x4, k_lowestNeighbour_j59, k_lowestNeighbour] at h ⊢
  exact k_lowest_inv σ cell 4 h
set_option maxHeartbeats 4000000 in
set_option maxRecDepth 100000 in
theorem ck_lowestNeighbour (l : Launch) (G : va_G) (ids : Nat → ClassId) (o z tS tE : Nat) (d : Nat → Nat → Nat) (w : Nat → Nat) (σ : Sg) (cell : Int32) : yI l yX5_lowestNeighbour wsX5_lowestNeighbour ({ frames := 1, cells := 0, slots := 0, locals := 23 } : Room) G ids tS tE [.ref (o), .int (cell)] (CPic G ids o z tE d w σ) (k_lowestNeighbour σ cell) (CPic G ids o z tE d w σ) (cpG o z) := by
  unfold yI
  refine Met.ofW (cc := cX5_lowestNeighbour) (maxL := 5) (ret := (some .int)) (by decide) rfl ?_
  intro p e s m args below meth c s₁ B hml hv
  obtain ⟨rfl, hP, hK, hZ⟩ := hv
  have hx := B.exec
  have hb := B.bytes
  have hr := B.returns
  have hts := atoms_spec (ws := wsX5_lowestNeighbour) B.pre
  have hown : s.vm.findClass RX5 = some m.cls := findClass_of_methodNamed B.named
  have hlocks := B.notSynchronized
  have hS : va_S (cpG o z) s.heap s.heap [] := va_S.rf
  have hin_wsX50 : ∀ w ∈ wsX50, w ∈ wsX5_lowestNeighbour := fun w h => List.mem_cons_of_mem _ (List.mem_append_left _ (List.mem_append_right _ h))
  have hin_wsX10 : ∀ w ∈ wsX10, w ∈ wsX5_lowestNeighbour := fun w h => List.mem_cons_of_mem _ (List.mem_append_right _ h)
  have hl := lv_entry ([.ref (o), .int (cell)]) (n := 5) (Nat.le_of_ble_eq_true rfl)
  rw [lg_entry_eq]
  generalize (lg_sl ([.ref (o), .int (cell)]) ++ List.replicate (5 - (lg_sl ([.ref (o), .int (cell)])).length) Slot.unset).toArray = ls at hl ⊢
  have hl : lv_has ls 5 [(0, .ref (o)), (1, .int (cell))] := hl
  refine w_named (fun WW hWW => ?_)
  refine lv_iconst (v := (-1)) hx hb dX5_lowestNeighbour_0 (by decide) ?_
  refine lv_istore_n (lv' := [(2, .int ((-1))), (0, .ref (o)), (1, .int (cell))]) hx hb dX5_lowestNeighbour_1 rfl hl (by decide) rfl (fun ls hl => ?_)
  refine lv_iconst (v := nI (0)) hx hb dX5_lowestNeighbour_2 (by decide) ?_
  refine lv_istore_n (lv' := [(3, .int (nI (0))), (2, .int ((-1))), (0, .ref (o)), (1, .int (cell))]) hx hb dX5_lowestNeighbour_3 rfl hl (by decide) rfl (fun ls hl => ?_)
  have L4 : ∀ (n4 i4 : Nat), i4 ≤ 4 → 4 + 1 ≤ i4 + n4 → ∀ (z4 : Int32), z4 = lp (k_lowestNeighbour_b4 σ cell) i4 (-1) → ∀ (H : Heap) (locs : List Loc), CPic G ids o z tE d w σ H → va_S (cpG o z) s.heap H locs → ∀ (ls : Array Slot), lv_has ls 5 [(3, .int (nI (i4))), (2, .int (z4)), (0, .ref (o)), (1, .int (cell))] → WW H locs 0 0 (F0 m 4 ls []) := by
    intro n4
    induction n4 with
    | zero => intro i4 h1 h2; exact absurd h2 (by omega)
    | succ n4 ih4 =>
      intro i4 hi4 hn4 z4 hz4  H locs hP hS ls hl
      refine (hWW _ _ _ _ _).mpr ?_
      have hv := k_lowest_inv σ cell i4; rw [← hz4] at hv
      refine lv_iload_n hx hb dX5_lowestNeighbour_4 rfl (lv_at hl 0 rfl) ?_
      refine va_gets hx hb hZ.1.1 hS hown (hts _ (List.mem_of_getElem? (i := 1) rfl)) (fun _ h => h) dX5_lowestNeighbour_5 ?_
      refine va_tlen hx hb hZ.1.2 hS (v := nI 4) rfl dX5_lowestNeighbour_8 ?_
      refine n_icmp_ge (x := i4) (y := 4) (tgt := 65) hx hb (by omega) (by omega) dX5_lowestNeighbour_9 (by decide) (fun c_1 => ?_) (fun c_1 => ?_)
      · have hiN : 4 = i4 := by omega
        subst hiN
        have hR_2 : k_lowestNeighbour σ cell = k_lowestNeighbour_x4 σ cell z4 := (by have q_ := hz4.symm; subst q_; unfold k_lowestNeighbour; rfl)
        refine lv_iload_n hx hb dX5_lowestNeighbour_65 rfl (lv_at hl 1 rfl) ?_
        exact x_iret (v := z4) hx hb hr hlocks hP hS dX5_lowestNeighbour_66 (Eq.trans (by unfold k_lowestNeighbour_x4; rfl) hR_2.symm)
      · refine lv_iload_n hx hb dX5_lowestNeighbour_12 rfl (lv_at hl 3 rfl) ?_
        refine va_gets hx hb hZ.1.1 hS hown (hts _ (List.mem_of_getElem? (i := 1) rfl)) (fun _ h => h) dX5_lowestNeighbour_13 ?_
        refine lv_iload_n hx hb dX5_lowestNeighbour_16 rfl (lv_at hl 0 rfl) ?_
        refine va_ti hx hb hZ.1.2 hS (vp_in_nI (by omega) (by decide)) (v := .int (cpS i4)) (by show Value.int (cpS (nI (i4)).toNatClampNeg) = _; rw [nI_clamp (by omega)]) dX5_lowestNeighbour_17 ?_
        refine p_callS (As := [.int (cell), .int (cpS i4)]) (rest := []) ⟨hx, hb, hml, hown, hts⟩ (ck_stepFrom l cell (cpS i4)) (va_cwS 2 hts gX5_lowestNeighbour_X5_stepFrom rfl rfl rfl (by decide +kernel) ⟨Nat.le_of_ble_eq_true rfl, Nat.le_of_ble_eq_true rfl⟩) hP hS rfl hl.1 rfl (Nat.le_of_ble_eq_true rfl) dX5_lowestNeighbour_18 ⟨Nat.zero_le _, Nat.zero_le _⟩ (fun H locs hP hS => ?_)
        refine lv_istore (lv' := [(4, .int ((k_stepFrom cell (cpS i4)))), (3, .int (nI (i4))), (2, .int (z4)), (0, .ref (o)), (1, .int (cell))]) hx hb dX5_lowestNeighbour_21 hl (by decide) rfl (fun ls hl => ?_)
        refine lv_iload hx hb dX5_lowestNeighbour_23 (lv_at hl 0 rfl) ?_
        refine lv_iconst (v := (-1)) hx hb dX5_lowestNeighbour_25 (by decide) ?_
        have J59_6 : ∀ (y_5 : Int32), y_5 = (if (k_stepFrom cell (cpS i4)) = (-1) then z4 else (if z4 = (-1) then (k_stepFrom cell (cpS i4)) else (if (c_level σ ((z4).toNatClampNeg)) ≤ (c_level σ (((k_stepFrom cell (cpS i4))).toNatClampNeg)) then z4 else (k_stepFrom cell (cpS i4))))) → ∀ (H : Heap) (locs : List Loc), CPic G ids o z tE d w σ H → va_S (cpG o z) s.heap H locs → ∀ (ls : Array Slot), lv_has ls 5 [(4, .int ((k_stepFrom cell (cpS i4)))), (3, .int (nI (i4))), (2, .int (y_5)), (0, .ref (o)), (1, .int (cell))] → WW H locs 0 0 (F0 m 59 ls []) := by
          intro y_5 h_7 H locs hP hS ls hl
          refine (hWW _ _ _ _ _).mpr ?_
          have hR_8 : k_lowestNeighbour_b4 σ cell i4 z4 = k_lowestNeighbour_j59 σ cell i4 z4 y_5 := (by have q_ := h_7.symm; subst q_; unfold k_lowestNeighbour_b4; rfl)
          refine n_iinc (x := i4) (dN := 1) (k := 1) (lv' := [(3, .int (nI (i4 + 1))), (4, .int ((k_stepFrom cell (cpS i4)))), (2, .int (y_5)), (0, .ref (o)), (1, .int (cell))]) hx hb dX5_lowestNeighbour_59 hl rfl (by decide) rfl (fun ls hl => ?_)
          refine lv_goto (tgt := 4) hx hb dX5_lowestNeighbour_62 (by decide) ?_
          exact (hWW _ _ _ _ _).mp (ih4 (i4 + 1) (by omega) (by omega) (y_5) (by show _ = k_lowestNeighbour_b4 σ cell i4 (lp (k_lowestNeighbour_b4 σ cell) i4 (-1)); rw [← hz4]; exact (Eq.trans (by unfold k_lowestNeighbour_j59; rfl) hR_8.symm))  _ _ hP hS _ (lv_sub hl [0, 2, 3, 4] rfl))
        refine lv_icmp_eq (x := (k_stepFrom cell (cpS i4))) (y := (-1)) (tgt := 59) hx hb dX5_lowestNeighbour_26 (by decide) (fun c_3 => ?_) (fun c_3 => ?_)
        · exact (hWW _ _ _ _ _).mp (J59_6 _ (by simp only [if_pos c_3]) _ _ hP hS _ (lv_sub hl [0, 1, 2, 3, 4] rfl))
        · refine lv_iload_n hx hb dX5_lowestNeighbour_29 rfl (lv_at hl 2 rfl) ?_
          refine lv_iconst (v := (-1)) hx hb dX5_lowestNeighbour_30 (by decide) ?_
          refine lv_icmp_eq (x := z4) (y := (-1)) (tgt := 56) hx hb dX5_lowestNeighbour_31 (by decide) (fun c_9 => ?_) (fun c_9 => ?_)
          · refine lv_iload hx hb dX5_lowestNeighbour_56 (lv_at hl 0 rfl) ?_
            refine lv_istore_n (lv' := [(2, .int ((k_stepFrom cell (cpS i4)))), (4, .int ((k_stepFrom cell (cpS i4)))), (3, .int (nI (i4))), (0, .ref (o)), (1, .int (cell))]) hx hb dX5_lowestNeighbour_58 rfl hl (by decide) rfl (fun ls hl => ?_)
            exact (hWW _ _ _ _ _).mp (J59_6 _ (by simp only [if_neg c_3, if_pos c_9]) _ _ hP hS _ (lv_sub hl [1, 2, 0, 3, 4] rfl))
          · refine lv_aload_n hx hb dX5_lowestNeighbour_34 rfl (lv_at hl 3 rfl) ?_
            refine x_get (C := RX5) (T := TX5) (N := 10) (ci := 6) (fs := (cpOf o σ)) (v := .ref (o + 1)) hx hb hts hin_wsX50 hown hK hP.main rfl 0 (by decide) (index := 11) (List.mem_of_getElem? (i := 2) rfl) rfl dX5_lowestNeighbour_35 ?_
            refine lv_iload hx hb dX5_lowestNeighbour_38 (lv_at hl 0 rfl) ?_
            refine x_aald (r := o + 9 + 7 * (((k_stepFrom cell (cpS i4))).toNatClampNeg)) hx hb hK 3 rfl hP.crow (k_stepFrom_in c_3) rfl dX5_lowestNeighbour_40 ?_
            refine x_callI (As := []) (rest := []) (fun q h => cpG_blk (vp_lt (k_stepFrom_in c_3)) h) ⟨hx, hb, hml, hown, hts⟩ (cc_level l G ids (o + 9 + 7 * (((k_stepFrom cell (cpS i4))).toNatClampNeg)) (((k_stepFrom cell (cpS i4))).toNatClampNeg) σ) (cwV 0 hts gX5_lowestNeighbour_X1_level rfl rfl rfl (by decide +kernel) ⟨Nat.le_of_ble_eq_true rfl, Nat.le_of_ble_eq_true rfl⟩) hK (hP.cell (vp_lt (k_stepFrom_in c_3))) rfl (hP.blk (vp_lt (k_stepFrom_in c_3))) hS rfl hl.1 rfl (Nat.le_of_ble_eq_true rfl) dX5_lowestNeighbour_41 ⟨Nat.zero_le _, Nat.zero_le _⟩ (fun H locs hP1 _ hk1 hS => ?_)
            replace hP := hP.join (vp_lt (k_stepFrom_in c_3)) hP1 hk1 (fun _ _ _ => rfl) rfl
            refine lv_aload_n hx hb dX5_lowestNeighbour_44 rfl (lv_at hl 3 rfl) ?_
            refine x_get (C := RX5) (T := TX5) (N := 10) (ci := 6) (fs := (cpOf o σ)) (v := .ref (o + 1)) hx hb hts hin_wsX50 hown hK hP.main rfl 0 (by decide) (index := 11) (List.mem_of_getElem? (i := 2) rfl) rfl dX5_lowestNeighbour_45 ?_
            refine lv_iload_n hx hb dX5_lowestNeighbour_48 rfl (lv_at hl 2 rfl) ?_
            refine x_aald (r := o + 9 + 7 * ((z4).toNatClampNeg)) hx hb hK 3 rfl hP.crow (hv c_9) rfl dX5_lowestNeighbour_49 ?_
            refine x_callI (As := []) (rest := [.int ((c_level σ (((k_stepFrom cell (cpS i4))).toNatClampNeg)))]) (fun q h => cpG_blk (vp_lt (hv c_9)) h) ⟨hx, hb, hml, hown, hts⟩ (cc_level l G ids (o + 9 + 7 * ((z4).toNatClampNeg)) ((z4).toNatClampNeg) σ) (cwV 0 hts gX5_lowestNeighbour_X1_level rfl rfl rfl (by decide +kernel) ⟨Nat.le_of_ble_eq_true rfl, Nat.le_of_ble_eq_true rfl⟩) hK (hP.cell (vp_lt (hv c_9))) rfl (hP.blk (vp_lt (hv c_9))) hS rfl hl.1 rfl (Nat.le_of_ble_eq_true rfl) dX5_lowestNeighbour_50 ⟨Nat.zero_le _, Nat.zero_le _⟩ (fun H locs hP1 _ hk1 hS => ?_)
            replace hP := hP.join (vp_lt (hv c_9)) hP1 hk1 (fun _ _ _ => rfl) rfl
            refine lv_icmp_ge (x := (c_level σ (((k_stepFrom cell (cpS i4))).toNatClampNeg))) (y := (c_level σ ((z4).toNatClampNeg))) (tgt := 59) hx hb dX5_lowestNeighbour_53 (by decide) (fun c_10 => ?_) (fun c_10 => ?_)
            · exact (hWW _ _ _ _ _).mp (J59_6 _ (by simp only [if_neg c_3, if_neg c_9, if_pos c_10]) _ _ hP hS _ (lv_sub hl [0, 1, 2, 3, 4] rfl))
            · refine lv_iload hx hb dX5_lowestNeighbour_56 (lv_at hl 0 rfl) ?_
              refine lv_istore_n (lv' := [(2, .int ((k_stepFrom cell (cpS i4)))), (4, .int ((k_stepFrom cell (cpS i4)))), (3, .int (nI (i4))), (0, .ref (o)), (1, .int (cell))]) hx hb dX5_lowestNeighbour_58 rfl hl (by decide) rfl (fun ls hl => ?_)
              exact (hWW _ _ _ _ _).mp (J59_6 _ (by simp only [if_neg c_3, if_neg c_9, if_neg c_10]) _ _ hP hS _ (lv_sub hl [1, 2, 0, 3, 4] rfl))
  exact (hWW _ _ _ _ _).mp (L4 (4 + 1) 0 (Nat.zero_le _) (by omega) (-1) rfl  _ _ hP hS _ (lv_sub hl [0, 1, 2, 3] rfl))
