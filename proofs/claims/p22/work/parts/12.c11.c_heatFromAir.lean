def c_heatFromAir_j58 (σ : Sg) (i : Nat) (air : Int32) (x_4 : Int32) : Int32 := x_4
def c_heatFromAir (σ : Sg) (i : Nat) (air : Int32) : Int32 := (if (c_isLake σ i) = 0 then (c_heatFromAir_j58 σ i air (if ((nI (2)) + ((σ.1 4 i))) + ((nI (2)) * ((σ.1 5 i))) ≤ 0 then nI (0) else ((nI (60)) / (((nI (2)) + ((σ.1 4 i))) + ((nI (2)) * ((σ.1 5 i))))) * ((air) - ((l_temperature σ (5 * i + 0)))))) else (nI (30)) * ((w_max (air) (nI (0))) - ((l_temperature σ (5 * i + 0)))))
set_option maxHeartbeats 4000000 in
set_option maxRecDepth 100000 in
theorem cc_heatFromAir (l : Launch) (G : va_G) (ids : Nat → ClassId) (b i : Nat) (σ : Sg) (air : Int32) : xI l yX1_heatFromAir wsX1_heatFromAir ({ frames := 2, cells := 0, slots := 0, locals := 41 } : Room) G ids [.ref (b), .int (air)] (XBP G ids b i σ) (c_heatFromAir σ i air) (XBP G ids b i σ) (bA b) := by
  unfold xI
  refine Met.ofW (cc := cX1_heatFromAir) (maxL := 4) (ret := (some .int)) (by decide) rfl ?_
  intro p e s m args below meth c s₁ B hml hv
  obtain ⟨rfl, hP, hK⟩ := hv
  have hx := B.exec
  have hb := B.bytes
  have hr := B.returns
  have hts := atoms_spec (ws := wsX1_heatFromAir) B.pre
  have hown : s.vm.findClass RX1 = some m.cls := findClass_of_methodNamed B.named
  have hlocks := B.notSynchronized
  have hS : va_S (bA b) s.heap s.heap [] := va_S.rf
  have hin_wsX10 : ∀ w ∈ wsX10, w ∈ wsX1_heatFromAir := fun w h => List.mem_cons_of_mem _ (List.mem_append_left _ (List.mem_append_right _ h))
  have hin_wsX40 : ∀ w ∈ wsX40, w ∈ wsX1_heatFromAir := fun w h => List.mem_cons_of_mem _ (List.mem_append_right _ h)
  have hl := lv_entry ([.ref (b), .int (air)]) (n := 4) (Nat.le_of_ble_eq_true rfl)
  rw [lg_entry_eq]
  generalize (lg_sl ([.ref (b), .int (air)]) ++ List.replicate (4 - (lg_sl ([.ref (b), .int (air)])).length) Slot.unset).toArray = ls at hl ⊢
  have hl : lv_has ls 4 [(0, .ref (b)), (1, .int (air))] := hl
  refine w_named (fun WW hWW => ?_)
  refine lv_aload_n hx hb dX1_heatFromAir_0 rfl (lv_at hl 0 rfl) ?_
  refine x_get (C := RX1) (T := TX1) (N := 7) (ci := 2) (fs := (cfs b i σ)) (v := .ref (b + 1)) hx hb hts hin_wsX10 hown hK hP.1 rfl 0 (by decide) (index := 14) (List.mem_of_getElem? (i := 1) rfl) rfl dX1_heatFromAir_1 ?_
  refine lv_iconst (v := nI (0)) hx hb dX1_heatFromAir_4 (by decide) ?_
  refine x_aald (r := b + 2 + 0) hx hb hK 4 rfl hP.2.1 (vp_in_nI (by omega) (by decide)) (by rw [nI_clamp (by omega)]) dX1_heatFromAir_5 ?_
  refine x_callI (As := []) (rest := []) (fun q h => by subst h; unfold bA; omega) ⟨hx, hb, hml, hown, hts⟩ (cl_temperature l G ids (b + 2 + 0) (5 * i + 0) σ) (cwV 0 hts gX1_heatFromAir_X4_temperature rfl rfl rfl (by decide +kernel) ⟨Nat.le_of_ble_eq_true rfl, Nat.le_of_ble_eq_true rfl⟩) hK (hP.2.2 0 (by omega)) rfl (hP.2.2 0 (by omega)) hS rfl hl.1 rfl (Nat.le_of_ble_eq_true rfl) dX1_heatFromAir_6 ⟨Nat.zero_le _, Nat.zero_le _⟩ (fun H locs hP1 _ hk1 hS => ?_)
  replace hP := hP.join (by omega) hP1 hk1 (fun _ _ _ => rfl)
  refine lv_istore_n (lv' := [(2, .int ((l_temperature σ (5 * i + 0)))), (0, .ref (b)), (1, .int (air))]) hx hb dX1_heatFromAir_9 rfl hl (by decide) rfl (fun ls hl => ?_)
  refine lv_aload_n hx hb dX1_heatFromAir_10 rfl (lv_at hl 1 rfl) ?_
  refine x_callI (As := []) (rest := []) (fun _ h => h) ⟨hx, hb, hml, hown, hts⟩ (cc_isLake l G ids b i σ) (cwV 0 hts gX1_heatFromAir_X1_isLake rfl rfl rfl (by decide +kernel) ⟨Nat.le_of_ble_eq_true rfl, Nat.le_of_ble_eq_true rfl⟩) hK hP.1 rfl hP hS rfl hl.1 rfl (Nat.le_of_ble_eq_true rfl) dX1_heatFromAir_11 ⟨Nat.zero_le _, Nat.zero_le _⟩ (fun H locs hP _ _ hS => ?_)
  refine lv_if_eq (x := (c_isLake σ i)) (tgt := 28) hx hb dX1_heatFromAir_14 (by decide) (fun c_1 => ?_) (fun c_1 => ?_)
  · refine lv_iconst (v := nI (2)) hx hb dX1_heatFromAir_28 (by decide) ?_
    refine lv_aload_n hx hb dX1_heatFromAir_29 rfl (lv_at hl 1 rfl) ?_
    refine x_get (C := RX1) (T := TX1) (N := 7) (ci := 2) (fs := (cfs b i σ)) (v := .int ((σ.1 4 i))) hx hb hts hin_wsX10 hown hK hP.1 rfl 3 (by decide) (index := 50) (List.mem_of_getElem? (i := 6) rfl) rfl dX1_heatFromAir_30 ?_
    refine lv_iadd (x := nI (2)) (y := (σ.1 4 i)) hx hb dX1_heatFromAir_33 ?_
    refine lv_iconst (v := nI (2)) hx hb dX1_heatFromAir_34 (by decide) ?_
    refine lv_aload_n hx hb dX1_heatFromAir_35 rfl (lv_at hl 1 rfl) ?_
    refine x_get (C := RX1) (T := TX1) (N := 7) (ci := 2) (fs := (cfs b i σ)) (v := .int ((σ.1 5 i))) hx hb hts hin_wsX10 hown hK hP.1 rfl 4 (by decide) (index := 24) (List.mem_of_getElem? (i := 7) rfl) rfl dX1_heatFromAir_36 ?_
    refine lv_imul (x := nI (2)) (y := (σ.1 5 i)) hx hb dX1_heatFromAir_39 ?_
    refine lv_iadd (x := (nI (2)) + ((σ.1 4 i))) (y := (nI (2)) * ((σ.1 5 i))) hx hb dX1_heatFromAir_40 ?_
    refine lv_istore_n (lv' := [(3, .int (((nI (2)) + ((σ.1 4 i))) + ((nI (2)) * ((σ.1 5 i))))), (2, .int ((l_temperature σ (5 * i + 0)))), (0, .ref (b)), (1, .int (air))]) hx hb dX1_heatFromAir_41 rfl hl (by decide) rfl (fun ls hl => ?_)
    refine lv_iload_n hx hb dX1_heatFromAir_42 rfl (lv_at hl 0 rfl) ?_
    have J58_5 : ∀ (x_4 : Int32), x_4 = (if ((nI (2)) + ((σ.1 4 i))) + ((nI (2)) * ((σ.1 5 i))) ≤ 0 then nI (0) else ((nI (60)) / (((nI (2)) + ((σ.1 4 i))) + ((nI (2)) * ((σ.1 5 i))))) * ((air) - ((l_temperature σ (5 * i + 0))))) → ∀ (H : Heap) (locs : List Loc), XBP G ids b i σ H → va_S (bA b) s.heap H locs → ∀ (ls : Array Slot), lv_has ls 4 [(3, .int (((nI (2)) + ((σ.1 4 i))) + ((nI (2)) * ((σ.1 5 i))))), (2, .int ((l_temperature σ (5 * i + 0)))), (0, .ref (b)), (1, .int (air))] → WW H locs 0 0 (F0 m 58 ls [.int (x_4)]) := by
      intro x_4 h_6 H locs hP hS ls hl
      refine (hWW _ _ _ _ _).mpr ?_
      have hR_7 : c_heatFromAir σ i air = c_heatFromAir_j58 σ i air x_4 := (by have q_ := h_6.symm; subst q_; unfold c_heatFromAir; simp only [if_pos c_1])
      exact x_iret (v := x_4) hx hb hr hlocks hP hS dX1_heatFromAir_58 (Eq.trans (by unfold c_heatFromAir_j58; rfl) hR_7.symm)
    refine lv_if_le (x := ((nI (2)) + ((σ.1 4 i))) + ((nI (2)) * ((σ.1 5 i)))) (tgt := 57) hx hb dX1_heatFromAir_43 (by decide) (fun c_2 => ?_) (fun c_2 => ?_)
    · refine lv_iconst (v := nI (0)) hx hb dX1_heatFromAir_57 (by decide) ?_
      exact (hWW _ _ _ _ _).mp (J58_5 _ (by simp only [if_pos c_2]) _ _ hP hS _ (lv_sub hl [0, 1, 2, 3] rfl))
    · refine lv_bipush (v := nI (60)) hx hb dX1_heatFromAir_46 (by decide) ?_
      refine lv_iload_n hx hb dX1_heatFromAir_48 rfl (lv_at hl 0 rfl) ?_
      refine lv_idiv (x := nI (60)) (y := ((nI (2)) + ((σ.1 4 i))) + ((nI (2)) * ((σ.1 5 i)))) hx hb dX1_heatFromAir_49 (fun h0 => c_2 (by rw [h0]; decide)) ?_
      refine lv_iload_n hx hb dX1_heatFromAir_50 rfl (lv_at hl 3 rfl) ?_
      refine lv_iload_n hx hb dX1_heatFromAir_51 rfl (lv_at hl 1 rfl) ?_
      refine lv_isub (x := air) (y := (l_temperature σ (5 * i + 0))) hx hb dX1_heatFromAir_52 ?_
      refine lv_imul (x := (nI (60)) / (((nI (2)) + ((σ.1 4 i))) + ((nI (2)) * ((σ.1 5 i))))) (y := (air) - ((l_temperature σ (5 * i + 0)))) hx hb dX1_heatFromAir_53 ?_
      refine lv_goto (tgt := 58) hx hb dX1_heatFromAir_54 (by decide) ?_
      exact (hWW _ _ _ _ _).mp (J58_5 _ (by simp only [if_neg c_2]) _ _ hP hS _ (lv_sub hl [0, 1, 2, 3] rfl))
  · refine lv_bipush (v := nI (30)) hx hb dX1_heatFromAir_17 (by decide) ?_
    refine lv_iload_n hx hb dX1_heatFromAir_19 rfl (lv_at hl 2 rfl) ?_
    refine lv_iconst (v := nI (0)) hx hb dX1_heatFromAir_20 (by decide) ?_
    refine w_mmax (x := air) (y := nI (0)) hx hb hml hl.1 hown hts (List.mem_of_getElem? (i := 2) rfl) (List.mem_of_getElem? (i := 3) rfl) (List.mem_of_getElem? (i := 4) rfl) (List.mem_of_getElem? (i := 5) rfl) (Nat.le_of_ble_eq_true rfl) (Nat.le_of_ble_eq_true rfl) (Nat.le_of_ble_eq_true rfl) (Nat.zero_le _) (Nat.zero_le _) dX1_heatFromAir_21 ?_
    refine lv_iload_n hx hb dX1_heatFromAir_24 rfl (lv_at hl 0 rfl) ?_
    refine lv_isub (x := w_max (air) (nI (0))) (y := (l_temperature σ (5 * i + 0))) hx hb dX1_heatFromAir_25 ?_
    refine lv_imul (x := nI (30)) (y := (w_max (air) (nI (0))) - ((l_temperature σ (5 * i + 0)))) hx hb dX1_heatFromAir_26 ?_
    exact x_iret (v := (nI (30)) * ((w_max (air) (nI (0))) - ((l_temperature σ (5 * i + 0))))) hx hb hr hlocks hP hS dX1_heatFromAir_27 (by unfold c_heatFromAir; simp only [if_neg c_1])
