def l_temperature_j45 (σ : Sg) (k : Nat) (x_4 : Int32) : Int32 := x_4
def l_temperature (σ : Sg) (k : Nat) : Int32 := (if 0 ≤ (σ.1 10 k) then (l_temperature_j45 σ k (if (σ.1 10 k) ≤ (nI (1000)) * ((l_units σ k)) then nI (0) else (((σ.1 10 k)) - ((nI (1000)) * ((l_units σ k)))) / (nI (100)))) else ((σ.1 10 k)) / (nI (100)))
set_option maxHeartbeats 4000000 in
set_option maxRecDepth 100000 in
theorem cl_temperature (l : Launch) (G : va_G) (ids : Nat → ClassId) (h k : Nat) (σ : Sg) : xI l yX4_temperature wsX4_temperature ({ frames := 1, cells := 0, slots := 0, locals := 20 } : Room) G ids [.ref (h)] (XLP G h k σ) (l_temperature σ k) (XLP G h k σ) (fun q : Nat => q = h) := by
  unfold xI
  refine Met.ofW (cc := cX4_temperature) (maxL := 2) (ret := (some .int)) (by decide) rfl ?_
  intro p e s m args below meth c s₁ B hml hv
  obtain ⟨rfl, hP, hK⟩ := hv
  have hx := B.exec
  have hb := B.bytes
  have hr := B.returns
  have hts := atoms_spec (ws := wsX4_temperature) B.pre
  have hown : s.vm.findClass RX4 = some m.cls := findClass_of_methodNamed B.named
  have hlocks := B.notSynchronized
  have hS : va_S (fun q : Nat => q = h) s.heap s.heap [] := va_S.rf
  have hin_wsX40 : ∀ w ∈ wsX40, w ∈ wsX4_temperature := fun w h => List.mem_cons_of_mem _ (List.mem_append_right _ h)
  have hl := lv_entry ([.ref (h)]) (n := 2) (Nat.le_of_ble_eq_true rfl)
  rw [lg_entry_eq]
  generalize (lg_sl ([.ref (h)]) ++ List.replicate (2 - (lg_sl ([.ref (h)])).length) Slot.unset).toArray = ls at hl ⊢
  have hl : lv_has ls 2 [(0, .ref (h))] := hl
  refine w_named (fun WW hWW => ?_)
  refine lv_aload_n hx hb dX4_temperature_0 rfl (lv_at hl 0 rfl) ?_
  refine x_get (C := RX4) (T := TX4) (N := 4) (ci := 5) (fs := (lfs (k) σ)) (v := .int ((σ.1 10 k))) hx hb hts hin_wsX40 hown hK hP rfl 2 (by decide) (index := 15) (List.mem_of_getElem? (i := 1) rfl) rfl dX4_temperature_1 ?_
  refine lv_if_ge (x := (σ.1 10 k)) (tgt := 15) hx hb dX4_temperature_4 (by decide) (fun c_1 => ?_) (fun c_1 => ?_)
  · refine lv_sipush (v := nI (1000)) hx hb dX4_temperature_15 (by decide) ?_
    refine lv_aload_n hx hb dX4_temperature_18 rfl (lv_at hl 0 rfl) ?_
    refine x_callI (As := []) (rest := [.int (nI (1000))]) (fun _ h => h) ⟨hx, hb, hml, hown, hts⟩ (cl_units l G ids h k σ) (cwV 0 hts gX4_temperature_X4_units rfl rfl rfl (by decide +kernel) ⟨Nat.le_of_ble_eq_true rfl, Nat.le_of_ble_eq_true rfl⟩) hK hP rfl hP hS rfl hl.1 rfl (Nat.le_of_ble_eq_true rfl) dX4_temperature_19 ⟨Nat.zero_le _, Nat.zero_le _⟩ (fun H locs hP _ _ hS => ?_)
    refine lv_imul (x := nI (1000)) (y := (l_units σ k)) hx hb dX4_temperature_22 ?_
    refine lv_istore_n (lv' := [(1, .int ((nI (1000)) * ((l_units σ k)))), (0, .ref (h))]) hx hb dX4_temperature_23 rfl hl (by decide) rfl (fun ls hl => ?_)
    refine lv_aload_n hx hb dX4_temperature_24 rfl (lv_at hl 1 rfl) ?_
    refine x_get (C := RX4) (T := TX4) (N := 4) (ci := 5) (fs := (lfs (k) σ)) (v := .int ((σ.1 10 k))) hx hb hts hin_wsX40 hown hK hP rfl 2 (by decide) (index := 15) (List.mem_of_getElem? (i := 1) rfl) rfl dX4_temperature_25 ?_
    refine lv_iload_n hx hb dX4_temperature_28 rfl (lv_at hl 0 rfl) ?_
    have J45_5 : ∀ (x_4 : Int32), x_4 = (if (σ.1 10 k) ≤ (nI (1000)) * ((l_units σ k)) then nI (0) else (((σ.1 10 k)) - ((nI (1000)) * ((l_units σ k)))) / (nI (100))) → ∀ (H : Heap) (locs : List Loc), XLP G h k σ H → va_S (fun q : Nat => q = h) s.heap H locs → ∀ (ls : Array Slot), lv_has ls 2 [(1, .int ((nI (1000)) * ((l_units σ k)))), (0, .ref (h))] → WW H locs 0 0 (F0 m 45 ls [.int (x_4)]) := by
      intro x_4 h_6 H locs hP hS ls hl
      refine (hWW _ _ _ _ _).mpr ?_
      have hR_7 : l_temperature σ k = l_temperature_j45 σ k x_4 := (by have q_ := h_6.symm; subst q_; unfold l_temperature; simp only [if_pos c_1])
      exact x_iret (v := x_4) hx hb hr hlocks hP hS dX4_temperature_45 (Eq.trans (by unfold l_temperature_j45; rfl) hR_7.symm)
    refine lv_icmp_le (x := (σ.1 10 k)) (y := (nI (1000)) * ((l_units σ k))) (tgt := 44) hx hb dX4_temperature_29 (by decide) (fun c_2 => ?_) (fun c_2 => ?_)
    · refine lv_iconst (v := nI (0)) hx hb dX4_temperature_44 (by decide) ?_
      exact (hWW _ _ _ _ _).mp (J45_5 _ (by simp only [if_pos c_2]) _ _ hP hS _ (lv_sub hl [0, 1] rfl))
    · refine lv_aload_n hx hb dX4_temperature_32 rfl (lv_at hl 1 rfl) ?_
      refine x_get (C := RX4) (T := TX4) (N := 4) (ci := 5) (fs := (lfs (k) σ)) (v := .int ((σ.1 10 k))) hx hb hts hin_wsX40 hown hK hP rfl 2 (by decide) (index := 15) (List.mem_of_getElem? (i := 1) rfl) rfl dX4_temperature_33 ?_
      refine lv_iload_n hx hb dX4_temperature_36 rfl (lv_at hl 0 rfl) ?_
      refine lv_isub (x := (σ.1 10 k)) (y := (nI (1000)) * ((l_units σ k))) hx hb dX4_temperature_37 ?_
      refine lv_bipush (v := nI (100)) hx hb dX4_temperature_38 (by decide) ?_
      refine lv_idiv (x := ((σ.1 10 k)) - ((nI (1000)) * ((l_units σ k)))) (y := nI (100)) hx hb dX4_temperature_40 (by decide) ?_
      refine lv_goto (tgt := 45) hx hb dX4_temperature_41 (by decide) ?_
      exact (hWW _ _ _ _ _).mp (J45_5 _ (by simp only [if_neg c_2]) _ _ hP hS _ (lv_sub hl [0, 1] rfl))
  · refine lv_aload_n hx hb dX4_temperature_7 rfl (lv_at hl 0 rfl) ?_
    refine x_get (C := RX4) (T := TX4) (N := 4) (ci := 5) (fs := (lfs (k) σ)) (v := .int ((σ.1 10 k))) hx hb hts hin_wsX40 hown hK hP rfl 2 (by decide) (index := 15) (List.mem_of_getElem? (i := 1) rfl) rfl dX4_temperature_8 ?_
    refine lv_bipush (v := nI (100)) hx hb dX4_temperature_11 (by decide) ?_
    refine lv_idiv (x := (σ.1 10 k)) (y := nI (100)) hx hb dX4_temperature_13 (by decide) ?_
    exact x_iret (v := ((σ.1 10 k)) / (nI (100))) hx hb hr hlocks hP hS dX4_temperature_14 (by unfold l_temperature; simp only [if_neg c_1])
