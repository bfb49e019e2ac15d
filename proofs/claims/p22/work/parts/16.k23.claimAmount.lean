def k_claimAmount (σ : Sg) (h : Nat) (tilt : Int32) (until_ : Int32) : Int32 := (nI (100)) * (w_min (tilt) ((k_monthsReadThawed σ h until_)))
set_option maxHeartbeats 4000000 in
set_option maxRecDepth 100000 in
theorem ck_claimAmount (l : Launch) (G : va_G) (ids : Nat → ClassId) (o z tS tE : Nat) (d : Nat → Nat → Nat) (w : Nat → Nat) (σ : Sg) (h : Nat) (tilt : Int32) (until_ : Int32) (hO : cOK σ) (hh : h < cpN σ 0) (h18 : vp_in (σ.1 18 h) 601) (hu : vp_in until_ 601) (hbu : (σ.1 18 h).toNatClampNeg ≤ until_.toNatClampNeg) : yI l yX5_claimAmount wsX5_claimAmount ({ frames := 5, cells := 0, slots := 0, locals := 112 } : Room) G ids tS tE [.ref (o), .ref (d 1 h), .int (tilt), .int (until_)] (CPic G ids o z tE d w σ) (k_claimAmount σ h tilt until_) (CPic G ids o z tE d w σ) (fun _ : Nat => False) := by
  unfold yI
  refine Met.ofW (cc := cX5_claimAmount) (maxL := 4) (ret := (some .int)) (by decide) rfl ?_
  intro p e s m args below meth c s₁ B hml hv
  obtain ⟨rfl, hP, hK, hZ⟩ := hv
  have hx := B.exec
  have hb := B.bytes
  have hr := B.returns
  have hts := atoms_spec (ws := wsX5_claimAmount) B.pre
  have hown : s.vm.findClass RX5 = some m.cls := findClass_of_methodNamed B.named
  have hlocks := B.notSynchronized
  have hS : va_S (fun _ : Nat => False) s.heap s.heap [] := va_S.rf
  have hin_wsX30 : ∀ w ∈ wsX30, w ∈ wsX5_claimAmount := fun w h => List.mem_cons_of_mem _ (List.mem_append_left _ (List.mem_append_left _ (List.mem_append_left _ (List.mem_append_right _ h))))
  have hin_wsX50 : ∀ w ∈ wsX50, w ∈ wsX5_claimAmount := fun w h => List.mem_cons_of_mem _ (List.mem_append_left _ (List.mem_append_left _ (List.mem_append_right _ h)))
  have hin_wsX00 : ∀ w ∈ wsX00, w ∈ wsX5_claimAmount := fun w h => List.mem_cons_of_mem _ (List.mem_append_left _ (List.mem_append_right _ h))
  have hin_wsJx4a65c0 : ∀ w ∈ wsJx4a65c0, w ∈ wsX5_claimAmount := fun w h => List.mem_cons_of_mem _ (List.mem_append_right _ h)
  have hl := lv_entry ([.ref (o), .ref (d 1 h), .int (tilt), .int (until_)]) (n := 4) (Nat.le_of_ble_eq_true rfl)
  rw [lg_entry_eq]
  generalize (lg_sl ([.ref (o), .ref (d 1 h), .int (tilt), .int (until_)]) ++ List.replicate (4 - (lg_sl ([.ref (o), .ref (d 1 h), .int (tilt), .int (until_)])).length) Slot.unset).toArray = ls at hl ⊢
  have hl : lv_has ls 4 [(0, .ref (o)), (1, .ref (d 1 h)), (2, .int (tilt)), (3, .int (until_))] := hl
  refine w_named (fun WW hWW => ?_)
  refine lv_bipush (v := nI (100)) hx hb dX5_claimAmount_0 (by decide) ?_
  refine lv_iload_n hx hb dX5_claimAmount_2 rfl (lv_at hl 2 rfl) ?_
  refine lv_aload_n hx hb dX5_claimAmount_3 rfl (lv_at hl 0 rfl) ?_
  refine lv_aload_n hx hb dX5_claimAmount_4 rfl (lv_at hl 1 rfl) ?_
  refine lv_iload_n hx hb dX5_claimAmount_5 rfl (lv_at hl 3 rfl) ?_
  refine y_callI (As := [.ref (d 1 h), .int (until_)]) (rest := [.int (tilt), .int (nI (100))]) ⟨hx, hb, hml, hown, hts⟩ (ck_monthsReadThawed l G ids o z tS tE d w σ h until_ hO hh h18 hu hbu) (cwV 2 hts gX5_claimAmount_X5_monthsReadThawed rfl rfl rfl (by decide +kernel) ⟨Nat.le_of_ble_eq_true rfl, Nat.le_of_ble_eq_true rfl⟩) hK hZ hP.main rfl hP hS rfl hl.1 rfl (Nat.le_of_ble_eq_true rfl) dX5_claimAmount_6 ⟨Nat.zero_le _, Nat.zero_le _⟩ (fun H locs hP hS => ?_)
  refine w_mmin (x := tilt) (y := (k_monthsReadThawed σ h until_)) hx hb hml hl.1 hown hts (List.mem_of_getElem? (i := 1) rfl) (List.mem_of_getElem? (i := 2) rfl) (List.mem_of_getElem? (i := 3) rfl) (List.mem_of_getElem? (i := 4) rfl) (Nat.le_of_ble_eq_true rfl) (Nat.le_of_ble_eq_true rfl) (Nat.le_of_ble_eq_true rfl) (Nat.zero_le _) (Nat.zero_le _) dX5_claimAmount_9 ?_
  refine lv_imul (x := nI (100)) (y := w_min (tilt) ((k_monthsReadThawed σ h until_))) hx hb dX5_claimAmount_12 ?_
  exact x_iret (v := (nI (100)) * (w_min (tilt) ((k_monthsReadThawed σ h until_)))) hx hb hr hlocks hP hS dX5_claimAmount_13 (by unfold k_claimAmount; rfl)
