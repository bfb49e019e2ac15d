def c_crackingTemperature (σ : Sg) (i : Nat) : Int32 := (l_temperature σ (5 * i + 1))
set_option maxHeartbeats 4000000 in
set_option maxRecDepth 100000 in
theorem cc_crackingTemperature (l : Launch) (G : va_G) (ids : Nat → ClassId) (b i : Nat) (σ : Sg) : xI l yX1_crackingTemperature wsX1_crackingTemperature ({ frames := 2, cells := 0, slots := 0, locals := 41 } : Room) G ids [.ref (b)] (XBP G ids b i σ) (c_crackingTemperature σ i) (XBP G ids b i σ) (bA b) := by
  unfold xI
  refine Met.ofW (cc := cX1_crackingTemperature) (maxL := 1) (ret := (some .int)) (by decide) rfl ?_
  intro p e s m args below meth c s₁ B hml hv
  obtain ⟨rfl, hP, hK⟩ := hv
  have hx := B.exec
  have hb := B.bytes
  have hr := B.returns
  have hts := atoms_spec (ws := wsX1_crackingTemperature) B.pre
  have hown : s.vm.findClass RX1 = some m.cls := findClass_of_methodNamed B.named
  have hlocks := B.notSynchronized
  have hS : va_S (bA b) s.heap s.heap [] := va_S.rf
  have hin_wsX10 : ∀ w ∈ wsX10, w ∈ wsX1_crackingTemperature := fun w h => List.mem_cons_of_mem _ (List.mem_append_left _ (List.mem_append_right _ h))
  have hin_wsX40 : ∀ w ∈ wsX40, w ∈ wsX1_crackingTemperature := fun w h => List.mem_cons_of_mem _ (List.mem_append_right _ h)
  have hl := lv_entry ([.ref (b)]) (n := 1) (Nat.le_of_ble_eq_true rfl)
  rw [lg_entry_eq]
  generalize (lg_sl ([.ref (b)]) ++ List.replicate (1 - (lg_sl ([.ref (b)])).length) Slot.unset).toArray = ls at hl ⊢
  have hl : lv_has ls 1 [(0, .ref (b))] := hl
  refine w_named (fun WW hWW => ?_)
  refine lv_aload_n hx hb dX1_crackingTemperature_0 rfl (lv_at hl 0 rfl) ?_
  refine x_get (C := RX1) (T := TX1) (N := 7) (ci := 2) (fs := (cfs b i σ)) (v := .ref (b + 1)) hx hb hts hin_wsX10 hown hK hP.1 rfl 0 (by decide) (index := 14) (List.mem_of_getElem? (i := 1) rfl) rfl dX1_crackingTemperature_1 ?_
  refine lv_iconst (v := nI (1)) hx hb dX1_crackingTemperature_4 (by decide) ?_
  refine x_aald (r := b + 2 + 1) hx hb hK 4 rfl hP.2.1 (vp_in_nI (by omega) (by decide)) (by rw [nI_clamp (by omega)]) dX1_crackingTemperature_5 ?_
  refine x_callI (As := []) (rest := []) (fun q h => by subst h; unfold bA; omega) ⟨hx, hb, hml, hown, hts⟩ (cl_temperature l G ids (b + 2 + 1) (5 * i + 1) σ) (cwV 0 hts gX1_crackingTemperature_X4_temperature rfl rfl rfl (by decide +kernel) ⟨Nat.le_of_ble_eq_true rfl, Nat.le_of_ble_eq_true rfl⟩) hK (hP.2.2 1 (by omega)) rfl (hP.2.2 1 (by omega)) hS rfl hl.1 rfl (Nat.le_of_ble_eq_true rfl) dX1_crackingTemperature_6 ⟨Nat.zero_le _, Nat.zero_le _⟩ (fun H locs hP1 _ hk1 hS => ?_)
  replace hP := hP.join (by omega) hP1 hk1 (fun _ _ _ => rfl)
  exact x_iret (v := (l_temperature σ (5 * i + 1))) hx hb hr hlocks hP hS dX1_crackingTemperature_9 (by unfold c_crackingTemperature; rfl)
