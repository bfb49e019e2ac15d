def l_units (σ : Sg) (k : Nat) : Int32 := ((σ.1 8 k)) + ((σ.1 9 k))
set_option maxHeartbeats 4000000 in
set_option maxRecDepth 100000 in
theorem cl_units (l : Launch) (G : va_G) (ids : Nat → ClassId) (h k : Nat) (σ : Sg) : xI l yX4_units wsX4_units ({ frames := 0, cells := 0, slots := 0, locals := 0 } : Room) G ids [.ref (h)] (XLP G h k σ) (l_units σ k) (XLP G h k σ) (fun q : Nat => q = h) := by
  unfold xI
  refine Met.ofW (cc := cX4_units) (maxL := 1) (ret := (some .int)) (by decide) rfl ?_
  intro p e s m args below meth c s₁ B hml hv
  obtain ⟨rfl, hP, hK⟩ := hv
  have hx := B.exec
  have hb := B.bytes
  have hr := B.returns
  have hts := atoms_spec (ws := wsX4_units) B.pre
  have hown : s.vm.findClass RX4 = some m.cls := findClass_of_methodNamed B.named
  have hlocks := B.notSynchronized
  have hS : va_S (fun q : Nat => q = h) s.heap s.heap [] := va_S.rf
  have hin_wsX40 : ∀ w ∈ wsX40, w ∈ wsX4_units := fun w h => List.mem_cons_of_mem _ (List.mem_append_right _ h)
  have hl := lv_entry ([.ref (h)]) (n := 1) (Nat.le_of_ble_eq_true rfl)
  rw [lg_entry_eq]
  generalize (lg_sl ([.ref (h)]) ++ List.replicate (1 - (lg_sl ([.ref (h)])).length) Slot.unset).toArray = ls at hl ⊢
  have hl : lv_has ls 1 [(0, .ref (h))] := hl
  refine w_named (fun WW hWW => ?_)
  refine lv_aload_n hx hb dX4_units_0 rfl (lv_at hl 0 rfl) ?_
  refine x_get (C := RX4) (T := TX4) (N := 4) (ci := 5) (fs := (lfs (k) σ)) (v := .int ((σ.1 8 k))) hx hb hts hin_wsX40 hown hK hP rfl 0 (by decide) (index := 9) (List.mem_of_getElem? (i := 1) rfl) rfl dX4_units_1 ?_
  refine lv_aload_n hx hb dX4_units_4 rfl (lv_at hl 0 rfl) ?_
  refine x_get (C := RX4) (T := TX4) (N := 4) (ci := 5) (fs := (lfs (k) σ)) (v := .int ((σ.1 9 k))) hx hb hts hin_wsX40 hown hK hP rfl 1 (by decide) (index := 21) (List.mem_of_getElem? (i := 2) rfl) rfl dX4_units_5 ?_
  refine lv_iadd (x := (σ.1 8 k)) (y := (σ.1 9 k)) hx hb dX4_units_8 ?_
  exact x_iret (v := ((σ.1 8 k)) + ((σ.1 9 k))) hx hb hr hlocks hP hS dX4_units_9 (by unfold l_units; rfl)
