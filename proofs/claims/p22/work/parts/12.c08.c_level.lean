def c_level (σ : Sg) (i : Nat) : Int32 := ((σ.1 2 i)) + ((σ.1 3 i))
set_option maxHeartbeats 4000000 in
set_option maxRecDepth 100000 in
theorem cc_level (l : Launch) (G : va_G) (ids : Nat → ClassId) (b i : Nat) (σ : Sg) : xI l yX1_level wsX1_level ({ frames := 0, cells := 0, slots := 0, locals := 0 } : Room) G ids [.ref (b)] (XBP G ids b i σ) (c_level σ i) (XBP G ids b i σ) (bA b) := by
  unfold xI
  refine Met.ofW (cc := cX1_level) (maxL := 1) (ret := (some .int)) (by decide) rfl ?_
  intro p e s m args below meth c s₁ B hml hv
  obtain ⟨rfl, hP, hK⟩ := hv
  have hx := B.exec
  have hb := B.bytes
  have hr := B.returns
  have hts := atoms_spec (ws := wsX1_level) B.pre
  have hown : s.vm.findClass RX1 = some m.cls := findClass_of_methodNamed B.named
  have hlocks := B.notSynchronized
  have hS : va_S (bA b) s.heap s.heap [] := va_S.rf
  have hin_wsX10 : ∀ w ∈ wsX10, w ∈ wsX1_level := fun w h => List.mem_cons_of_mem _ (List.mem_append_right _ h)
  have hl := lv_entry ([.ref (b)]) (n := 1) (Nat.le_of_ble_eq_true rfl)
  rw [lg_entry_eq]
  generalize (lg_sl ([.ref (b)]) ++ List.replicate (1 - (lg_sl ([.ref (b)])).length) Slot.unset).toArray = ls at hl ⊢
  have hl : lv_has ls 1 [(0, .ref (b))] := hl
  refine w_named (fun WW hWW => ?_)
  refine lv_aload_n hx hb dX1_level_0 rfl (lv_at hl 0 rfl) ?_
  refine x_get (C := RX1) (T := TX1) (N := 7) (ci := 2) (fs := (cfs b i σ)) (v := .int ((σ.1 2 i))) hx hb hts hin_wsX10 hown hK hP.1 rfl 1 (by decide) (index := 20) (List.mem_of_getElem? (i := 1) rfl) rfl dX1_level_1 ?_
  refine lv_aload_n hx hb dX1_level_4 rfl (lv_at hl 0 rfl) ?_
  refine x_get (C := RX1) (T := TX1) (N := 7) (ci := 2) (fs := (cfs b i σ)) (v := .int ((σ.1 3 i))) hx hb hts hin_wsX10 hown hK hP.1 rfl 2 (by decide) (index := 30) (List.mem_of_getElem? (i := 2) rfl) rfl dX1_level_5 ?_
  refine lv_iadd (x := (σ.1 2 i)) (y := (σ.1 3 i)) hx hb dX1_level_8 ?_
  exact x_iret (v := ((σ.1 2 i)) + ((σ.1 3 i))) hx hb hr hlocks hP hS dX1_level_9 (by unfold c_level; rfl)
