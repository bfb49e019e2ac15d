def l_melted (σ : Sg) (k : Nat) : Int32 := w_min ((w_max ((σ.1 10 k)) (nI (0))) / (nI (1000))) ((l_units σ k))
set_option maxHeartbeats 4000000 in
set_option maxRecDepth 100000 in
theorem cl_melted (l : Launch) (G : va_G) (ids : Nat → ClassId) (h k : Nat) (σ : Sg) : xI l yX4_melted wsX4_melted ({ frames := 1, cells := 0, slots := 0, locals := 21 } : Room) G ids [.ref (h)] (XLP G h k σ) (l_melted σ k) (XLP G h k σ) (fun q : Nat => q = h) := by
  unfold xI
  refine Met.ofW (cc := cX4_melted) (maxL := 1) (ret := (some .int)) (by decide) rfl ?_
  intro p e s m args below meth c s₁ B hml hv
  obtain ⟨rfl, hP, hK⟩ := hv
  have hx := B.exec
  have hb := B.bytes
  have hr := B.returns
  have hts := atoms_spec (ws := wsX4_melted) B.pre
  have hown : s.vm.findClass RX4 = some m.cls := findClass_of_methodNamed B.named
  have hlocks := B.notSynchronized
  have hS : va_S (fun q : Nat => q = h) s.heap s.heap [] := va_S.rf
  have hin_wsX40 : ∀ w ∈ wsX40, w ∈ wsX4_melted := fun w h => List.mem_cons_of_mem _ (List.mem_append_right _ h)
  have hl := lv_entry ([.ref (h)]) (n := 1) (Nat.le_of_ble_eq_true rfl)
  rw [lg_entry_eq]
  generalize (lg_sl ([.ref (h)]) ++ List.replicate (1 - (lg_sl ([.ref (h)])).length) Slot.unset).toArray = ls at hl ⊢
  have hl : lv_has ls 1 [(0, .ref (h))] := hl
  refine w_named (fun WW hWW => ?_)
  refine lv_aload_n hx hb dX4_melted_0 rfl (lv_at hl 0 rfl) ?_
  refine x_get (C := RX4) (T := TX4) (N := 4) (ci := 5) (fs := (lfs (k) σ)) (v := .int ((σ.1 10 k))) hx hb hts hin_wsX40 hown hK hP rfl 2 (by decide) (index := 15) (List.mem_of_getElem? (i := 1) rfl) rfl dX4_melted_1 ?_
  refine lv_iconst (v := nI (0)) hx hb dX4_melted_4 (by decide) ?_
  refine w_mmax (x := (σ.1 10 k)) (y := nI (0)) hx hb hml hl.1 hown hts (List.mem_of_getElem? (i := 2) rfl) (List.mem_of_getElem? (i := 3) rfl) (List.mem_of_getElem? (i := 4) rfl) (List.mem_of_getElem? (i := 5) rfl) (Nat.le_of_ble_eq_true rfl) (Nat.le_of_ble_eq_true rfl) (Nat.le_of_ble_eq_true rfl) (Nat.zero_le _) (Nat.zero_le _) dX4_melted_5 ?_
  refine lv_sipush (v := nI (1000)) hx hb dX4_melted_8 (by decide) ?_
  refine lv_idiv (x := w_max ((σ.1 10 k)) (nI (0))) (y := nI (1000)) hx hb dX4_melted_11 (by decide) ?_
  refine lv_aload_n hx hb dX4_melted_12 rfl (lv_at hl 0 rfl) ?_
  refine x_callI (As := []) (rest := [.int ((w_max ((σ.1 10 k)) (nI (0))) / (nI (1000)))]) (fun _ h => h) ⟨hx, hb, hml, hown, hts⟩ (cl_units l G ids h k σ) (cwV 0 hts gX4_melted_X4_units rfl rfl rfl (by decide +kernel) ⟨Nat.le_of_ble_eq_true rfl, Nat.le_of_ble_eq_true rfl⟩) hK hP rfl hP hS rfl hl.1 rfl (Nat.le_of_ble_eq_true rfl) dX4_melted_13 ⟨Nat.zero_le _, Nat.zero_le _⟩ (fun H locs hP _ _ hS => ?_)
  refine w_mmin (x := (w_max ((σ.1 10 k)) (nI (0))) / (nI (1000))) (y := (l_units σ k)) hx hb hml hl.1 hown hts (List.mem_of_getElem? (i := 6) rfl) (List.mem_of_getElem? (i := 7) rfl) (List.mem_of_getElem? (i := 4) rfl) (List.mem_of_getElem? (i := 8) rfl) (Nat.le_of_ble_eq_true rfl) (Nat.le_of_ble_eq_true rfl) (Nat.le_of_ble_eq_true rfl) (Nat.zero_le _) (Nat.zero_le _) dX4_melted_16 ?_
  exact x_iret (v := w_min ((w_max ((σ.1 10 k)) (nI (0))) / (nI (1000))) ((l_units σ k))) hx hb hr hlocks hP hS dX4_melted_19 (by unfold l_melted; rfl)
