def m_isHouse (σ : Sg) (h : Int32) : Int32 := (m_within h (nI (0)) (((σ.1 13 0)) - (nI (1))))
set_option maxHeartbeats 4000000 in
set_option maxRecDepth 100000 in
theorem cm_isHouse (l : Launch) (G : va_G) (cI cZ : ClassId) (a : Nat → Nat) (σ : Sg) (h : Int32) : mI l yX6_isHouse wsX6_isHouse ({ frames := 1, cells := 0, slots := 0, locals := 22 } : Room) G cI cZ a σ [.int (h)] (m_isHouse σ h) σ := by
  unfold mI
  refine Met.ofW (cc := cX6_isHouse) (maxL := 2) (ret := (some .boolean)) (by decide) rfl ?_
  intro p e s m args below meth c s₁ B hml hv
  obtain ⟨rfl, hP, hK, hD⟩ := hv
  have hx := B.exec
  have hb := B.bytes
  have hr := B.returns
  have hts := atoms_spec (ws := wsX6_isHouse) B.pre
  have hown : s.vm.findClass RX6 = some m.cls := findClass_of_methodNamed B.named
  have hlocks := B.notSynchronized
  have hS : va_S (mA a) s.heap s.heap [] := va_S.rf
  have hin : ∀ w ∈ wsX60, w ∈ wsX6_isHouse := fun w h => List.mem_cons_of_mem _ (List.mem_append_right _ h)
  have hl := lv_entry ([.ref (a 0), .int (h)]) (n := 2) (Nat.le_of_ble_eq_true rfl)
  rw [lg_entry_eq]
  generalize (lg_sl ([.ref (a 0), .int (h)]) ++ List.replicate (2 - (lg_sl ([.ref (a 0), .int (h)])).length) Slot.unset).toArray = ls at hl ⊢
  have hl : lv_has ls 2 [(0, .ref (a 0)), (1, .int (h))] := hl
  refine w_named (fun WW hWW => ?_)
  have hP : va_P G vwCl (wm cI cZ a σ) s.heap := hP
  refine lv_iload_n hx hb dX6_isHouse_0 rfl (lv_at hl 1 rfl) ?_
  refine lv_iconst (v := nI (0)) hx hb dX6_isHouse_1 (by decide) ?_
  refine lv_aload_n hx hb dX6_isHouse_2 rfl (lv_at hl 0 rfl) ?_
  refine m_get (v := .int ((σ.1 13 0))) hx hb hts hin hown hK hP 13 (by decide) rfl (index := 132) (List.mem_of_getElem? (i := 1) rfl) dX6_isHouse_3 ?_
  refine lv_iconst (v := nI (1)) hx hb dX6_isHouse_6 (by decide) ?_
  refine lv_isub (x := (σ.1 13 0)) (y := nI (1)) hx hb dX6_isHouse_7 ?_
  refine m_callS (As := [.int (h), .int (nI (0)), .int (((σ.1 13 0)) - (nI (1)))]) (rest := []) ⟨hx, hb, hml, hown, hts⟩ (cm_within l h (nI (0)) (((σ.1 13 0)) - (nI (1))) ) (va_cwS 3 hts gX6_isHouse_X6_within rfl rfl rfl (by decide +kernel) ⟨Nat.le_of_ble_eq_true rfl, Nat.le_of_ble_eq_true rfl⟩) hP hS rfl hl.1 rfl (Nat.le_of_ble_eq_true rfl) dX6_isHouse_8 ⟨Nat.zero_le _, Nat.zero_le _⟩ (fun H locs hP hS => ?_)
  exact m_zret (v := (m_within h (nI (0)) (((σ.1 13 0)) - (nI (1))))) hx hb hr hlocks (z_nar (m_within_b _ _ _)) hP hK hD hS dX6_isHouse_11 (by unfold m_isHouse; rfl) (Eq.refl _)
