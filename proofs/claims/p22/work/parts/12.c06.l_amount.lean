def l_amount_j25 (σ : Sg) (k : Nat) (kind : Int32) (x_4 : Int32) : Int32 := x_4
def l_amount (σ : Sg) (k : Nat) (kind : Int32) : Int32 := (if kind = 0 then (σ.1 10 k) else (l_amount_j25 σ k kind (if kind = nI (1) then (l_units σ k) else (σ.1 11 k))))
set_option maxHeartbeats 4000000 in
set_option maxRecDepth 100000 in
theorem cl_amount (l : Launch) (G : va_G) (ids : Nat → ClassId) (h k : Nat) (σ : Sg) (kind : Int32) : xI l yX4_amount wsX4_amount ({ frames := 1, cells := 0, slots := 0, locals := 20 } : Room) G ids [.ref (h), .int (kind)] (XLP G h k σ) (l_amount σ k kind) (XLP G h k σ) (fun q : Nat => q = h) := by
  unfold xI
  refine Met.ofW (cc := cX4_amount) (maxL := 2) (ret := (some .int)) (by decide) rfl ?_
  intro p e s m args below meth c s₁ B hml hv
  obtain ⟨rfl, hP, hK⟩ := hv
  have hx := B.exec
  have hb := B.bytes
  have hr := B.returns
  have hts := atoms_spec (ws := wsX4_amount) B.pre
  have hown : s.vm.findClass RX4 = some m.cls := findClass_of_methodNamed B.named
  have hlocks := B.notSynchronized
  have hS : va_S (fun q : Nat => q = h) s.heap s.heap [] := va_S.rf
  have hin_wsX40 : ∀ w ∈ wsX40, w ∈ wsX4_amount := fun w h => List.mem_cons_of_mem _ (List.mem_append_right _ h)
  have hl := lv_entry ([.ref (h), .int (kind)]) (n := 2) (Nat.le_of_ble_eq_true rfl)
  rw [lg_entry_eq]
  generalize (lg_sl ([.ref (h), .int (kind)]) ++ List.replicate (2 - (lg_sl ([.ref (h), .int (kind)])).length) Slot.unset).toArray = ls at hl ⊢
  have hl : lv_has ls 2 [(0, .ref (h)), (1, .int (kind))] := hl
  refine w_named (fun WW hWW => ?_)
  refine lv_iload_n hx hb dX4_amount_0 rfl (lv_at hl 1 rfl) ?_
  refine lv_if_ne (x := kind) (tgt := 9) hx hb dX4_amount_1 (by decide) (fun c_1 => ?_) (fun c_1 => ?_)
  · refine lv_iload_n hx hb dX4_amount_9 rfl (lv_at hl 1 rfl) ?_
    refine lv_iconst (v := nI (1)) hx hb dX4_amount_10 (by decide) ?_
    have J25_5 : ∀ (x_4 : Int32), x_4 = (if kind = nI (1) then (l_units σ k) else (σ.1 11 k)) → ∀ (H : Heap) (locs : List Loc), XLP G h k σ H → va_S (fun q : Nat => q = h) s.heap H locs → ∀ (ls : Array Slot), lv_has ls 2 [(0, .ref (h)), (1, .int (kind))] → WW H locs 0 0 (F0 m 25 ls [.int (x_4)]) := by
      intro x_4 h_6 H locs hP hS ls hl
      refine (hWW _ _ _ _ _).mpr ?_
      have hR_7 : l_amount σ k kind = l_amount_j25 σ k kind x_4 := (by have q_ := h_6.symm; subst q_; unfold l_amount; simp only [if_neg c_1])
      exact x_iret (v := x_4) hx hb hr hlocks hP hS dX4_amount_25 (Eq.trans (by unfold l_amount_j25; rfl) hR_7.symm)
    refine lv_icmp_ne (x := kind) (y := nI (1)) (tgt := 21) hx hb dX4_amount_11 (by decide) (fun c_2 => ?_) (fun c_2 => ?_)
    · refine lv_aload_n hx hb dX4_amount_21 rfl (lv_at hl 0 rfl) ?_
      refine x_get (C := RX4) (T := TX4) (N := 4) (ci := 5) (fs := (lfs (k) σ)) (v := .int ((σ.1 11 k))) hx hb hts hin_wsX40 hown hK hP rfl 3 (by decide) (index := 18) (List.mem_of_getElem? (i := 2) rfl) rfl dX4_amount_22 ?_
      exact (hWW _ _ _ _ _).mp (J25_5 _ (by simp only [if_neg c_2]) _ _ hP hS _ (lv_sub hl [0, 1] rfl))
    · refine lv_aload_n hx hb dX4_amount_14 rfl (lv_at hl 0 rfl) ?_
      refine x_callI (As := []) (rest := []) (fun _ h => h) ⟨hx, hb, hml, hown, hts⟩ (cl_units l G ids h k σ) (cwV 0 hts gX4_amount_X4_units rfl rfl rfl (by decide +kernel) ⟨Nat.le_of_ble_eq_true rfl, Nat.le_of_ble_eq_true rfl⟩) hK hP rfl hP hS rfl hl.1 rfl (Nat.le_of_ble_eq_true rfl) dX4_amount_15 ⟨Nat.zero_le _, Nat.zero_le _⟩ (fun H locs hP _ _ hS => ?_)
      refine lv_goto (tgt := 25) hx hb dX4_amount_18 (by decide) ?_
      exact (hWW _ _ _ _ _).mp (J25_5 _ (by simp only [if_pos c_2]) _ _ hP hS _ (lv_sub hl [0, 1] rfl))
  · refine lv_aload_n hx hb dX4_amount_4 rfl (lv_at hl 0 rfl) ?_
    refine x_get (C := RX4) (T := TX4) (N := 4) (ci := 5) (fs := (lfs (k) σ)) (v := .int ((σ.1 10 k))) hx hb hts hin_wsX40 hown hK hP rfl 2 (by decide) (index := 15) (List.mem_of_getElem? (i := 1) rfl) rfl dX4_amount_5 ?_
    exact x_iret (v := (σ.1 10 k)) hx hb hr hlocks hP hS dX4_amount_8 (by unfold l_amount; simp only [if_pos c_1])
