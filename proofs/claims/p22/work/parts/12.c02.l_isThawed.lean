def l_isThawed_j12 (σ : Sg) (k : Nat) (x_3 : Int32) : Int32 := x_3
def l_isThawed (σ : Sg) (k : Nat) : Int32 := (l_isThawed_j12 σ k (if (σ.1 10 k) < 0 then nI (0) else nI (1)))
set_option maxHeartbeats 4000000 in
set_option maxRecDepth 100000 in
theorem cl_isThawed (l : Launch) (G : va_G) (ids : Nat → ClassId) (h k : Nat) (σ : Sg) : xI l yX4_isThawed wsX4_isThawed ({ frames := 0, cells := 0, slots := 0, locals := 0 } : Room) G ids [.ref (h)] (XLP G h k σ) (l_isThawed σ k) (XLP G h k σ) (fun q : Nat => q = h) := by
  unfold xI
  refine Met.ofW (cc := cX4_isThawed) (maxL := 1) (ret := (some .boolean)) (by decide) rfl ?_
  intro p e s m args below meth c s₁ B hml hv
  obtain ⟨rfl, hP, hK⟩ := hv
  have hx := B.exec
  have hb := B.bytes
  have hr := B.returns
  have hts := atoms_spec (ws := wsX4_isThawed) B.pre
  have hown : s.vm.findClass RX4 = some m.cls := findClass_of_methodNamed B.named
  have hlocks := B.notSynchronized
  have hS : va_S (fun q : Nat => q = h) s.heap s.heap [] := va_S.rf
  have hin_wsX40 : ∀ w ∈ wsX40, w ∈ wsX4_isThawed := fun w h => List.mem_cons_of_mem _ (List.mem_append_right _ h)
  have hl := lv_entry ([.ref (h)]) (n := 1) (Nat.le_of_ble_eq_true rfl)
  rw [lg_entry_eq]
  generalize (lg_sl ([.ref (h)]) ++ List.replicate (1 - (lg_sl ([.ref (h)])).length) Slot.unset).toArray = ls at hl ⊢
  have hl : lv_has ls 1 [(0, .ref (h))] := hl
  refine w_named (fun WW hWW => ?_)
  refine lv_aload_n hx hb dX4_isThawed_0 rfl (lv_at hl 0 rfl) ?_
  refine x_get (C := RX4) (T := TX4) (N := 4) (ci := 5) (fs := (lfs (k) σ)) (v := .int ((σ.1 10 k))) hx hb hts hin_wsX40 hown hK hP rfl 2 (by decide) (index := 15) (List.mem_of_getElem? (i := 1) rfl) rfl dX4_isThawed_1 ?_
  have J12_4 : ∀ (x_3 : Int32), x_3 = (if (σ.1 10 k) < 0 then nI (0) else nI (1)) → ∀ (H : Heap) (locs : List Loc), XLP G h k σ H → va_S (fun q : Nat => q = h) s.heap H locs → ∀ (ls : Array Slot), lv_has ls 1 [(0, .ref (h))] → WW H locs 0 0 (F0 m 12 ls [.int (x_3)]) := by
    intro x_3 h_5 H locs hP hS ls hl
    refine (hWW _ _ _ _ _).mpr ?_
    have hR_6 : l_isThawed σ k = l_isThawed_j12 σ k x_3 := (by have q_ := h_5.symm; subst q_; unfold l_isThawed; rfl)
    exact x_zret (v := x_3) hx hb hr hlocks (z_nar (by rw [h_5]; (repeat' split) <;> first | exact Or.inl rfl | exact Or.inr rfl)) hP hS dX4_isThawed_12 (Eq.trans (by unfold l_isThawed_j12; rfl) hR_6.symm)
  refine lv_if_lt (x := (σ.1 10 k)) (tgt := 11) hx hb dX4_isThawed_4 (by decide) (fun c_1 => ?_) (fun c_1 => ?_)
  · refine lv_iconst (v := nI (0)) hx hb dX4_isThawed_11 (by decide) ?_
    exact (hWW _ _ _ _ _).mp (J12_4 _ (by simp only [if_pos c_1]) _ _ hP hS _ (lv_sub hl [0] rfl))
  · refine lv_iconst (v := nI (1)) hx hb dX4_isThawed_7 (by decide) ?_
    refine lv_goto (tgt := 12) hx hb dX4_isThawed_8 (by decide) ?_
    exact (hWW _ _ _ _ _).mp (J12_4 _ (by simp only [if_neg c_1]) _ _ hP hS _ (lv_sub hl [0] rfl))
