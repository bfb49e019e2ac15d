def c_isLake_j13 (σ : Sg) (i : Nat) (x_3 : Int32) : Int32 := x_3
def c_isLake (σ : Sg) (i : Nat) : Int32 := (c_isLake_j13 σ i (if (σ.1 3 i) < nI (3) then nI (0) else nI (1)))
set_option maxHeartbeats 4000000 in
set_option maxRecDepth 100000 in
theorem cc_isLake (l : Launch) (G : va_G) (ids : Nat → ClassId) (b i : Nat) (σ : Sg) : xI l yX1_isLake wsX1_isLake ({ frames := 0, cells := 0, slots := 0, locals := 0 } : Room) G ids [.ref (b)] (XBP G ids b i σ) (c_isLake σ i) (XBP G ids b i σ) (bA b) := by
  unfold xI
  refine Met.ofW (cc := cX1_isLake) (maxL := 1) (ret := (some .boolean)) (by decide) rfl ?_
  intro p e s m args below meth c s₁ B hml hv
  obtain ⟨rfl, hP, hK⟩ := hv
  have hx := B.exec
  have hb := B.bytes
  have hr := B.returns
  have hts := atoms_spec (ws := wsX1_isLake) B.pre
  have hown : s.vm.findClass RX1 = some m.cls := findClass_of_methodNamed B.named
  have hlocks := B.notSynchronized
  have hS : va_S (bA b) s.heap s.heap [] := va_S.rf
  have hin_wsX10 : ∀ w ∈ wsX10, w ∈ wsX1_isLake := fun w h => List.mem_cons_of_mem _ (List.mem_append_right _ h)
  have hl := lv_entry ([.ref (b)]) (n := 1) (Nat.le_of_ble_eq_true rfl)
  rw [lg_entry_eq]
  generalize (lg_sl ([.ref (b)]) ++ List.replicate (1 - (lg_sl ([.ref (b)])).length) Slot.unset).toArray = ls at hl ⊢
  have hl : lv_has ls 1 [(0, .ref (b))] := hl
  refine w_named (fun WW hWW => ?_)
  refine lv_aload_n hx hb dX1_isLake_0 rfl (lv_at hl 0 rfl) ?_
  refine x_get (C := RX1) (T := TX1) (N := 7) (ci := 2) (fs := (cfs b i σ)) (v := .int ((σ.1 3 i))) hx hb hts hin_wsX10 hown hK hP.1 rfl 2 (by decide) (index := 30) (List.mem_of_getElem? (i := 1) rfl) rfl dX1_isLake_1 ?_
  refine lv_iconst (v := nI (3)) hx hb dX1_isLake_4 (by decide) ?_
  have J13_4 : ∀ (x_3 : Int32), x_3 = (if (σ.1 3 i) < nI (3) then nI (0) else nI (1)) → ∀ (H : Heap) (locs : List Loc), XBP G ids b i σ H → va_S (bA b) s.heap H locs → ∀ (ls : Array Slot), lv_has ls 1 [(0, .ref (b))] → WW H locs 0 0 (F0 m 13 ls [.int (x_3)]) := by
    intro x_3 h_5 H locs hP hS ls hl
    refine (hWW _ _ _ _ _).mpr ?_
    have hR_6 : c_isLake σ i = c_isLake_j13 σ i x_3 := (by have q_ := h_5.symm; subst q_; unfold c_isLake; rfl)
    exact x_zret (v := x_3) hx hb hr hlocks (z_nar (by rw [h_5]; (repeat' split) <;> first | exact Or.inl rfl | exact Or.inr rfl)) hP hS dX1_isLake_13 (Eq.trans (by unfold c_isLake_j13; rfl) hR_6.symm)
  refine lv_icmp_lt (x := (σ.1 3 i)) (y := nI (3)) (tgt := 12) hx hb dX1_isLake_5 (by decide) (fun c_1 => ?_) (fun c_1 => ?_)
  · refine lv_iconst (v := nI (0)) hx hb dX1_isLake_12 (by decide) ?_
    exact (hWW _ _ _ _ _).mp (J13_4 _ (by simp only [if_pos c_1]) _ _ hP hS _ (lv_sub hl [0] rfl))
  · refine lv_iconst (v := nI (1)) hx hb dX1_isLake_8 (by decide) ?_
    refine lv_goto (tgt := 13) hx hb dX1_isLake_9 (by decide) ?_
    exact (hWW _ _ _ _ _).mp (J13_4 _ (by simp only [if_neg c_1]) _ _ hP hS _ (lv_sub hl [0] rfl))
