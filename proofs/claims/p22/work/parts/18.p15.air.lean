def k_air (σ : Sg) (gas : Int32) : Int64 := (σ.2 (30 + ((gas).toNatClampNeg)))
def kx_air (σ : Sg) (gas : Int32) : Nat := xs (xRg (gas) (nI (0)) (nI (1))) (0)
set_option maxHeartbeats 4000000 in
set_option maxRecDepth 100000 in
theorem cx_air (l : Launch) (hl0 : l.stackTraces = false) (G : va_G) (ids : Nat → ClassId) (o z tS tE : Nat) (d : Nat → Nat → Nat) (w : Nat → Nat) (σ : Sg) (gas : Int32) : zL l yX5_air wsX5_air ({ frames := 7, cells := 1, slots := 6, locals := 122 } : Room) G ids tS tE [.ref (o), .int (gas)] (CPic G ids o z tE d w σ) (kx_air σ gas) (k_air σ gas) (CPic G ids o z tE d w σ) (cpG o z) 1 6 := by
  unfold zL
  refine vx_ofW (cc := cX5_air) (maxL := 2) (ret := (some .long)) (by decide) rfl ?_
  intro p e s m args below meth c s₁ B hml hno hv
  obtain ⟨rfl, hP, hK, hZ⟩ := hv
  have hx := B.exec
  have hb := B.bytes
  have hr := B.returns
  have hts := atoms_spec (ws := wsX5_air) B.pre
  have hown : s.vm.findClass RX5 = some m.cls := findClass_of_methodNamed B.named
  have hlocks := B.notSynchronized
  have hS : va_S (cpG o z) s.heap s.heap [] := va_S.rf
  have hin_wsX50 : ∀ w ∈ wsX50, w ∈ wsX5_air := fun w h => List.mem_cons_of_mem _ (List.mem_append_left _ (List.mem_append_right _ h))
  have hl := lv_entry ([.ref (o), .int (gas)]) (n := 2) (Nat.le_of_ble_eq_true rfl)
  rw [lg_entry_eq]
  generalize (lg_sl ([.ref (o), .int (gas)]) ++ List.replicate (2 - (lg_sl ([.ref (o), .int (gas)])).length) Slot.unset).toArray = ls at hl ⊢
  have hl : lv_has ls 2 [(0, .ref (o)), (1, .int (gas))] := hl
  refine w_named (fun WW hWW => ?_)
  refine lv_iload_n hx hb dX5_air_0 rfl (lv_at hl 1 rfl) ?_
  refine lv_iconst (v := nI (0)) hx hb dX5_air_1 (by decide) ?_
  refine lv_iconst (v := nI (1)) hx hb dX5_air_2 (by decide) ?_
  refine p_need (As := [.int (gas), .int (nI (0)), .int (nI (1))]) (rest := []) (X := xRg (gas) (nI (0)) (nI (1))) (c1 := 1) (s1 := 6) ⟨hx, hb, hml, hown, hts⟩ (ck_needRange l hl0 tS tE (gas) (nI (0)) (nI (1))) (va_cwS 3 hts gX5_air_X5_needRange rfl rfl rfl (by decide +kernel) ⟨Nat.le_of_ble_eq_true rfl, Nat.le_of_ble_eq_true rfl⟩) hno hlocks hZ hP hS rfl hl.1 rfl (Nat.le_of_ble_eq_true rfl) dX5_air_3 ⟨Nat.le_of_ble_eq_true rfl, Nat.le_of_ble_eq_true rfl⟩ rfl rfl (Nat.le_of_ble_eq_true rfl) (Nat.le_of_ble_eq_true rfl) (fun hq_2 => by unfold kx_air; simp only [xs, if_neg hq_2]) (fun hX_1 H locs hP hS => ?_)
  have hgas := hX_1
  have hXz : (kx_air σ gas) = 0 := by unfold kx_air; simp only [xs, if_pos hX_1]
  refine lv_aload_n hx hb dX5_air_6 rfl (lv_at hl 0 rfl) ?_
  refine x_get (C := RX5) (T := TX5) (N := 10) (ci := 6) (fs := (cpOf o σ)) (v := .ref (o + 6)) hx hb hts hin_wsX50 hown hK hP.main rfl 6 (by decide) (index := 32) (List.mem_of_getElem? (i := 1) rfl) rfl dX5_air_7 ?_
  refine lv_iload_n hx hb dX5_air_10 rfl (lv_at hl 1 rfl) ?_
  refine x_lald (v := (σ.2 (30 + ((gas).toNatClampNeg)))) hx hb hK hP.gas (xRg_in0 (n := 1) (by decide) hgas) (if_pos (vp_lt (xRg_in0 (n := 1) (by decide) hgas))) dX5_air_11 ?_
  exact z_lret (v := (σ.2 (30 + ((gas).toNatClampNeg)))) hx hb hr hlocks hXz (Nat.le_of_ble_eq_true rfl) (Nat.le_of_ble_eq_true rfl) hP hS dX5_air_12 (by unfold k_air; rfl)
