def k_claimOf (σ : Sg) (claim : Int32) : Int32 := (σ.1 25 ((claim).toNatClampNeg))
def kx_claimOf (σ : Sg) (claim : Int32) : Nat := xs (xIx (claim) ((σ.1 24 0))) (0)
set_option maxHeartbeats 4000000 in
set_option maxRecDepth 100000 in
theorem cx_claimOf (l : Launch) (hl0 : l.stackTraces = false) (G : va_G) (ids : Nat → ClassId) (o z tS tE : Nat) (d : Nat → Nat → Nat) (w : Nat → Nat) (σ : Sg) (claim : Int32) (hO : cOK σ) : zI l yX5_claimOf wsX5_claimOf ({ frames := 7, cells := 1, slots := 6, locals := 121 } : Room) G ids tS tE [.ref (o), .int (claim)] (CPic G ids o z tE d w σ) (kx_claimOf σ claim) (k_claimOf σ claim) (CPic G ids o z tE d w σ) (cpG o z) 1 6 := by
  unfold zI
  refine vx_ofW (cc := cX5_claimOf) (maxL := 2) (ret := (some .int)) (by decide) rfl ?_
  intro p e s m args below meth c s₁ B hml hno hv
  obtain ⟨rfl, hP, hK, hZ⟩ := hv
  have hx := B.exec
  have hb := B.bytes
  have hr := B.returns
  have hts := atoms_spec (ws := wsX5_claimOf) B.pre
  have hown : s.vm.findClass RX5 = some m.cls := findClass_of_methodNamed B.named
  have hlocks := B.notSynchronized
  have hS : va_S (cpG o z) s.heap s.heap [] := va_S.rf
  have hin_wsX50 : ∀ w ∈ wsX50, w ∈ wsX5_claimOf := fun w h => List.mem_cons_of_mem _ (List.mem_append_left _ (List.mem_append_left _ (List.mem_append_left _ (List.mem_append_right _ h))))
  have hin_wsX20 : ∀ w ∈ wsX20, w ∈ wsX5_claimOf := fun w h => List.mem_cons_of_mem _ (List.mem_append_left _ (List.mem_append_left _ (List.mem_append_right _ h)))
  have hin_wsJx4a65c0 : ∀ w ∈ wsJx4a65c0, w ∈ wsX5_claimOf := fun w h => List.mem_cons_of_mem _ (List.mem_append_left _ (List.mem_append_right _ h))
  have hl := lv_entry ([.ref (o), .int (claim)]) (n := 2) (Nat.le_of_ble_eq_true rfl)
  rw [lg_entry_eq]
  generalize (lg_sl ([.ref (o), .int (claim)]) ++ List.replicate (2 - (lg_sl ([.ref (o), .int (claim)])).length) Slot.unset).toArray = ls at hl ⊢
  have hl : lv_has ls 2 [(0, .ref (o)), (1, .int (claim))] := hl
  refine w_named (fun WW hWW => ?_)
  refine lv_iload_n hx hb dX5_claimOf_0 rfl (lv_at hl 1 rfl) ?_
  refine lv_aload_n hx hb dX5_claimOf_1 rfl (lv_at hl 0 rfl) ?_
  refine x_get (C := RX5) (T := TX5) (N := 10) (ci := 6) (fs := (cpOf o σ)) (v := .ref (o + 4)) hx hb hts hin_wsX50 hown hK hP.main rfl 3 (by decide) (index := 25) (List.mem_of_getElem? (i := 1) rfl) rfl dX5_claimOf_2 ?_
  refine p_size (L := 2) (rest := [.int (claim)]) (by decide) rfl ⟨hx, hb, hml, hown, hts⟩ (cwV 0 hts gX5_claimOf_Jx4a65c_size_8abf5 rfl rfl rfl (by decide +kernel) ⟨Nat.le_of_ble_eq_true rfl, Nat.le_of_ble_eq_true rfl⟩) hK hP hS hl.1 (v := (σ.1 24 0)) rfl (Nat.le_of_ble_eq_true rfl) dX5_claimOf_5 ⟨Nat.le_of_ble_eq_true rfl, Nat.le_of_ble_eq_true rfl⟩ (fun H locs hP hS => ?_)
  refine p_need (As := [.int (claim), .int ((σ.1 24 0))]) (rest := []) (X := xIx (claim) ((σ.1 24 0))) (c1 := 1) (s1 := 6) ⟨hx, hb, hml, hown, hts⟩ (ck_needIndex l hl0 tS tE (claim) ((σ.1 24 0))) (va_cwS 2 hts gX5_claimOf_X5_needIndex rfl rfl rfl (by decide +kernel) ⟨Nat.le_of_ble_eq_true rfl, Nat.le_of_ble_eq_true rfl⟩) hno hlocks hZ hP hS rfl hl.1 rfl (Nat.le_of_ble_eq_true rfl) dX5_claimOf_8 ⟨Nat.le_of_ble_eq_true rfl, Nat.le_of_ble_eq_true rfl⟩ rfl rfl (Nat.le_of_ble_eq_true rfl) (Nat.le_of_ble_eq_true rfl) (fun hq_2 => by unfold kx_claimOf; simp only [xs, if_neg hq_2]) (fun hX_1 H locs hP hS => ?_)
  have hidx := hX_1
  have hXz : (kx_claimOf σ claim) = 0 := by unfold kx_claimOf; simp only [xs, if_pos hX_1]
  refine lv_aload_n hx hb dX5_claimOf_11 rfl (lv_at hl 0 rfl) ?_
  refine x_get (C := RX5) (T := TX5) (N := 10) (ci := 6) (fs := (cpOf o σ)) (v := .ref (o + 4)) hx hb hts hin_wsX50 hown hK hP.main rfl 3 (by decide) (index := 25) (List.mem_of_getElem? (i := 1) rfl) rfl dX5_claimOf_12 ?_
  refine lv_iload_n hx hb dX5_claimOf_15 rfl (lv_at hl 1 rfl) ?_
  have hh := xIx_inI hO.2.2.1 hidx
  have hj := vp_lt hh
  refine W.eq (g2 := F0 m 16 ls (.int (nI ((claim).toNatClampNeg)) :: .ref (o + 4) :: [])) (congrArg (fun v => F0 m 16 ls (Value.int v :: .ref (o + 4) :: [])) (vp_self hh)) ?_
  refine p_getL (L := 2) (j := (claim).toNatClampNeg) (kd := 4) (rest := []) (by decide) rfl rfl ⟨hx, hb, hml, hown, hts⟩ (cwV 1 hts gX5_claimOf_Jx4a65c_get_915e3 rfl rfl rfl (by decide +kernel) ⟨Nat.le_of_ble_eq_true rfl, Nat.le_of_ble_eq_true rfl⟩) hK hP hS (vp_self hO.2.2.1) hj hl.1 (Nat.le_of_ble_eq_true rfl) dX5_claimOf_16 ⟨Nat.le_of_ble_eq_true rfl, Nat.le_of_ble_eq_true rfl⟩ (fun H locs hP hS => ?_)
  refine x_cast hx hb hown (hts _ (List.mem_of_getElem? (i := 2) rfl)) hK (hP.clm hj) rfl dX5_claimOf_19 ?_
  refine x_get (C := RX2) (T := TX2) (N := 4) (ci := 3) (fs := _) (v := .int ((σ.1 25 ((claim).toNatClampNeg)))) hx hb hts hin_wsX20 hown hK (hP.clm hj) rfl 3 (by decide) (index := 195) (List.mem_of_getElem? (i := 3) rfl) rfl dX5_claimOf_22 ?_
  exact z_iret (v := (σ.1 25 ((claim).toNatClampNeg))) hx hb hr hlocks hXz (Nat.le_of_ble_eq_true rfl) (Nat.le_of_ble_eq_true rfl) hP hS dX5_claimOf_25 (by unfold k_claimOf; rfl)
