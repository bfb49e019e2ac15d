def k_letSnow_x2_s (σ : Sg) (air : Int32) (snow : Int32) (z2 : Sg) : Sg := z2
def k_letSnow_k44 (air : Int32) (snow : Int32) (i2 : Nat) (z2 : Sg) (x_5 : Int32) (s_9 : Sg) : Sg := s_9
def k_letSnow_j41 (air : Int32) (snow : Int32) (i2 : Nat) (z2 : Sg) (x_5 : Int32) : Sg := (k_letSnow_k44 air snow i2 z2 x_5 (si z2 4 (i2) (x_5)))
def k_letSnow_b2 (air snow : Int32) (i2 : Nat) (z2 : Sg) : Sg := (k_letSnow_j41 air snow i2 z2 (if 0 ≤ air then nI (0) else w_min (((z2.1 4 i2)) + (snow)) (nI (9))))
def k_letSnow_s (σ : Sg) (air : Int32) (snow : Int32) : Sg := (k_letSnow_x2_s σ air snow (lp (k_letSnow_b2 air snow) 25 σ))
set_option maxHeartbeats 4000000 in
set_option maxRecDepth 100000 in
theorem ck_letSnow (l : Launch) (G : va_G) (ids : Nat → ClassId) (o z tS tE : Nat) (d : Nat → Nat → Nat) (w : Nat → Nat) (σ : Sg) (air : Int32) (snow : Int32) : yV l yX5_letSnow wsX5_letSnow ({ frames := 1, cells := 0, slots := 0, locals := 21 } : Room) G ids tS tE [.ref (o), .int (air), .int (snow)] (CPic G ids o z tE d w σ) (CPic G ids o z tE d w (k_letSnow_s σ air snow)) (cpG o z) := by
  unfold yV
  refine Met.ofW (cc := cX5_letSnow) (maxL := 4) (ret := none) (by decide) rfl ?_
  intro p e s m args below meth c s₁ B hml hv
  obtain ⟨rfl, hP, hK, hZ⟩ := hv
  have hx := B.exec
  have hb := B.bytes
  have hr := B.returns
  have hts := atoms_spec (ws := wsX5_letSnow) B.pre
  have hown : s.vm.findClass RX5 = some m.cls := findClass_of_methodNamed B.named
  have hlocks := B.notSynchronized
  have hS : va_S (cpG o z) s.heap s.heap [] := va_S.rf
  have hin_wsX50 : ∀ w ∈ wsX50, w ∈ wsX5_letSnow := fun w h => List.mem_cons_of_mem _ (List.mem_append_left _ (List.mem_append_right _ h))
  have hin_wsX10 : ∀ w ∈ wsX10, w ∈ wsX5_letSnow := fun w h => List.mem_cons_of_mem _ (List.mem_append_right _ h)
  have hl := lv_entry ([.ref (o), .int (air), .int (snow)]) (n := 4) (Nat.le_of_ble_eq_true rfl)
  rw [lg_entry_eq]
  generalize (lg_sl ([.ref (o), .int (air), .int (snow)]) ++ List.replicate (4 - (lg_sl ([.ref (o), .int (air), .int (snow)])).length) Slot.unset).toArray = ls at hl ⊢
  have hl : lv_has ls 4 [(0, .ref (o)), (1, .int (air)), (2, .int (snow))] := hl
  refine w_named (fun WW hWW => ?_)
  refine lv_iconst (v := nI (0)) hx hb dX5_letSnow_0 (by decide) ?_
  refine lv_istore_n (lv' := [(3, .int (nI (0))), (0, .ref (o)), (1, .int (air)), (2, .int (snow))]) hx hb dX5_letSnow_1 rfl hl (by decide) rfl (fun ls hl => ?_)
  have L2 : ∀ (n2 i2 : Nat), i2 ≤ 25 → 25 + 1 ≤ i2 + n2 → ∀ (z2 : Sg), z2 = lp (k_letSnow_b2 air snow) i2 σ → ∀ (H : Heap) (locs : List Loc), CPic G ids o z tE d w z2 H → va_S (cpG o z) s.heap H locs → ∀ (ls : Array Slot), lv_has ls 4 [(3, .int (nI (i2))), (0, .ref (o)), (1, .int (air)), (2, .int (snow))] → WW H locs 0 0 (F0 m 2 ls []) := by
    intro n2
    induction n2 with
    | zero => intro i2 h1 h2; exact absurd h2 (by omega)
    | succ n2 ih2 =>
      intro i2 hi2 hn2 z2 hz2  H locs hP hS ls hl
      refine (hWW _ _ _ _ _).mpr ?_
      refine lv_iload_n hx hb dX5_letSnow_2 rfl (lv_at hl 0 rfl) ?_
      refine lv_aload_n hx hb dX5_letSnow_3 rfl (lv_at hl 1 rfl) ?_
      refine x_get (C := RX5) (T := TX5) (N := 10) (ci := 6) (fs := (cpOf o z2)) (v := .ref (o + 1)) hx hb hts hin_wsX50 hown hK hP.main rfl 0 (by decide) (index := 11) (List.mem_of_getElem? (i := 1) rfl) rfl dX5_letSnow_4 ?_
      refine x_alen hx hb hK 3 rfl hP.crow (n := 25) rfl dX5_letSnow_7 ?_
      refine n_icmp_ge (x := i2) (y := 25) (tgt := 50) hx hb (by omega) (by omega) dX5_letSnow_8 (by decide) (fun c_1 => ?_) (fun c_1 => ?_)
      · have hiN : 25 = i2 := by omega
        subst hiN
        have hR_2 : k_letSnow_s σ air snow = k_letSnow_x2_s σ air snow z2 := (by have q_ := hz2.symm; subst q_; unfold k_letSnow_s; rfl)
        have hsp : z2 = k_letSnow_s σ air snow := (Eq.trans (by unfold k_letSnow_x2_s; rfl) hR_2.symm)
        rw [hsp] at hP
        exact x_vret hx hb hr hlocks hP hS dX5_letSnow_50
      · refine lv_aload_n hx hb dX5_letSnow_11 rfl (lv_at hl 1 rfl) ?_
        refine x_get (C := RX5) (T := TX5) (N := 10) (ci := 6) (fs := (cpOf o z2)) (v := .ref (o + 1)) hx hb hts hin_wsX50 hown hK hP.main rfl 0 (by decide) (index := 11) (List.mem_of_getElem? (i := 1) rfl) rfl dX5_letSnow_12 ?_
        refine lv_iload_n hx hb dX5_letSnow_15 rfl (lv_at hl 0 rfl) ?_
        refine x_aald (r := o + 9 + 7 * i2) hx hb hK 3 rfl hP.crow (vp_in_nI (by omega) (by decide)) (by rw [nI_clamp (by omega)]) dX5_letSnow_16 ?_
        refine lv_iload_n hx hb dX5_letSnow_17 rfl (lv_at hl 2 rfl) ?_
        have J41_6 : ∀ (x_5 : Int32), x_5 = (if 0 ≤ air then nI (0) else w_min (((z2.1 4 i2)) + (snow)) (nI (9))) → ∀ (H : Heap) (locs : List Loc), CPic G ids o z tE d w z2 H → va_S (cpG o z) s.heap H locs → ∀ (ls : Array Slot), lv_has ls 4 [(3, .int (nI (i2))), (0, .ref (o)), (1, .int (air)), (2, .int (snow))] → WW H locs 0 0 (F0 m 41 ls [.int (x_5), .ref (o + 9 + 7 * i2)]) := by
          intro x_5 h_7 H locs hP hS ls hl
          refine (hWW _ _ _ _ _).mpr ?_
          have hR_8 : k_letSnow_b2 air snow i2 z2 = k_letSnow_j41 air snow i2 z2 x_5 := (by have q_ := h_7.symm; subst q_; unfold k_letSnow_b2; rfl)
          refine p_cput (i := i2) (v := x_5) hx hb hts hin_wsX10 hown hK hP (by omega) hS 3 4 (by decide) (index := 96) (List.mem_of_getElem? (i := 2) rfl) dX5_letSnow_41 (fun H locs hP hS => ?_)
          obtain ⟨s_9, e_10⟩ : ∃ z : Sg, z = (si z2 4 (i2) (x_5)) := ⟨_, rfl⟩
          rw [← e_10] at hP
          have hR_11 : k_letSnow_b2 air snow i2 z2 = k_letSnow_k44 air snow i2 z2 x_5 s_9 := (Eq.trans hR_8 (by have q_ := e_10.symm; subst q_; unfold k_letSnow_j41; rfl))
          refine n_iinc (x := i2) (dN := 1) (k := 0) (lv' := [(3, .int (nI (i2 + 1))), (0, .ref (o)), (1, .int (air)), (2, .int (snow))]) hx hb dX5_letSnow_44 hl rfl (by decide) rfl (fun ls hl => ?_)
          refine lv_goto (tgt := 2) hx hb dX5_letSnow_47 (by decide) ?_
          exact (hWW _ _ _ _ _).mp (ih2 (i2 + 1) (by omega) (by omega) (s_9) (by show _ = k_letSnow_b2 air snow i2 (lp (k_letSnow_b2 air snow) i2 σ); rw [← hz2]; exact (Eq.trans (by unfold k_letSnow_k44; rfl) hR_11.symm))  _ _ hP hS _ (lv_sub hl [0, 1, 2, 3] rfl))
        refine lv_if_ge (x := air) (tgt := 40) hx hb dX5_letSnow_18 (by decide) (fun c_3 => ?_) (fun c_3 => ?_)
        · refine lv_iconst (v := nI (0)) hx hb dX5_letSnow_40 (by decide) ?_
          exact (hWW _ _ _ _ _).mp (J41_6 _ (by simp only [if_pos c_3]) _ _ hP hS _ (lv_sub hl [0, 1, 2, 3] rfl))
        · refine lv_aload_n hx hb dX5_letSnow_21 rfl (lv_at hl 1 rfl) ?_
          refine x_get (C := RX5) (T := TX5) (N := 10) (ci := 6) (fs := (cpOf o z2)) (v := .ref (o + 1)) hx hb hts hin_wsX50 hown hK hP.main rfl 0 (by decide) (index := 11) (List.mem_of_getElem? (i := 1) rfl) rfl dX5_letSnow_22 ?_
          refine lv_iload_n hx hb dX5_letSnow_25 rfl (lv_at hl 0 rfl) ?_
          refine x_aald (r := o + 9 + 7 * i2) hx hb hK 3 rfl hP.crow (vp_in_nI (by omega) (by decide)) (by rw [nI_clamp (by omega)]) dX5_letSnow_26 ?_
          refine x_get (C := RX1) (T := TX1) (N := 7) (ci := 2) (fs := (cfs (o + 9 + 7 * i2) i2 z2)) (v := .int ((z2.1 4 i2))) hx hb hts hin_wsX10 hown hK (hP.cell (by omega)) rfl 3 (by decide) (index := 96) (List.mem_of_getElem? (i := 2) rfl) rfl dX5_letSnow_27 ?_
          refine lv_iload_n hx hb dX5_letSnow_30 rfl (lv_at hl 3 rfl) ?_
          refine lv_iadd (x := (z2.1 4 i2)) (y := snow) hx hb dX5_letSnow_31 ?_
          refine lv_bipush (v := nI (9)) hx hb dX5_letSnow_32 (by decide) ?_
          refine w_mmin (x := ((z2.1 4 i2)) + (snow)) (y := nI (9)) hx hb hml hl.1 hown hts (List.mem_of_getElem? (i := 3) rfl) (List.mem_of_getElem? (i := 4) rfl) (List.mem_of_getElem? (i := 5) rfl) (List.mem_of_getElem? (i := 6) rfl) (Nat.le_of_ble_eq_true rfl) (Nat.le_of_ble_eq_true rfl) (Nat.le_of_ble_eq_true rfl) (Nat.zero_le _) (Nat.zero_le _) dX5_letSnow_34 ?_
          refine lv_goto (tgt := 41) hx hb dX5_letSnow_37 (by decide) ?_
          exact (hWW _ _ _ _ _).mp (J41_6 _ (by simp only [if_neg c_3]) _ _ hP hS _ (lv_sub hl [0, 1, 2, 3] rfl))
  exact (hWW _ _ _ _ _).mp (L2 (25 + 1) 0 (Nat.zero_le _) (by omega) σ rfl  _ _ hP hS _ (lv_sub hl [0, 1, 2, 3] rfl))
