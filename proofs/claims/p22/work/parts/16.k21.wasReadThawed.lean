def k_wasReadThawed_b2 (σ : Sg) (h : Nat) (mo : Int32) (i2 : Nat) : Int32 := (if (σ.1 20 i2) = (σ.1 14 h) then (if (h_hasRead σ i2 mo) = 0 then nI (0) else (if (h_readingAt σ i2 mo (σ.1 15 h)) < 0 then nI (0) else nI (1))) else nI (0))
def k_wasReadThawed (σ : Sg) (h : Nat) (mo : Int32) : Int32 := er (k_wasReadThawed_b2 σ h mo) ((σ.1 19 0).toNatClampNeg)
set_option maxHeartbeats 4000000 in
set_option maxRecDepth 100000 in
theorem ck_wasReadThawed (l : Launch) (G : va_G) (ids : Nat → ClassId) (o z tS tE : Nat) (d : Nat → Nat → Nat) (w : Nat → Nat) (σ : Sg) (h : Nat) (mo : Int32) (hO : cOK σ) (hh : h < cpN σ 0) : yI l yX5_wasReadThawed wsX5_wasReadThawed ({ frames := 3, cells := 0, slots := 0, locals := 64 } : Room) G ids tS tE [.ref (o), .ref (d 1 h), .int (mo)] (CPic G ids o z tE d w σ) (k_wasReadThawed σ h mo) (CPic G ids o z tE d w σ) (fun _ : Nat => False) := by
  unfold yI
  refine Met.ofW (cc := cX5_wasReadThawed) (maxL := 5) (ret := (some .boolean)) (by decide) rfl ?_
  intro p e s m args below meth c s₁ B hml hv
  obtain ⟨rfl, hP, hK, hZ⟩ := hv
  have hx := B.exec
  have hb := B.bytes
  have hr := B.returns
  have hts := atoms_spec (ws := wsX5_wasReadThawed) B.pre
  have hown : s.vm.findClass RX5 = some m.cls := findClass_of_methodNamed B.named
  have hlocks := B.notSynchronized
  have hS : va_S (fun _ : Nat => False) s.heap s.heap [] := va_S.rf
  have hin_wsX50 : ∀ w ∈ wsX50, w ∈ wsX5_wasReadThawed := fun w h => List.mem_cons_of_mem _ (List.mem_append_left _ (List.mem_append_left _ (List.mem_append_left _ (List.mem_append_right _ h))))
  have hin_wsX00 : ∀ w ∈ wsX00, w ∈ wsX5_wasReadThawed := fun w h => List.mem_cons_of_mem _ (List.mem_append_left _ (List.mem_append_left _ (List.mem_append_right _ h)))
  have hin_wsX30 : ∀ w ∈ wsX30, w ∈ wsX5_wasReadThawed := fun w h => List.mem_cons_of_mem _ (List.mem_append_left _ (List.mem_append_right _ h))
  have hin_wsJx4a65c0 : ∀ w ∈ wsJx4a65c0, w ∈ wsX5_wasReadThawed := fun w h => List.mem_cons_of_mem _ (List.mem_append_right _ h)
  have hl := lv_entry ([.ref (o), .ref (d 1 h), .int (mo)]) (n := 5) (Nat.le_of_ble_eq_true rfl)
  rw [lg_entry_eq]
  generalize (lg_sl ([.ref (o), .ref (d 1 h), .int (mo)]) ++ List.replicate (5 - (lg_sl ([.ref (o), .ref (d 1 h), .int (mo)])).length) Slot.unset).toArray = ls at hl ⊢
  have hl : lv_has ls 5 [(0, .ref (o)), (1, .ref (d 1 h)), (2, .int (mo))] := hl
  refine w_named (fun WW hWW => ?_)
  have h19 := vp_lt hO.2.1
  have e19 := vp_self hO.2.1
  refine lv_iconst (v := nI (0)) hx hb dX5_wasReadThawed_0 (by decide) ?_
  refine lv_istore_n (lv' := [(3, .int (nI (0))), (0, .ref (o)), (1, .ref (d 1 h)), (2, .int (mo))]) hx hb dX5_wasReadThawed_1 rfl hl (by decide) rfl (fun ls hl => ?_)
  have L2 : ∀ (n2 i2 : Nat), i2 ≤ (σ.1 19 0).toNatClampNeg → ((σ.1 19 0).toNatClampNeg) + 1 ≤ i2 + n2 → er (k_wasReadThawed_b2 σ h mo) i2 = nI (0) → ∀ (H : Heap) (locs : List Loc), CPic G ids o z tE d w σ H → va_S (fun _ : Nat => False) s.heap H locs → ∀ (ls : Array Slot), lv_has ls 5 [(3, .int (nI (i2))), (0, .ref (o)), (1, .ref (d 1 h)), (2, .int (mo))] → WW H locs 0 0 (F0 m 2 ls []) := by
    intro n2
    induction n2 with
    | zero => intro i2 h1 h2; exact absurd h2 (by omega)
    | succ n2 ih2 =>
      intro i2 hi2 hn2 hz2 H locs hP hS ls hl
      refine (hWW _ _ _ _ _).mpr ?_
      refine lv_iload_n hx hb dX5_wasReadThawed_2 rfl (lv_at hl 0 rfl) ?_
      refine lv_aload_n hx hb dX5_wasReadThawed_3 rfl (lv_at hl 1 rfl) ?_
      refine x_get (C := RX5) (T := TX5) (N := 10) (ci := 6) (fs := (cpOf o σ)) (v := .ref (o + 3)) hx hb hts hin_wsX50 hown hK hP.main rfl 2 (by decide) (index := 22) (List.mem_of_getElem? (i := 1) rfl) rfl dX5_wasReadThawed_4 ?_
      refine p_size (L := 1) (rest := [.int (nI (i2))]) (by decide) rfl ⟨hx, hb, hml, hown, hts⟩ (cwV 0 hts gX5_wasReadThawed_Jx4a65c_size_8abf5 rfl rfl rfl (by decide +kernel) ⟨Nat.le_of_ble_eq_true rfl, Nat.le_of_ble_eq_true rfl⟩) hK hP hS hl.1 (v := (σ.1 19 0)) rfl (Nat.le_of_ble_eq_true rfl) dX5_wasReadThawed_7 ⟨Nat.zero_le _, Nat.zero_le _⟩ (fun H locs hP hS => ?_)
      refine W.eq (g2 := F0 m 10 ls (.int (nI ((σ.1 19 0).toNatClampNeg)) :: .int (nI (i2)) :: [])) (congrArg (fun v => F0 m 10 ls (Value.int v :: .int (nI (i2)) :: [])) (e19)) ?_
      refine n_icmp_ge (x := i2) (y := (σ.1 19 0).toNatClampNeg) (tgt := 68) hx hb (by omega) (by omega) dX5_wasReadThawed_10 (by decide) (fun c_1 => ?_) (fun c_1 => ?_)
      · have hiN : (σ.1 19 0).toNatClampNeg = i2 := by omega
        subst hiN
        refine lv_iconst (v := nI (0)) hx hb dX5_wasReadThawed_68 (by decide) ?_
        exact x_zret (v := nI (0)) hx hb hr hlocks (by decide +kernel) hP hS dX5_wasReadThawed_69 (by unfold k_wasReadThawed; exact hz2.symm)
      · have hj : i2 < cpN σ 1 := by show i2 < (σ.1 19 0).toNatClampNeg; omega
        refine lv_aload_n hx hb dX5_wasReadThawed_13 rfl (lv_at hl 1 rfl) ?_
        refine x_get (C := RX5) (T := TX5) (N := 10) (ci := 6) (fs := (cpOf o σ)) (v := .ref (o + 3)) hx hb hts hin_wsX50 hown hK hP.main rfl 2 (by decide) (index := 22) (List.mem_of_getElem? (i := 1) rfl) rfl dX5_wasReadThawed_14 ?_
        refine lv_iload_n hx hb dX5_wasReadThawed_17 rfl (lv_at hl 0 rfl) ?_
        refine p_getL (L := 1) (j := i2) (kd := 2) (rest := []) (by decide) rfl rfl ⟨hx, hb, hml, hown, hts⟩ (cwV 1 hts gX5_wasReadThawed_Jx4a65c_get_915e3 rfl rfl rfl (by decide +kernel) ⟨Nat.le_of_ble_eq_true rfl, Nat.le_of_ble_eq_true rfl⟩) hK hP hS e19 hj hl.1 (Nat.le_of_ble_eq_true rfl) dX5_wasReadThawed_18 ⟨Nat.zero_le _, Nat.zero_le _⟩ (fun H locs hP hS => ?_)
        refine x_cast hx hb hown (hts _ (List.mem_of_getElem? (i := 2) rfl)) hK (hP.hole hj) rfl dX5_wasReadThawed_21 ?_
        refine lv_astore (lv' := [(4, .ref (d 2 i2)), (3, .int (nI (i2))), (0, .ref (o)), (1, .ref (d 1 h)), (2, .int (mo))]) hx hb dX5_wasReadThawed_24 hl (by decide) rfl (fun ls hl => ?_)
        refine lv_aload hx hb dX5_wasReadThawed_26 (lv_at hl 0 rfl) ?_
        refine x_get (C := RX0) (T := TX0) (N := 5) (ci := 1) (fs := _) (v := .int ((σ.1 20 i2))) hx hb hts hin_wsX00 hown hK (hP.hole hj) rfl 0 (by decide) (index := 274) (List.mem_of_getElem? (i := 3) rfl) rfl dX5_wasReadThawed_28 ?_
        refine lv_aload_n hx hb dX5_wasReadThawed_31 rfl (lv_at hl 3 rfl) ?_
        refine x_get (C := RX3) (T := TX3) (N := 5) (ci := 4) (fs := _) (v := .int ((σ.1 14 h))) hx hb hts hin_wsX30 hown hK (hP.house hh) rfl 0 (by decide) (index := 180) (List.mem_of_getElem? (i := 4) rfl) rfl dX5_wasReadThawed_32 ?_
        refine lv_icmp_ne (x := (σ.1 20 i2)) (y := (σ.1 14 h)) (tgt := 62) hx hb dX5_wasReadThawed_35 (by decide) (fun c_2 => ?_) (fun c_2 => ?_)
        · refine n_iinc (x := i2) (dN := 1) (k := 1) (lv' := [(3, .int (nI (i2 + 1))), (4, .ref (d 2 i2)), (0, .ref (o)), (1, .ref (d 1 h)), (2, .int (mo))]) hx hb dX5_wasReadThawed_62 hl rfl (by decide) rfl (fun ls hl => ?_)
          refine lv_goto (tgt := 2) hx hb dX5_wasReadThawed_65 (by decide) ?_
          have q_3 : nI (0) = k_wasReadThawed_b2 σ h mo i2 := (by unfold k_wasReadThawed_b2; simp only [if_neg c_2])
          exact (hWW _ _ _ _ _).mp (ih2 (i2 + 1) (by omega) (by omega) (er_next hz2 q_3) _ _ hP hS _ (lv_sub hl [0, 2, 3, 4] rfl))
        · refine lv_aload hx hb dX5_wasReadThawed_38 (lv_at hl 0 rfl) ?_
          refine lv_iload_n hx hb dX5_wasReadThawed_40 rfl (lv_at hl 4 rfl) ?_
          refine y_callI (As := [.int (mo)]) (rest := []) ⟨hx, hb, hml, hown, hts⟩ (ch_hasRead l G ids o z tS tE d w σ i2 mo hj) (cwV 1 hts gX5_wasReadThawed_X0_hasRead rfl rfl rfl (by decide +kernel) ⟨Nat.le_of_ble_eq_true rfl, Nat.le_of_ble_eq_true rfl⟩) hK hZ (hP.hole hj) rfl hP hS rfl hl.1 rfl (Nat.le_of_ble_eq_true rfl) dX5_wasReadThawed_41 ⟨Nat.zero_le _, Nat.zero_le _⟩ (fun H locs hP hS => ?_)
          refine lv_if_eq (x := (h_hasRead σ i2 mo)) (tgt := 62) hx hb dX5_wasReadThawed_44 (by decide) (fun c_4 => ?_) (fun c_4 => ?_)
          · refine n_iinc (x := i2) (dN := 1) (k := 1) (lv' := [(3, .int (nI (i2 + 1))), (4, .ref (d 2 i2)), (0, .ref (o)), (1, .ref (d 1 h)), (2, .int (mo))]) hx hb dX5_wasReadThawed_62 hl rfl (by decide) rfl (fun ls hl => ?_)
            refine lv_goto (tgt := 2) hx hb dX5_wasReadThawed_65 (by decide) ?_
            have q_5 : nI (0) = k_wasReadThawed_b2 σ h mo i2 := (by unfold k_wasReadThawed_b2; simp only [if_pos c_2, if_pos c_4])
            exact (hWW _ _ _ _ _).mp (ih2 (i2 + 1) (by omega) (by omega) (er_next hz2 q_5) _ _ hP hS _ (lv_sub hl [0, 2, 3, 4] rfl))
          · refine lv_aload hx hb dX5_wasReadThawed_47 (lv_at hl 0 rfl) ?_
            refine lv_iload_n hx hb dX5_wasReadThawed_49 rfl (lv_at hl 4 rfl) ?_
            refine lv_aload_n hx hb dX5_wasReadThawed_50 rfl (lv_at hl 3 rfl) ?_
            refine x_get (C := RX3) (T := TX3) (N := 5) (ci := 4) (fs := _) (v := .int ((σ.1 15 h))) hx hb hts hin_wsX30 hown hK (hP.house hh) rfl 1 (by decide) (index := 183) (List.mem_of_getElem? (i := 5) rfl) rfl dX5_wasReadThawed_51 ?_
            refine y_callI (As := [.int (mo), .int ((σ.1 15 h))]) (rest := []) ⟨hx, hb, hml, hown, hts⟩ (ch_readingAt l G ids o z tS tE d w σ i2 mo (σ.1 15 h) hj) (cwV 2 hts gX5_wasReadThawed_X0_readingAt rfl rfl rfl (by decide +kernel) ⟨Nat.le_of_ble_eq_true rfl, Nat.le_of_ble_eq_true rfl⟩) hK hZ (hP.hole hj) rfl hP hS rfl hl.1 rfl (Nat.le_of_ble_eq_true rfl) dX5_wasReadThawed_54 ⟨Nat.zero_le _, Nat.zero_le _⟩ (fun H locs hP hS => ?_)
            refine lv_if_lt (x := (h_readingAt σ i2 mo (σ.1 15 h))) (tgt := 62) hx hb dX5_wasReadThawed_57 (by decide) (fun c_6 => ?_) (fun c_6 => ?_)
            · refine n_iinc (x := i2) (dN := 1) (k := 1) (lv' := [(3, .int (nI (i2 + 1))), (4, .ref (d 2 i2)), (0, .ref (o)), (1, .ref (d 1 h)), (2, .int (mo))]) hx hb dX5_wasReadThawed_62 hl rfl (by decide) rfl (fun ls hl => ?_)
              refine lv_goto (tgt := 2) hx hb dX5_wasReadThawed_65 (by decide) ?_
              have q_7 : nI (0) = k_wasReadThawed_b2 σ h mo i2 := (by unfold k_wasReadThawed_b2; simp only [if_pos c_2, if_neg c_4, if_pos c_6])
              exact (hWW _ _ _ _ _).mp (ih2 (i2 + 1) (by omega) (by omega) (er_next hz2 q_7) _ _ hP hS _ (lv_sub hl [0, 2, 3, 4] rfl))
            · refine lv_iconst (v := nI (1)) hx hb dX5_wasReadThawed_60 (by decide) ?_
              have q_8 : nI (1) = k_wasReadThawed_b2 σ h mo i2 := (by unfold k_wasReadThawed_b2; simp only [if_pos c_2, if_neg c_4, if_neg c_6])
              exact x_zret (v := nI (1)) hx hb hr hlocks (by decide +kernel) hP hS dX5_wasReadThawed_61 (by unfold k_wasReadThawed; exact (er_ret hz2 q_8 (by decide) (by omega)).symm)
  exact (hWW _ _ _ _ _).mp (L2 ((σ.1 19 0).toNatClampNeg + 1) 0 (Nat.zero_le _) (by omega) rfl _ _ hP hS _ (lv_sub hl [0, 1, 2, 3] rfl))
