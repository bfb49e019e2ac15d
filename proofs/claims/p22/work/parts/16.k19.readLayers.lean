def h_readLayers_x33_s (σ : Sg) (b : Nat) (ci : Nat) (s_1 : Sg) (z33 : Sg) : Sg := z33
def h_readLayers_k70 (σ : Sg) (b : Nat) (ci : Nat) (s_1 : Sg) (i33 : Nat) (z33 : Sg) (s_7 : Sg) : Sg := s_7
def h_readLayers_b33 (σ : Sg) (b ci : Nat) (s_1 : Sg) (i33 : Nat) (z33 : Sg) : Sg := (h_readLayers_k70 σ b ci s_1 i33 z33 (si z33 (40 + b) (((((σ.1 35 b)) * (nI (5))) + (nI (i33))).toNatClampNeg) (((l_temperature z33 (5 * ci + i33))) + ((((s_1.1 21 b)) * ((s_1.1 35 b))) / (nI (12))))))
def h_readLayers_k17_s (σ : Sg) (b : Nat) (ci : Nat) (s_1 : Sg) : Sg := (h_readLayers_x33_s σ b ci s_1 (lp (h_readLayers_b33 σ b ci s_1) 5 s_1))
def h_readLayers_s (σ : Sg) (b : Nat) (ci : Nat) : Sg := (h_readLayers_k17_s σ b ci (si σ 35 (b) (((σ.1 35 b)) + (nI (1)))))
theorem rl_ix {x : Int32} {i : Nat} (h : vp_in x 601) : x * nI 5 + nI i = nI (x.toNatClampNeg * 5 + i) := by
  conv => lhs; rw [vp_self h]
  rw [pk_mul, nI_add]
theorem h_rlk (k : Nat) {σ s : Sg} {b ci : Nat} (hk : k ≠ 40 + b) (n : Nat) (z : Sg) : (lp (h_readLayers_b33 σ b ci s) n z).1 k = z.1 k := lp_kp (fun i z => by simp [h_readLayers_b33, h_readLayers_x33_s, h_readLayers_k70, h_readLayers_k17_s, h_readLayers_s, si, hk]) n z
theorem h_readLayers_k {σ : Sg} {b ci : Nat} (k : Nat) (h1 : k ≠ 35) (h2 : k ≠ 40 + b) : (h_readLayers_s σ b ci).1 k = σ.1 k := by
  simp only [h_readLayers_x33_s, h_readLayers_k70, h_readLayers_k17_s, h_readLayers_s]
  rw [h_rlk k h2, si_ne h1]
theorem h_readLayers_35 {σ : Sg} {b ci : Nat} (j : Nat) (hj : j ≠ b) : (h_readLayers_s σ b ci).1 35 j = σ.1 35 j := by
  simp only [h_readLayers_x33_s, h_readLayers_k70, h_readLayers_k17_s, h_readLayers_s]
  rw [h_rlk 35 (by omega), si_nj (fun q => hj q.2)]
set_option maxHeartbeats 4000000 in
set_option maxRecDepth 100000 in
theorem ch_readLayers (l : Launch) (G : va_G) (ids : Nat → ClassId) (o z tS tE : Nat) (d : Nat → Nat → Nat) (w : Nat → Nat) (σ : Sg) (b : Nat) (ci : Nat) (hb0 : b < cpN σ 1) (hi : ci < 25) (hm : vp_in (σ.1 35 b) 601) (hs : (σ.1 35 b).toNatClampNeg < 600 - (σ.1 22 b).toNatClampNeg) : yV l yX0_readLayers wsX0_readLayers ({ frames := 2, cells := 0, slots := 0, locals := 41 } : Room) G ids tS tE [.ref (d 2 b), .ref (o + 9 + 7 * ci + 1)] (CPic G ids o z tE d w σ) (CPic G ids o z tE d w (h_readLayers_s σ b ci)) (cpG o z) := by
  unfold yV
  refine Met.ofW (cc := cX0_readLayers) (maxL := 5) (ret := none) (by decide) rfl ?_
  intro p e s m args below meth c s₁ B hml hv
  obtain ⟨rfl, hP, hK, hZ⟩ := hv
  have hx := B.exec
  have hb := B.bytes
  have hr := B.returns
  have hts := atoms_spec (ws := wsX0_readLayers) B.pre
  have hown : s.vm.findClass RX0 = some m.cls := findClass_of_methodNamed B.named
  have hlocks := B.notSynchronized
  have hS : va_S (cpG o z) s.heap s.heap [] := va_S.rf
  have hin_wsX00 : ∀ w ∈ wsX00, w ∈ wsX0_readLayers := fun w h => List.mem_cons_of_mem _ (List.mem_append_left _ (List.mem_append_right _ h))
  have hin_wsX40 : ∀ w ∈ wsX40, w ∈ wsX0_readLayers := fun w h => List.mem_cons_of_mem _ (List.mem_append_right _ h)
  have hl := lv_entry ([.ref (d 2 b), .ref (o + 9 + 7 * ci + 1)]) (n := 5) (Nat.le_of_ble_eq_true rfl)
  rw [lg_entry_eq]
  generalize (lg_sl ([.ref (d 2 b), .ref (o + 9 + 7 * ci + 1)]) ++ List.replicate (5 - (lg_sl ([.ref (d 2 b), .ref (o + 9 + 7 * ci + 1)])).length) Slot.unset).toArray = ls at hl ⊢
  have hl : lv_has ls 5 [(0, .ref (d 2 b)), (1, .ref (o + 9 + 7 * ci + 1))] := hl
  refine w_named (fun WW hWW => ?_)
  have hbs := hb0
  have hml9 := vp_lt hm
  refine lv_aload_n hx hb dX0_readLayers_0 rfl (lv_at hl 0 rfl) ?_
  refine x_get (C := RX0) (T := TX0) (N := 5) (ci := 1) (fs := _) (v := .int ((σ.1 35 b))) hx hb hts hin_wsX00 hown hK (hP.hole hb0) rfl 4 (by decide) (index := 31) (List.mem_of_getElem? (i := 1) rfl) rfl dX0_readLayers_1 ?_
  refine lv_iconst (v := nI (5)) hx hb dX0_readLayers_4 (by decide) ?_
  refine lv_imul (x := (σ.1 35 b)) (y := nI (5)) hx hb dX0_readLayers_5 ?_
  refine lv_istore_n (lv' := [(2, .int (((σ.1 35 b)) * (nI (5)))), (0, .ref (d 2 b)), (1, .ref (o + 9 + 7 * ci + 1))]) hx hb dX0_readLayers_6 rfl hl (by decide) rfl (fun ls hl => ?_)
  refine lv_aload_n hx hb dX0_readLayers_7 rfl (lv_at hl 1 rfl) ?_
  refine lv_dup hx hb dX0_readLayers_8 rfl ?_
  refine x_get (C := RX0) (T := TX0) (N := 5) (ci := 1) (fs := _) (v := .int ((σ.1 35 b))) hx hb hts hin_wsX00 hown hK (hP.hole hb0) rfl 4 (by decide) (index := 31) (List.mem_of_getElem? (i := 1) rfl) rfl dX0_readLayers_9 ?_
  refine lv_iconst (v := nI (1)) hx hb dX0_readLayers_12 (by decide) ?_
  refine lv_iadd (x := (σ.1 35 b)) (y := nI (1)) hx hb dX0_readLayers_13 ?_
  refine p_mread (b := b) (v := ((σ.1 35 b)) + (nI (1))) hx hb hts hin_wsX00 hown hK hP hb0 hS (index := 31) (List.mem_of_getElem? (i := 1) rfl) dX0_readLayers_14 (fun H locs hP hS => ?_)
  obtain ⟨s_1, e_2⟩ : ∃ z : Sg, z = (si σ 35 (b) (((σ.1 35 b)) + (nI (1)))) := ⟨_, rfl⟩
  rw [← e_2] at hP
  have hR_3 : h_readLayers_s σ b ci = h_readLayers_k17_s σ b ci s_1 := (by have q_ := e_2.symm; subst q_; unfold h_readLayers_s; rfl)
  have hb0 : b < cpN s_1 1 := by rw [e_2]; exact hb0
  refine lv_aload_n hx hb dX0_readLayers_17 rfl (lv_at hl 1 rfl) ?_
  refine x_get (C := RX0) (T := TX0) (N := 5) (ci := 1) (fs := _) (v := .int ((s_1.1 21 b))) hx hb hts hin_wsX00 hown hK (hP.hole hb0) rfl 1 (by decide) (index := 15) (List.mem_of_getElem? (i := 2) rfl) rfl dX0_readLayers_18 ?_
  refine lv_aload_n hx hb dX0_readLayers_21 rfl (lv_at hl 1 rfl) ?_
  refine x_get (C := RX0) (T := TX0) (N := 5) (ci := 1) (fs := _) (v := .int ((s_1.1 35 b))) hx hb hts hin_wsX00 hown hK (hP.hole hb0) rfl 4 (by decide) (index := 31) (List.mem_of_getElem? (i := 1) rfl) rfl dX0_readLayers_22 ?_
  refine lv_imul (x := (s_1.1 21 b)) (y := (s_1.1 35 b)) hx hb dX0_readLayers_25 ?_
  refine lv_bipush (v := nI (12)) hx hb dX0_readLayers_26 (by decide) ?_
  refine lv_idiv (x := ((s_1.1 21 b)) * ((s_1.1 35 b))) (y := nI (12)) hx hb dX0_readLayers_28 (by decide) ?_
  refine lv_istore_n (lv' := [(3, .int ((((s_1.1 21 b)) * ((s_1.1 35 b))) / (nI (12)))), (2, .int (((σ.1 35 b)) * (nI (5)))), (0, .ref (d 2 b)), (1, .ref (o + 9 + 7 * ci + 1))]) hx hb dX0_readLayers_29 rfl hl (by decide) rfl (fun ls hl => ?_)
  refine lv_iconst (v := nI (0)) hx hb dX0_readLayers_30 (by decide) ?_
  refine lv_istore (lv' := [(4, .int (nI (0))), (3, .int ((((s_1.1 21 b)) * ((s_1.1 35 b))) / (nI (12)))), (2, .int (((σ.1 35 b)) * (nI (5)))), (0, .ref (d 2 b)), (1, .ref (o + 9 + 7 * ci + 1))]) hx hb dX0_readLayers_31 hl (by decide) rfl (fun ls hl => ?_)
  have L33 : ∀ (n33 i33 : Nat), i33 ≤ 5 → 5 + 1 ≤ i33 + n33 → ∀ (z33 : Sg), z33 = lp (h_readLayers_b33 σ b ci s_1) i33 s_1 → ∀ (H : Heap) (locs : List Loc), CPic G ids o z tE d w z33 H → va_S (cpG o z) s.heap H locs → ∀ (ls : Array Slot), lv_has ls 5 [(4, .int (nI (i33))), (3, .int ((((s_1.1 21 b)) * ((s_1.1 35 b))) / (nI (12)))), (2, .int (((σ.1 35 b)) * (nI (5)))), (0, .ref (d 2 b)), (1, .ref (o + 9 + 7 * ci + 1))] → WW H locs 0 0 (F0 m 33 ls []) := by
    intro n33
    induction n33 with
    | zero => intro i33 h1 h2; exact absurd h2 (by omega)
    | succ n33 ih33 =>
      intro i33 hi33 hn33 z33 hz33  H locs hP hS ls hl
      refine (hWW _ _ _ _ _).mpr ?_
      have k22 : ∀ k, k ≠ 35 → k ≠ 40 + b → z33.1 k = σ.1 k := fun k h1 h2 => by rw [hz33, h_rlk k h2, e_2]; exact si_ne h1
      have hb0 : b < cpN z33 1 := by show b < (z33.1 19 0).toNatClampNeg; rw [k22 19 (by decide) (by omega)]; exact hbs
      refine lv_iload hx hb dX0_readLayers_33 (lv_at hl 0 rfl) ?_
      refine lv_aload_n hx hb dX0_readLayers_35 rfl (lv_at hl 4 rfl) ?_
      refine x_alen hx hb hK 4 rfl (hP.row hi) (n := 5) rfl dX0_readLayers_36 ?_
      refine n_icmp_ge (x := i33) (y := 5) (tgt := 76) hx hb (by omega) (by omega) dX0_readLayers_37 (by decide) (fun c_4 => ?_) (fun c_4 => ?_)
      · have hiN : 5 = i33 := by omega
        subst hiN
        have hR_5 : h_readLayers_s σ b ci = h_readLayers_x33_s σ b ci s_1 z33 := (Eq.trans hR_3 (by have q_ := hz33.symm; subst q_; unfold h_readLayers_k17_s; rfl))
        have hsp : z33 = h_readLayers_s σ b ci := (Eq.trans (by unfold h_readLayers_x33_s; rfl) hR_5.symm)
        rw [hsp] at hP
        exact x_vret hx hb hr hlocks hP hS dX0_readLayers_76
      · refine lv_iload_n hx hb dX0_readLayers_40 rfl (lv_at hl 2 rfl) ?_
        refine lv_iload hx hb dX0_readLayers_41 (lv_at hl 0 rfl) ?_
        refine lv_iadd (x := ((σ.1 35 b)) * (nI (5))) (y := nI (i33)) hx hb dX0_readLayers_43 ?_
        refine lv_aload_n hx hb dX0_readLayers_44 rfl (lv_at hl 3 rfl) ?_
        refine x_get (C := RX0) (T := TX0) (N := 5) (ci := 1) (fs := _) (v := .ref (d 3 b)) hx hb hts hin_wsX00 hown hK (hP.hole hb0) rfl 3 (by decide) (index := 27) (List.mem_of_getElem? (i := 3) rfl) rfl dX0_readLayers_45 ?_
        refine x_alen hx hb hK 0 rfl (hP.rdg hb0) (n := 5 * (600 - (z33.1 22 b).toNatClampNeg)) rfl dX0_readLayers_48 ?_
        refine lv_icmp_ge (x := (((σ.1 35 b)) * (nI (5))) + (nI (i33))) (y := nI (5 * (600 - (z33.1 22 b).toNatClampNeg))) (tgt := 76) hx hb dX0_readLayers_49 (by decide) (fun c_6 => absurd c_6 (by rw [k22 22 (by decide) (by omega), rl_ix hm]; exact fun q => absurd ((nI_leI (by omega) (by omega)).mp q) (by omega))) (fun c_6 => ?_)
        refine lv_aload_n hx hb dX0_readLayers_52 rfl (lv_at hl 3 rfl) ?_
        refine x_get (C := RX0) (T := TX0) (N := 5) (ci := 1) (fs := _) (v := .ref (d 3 b)) hx hb hts hin_wsX00 hown hK (hP.hole hb0) rfl 3 (by decide) (index := 27) (List.mem_of_getElem? (i := 3) rfl) rfl dX0_readLayers_53 ?_
        refine lv_iload_n hx hb dX0_readLayers_56 rfl (lv_at hl 2 rfl) ?_
        refine lv_iload hx hb dX0_readLayers_57 (lv_at hl 0 rfl) ?_
        refine lv_iadd (x := ((σ.1 35 b)) * (nI (5))) (y := nI (i33)) hx hb dX0_readLayers_59 ?_
        refine lv_aload_n hx hb dX0_readLayers_60 rfl (lv_at hl 4 rfl) ?_
        refine lv_iload hx hb dX0_readLayers_61 (lv_at hl 0 rfl) ?_
        refine x_aald (r := o + 9 + 7 * ci + 2 + i33) hx hb hK 4 rfl (hP.row hi) (vp_in_nI (by omega) (by decide)) (by rw [nI_clamp (by omega)]) dX0_readLayers_63 ?_
        refine x_callI (As := []) (rest := [.int ((((σ.1 35 b)) * (nI (5))) + (nI (i33))), .ref (d 3 b)]) (fun q h => cpG_lay hi (by omega) h) ⟨hx, hb, hml, hown, hts⟩ (cl_temperature l G ids (o + 9 + 7 * ci + 2 + i33) (5 * ci + i33) z33) (cwV 0 hts gX0_readLayers_X4_temperature rfl rfl rfl (by decide +kernel) ⟨Nat.le_of_ble_eq_true rfl, Nat.le_of_ble_eq_true rfl⟩) hK (hP.lay hi (by omega)) rfl (hP.lay hi (by omega)) hS rfl hl.1 rfl (Nat.le_of_ble_eq_true rfl) dX0_readLayers_64 ⟨Nat.zero_le _, Nat.zero_le _⟩ (fun H locs hP1 _ hk1 hS => ?_)
        replace hP := hP.joinL hi (by omega) hP1 hk1
        refine lv_iload_n hx hb dX0_readLayers_67 rfl (lv_at hl 1 rfl) ?_
        refine lv_iadd (x := (l_temperature z33 (5 * ci + i33))) (y := (((s_1.1 21 b)) * ((s_1.1 35 b))) / (nI (12))) hx hb dX0_readLayers_68 ?_
        refine p_rdg (b := b) (i := (((σ.1 35 b)) * (nI (5))) + (nI (i33))) (x := ((l_temperature z33 (5 * ci + i33))) + ((((s_1.1 21 b)) * ((s_1.1 35 b))) / (nI (12)))) hx hb hK hP hb0 hS (by rw [k22 22 (by decide) (by omega), rl_ix hm]; exact vp_in_nI (by omega) (by omega)) dX0_readLayers_69 (fun H locs hP hS => ?_)
        obtain ⟨s_7, e_8⟩ : ∃ z : Sg, z = (si z33 (40 + b) (((((σ.1 35 b)) * (nI (5))) + (nI (i33))).toNatClampNeg) (((l_temperature z33 (5 * ci + i33))) + ((((s_1.1 21 b)) * ((s_1.1 35 b))) / (nI (12))))) := ⟨_, rfl⟩
        rw [← e_8] at hP
        have hR_9 : h_readLayers_b33 σ b ci s_1 i33 z33 = h_readLayers_k70 σ b ci s_1 i33 z33 s_7 := (by have q_ := e_8.symm; subst q_; unfold h_readLayers_b33; rfl)
        refine n_iinc (x := i33) (dN := 1) (k := 0) (lv' := [(4, .int (nI (i33 + 1))), (3, .int ((((s_1.1 21 b)) * ((s_1.1 35 b))) / (nI (12)))), (2, .int (((σ.1 35 b)) * (nI (5)))), (0, .ref (d 2 b)), (1, .ref (o + 9 + 7 * ci + 1))]) hx hb dX0_readLayers_70 hl rfl (by decide) rfl (fun ls hl => ?_)
        refine lv_goto (tgt := 33) hx hb dX0_readLayers_73 (by decide) ?_
        exact (hWW _ _ _ _ _).mp (ih33 (i33 + 1) (by omega) (by omega) (s_7) (by show _ = h_readLayers_b33 σ b ci s_1 i33 (lp (h_readLayers_b33 σ b ci s_1) i33 s_1); rw [← hz33]; exact (Eq.trans (by unfold h_readLayers_k70; rfl) hR_9.symm))  _ _ hP hS _ (lv_sub hl [0, 1, 2, 3, 4] rfl))
  exact (hWW _ _ _ _ _).mp (L33 (5 + 1) 0 (Nat.zero_le _) (by omega) s_1 rfl  _ _ hP hS _ (lv_sub hl [0, 1, 2, 3, 4] rfl))
