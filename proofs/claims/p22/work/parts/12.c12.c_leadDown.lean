def c_leadDown_x5_s (σ : Sg) (i : Nat) (fa : Int32) (fb : Int32) (z5 : Int32 × Sg) : Sg := z5.2
def c_leadDown_k78 (i : Nat) (fb : Int32) (i5 : Nat) (z5 : Int32 × Sg) (y_5 : Int32) (s_9 : Sg) : Int32 × Sg := (y_5, s_9)
def c_leadDown_j59 (i : Nat) (fb : Int32) (i5 : Nat) (z5 : Int32 × Sg) (y_5 : Int32) : Int32 × Sg := (c_leadDown_k78 i fb i5 z5 y_5 (si z5.2 10 (5 * i + i5) (((z5.2.1 10 (5 * i + i5))) + ((z5.1) - (y_5)))))
def c_leadDown_b5 (i : Nat) (fb : Int32) (i5 : Nat) (z5 : Int32 × Sg) : Int32 × Sg := (c_leadDown_j59 i fb i5 z5 (if 5 ≤ i5 + 1 then -(fb) else (nI (20)) * (((l_temperature z5.2 (5 * i + i5))) - ((l_temperature z5.2 (5 * i + (i5 + 1)))))))
def c_leadDown_s (σ : Sg) (i : Nat) (fa : Int32) (fb : Int32) : Sg := (c_leadDown_x5_s σ i fa fb (lp (c_leadDown_b5 i fb) 5 (fa, σ)))
set_option maxHeartbeats 4000000 in
set_option maxRecDepth 100000 in
theorem cc_leadDown (l : Launch) (G : va_G) (ids : Nat → ClassId) (b i : Nat) (σ : Sg) (fa : Int32) (fb : Int32) : xV l yX1_leadDown wsX1_leadDown ({ frames := 2, cells := 0, slots := 0, locals := 41 } : Room) G ids [.ref (b), .int (fa), .int (fb)] (XBP G ids b i σ) (XBP G ids b i (c_leadDown_s σ i fa fb)) (bA b) := by
  unfold xV
  refine Met.ofW (cc := cX1_leadDown) (maxL := 6) (ret := none) (by decide) rfl ?_
  intro p e s m args below meth c s₁ B hml hv
  obtain ⟨rfl, hP, hK⟩ := hv
  have hx := B.exec
  have hb := B.bytes
  have hr := B.returns
  have hts := atoms_spec (ws := wsX1_leadDown) B.pre
  have hown : s.vm.findClass RX1 = some m.cls := findClass_of_methodNamed B.named
  have hlocks := B.notSynchronized
  have hS : va_S (bA b) s.heap s.heap [] := va_S.rf
  have hin_wsX10 : ∀ w ∈ wsX10, w ∈ wsX1_leadDown := fun w h => List.mem_cons_of_mem _ (List.mem_append_left _ (List.mem_append_right _ h))
  have hin_wsX40 : ∀ w ∈ wsX40, w ∈ wsX1_leadDown := fun w h => List.mem_cons_of_mem _ (List.mem_append_right _ h)
  have hl := lv_entry ([.ref (b), .int (fa), .int (fb)]) (n := 6) (Nat.le_of_ble_eq_true rfl)
  rw [lg_entry_eq]
  generalize (lg_sl ([.ref (b), .int (fa), .int (fb)]) ++ List.replicate (6 - (lg_sl ([.ref (b), .int (fa), .int (fb)])).length) Slot.unset).toArray = ls at hl ⊢
  have hl : lv_has ls 6 [(0, .ref (b)), (1, .int (fa)), (2, .int (fb))] := hl
  refine w_named (fun WW hWW => ?_)
  refine lv_iload_n hx hb dX1_leadDown_0 rfl (lv_at hl 1 rfl) ?_
  refine lv_istore_n (lv' := [(3, .int (fa)), (0, .ref (b)), (1, .int (fa)), (2, .int (fb))]) hx hb dX1_leadDown_1 rfl hl (by decide) rfl (fun ls hl => ?_)
  refine lv_iconst (v := nI (0)) hx hb dX1_leadDown_2 (by decide) ?_
  refine lv_istore (lv' := [(4, .int (nI (0))), (3, .int (fa)), (0, .ref (b)), (1, .int (fa)), (2, .int (fb))]) hx hb dX1_leadDown_3 hl (by decide) rfl (fun ls hl => ?_)
  have L5 : ∀ (n5 i5 : Nat), i5 ≤ 5 → 5 + 1 ≤ i5 + n5 → ∀ (z5 : Int32 × Sg), z5 = lp (c_leadDown_b5 i fb) i5 (fa, σ) → ∀ (H : Heap) (locs : List Loc), XBP G ids b i z5.2 H → va_S (bA b) s.heap H locs → ∀ (ls : Array Slot), lv_has ls 6 [(4, .int (nI (i5))), (3, .int (z5.1)), (0, .ref (b)), (1, .int (fa)), (2, .int (fb))] → WW H locs 0 0 (F0 m 5 ls []) := by
    intro n5
    induction n5 with
    | zero => intro i5 h1 h2; exact absurd h2 (by omega)
    | succ n5 ih5 =>
      intro i5 hi5 hn5 z5 hz5  H locs hP hS ls hl
      refine (hWW _ _ _ _ _).mpr ?_
      refine lv_iload hx hb dX1_leadDown_5 (lv_at hl 0 rfl) ?_
      refine lv_aload_n hx hb dX1_leadDown_7 rfl (lv_at hl 2 rfl) ?_
      refine x_get (C := RX1) (T := TX1) (N := 7) (ci := 2) (fs := (cfs b i z5.2)) (v := .ref (b + 1)) hx hb hts hin_wsX10 hown hK hP.1 rfl 0 (by decide) (index := 14) (List.mem_of_getElem? (i := 1) rfl) rfl dX1_leadDown_8 ?_
      refine x_alen hx hb hK 4 rfl hP.2.1 (n := 5) rfl dX1_leadDown_11 ?_
      refine n_icmp_ge (x := i5) (y := 5) (tgt := 87) hx hb (by omega) (by omega) dX1_leadDown_12 (by decide) (fun c_1 => ?_) (fun c_1 => ?_)
      · have hiN : 5 = i5 := by omega
        subst hiN
        have hR_2 : c_leadDown_s σ i fa fb = c_leadDown_x5_s σ i fa fb z5 := (by have q_ := hz5.symm; subst q_; unfold c_leadDown_s; rfl)
        have hsp : z5.2 = c_leadDown_s σ i fa fb := (Eq.trans (by unfold c_leadDown_x5_s; rfl) hR_2.symm)
        rw [hsp] at hP
        exact x_vret hx hb hr hlocks hP hS dX1_leadDown_87
      · refine lv_iload_n hx hb dX1_leadDown_15 rfl (lv_at hl 4 rfl) ?_
        refine lv_ineg hx hb dX1_leadDown_16 ?_
        refine lv_istore (lv' := [(5, .int (-(fb))), (4, .int (nI (i5))), (3, .int (z5.1)), (0, .ref (b)), (1, .int (fa)), (2, .int (fb))]) hx hb dX1_leadDown_17 hl (by decide) rfl (fun ls hl => ?_)
        refine lv_iload hx hb dX1_leadDown_19 (lv_at hl 1 rfl) ?_
        refine lv_iconst (v := nI (1)) hx hb dX1_leadDown_21 (by decide) ?_
        refine n_add (x := i5) (y := 1) hx hb dX1_leadDown_22 ?_
        refine lv_aload_n hx hb dX1_leadDown_23 rfl (lv_at hl 3 rfl) ?_
        refine x_get (C := RX1) (T := TX1) (N := 7) (ci := 2) (fs := (cfs b i z5.2)) (v := .ref (b + 1)) hx hb hts hin_wsX10 hown hK hP.1 rfl 0 (by decide) (index := 14) (List.mem_of_getElem? (i := 1) rfl) rfl dX1_leadDown_24 ?_
        refine x_alen hx hb hK 4 rfl hP.2.1 (n := 5) rfl dX1_leadDown_27 ?_
        have J59_6 : ∀ (y_5 : Int32), y_5 = (if 5 ≤ i5 + 1 then -(fb) else (nI (20)) * (((l_temperature z5.2 (5 * i + i5))) - ((l_temperature z5.2 (5 * i + (i5 + 1)))))) → ∀ (H : Heap) (locs : List Loc), XBP G ids b i z5.2 H → va_S (bA b) s.heap H locs → ∀ (ls : Array Slot), lv_has ls 6 [(5, .int (y_5)), (4, .int (nI (i5))), (3, .int (z5.1)), (0, .ref (b)), (1, .int (fa)), (2, .int (fb))] → WW H locs 0 0 (F0 m 59 ls []) := by
          intro y_5 h_7 H locs hP hS ls hl
          refine (hWW _ _ _ _ _).mpr ?_
          have hR_8 : c_leadDown_b5 i fb i5 z5 = c_leadDown_j59 i fb i5 z5 y_5 := (by have q_ := h_7.symm; subst q_; unfold c_leadDown_b5; rfl)
          refine lv_aload_n hx hb dX1_leadDown_59 rfl (lv_at hl 3 rfl) ?_
          refine x_get (C := RX1) (T := TX1) (N := 7) (ci := 2) (fs := (cfs b i z5.2)) (v := .ref (b + 1)) hx hb hts hin_wsX10 hown hK hP.1 rfl 0 (by decide) (index := 14) (List.mem_of_getElem? (i := 1) rfl) rfl dX1_leadDown_60 ?_
          refine lv_iload hx hb dX1_leadDown_63 (lv_at hl 1 rfl) ?_
          refine x_aald (r := b + 2 + i5) hx hb hK 4 rfl hP.2.1 (vp_in_nI (by omega) (by decide)) (by rw [nI_clamp (by omega)]) dX1_leadDown_65 ?_
          refine lv_dup hx hb dX1_leadDown_66 rfl ?_
          refine x_get (C := RX4) (T := TX4) (N := 4) (ci := 5) (fs := (lfs (5 * i + i5) z5.2)) (v := .int ((z5.2.1 10 (5 * i + i5)))) hx hb hts hin_wsX40 hown hK (hP.2.2 i5 (by omega)) rfl 2 (by decide) (index := 53) (List.mem_of_getElem? (i := 2) rfl) rfl dX1_leadDown_67 ?_
          refine lv_iload_n hx hb dX1_leadDown_70 rfl (lv_at hl 2 rfl) ?_
          refine lv_iload hx hb dX1_leadDown_71 (lv_at hl 0 rfl) ?_
          refine lv_isub (x := z5.1) (y := y_5) hx hb dX1_leadDown_73 ?_
          refine lv_iadd (x := (z5.2.1 10 (5 * i + i5))) (y := (z5.1) - (y_5)) hx hb dX1_leadDown_74 ?_
          refine b_putL (j := i5) (v := ((z5.2.1 10 (5 * i + i5))) + ((z5.1) - (y_5))) hx hb hts hin_wsX40 hown hK hP (by omega) (by unfold bA; omega) hS 2 (by decide) (index := 53) (List.mem_of_getElem? (i := 2) rfl) dX1_leadDown_75 (fun H locs hP _ hS => ?_)
          obtain ⟨s_9, e_10⟩ : ∃ z : Sg, z = (si z5.2 10 (5 * i + i5) (((z5.2.1 10 (5 * i + i5))) + ((z5.1) - (y_5)))) := ⟨_, rfl⟩
          rw [← e_10] at hP
          have hR_11 : c_leadDown_b5 i fb i5 z5 = c_leadDown_k78 i fb i5 z5 y_5 s_9 := (Eq.trans hR_8 (by have q_ := e_10.symm; subst q_; unfold c_leadDown_j59; rfl))
          refine lv_iload hx hb dX1_leadDown_78 (lv_at hl 0 rfl) ?_
          refine lv_istore_n (lv' := [(3, .int (y_5)), (5, .int (y_5)), (4, .int (nI (i5))), (0, .ref (b)), (1, .int (fa)), (2, .int (fb))]) hx hb dX1_leadDown_80 rfl hl (by decide) rfl (fun ls hl => ?_)
          refine n_iinc (x := i5) (dN := 1) (k := 2) (lv' := [(4, .int (nI (i5 + 1))), (3, .int (y_5)), (5, .int (y_5)), (0, .ref (b)), (1, .int (fa)), (2, .int (fb))]) hx hb dX1_leadDown_81 hl rfl (by decide) rfl (fun ls hl => ?_)
          refine lv_goto (tgt := 5) hx hb dX1_leadDown_84 (by decide) ?_
          exact (hWW _ _ _ _ _).mp (ih5 (i5 + 1) (by omega) (by omega) ((y_5, s_9)) (by show _ = c_leadDown_b5 i fb i5 (lp (c_leadDown_b5 i fb) i5 (fa, σ)); rw [← hz5]; exact (Eq.trans (by unfold c_leadDown_k78; rfl) hR_11.symm))  _ _ hP hS _ (lv_sub hl [0, 1, 3, 4, 5] rfl))
        refine n_icmp_ge (x := i5 + 1) (y := 5) (tgt := 59) hx hb (by omega) (by omega) dX1_leadDown_28 (by decide) (fun c_3 => ?_) (fun c_3 => ?_)
        · exact (hWW _ _ _ _ _).mp (J59_6 _ (by simp only [if_pos c_3]) _ _ hP hS _ (lv_sub hl [0, 1, 2, 3, 4, 5] rfl))
        · refine lv_bipush (v := nI (20)) hx hb dX1_leadDown_31 (by decide) ?_
          refine lv_aload_n hx hb dX1_leadDown_33 rfl (lv_at hl 3 rfl) ?_
          refine x_get (C := RX1) (T := TX1) (N := 7) (ci := 2) (fs := (cfs b i z5.2)) (v := .ref (b + 1)) hx hb hts hin_wsX10 hown hK hP.1 rfl 0 (by decide) (index := 14) (List.mem_of_getElem? (i := 1) rfl) rfl dX1_leadDown_34 ?_
          refine lv_iload hx hb dX1_leadDown_37 (lv_at hl 1 rfl) ?_
          refine x_aald (r := b + 2 + i5) hx hb hK 4 rfl hP.2.1 (vp_in_nI (by omega) (by decide)) (by rw [nI_clamp (by omega)]) dX1_leadDown_39 ?_
          refine x_callI (As := []) (rest := [.int (nI (20))]) (fun q h => by subst h; unfold bA; omega) ⟨hx, hb, hml, hown, hts⟩ (cl_temperature l G ids (b + 2 + i5) (5 * i + i5) z5.2) (cwV 0 hts gX1_leadDown_X4_temperature rfl rfl rfl (by decide +kernel) ⟨Nat.le_of_ble_eq_true rfl, Nat.le_of_ble_eq_true rfl⟩) hK (hP.2.2 i5 (by omega)) rfl (hP.2.2 i5 (by omega)) hS rfl hl.1 rfl (Nat.le_of_ble_eq_true rfl) dX1_leadDown_40 ⟨Nat.zero_le _, Nat.zero_le _⟩ (fun H locs hP1 _ hk1 hS => ?_)
          replace hP := hP.join (by omega) hP1 hk1 (fun _ _ _ => rfl)
          refine lv_aload_n hx hb dX1_leadDown_43 rfl (lv_at hl 3 rfl) ?_
          refine x_get (C := RX1) (T := TX1) (N := 7) (ci := 2) (fs := (cfs b i z5.2)) (v := .ref (b + 1)) hx hb hts hin_wsX10 hown hK hP.1 rfl 0 (by decide) (index := 14) (List.mem_of_getElem? (i := 1) rfl) rfl dX1_leadDown_44 ?_
          refine lv_iload hx hb dX1_leadDown_47 (lv_at hl 1 rfl) ?_
          refine lv_iconst (v := nI (1)) hx hb dX1_leadDown_49 (by decide) ?_
          refine n_add (x := i5) (y := 1) hx hb dX1_leadDown_50 ?_
          refine x_aald (r := b + 2 + (i5 + 1)) hx hb hK 4 rfl hP.2.1 (vp_in_nI (by omega) (by decide)) (by rw [nI_clamp (by omega)]) dX1_leadDown_51 ?_
          refine x_callI (As := []) (rest := [.int ((l_temperature z5.2 (5 * i + i5))), .int (nI (20))]) (fun q h => by subst h; unfold bA; omega) ⟨hx, hb, hml, hown, hts⟩ (cl_temperature l G ids (b + 2 + (i5 + 1)) (5 * i + (i5 + 1)) z5.2) (cwV 0 hts gX1_leadDown_X4_temperature rfl rfl rfl (by decide +kernel) ⟨Nat.le_of_ble_eq_true rfl, Nat.le_of_ble_eq_true rfl⟩) hK (hP.2.2 (i5 + 1) (by omega)) rfl (hP.2.2 (i5 + 1) (by omega)) hS rfl hl.1 rfl (Nat.le_of_ble_eq_true rfl) dX1_leadDown_52 ⟨Nat.zero_le _, Nat.zero_le _⟩ (fun H locs hP1 _ hk1 hS => ?_)
          replace hP := hP.join (by omega) hP1 hk1 (fun _ _ _ => rfl)
          refine lv_isub (x := (l_temperature z5.2 (5 * i + i5))) (y := (l_temperature z5.2 (5 * i + (i5 + 1)))) hx hb dX1_leadDown_55 ?_
          refine lv_imul (x := nI (20)) (y := ((l_temperature z5.2 (5 * i + i5))) - ((l_temperature z5.2 (5 * i + (i5 + 1))))) hx hb dX1_leadDown_56 ?_
          refine lv_istore (lv' := [(5, .int ((nI (20)) * (((l_temperature z5.2 (5 * i + i5))) - ((l_temperature z5.2 (5 * i + (i5 + 1))))))), (4, .int (nI (i5))), (3, .int (z5.1)), (0, .ref (b)), (1, .int (fa)), (2, .int (fb))]) hx hb dX1_leadDown_57 hl (by decide) rfl (fun ls hl => ?_)
          exact (hWW _ _ _ _ _).mp (J59_6 _ (by simp only [if_neg c_3]) _ _ hP hS _ (lv_sub hl [0, 1, 2, 3, 4, 5] rfl))
  exact (hWW _ _ _ _ _).mp (L5 (5 + 1) 0 (Nat.zero_le _) (by omega) (fa, σ) rfl  _ _ hP hS _ (lv_sub hl [0, 1, 2, 3, 4] rfl))
