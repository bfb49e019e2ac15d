def k_reading (σ : Sg) (hole : Int32) (mo : Int32) (layer : Int32) : Int32 := (if (h_hasRead σ ((hole).toNatClampNeg) mo) = 0 then nI (0) else (h_readingAt σ ((hole).toNatClampNeg) mo layer))
def kx_reading (σ : Sg) (hole : Int32) (mo : Int32) (layer : Int32) : Nat := xs (xIx (hole) ((σ.1 19 0))) (xs (xIx (layer) (nI (5))) (xs ((if (h_hasRead σ ((hole).toNatClampNeg) mo) = 0 then 1 else 0)) (0)))
set_option maxHeartbeats 4000000 in
set_option maxRecDepth 100000 in
theorem cx_reading (l : Launch) (hl0 : l.stackTraces = false) (G : va_G) (ids : Nat → ClassId) (o z tS tE : Nat) (d : Nat → Nat → Nat) (w : Nat → Nat) (σ : Sg) (hole : Int32) (mo : Int32) (layer : Int32) (hO : cOK σ) : zI l yX5_reading wsX5_reading ({ frames := 7, cells := 3, slots := 18, locals := 121 } : Room) G ids tS tE [.ref (o), .int (hole), .int (mo), .int (layer)] (CPic G ids o z tE d w σ) (kx_reading σ hole mo layer) (k_reading σ hole mo layer) (CPic G ids o z tE d w σ) (cpG o z) 3 18 := by
  unfold zI
  refine vx_ofW (cc := cX5_reading) (maxL := 5) (ret := (some .int)) (by decide) rfl ?_
  intro p e s m args below meth c s₁ B hml hno hv
  obtain ⟨rfl, hP, hK, hZ⟩ := hv
  have hx := B.exec
  have hb := B.bytes
  have hr := B.returns
  have hts := atoms_spec (ws := wsX5_reading) B.pre
  have hown : s.vm.findClass RX5 = some m.cls := findClass_of_methodNamed B.named
  have hlocks := B.notSynchronized
  have hS : va_S (cpG o z) s.heap s.heap [] := va_S.rf
  have hin_wsX50 : ∀ w ∈ wsX50, w ∈ wsX5_reading := fun w h => List.mem_cons_of_mem _ (List.mem_append_left _ (List.mem_append_left _ (List.mem_append_left _ (List.mem_append_right _ h))))
  have hin_wsJx4a65c0 : ∀ w ∈ wsJx4a65c0, w ∈ wsX5_reading := fun w h => List.mem_cons_of_mem _ (List.mem_append_left _ (List.mem_append_left _ (List.mem_append_right _ h)))
  have hin_wsX00 : ∀ w ∈ wsX00, w ∈ wsX5_reading := fun w h => List.mem_cons_of_mem _ (List.mem_append_left _ (List.mem_append_right _ h))
  have hl := lv_entry ([.ref (o), .int (hole), .int (mo), .int (layer)]) (n := 5) (Nat.le_of_ble_eq_true rfl)
  rw [lg_entry_eq]
  generalize (lg_sl ([.ref (o), .int (hole), .int (mo), .int (layer)]) ++ List.replicate (5 - (lg_sl ([.ref (o), .int (hole), .int (mo), .int (layer)])).length) Slot.unset).toArray = ls at hl ⊢
  have hl : lv_has ls 5 [(0, .ref (o)), (1, .int (hole)), (2, .int (mo)), (3, .int (layer))] := hl
  refine w_named (fun WW hWW => ?_)
  refine lv_iload_n hx hb dX5_reading_0 rfl (lv_at hl 1 rfl) ?_
  refine lv_aload_n hx hb dX5_reading_1 rfl (lv_at hl 0 rfl) ?_
  refine x_get (C := RX5) (T := TX5) (N := 10) (ci := 6) (fs := (cpOf o σ)) (v := .ref (o + 3)) hx hb hts hin_wsX50 hown hK hP.main rfl 2 (by decide) (index := 22) (List.mem_of_getElem? (i := 3) rfl) rfl dX5_reading_2 ?_
  refine p_size (L := 1) (rest := [.int (hole)]) (by decide) rfl ⟨hx, hb, hml, hown, hts⟩ (cwV 0 hts gX5_reading_Jx4a65c_size_8abf5 rfl rfl rfl (by decide +kernel) ⟨Nat.le_of_ble_eq_true rfl, Nat.le_of_ble_eq_true rfl⟩) hK hP hS hl.1 (v := (σ.1 19 0)) rfl (Nat.le_of_ble_eq_true rfl) dX5_reading_5 ⟨Nat.le_of_ble_eq_true rfl, Nat.le_of_ble_eq_true rfl⟩ (fun H locs hP hS => ?_)
  refine p_need (As := [.int (hole), .int ((σ.1 19 0))]) (rest := []) (X := xIx (hole) ((σ.1 19 0))) (c1 := 1) (s1 := 6) ⟨hx, hb, hml, hown, hts⟩ (ck_needIndex l hl0 tS tE (hole) ((σ.1 19 0))) (va_cwS 2 hts gX5_reading_X5_needIndex rfl rfl rfl (by decide +kernel) ⟨Nat.le_of_ble_eq_true rfl, Nat.le_of_ble_eq_true rfl⟩) hno hlocks hZ hP hS rfl hl.1 rfl (Nat.le_of_ble_eq_true rfl) dX5_reading_8 ⟨Nat.le_of_ble_eq_true rfl, Nat.le_of_ble_eq_true rfl⟩ rfl rfl (Nat.le_of_ble_eq_true rfl) (Nat.le_of_ble_eq_true rfl) (fun hq_2 => by unfold kx_reading; simp only [xs, if_neg hq_2]) (fun hX_1 H locs hP hS => ?_)
  have hidx := hX_1
  refine lv_iload_n hx hb dX5_reading_11 rfl (lv_at hl 3 rfl) ?_
  refine lv_iconst (v := nI (5)) hx hb dX5_reading_12 (by decide) ?_
  refine p_need (As := [.int (layer), .int (nI (5))]) (rest := []) (X := xIx (layer) (nI (5))) (c1 := 2) (s1 := 12) ⟨hx, hb, hml, hown, hts⟩ (ck_needIndex l hl0 tS tE (layer) (nI (5))) (va_cwS 2 hts gX5_reading_X5_needIndex rfl rfl rfl (by decide +kernel) ⟨Nat.le_of_ble_eq_true rfl, Nat.le_of_ble_eq_true rfl⟩) hno hlocks hZ hP hS rfl hl.1 rfl (Nat.le_of_ble_eq_true rfl) dX5_reading_13 ⟨Nat.le_of_ble_eq_true rfl, Nat.le_of_ble_eq_true rfl⟩ rfl rfl (Nat.le_of_ble_eq_true rfl) (Nat.le_of_ble_eq_true rfl) (fun hq_4 => by unfold kx_reading; simp only [xs, if_pos hX_1, if_neg hq_4]) (fun hX_3 H locs hP hS => ?_)
  refine lv_aload_n hx hb dX5_reading_16 rfl (lv_at hl 0 rfl) ?_
  refine x_get (C := RX5) (T := TX5) (N := 10) (ci := 6) (fs := (cpOf o σ)) (v := .ref (o + 3)) hx hb hts hin_wsX50 hown hK hP.main rfl 2 (by decide) (index := 22) (List.mem_of_getElem? (i := 3) rfl) rfl dX5_reading_17 ?_
  refine lv_iload_n hx hb dX5_reading_20 rfl (lv_at hl 1 rfl) ?_
  have hh := xIx_inI hO.2.1 hidx
  have hj := vp_lt hh
  refine W.eq (g2 := F0 m 21 ls (.int (nI ((hole).toNatClampNeg)) :: .ref (o + 3) :: [])) (congrArg (fun v => F0 m 21 ls (Value.int v :: .ref (o + 3) :: [])) (vp_self hh)) ?_
  refine p_getL (L := 1) (j := (hole).toNatClampNeg) (kd := 2) (rest := []) (by decide) rfl rfl ⟨hx, hb, hml, hown, hts⟩ (cwV 1 hts gX5_reading_Jx4a65c_get_915e3 rfl rfl rfl (by decide +kernel) ⟨Nat.le_of_ble_eq_true rfl, Nat.le_of_ble_eq_true rfl⟩) hK hP hS (vp_self hO.2.1) hj hl.1 (Nat.le_of_ble_eq_true rfl) dX5_reading_21 ⟨Nat.le_of_ble_eq_true rfl, Nat.le_of_ble_eq_true rfl⟩ (fun H locs hP hS => ?_)
  refine x_cast hx hb hown (hts _ (List.mem_of_getElem? (i := 4) rfl)) hK (hP.hole hj) rfl dX5_reading_24 ?_
  refine lv_astore (lv' := [(4, .ref (d 2 ((hole).toNatClampNeg))), (0, .ref (o)), (1, .int (hole)), (2, .int (mo)), (3, .int (layer))]) hx hb dX5_reading_27 hl (by decide) rfl (fun ls hl => ?_)
  refine lv_aload hx hb dX5_reading_29 (lv_at hl 0 rfl) ?_
  refine lv_iload_n hx hb dX5_reading_31 rfl (lv_at hl 3 rfl) ?_
  refine y_callIF (As := [.int (mo)]) (rest := []) ⟨hx, hb, hml, hown, hts⟩ (ch_hasRead l G ids o z tS tE d w σ ((hole).toNatClampNeg) mo hj) (cwV 1 hts gX5_reading_X0_hasRead rfl rfl rfl (by decide +kernel) ⟨Nat.le_of_ble_eq_true rfl, Nat.le_of_ble_eq_true rfl⟩) hK hZ (hP.hole hj) rfl hP hS rfl hl.1 rfl (Nat.le_of_ble_eq_true rfl) dX5_reading_32 ⟨Nat.le_of_ble_eq_true rfl, Nat.le_of_ble_eq_true rfl⟩ (fun H locs hP _ hk hS => ?_)
  refine lv_if_ne (x := (h_hasRead σ ((hole).toNatClampNeg) mo)) (tgt := 46) hx hb dX5_reading_35 (by decide) (fun c_5 => ?_) (fun c_5 => ?_)
  · have hXz : (kx_reading σ hole mo layer) = 0 := by unfold kx_reading; simp only [xs, if_pos hX_1, if_pos hX_3, if_neg c_5] <;> decide
    refine lv_aload hx hb dX5_reading_46 (lv_at hl 0 rfl) ?_
    refine lv_iload_n hx hb dX5_reading_48 rfl (lv_at hl 3 rfl) ?_
    refine lv_iload_n hx hb dX5_reading_49 rfl (lv_at hl 4 rfl) ?_
    refine y_callIF (As := [.int (mo), .int (layer)]) (rest := []) ⟨hx, hb, hml, hown, hts⟩ (ch_readingAt l G ids o z tS tE d w σ ((hole).toNatClampNeg) mo layer hj) (cwV 2 hts gX5_reading_X0_readingAt rfl rfl rfl (by decide +kernel) ⟨Nat.le_of_ble_eq_true rfl, Nat.le_of_ble_eq_true rfl⟩) hK hZ (hP.hole hj) rfl hP hS rfl hl.1 rfl (Nat.le_of_ble_eq_true rfl) dX5_reading_50 ⟨Nat.le_of_ble_eq_true rfl, Nat.le_of_ble_eq_true rfl⟩ (fun H locs hP _ hk hS => ?_)
    exact z_iret (v := (h_readingAt σ ((hole).toNatClampNeg) mo layer)) hx hb hr hlocks hXz (Nat.le_of_ble_eq_true rfl) (Nat.le_of_ble_eq_true rfl) hP hS dX5_reading_53 (by unfold k_reading; simp only [if_neg c_5])
  · have hXt_6 : (kx_reading σ hole mo layer) = 1 := by unfold kx_reading; simp only [xs, if_pos hX_1, if_pos hX_3, if_pos c_5] <;> decide
    exact p_throw hx hb hl0 (own := RX5) (cls := "java/lang/IndexOutOfBoundsException") (names := ["java/lang/RuntimeException", "java/lang/Exception"]) (ik := 160) (ic := 162) hown (by decide +kernel) (by decide +kernel) (hts _ (List.mem_of_getElem? (i := 1) rfl)) (hts _ (List.mem_of_getElem? (i := 2) rfl)) (vx_hat (B := xNW) (fun w hw => hts _ ((fun w h => List.mem_cons_of_mem _ (List.mem_append_right _ h)) w hw)) (by decide +kernel) (fun w hw => va_Nw.use (xNW_tab w hw) (hZ.2.2.2.2.1 w hw))) (by decide +kernel) hno hlocks hZ hP hS (hl.1.trans hml.symm) dX5_reading_38 dX5_reading_41 dX5_reading_42 dX5_reading_45 (Nat.le_of_ble_eq_true rfl) (Nat.le_of_ble_eq_true rfl) (Nat.le_of_ble_eq_true rfl) (Nat.le_of_ble_eq_true rfl) (by rw [hXt_6]; decide) (by rw [hXt_6]; rfl) (Nat.le_of_ble_eq_true rfl) (Nat.le_of_ble_eq_true rfl)
