def c_thawedFromAbove_j29 (σ : Sg) (i : Nat) (y_4 : Int32) : Int32 := y_4
def c_thawedFromAbove (σ : Sg) (i : Nat) : Int32 := (c_thawedFromAbove_j29 σ i (if (l_isThawed σ (5 * i + 0)) = 0 then nI (0) else (if (l_isThawed σ (5 * i + 1)) = 0 then nI (1) else (if (l_isThawed σ (5 * i + 2)) = 0 then nI (2) else (if (l_isThawed σ (5 * i + 3)) = 0 then nI (3) else (if (l_isThawed σ (5 * i + 4)) = 0 then nI (4) else nI (5)))))))
set_option maxHeartbeats 4000000 in
set_option maxRecDepth 100000 in
theorem cc_thawedFromAbove (l : Launch) (G : va_G) (ids : Nat → ClassId) (b i : Nat) (σ : Sg) : xI l yX1_thawedFromAbove wsX1_thawedFromAbove ({ frames := 1, cells := 0, slots := 0, locals := 20 } : Room) G ids [.ref (b)] (XBP G ids b i σ) (c_thawedFromAbove σ i) (XBP G ids b i σ) (bA b) := by
  unfold xI
  refine Met.ofW (cc := cX1_thawedFromAbove) (maxL := 2) (ret := (some .int)) (by decide) rfl ?_
  intro p e s m args below meth c s₁ B hml hv
  obtain ⟨rfl, hP, hK⟩ := hv
  have hx := B.exec
  have hb := B.bytes
  have hr := B.returns
  have hts := atoms_spec (ws := wsX1_thawedFromAbove) B.pre
  have hown : s.vm.findClass RX1 = some m.cls := findClass_of_methodNamed B.named
  have hlocks := B.notSynchronized
  have hS : va_S (bA b) s.heap s.heap [] := va_S.rf
  have hin_wsX10 : ∀ w ∈ wsX10, w ∈ wsX1_thawedFromAbove := fun w h => List.mem_cons_of_mem _ (List.mem_append_left _ (List.mem_append_right _ h))
  have hin_wsX40 : ∀ w ∈ wsX40, w ∈ wsX1_thawedFromAbove := fun w h => List.mem_cons_of_mem _ (List.mem_append_right _ h)
  have hl := lv_entry ([.ref (b)]) (n := 2) (Nat.le_of_ble_eq_true rfl)
  rw [lg_entry_eq]
  generalize (lg_sl ([.ref (b)]) ++ List.replicate (2 - (lg_sl ([.ref (b)])).length) Slot.unset).toArray = ls at hl ⊢
  have hl : lv_has ls 2 [(0, .ref (b))] := hl
  refine w_named (fun WW hWW => ?_)
  refine lv_iconst (v := nI (0)) hx hb dX1_thawedFromAbove_0 (by decide) ?_
  refine lv_istore_n (lv' := [(1, .int (nI (0))), (0, .ref (b))]) hx hb dX1_thawedFromAbove_1 rfl hl (by decide) rfl (fun ls hl => ?_)
  refine lv_iload_n hx hb dX1_thawedFromAbove_2 rfl (lv_at hl 0 rfl) ?_
  refine lv_aload_n hx hb dX1_thawedFromAbove_3 rfl (lv_at hl 1 rfl) ?_
  refine x_get (C := RX1) (T := TX1) (N := 7) (ci := 2) (fs := (cfs b i σ)) (v := .ref (b + 1)) hx hb hts hin_wsX10 hown hK hP.1 rfl 0 (by decide) (index := 14) (List.mem_of_getElem? (i := 1) rfl) rfl dX1_thawedFromAbove_4 ?_
  refine x_alen hx hb hK 4 rfl hP.2.1 (n := 5) rfl dX1_thawedFromAbove_7 ?_
  refine n_icmp_ge (x := 0) (y := 5) (tgt := 29) hx hb (by omega) (by omega) dX1_thawedFromAbove_8 (by decide) (fun c_1 => absurd c_1 (by omega)) (fun c_1 => ?_)
  refine lv_aload_n hx hb dX1_thawedFromAbove_11 rfl (lv_at hl 1 rfl) ?_
  refine x_get (C := RX1) (T := TX1) (N := 7) (ci := 2) (fs := (cfs b i σ)) (v := .ref (b + 1)) hx hb hts hin_wsX10 hown hK hP.1 rfl 0 (by decide) (index := 14) (List.mem_of_getElem? (i := 1) rfl) rfl dX1_thawedFromAbove_12 ?_
  refine lv_iload_n hx hb dX1_thawedFromAbove_15 rfl (lv_at hl 0 rfl) ?_
  refine x_aald (r := b + 2 + 0) hx hb hK 4 rfl hP.2.1 (vp_in_nI (by omega) (by decide)) (by rw [nI_clamp (by omega)]) dX1_thawedFromAbove_16 ?_
  refine x_callI (As := []) (rest := []) (fun q h => by subst h; unfold bA; omega) ⟨hx, hb, hml, hown, hts⟩ (cl_isThawed l G ids (b + 2 + 0) (5 * i + 0) σ) (cwV 0 hts gX1_thawedFromAbove_X4_isThawed rfl rfl rfl (by decide +kernel) ⟨Nat.le_of_ble_eq_true rfl, Nat.le_of_ble_eq_true rfl⟩) hK (hP.2.2 0 (by omega)) rfl (hP.2.2 0 (by omega)) hS rfl hl.1 rfl (Nat.le_of_ble_eq_true rfl) dX1_thawedFromAbove_17 ⟨Nat.zero_le _, Nat.zero_le _⟩ (fun H locs hP1 _ hk1 hS => ?_)
  replace hP := hP.join (by omega) hP1 hk1 (fun _ _ _ => rfl)
  have J29_5 : ∀ (y_4 : Int32), y_4 = (if (l_isThawed σ (5 * i + 0)) = 0 then nI (0) else (if (l_isThawed σ (5 * i + 1)) = 0 then nI (1) else (if (l_isThawed σ (5 * i + 2)) = 0 then nI (2) else (if (l_isThawed σ (5 * i + 3)) = 0 then nI (3) else (if (l_isThawed σ (5 * i + 4)) = 0 then nI (4) else nI (5)))))) → ∀ (H : Heap) (locs : List Loc), XBP G ids b i σ H → va_S (bA b) s.heap H locs → ∀ (ls : Array Slot), lv_has ls 2 [(1, .int (y_4)), (0, .ref (b))] → WW H locs 0 0 (F0 m 29 ls []) := by
    intro y_4 h_6 H locs hP hS ls hl
    refine (hWW _ _ _ _ _).mpr ?_
    have hR_7 : c_thawedFromAbove σ i = c_thawedFromAbove_j29 σ i y_4 := (by have q_ := h_6.symm; subst q_; unfold c_thawedFromAbove; rfl)
    refine lv_iload_n hx hb dX1_thawedFromAbove_29 rfl (lv_at hl 0 rfl) ?_
    exact x_iret (v := y_4) hx hb hr hlocks hP hS dX1_thawedFromAbove_30 (Eq.trans (by unfold c_thawedFromAbove_j29; rfl) hR_7.symm)
  refine lv_if_eq (x := (l_isThawed σ (5 * i + 0))) (tgt := 29) hx hb dX1_thawedFromAbove_20 (by decide) (fun c_2 => ?_) (fun c_2 => ?_)
  · exact (hWW _ _ _ _ _).mp (J29_5 _ (by simp only [if_pos c_2]) _ _ hP hS _ (lv_sub hl [0, 1] rfl))
  · refine n_iinc (x := 0) (dN := 1) (k := 0) (lv' := [(1, .int (nI (1))), (0, .ref (b))]) hx hb dX1_thawedFromAbove_23 hl rfl (by decide) rfl (fun ls hl => ?_)
    refine lv_goto (tgt := 2) hx hb dX1_thawedFromAbove_26 (by decide) ?_
    refine lv_iload_n hx hb dX1_thawedFromAbove_2 rfl (lv_at hl 0 rfl) ?_
    refine lv_aload_n hx hb dX1_thawedFromAbove_3 rfl (lv_at hl 1 rfl) ?_
    refine x_get (C := RX1) (T := TX1) (N := 7) (ci := 2) (fs := (cfs b i σ)) (v := .ref (b + 1)) hx hb hts hin_wsX10 hown hK hP.1 rfl 0 (by decide) (index := 14) (List.mem_of_getElem? (i := 1) rfl) rfl dX1_thawedFromAbove_4 ?_
    refine x_alen hx hb hK 4 rfl hP.2.1 (n := 5) rfl dX1_thawedFromAbove_7 ?_
    refine n_icmp_ge (x := 1) (y := 5) (tgt := 29) hx hb (by omega) (by omega) dX1_thawedFromAbove_8 (by decide) (fun c_8 => absurd c_8 (by omega)) (fun c_8 => ?_)
    refine lv_aload_n hx hb dX1_thawedFromAbove_11 rfl (lv_at hl 1 rfl) ?_
    refine x_get (C := RX1) (T := TX1) (N := 7) (ci := 2) (fs := (cfs b i σ)) (v := .ref (b + 1)) hx hb hts hin_wsX10 hown hK hP.1 rfl 0 (by decide) (index := 14) (List.mem_of_getElem? (i := 1) rfl) rfl dX1_thawedFromAbove_12 ?_
    refine lv_iload_n hx hb dX1_thawedFromAbove_15 rfl (lv_at hl 0 rfl) ?_
    refine x_aald (r := b + 2 + 1) hx hb hK 4 rfl hP.2.1 (vp_in_nI (by omega) (by decide)) (by rw [nI_clamp (by omega)]) dX1_thawedFromAbove_16 ?_
    refine x_callI (As := []) (rest := []) (fun q h => by subst h; unfold bA; omega) ⟨hx, hb, hml, hown, hts⟩ (cl_isThawed l G ids (b + 2 + 1) (5 * i + 1) σ) (cwV 0 hts gX1_thawedFromAbove_X4_isThawed rfl rfl rfl (by decide +kernel) ⟨Nat.le_of_ble_eq_true rfl, Nat.le_of_ble_eq_true rfl⟩) hK (hP.2.2 1 (by omega)) rfl (hP.2.2 1 (by omega)) hS rfl hl.1 rfl (Nat.le_of_ble_eq_true rfl) dX1_thawedFromAbove_17 ⟨Nat.zero_le _, Nat.zero_le _⟩ (fun H locs hP1 _ hk1 hS => ?_)
    replace hP := hP.join (by omega) hP1 hk1 (fun _ _ _ => rfl)
    refine lv_if_eq (x := (l_isThawed σ (5 * i + 1))) (tgt := 29) hx hb dX1_thawedFromAbove_20 (by decide) (fun c_9 => ?_) (fun c_9 => ?_)
    · exact (hWW _ _ _ _ _).mp (J29_5 _ (by simp only [if_neg c_2, if_pos c_9]) _ _ hP hS _ (lv_sub hl [0, 1] rfl))
    · refine n_iinc (x := 1) (dN := 1) (k := 0) (lv' := [(1, .int (nI (2))), (0, .ref (b))]) hx hb dX1_thawedFromAbove_23 hl rfl (by decide) rfl (fun ls hl => ?_)
      refine lv_goto (tgt := 2) hx hb dX1_thawedFromAbove_26 (by decide) ?_
      refine lv_iload_n hx hb dX1_thawedFromAbove_2 rfl (lv_at hl 0 rfl) ?_
      refine lv_aload_n hx hb dX1_thawedFromAbove_3 rfl (lv_at hl 1 rfl) ?_
      refine x_get (C := RX1) (T := TX1) (N := 7) (ci := 2) (fs := (cfs b i σ)) (v := .ref (b + 1)) hx hb hts hin_wsX10 hown hK hP.1 rfl 0 (by decide) (index := 14) (List.mem_of_getElem? (i := 1) rfl) rfl dX1_thawedFromAbove_4 ?_
      refine x_alen hx hb hK 4 rfl hP.2.1 (n := 5) rfl dX1_thawedFromAbove_7 ?_
      refine n_icmp_ge (x := 2) (y := 5) (tgt := 29) hx hb (by omega) (by omega) dX1_thawedFromAbove_8 (by decide) (fun c_10 => absurd c_10 (by omega)) (fun c_10 => ?_)
      refine lv_aload_n hx hb dX1_thawedFromAbove_11 rfl (lv_at hl 1 rfl) ?_
      refine x_get (C := RX1) (T := TX1) (N := 7) (ci := 2) (fs := (cfs b i σ)) (v := .ref (b + 1)) hx hb hts hin_wsX10 hown hK hP.1 rfl 0 (by decide) (index := 14) (List.mem_of_getElem? (i := 1) rfl) rfl dX1_thawedFromAbove_12 ?_
      refine lv_iload_n hx hb dX1_thawedFromAbove_15 rfl (lv_at hl 0 rfl) ?_
      refine x_aald (r := b + 2 + 2) hx hb hK 4 rfl hP.2.1 (vp_in_nI (by omega) (by decide)) (by rw [nI_clamp (by omega)]) dX1_thawedFromAbove_16 ?_
      refine x_callI (As := []) (rest := []) (fun q h => by subst h; unfold bA; omega) ⟨hx, hb, hml, hown, hts⟩ (cl_isThawed l G ids (b + 2 + 2) (5 * i + 2) σ) (cwV 0 hts gX1_thawedFromAbove_X4_isThawed rfl rfl rfl (by decide +kernel) ⟨Nat.le_of_ble_eq_true rfl, Nat.le_of_ble_eq_true rfl⟩) hK (hP.2.2 2 (by omega)) rfl (hP.2.2 2 (by omega)) hS rfl hl.1 rfl (Nat.le_of_ble_eq_true rfl) dX1_thawedFromAbove_17 ⟨Nat.zero_le _, Nat.zero_le _⟩ (fun H locs hP1 _ hk1 hS => ?_)
      replace hP := hP.join (by omega) hP1 hk1 (fun _ _ _ => rfl)
      refine lv_if_eq (x := (l_isThawed σ (5 * i + 2))) (tgt := 29) hx hb dX1_thawedFromAbove_20 (by decide) (fun c_11 => ?_) (fun c_11 => ?_)
      · exact (hWW _ _ _ _ _).mp (J29_5 _ (by simp only [if_neg c_2, if_neg c_9, if_pos c_11]) _ _ hP hS _ (lv_sub hl [0, 1] rfl))
      · refine n_iinc (x := 2) (dN := 1) (k := 0) (lv' := [(1, .int (nI (3))), (0, .ref (b))]) hx hb dX1_thawedFromAbove_23 hl rfl (by decide) rfl (fun ls hl => ?_)
        refine lv_goto (tgt := 2) hx hb dX1_thawedFromAbove_26 (by decide) ?_
        refine lv_iload_n hx hb dX1_thawedFromAbove_2 rfl (lv_at hl 0 rfl) ?_
        refine lv_aload_n hx hb dX1_thawedFromAbove_3 rfl (lv_at hl 1 rfl) ?_
        refine x_get (C := RX1) (T := TX1) (N := 7) (ci := 2) (fs := (cfs b i σ)) (v := .ref (b + 1)) hx hb hts hin_wsX10 hown hK hP.1 rfl 0 (by decide) (index := 14) (List.mem_of_getElem? (i := 1) rfl) rfl dX1_thawedFromAbove_4 ?_
        refine x_alen hx hb hK 4 rfl hP.2.1 (n := 5) rfl dX1_thawedFromAbove_7 ?_
        refine n_icmp_ge (x := 3) (y := 5) (tgt := 29) hx hb (by omega) (by omega) dX1_thawedFromAbove_8 (by decide) (fun c_12 => absurd c_12 (by omega)) (fun c_12 => ?_)
        refine lv_aload_n hx hb dX1_thawedFromAbove_11 rfl (lv_at hl 1 rfl) ?_
        refine x_get (C := RX1) (T := TX1) (N := 7) (ci := 2) (fs := (cfs b i σ)) (v := .ref (b + 1)) hx hb hts hin_wsX10 hown hK hP.1 rfl 0 (by decide) (index := 14) (List.mem_of_getElem? (i := 1) rfl) rfl dX1_thawedFromAbove_12 ?_
        refine lv_iload_n hx hb dX1_thawedFromAbove_15 rfl (lv_at hl 0 rfl) ?_
        refine x_aald (r := b + 2 + 3) hx hb hK 4 rfl hP.2.1 (vp_in_nI (by omega) (by decide)) (by rw [nI_clamp (by omega)]) dX1_thawedFromAbove_16 ?_
        refine x_callI (As := []) (rest := []) (fun q h => by subst h; unfold bA; omega) ⟨hx, hb, hml, hown, hts⟩ (cl_isThawed l G ids (b + 2 + 3) (5 * i + 3) σ) (cwV 0 hts gX1_thawedFromAbove_X4_isThawed rfl rfl rfl (by decide +kernel) ⟨Nat.le_of_ble_eq_true rfl, Nat.le_of_ble_eq_true rfl⟩) hK (hP.2.2 3 (by omega)) rfl (hP.2.2 3 (by omega)) hS rfl hl.1 rfl (Nat.le_of_ble_eq_true rfl) dX1_thawedFromAbove_17 ⟨Nat.zero_le _, Nat.zero_le _⟩ (fun H locs hP1 _ hk1 hS => ?_)
        replace hP := hP.join (by omega) hP1 hk1 (fun _ _ _ => rfl)
        refine lv_if_eq (x := (l_isThawed σ (5 * i + 3))) (tgt := 29) hx hb dX1_thawedFromAbove_20 (by decide) (fun c_13 => ?_) (fun c_13 => ?_)
        · exact (hWW _ _ _ _ _).mp (J29_5 _ (by simp only [if_neg c_2, if_neg c_9, if_neg c_11, if_pos c_13]) _ _ hP hS _ (lv_sub hl [0, 1] rfl))
        · refine n_iinc (x := 3) (dN := 1) (k := 0) (lv' := [(1, .int (nI (4))), (0, .ref (b))]) hx hb dX1_thawedFromAbove_23 hl rfl (by decide) rfl (fun ls hl => ?_)
          refine lv_goto (tgt := 2) hx hb dX1_thawedFromAbove_26 (by decide) ?_
          refine lv_iload_n hx hb dX1_thawedFromAbove_2 rfl (lv_at hl 0 rfl) ?_
          refine lv_aload_n hx hb dX1_thawedFromAbove_3 rfl (lv_at hl 1 rfl) ?_
          refine x_get (C := RX1) (T := TX1) (N := 7) (ci := 2) (fs := (cfs b i σ)) (v := .ref (b + 1)) hx hb hts hin_wsX10 hown hK hP.1 rfl 0 (by decide) (index := 14) (List.mem_of_getElem? (i := 1) rfl) rfl dX1_thawedFromAbove_4 ?_
          refine x_alen hx hb hK 4 rfl hP.2.1 (n := 5) rfl dX1_thawedFromAbove_7 ?_
          refine n_icmp_ge (x := 4) (y := 5) (tgt := 29) hx hb (by omega) (by omega) dX1_thawedFromAbove_8 (by decide) (fun c_14 => absurd c_14 (by omega)) (fun c_14 => ?_)
          refine lv_aload_n hx hb dX1_thawedFromAbove_11 rfl (lv_at hl 1 rfl) ?_
          refine x_get (C := RX1) (T := TX1) (N := 7) (ci := 2) (fs := (cfs b i σ)) (v := .ref (b + 1)) hx hb hts hin_wsX10 hown hK hP.1 rfl 0 (by decide) (index := 14) (List.mem_of_getElem? (i := 1) rfl) rfl dX1_thawedFromAbove_12 ?_
          refine lv_iload_n hx hb dX1_thawedFromAbove_15 rfl (lv_at hl 0 rfl) ?_
          refine x_aald (r := b + 2 + 4) hx hb hK 4 rfl hP.2.1 (vp_in_nI (by omega) (by decide)) (by rw [nI_clamp (by omega)]) dX1_thawedFromAbove_16 ?_
          refine x_callI (As := []) (rest := []) (fun q h => by subst h; unfold bA; omega) ⟨hx, hb, hml, hown, hts⟩ (cl_isThawed l G ids (b + 2 + 4) (5 * i + 4) σ) (cwV 0 hts gX1_thawedFromAbove_X4_isThawed rfl rfl rfl (by decide +kernel) ⟨Nat.le_of_ble_eq_true rfl, Nat.le_of_ble_eq_true rfl⟩) hK (hP.2.2 4 (by omega)) rfl (hP.2.2 4 (by omega)) hS rfl hl.1 rfl (Nat.le_of_ble_eq_true rfl) dX1_thawedFromAbove_17 ⟨Nat.zero_le _, Nat.zero_le _⟩ (fun H locs hP1 _ hk1 hS => ?_)
          replace hP := hP.join (by omega) hP1 hk1 (fun _ _ _ => rfl)
          refine lv_if_eq (x := (l_isThawed σ (5 * i + 4))) (tgt := 29) hx hb dX1_thawedFromAbove_20 (by decide) (fun c_15 => ?_) (fun c_15 => ?_)
          · exact (hWW _ _ _ _ _).mp (J29_5 _ (by simp only [if_neg c_2, if_neg c_9, if_neg c_11, if_neg c_13, if_pos c_15]) _ _ hP hS _ (lv_sub hl [0, 1] rfl))
          · refine n_iinc (x := 4) (dN := 1) (k := 0) (lv' := [(1, .int (nI (5))), (0, .ref (b))]) hx hb dX1_thawedFromAbove_23 hl rfl (by decide) rfl (fun ls hl => ?_)
            refine lv_goto (tgt := 2) hx hb dX1_thawedFromAbove_26 (by decide) ?_
            refine lv_iload_n hx hb dX1_thawedFromAbove_2 rfl (lv_at hl 0 rfl) ?_
            refine lv_aload_n hx hb dX1_thawedFromAbove_3 rfl (lv_at hl 1 rfl) ?_
            refine x_get (C := RX1) (T := TX1) (N := 7) (ci := 2) (fs := (cfs b i σ)) (v := .ref (b + 1)) hx hb hts hin_wsX10 hown hK hP.1 rfl 0 (by decide) (index := 14) (List.mem_of_getElem? (i := 1) rfl) rfl dX1_thawedFromAbove_4 ?_
            refine x_alen hx hb hK 4 rfl hP.2.1 (n := 5) rfl dX1_thawedFromAbove_7 ?_
            refine n_icmp_ge (x := 5) (y := 5) (tgt := 29) hx hb (by omega) (by omega) dX1_thawedFromAbove_8 (by decide) (fun c_16 => ?_) (fun c_16 => absurd c_16 (by omega))
            exact (hWW _ _ _ _ _).mp (J29_5 _ (by simp only [if_neg c_2, if_neg c_9, if_neg c_11, if_neg c_13, if_neg c_15]) _ _ hP hS _ (lv_sub hl [0, 1] rfl))
