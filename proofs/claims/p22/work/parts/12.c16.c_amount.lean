def c_amount_x33 (σ : Sg) (i : Nat) (kind : Int32) (y_3 : Int64) (z33 : Int64) : Int64 := z33
def c_amount_b33 (σ : Sg) (i : Nat) (kind : Int32) (i33 : Nat) (z33 : Int64) : Int64 := (z33) + (((l_amount σ (5 * i + i33) kind)).toInt64)
def c_amount_j30 (σ : Sg) (i : Nat) (kind : Int32) (y_3 : Int64) : Int64 := (c_amount_x33 σ i kind y_3 (lp (c_amount_b33 σ i kind) 5 y_3))
def c_amount (σ : Sg) (i : Nat) (kind : Int32) : Int64 := (c_amount_j30 σ i kind (if kind = 0 then ((nI (1000)) * ((σ.1 3 i))).toInt64 else (if kind = nI (1) then ((σ.1 3 i)).toInt64 else (0 : Int64))))
set_option maxHeartbeats 4000000 in
set_option maxRecDepth 100000 in
theorem cc_amount (l : Launch) (G : va_G) (ids : Nat → ClassId) (b i : Nat) (σ : Sg) (kind : Int32) : xL l yX1_amount wsX1_amount ({ frames := 2, cells := 0, slots := 0, locals := 41 } : Room) G ids [.ref (b), .int (kind)] (XBP G ids b i σ) (c_amount σ i kind) (XBP G ids b i σ) (bA b) := by
  unfold xL
  refine Met.ofW (cc := cX1_amount) (maxL := 5) (ret := (some .long)) (by decide) rfl ?_
  intro p e s m args below meth c s₁ B hml hv
  obtain ⟨rfl, hP, hK⟩ := hv
  have hx := B.exec
  have hb := B.bytes
  have hr := B.returns
  have hts := atoms_spec (ws := wsX1_amount) B.pre
  have hown : s.vm.findClass RX1 = some m.cls := findClass_of_methodNamed B.named
  have hlocks := B.notSynchronized
  have hS : va_S (bA b) s.heap s.heap [] := va_S.rf
  have hin_wsX10 : ∀ w ∈ wsX10, w ∈ wsX1_amount := fun w h => List.mem_cons_of_mem _ (List.mem_append_left _ (List.mem_append_right _ h))
  have hin_wsX40 : ∀ w ∈ wsX40, w ∈ wsX1_amount := fun w h => List.mem_cons_of_mem _ (List.mem_append_right _ h)
  have hl := lv_entry ([.ref (b), .int (kind)]) (n := 5) (Nat.le_of_ble_eq_true rfl)
  rw [lg_entry_eq]
  generalize (lg_sl ([.ref (b), .int (kind)]) ++ List.replicate (5 - (lg_sl ([.ref (b), .int (kind)])).length) Slot.unset).toArray = ls at hl ⊢
  have hl : lv_has ls 5 [(0, .ref (b)), (1, .int (kind))] := hl
  refine w_named (fun WW hWW => ?_)
  refine lv_lconst (v := 0) hx hb dX1_amount_0 (by decide) ?_
  refine lv_lstore_n (lv' := [(2, .long ((0 : Int64))), (0, .ref (b)), (1, .int (kind))]) hx hb dX1_amount_1 rfl hl (by decide) rfl (fun ls hl => ?_)
  refine lv_iload_n hx hb dX1_amount_2 rfl (lv_at hl 2 rfl) ?_
  have J30_4 : ∀ (y_3 : Int64), y_3 = (if kind = 0 then ((nI (1000)) * ((σ.1 3 i))).toInt64 else (if kind = nI (1) then ((σ.1 3 i)).toInt64 else (0 : Int64))) → ∀ (H : Heap) (locs : List Loc), XBP G ids b i σ H → va_S (bA b) s.heap H locs → ∀ (ls : Array Slot), lv_has ls 5 [(2, .long (y_3)), (0, .ref (b)), (1, .int (kind))] → WW H locs 0 0 (F0 m 30 ls []) := by
    intro y_3 h_5 H locs hP hS ls hl
    refine (hWW _ _ _ _ _).mpr ?_
    have hR_6 : c_amount σ i kind = c_amount_j30 σ i kind y_3 := (by have q_ := h_5.symm; subst q_; unfold c_amount; rfl)
    refine lv_iconst (v := nI (0)) hx hb dX1_amount_30 (by decide) ?_
    refine lv_istore (lv' := [(4, .int (nI (0))), (2, .long (y_3)), (0, .ref (b)), (1, .int (kind))]) hx hb dX1_amount_31 hl (by decide) rfl (fun ls hl => ?_)
    have L33 : ∀ (n33 i33 : Nat), i33 ≤ 5 → 5 + 1 ≤ i33 + n33 → ∀ (z33 : Int64), z33 = lp (c_amount_b33 σ i kind) i33 y_3 → ∀ (H : Heap) (locs : List Loc), XBP G ids b i σ H → va_S (bA b) s.heap H locs → ∀ (ls : Array Slot), lv_has ls 5 [(4, .int (nI (i33))), (2, .long (z33)), (0, .ref (b)), (1, .int (kind))] → WW H locs 0 0 (F0 m 33 ls []) := by
      intro n33
      induction n33 with
      | zero => intro i33 h1 h2; exact absurd h2 (by omega)
      | succ n33 ih33 =>
        intro i33 hi33 hn33 z33 hz33  H locs hP hS ls hl
        refine (hWW _ _ _ _ _).mpr ?_
        refine lv_iload hx hb dX1_amount_33 (lv_at hl 0 rfl) ?_
        refine lv_aload_n hx hb dX1_amount_35 rfl (lv_at hl 2 rfl) ?_
        refine x_get (C := RX1) (T := TX1) (N := 7) (ci := 2) (fs := (cfs b i σ)) (v := .ref (b + 1)) hx hb hts hin_wsX10 hown hK hP.1 rfl 0 (by decide) (index := 14) (List.mem_of_getElem? (i := 2) rfl) rfl dX1_amount_36 ?_
        refine x_alen hx hb hK 4 rfl hP.2.1 (n := 5) rfl dX1_amount_39 ?_
        refine n_icmp_ge (x := i33) (y := 5) (tgt := 64) hx hb (by omega) (by omega) dX1_amount_40 (by decide) (fun c_7 => ?_) (fun c_7 => ?_)
        · have hiN : 5 = i33 := by omega
          subst hiN
          have hR_8 : c_amount σ i kind = c_amount_x33 σ i kind y_3 z33 := (Eq.trans hR_6 (by have q_ := hz33.symm; subst q_; unfold c_amount_j30; rfl))
          refine lv_lload_n hx hb dX1_amount_64 rfl (lv_at hl 1 rfl) ?_
          exact x_lret (v := z33) hx hb hr hlocks hP hS dX1_amount_65 (Eq.trans (by unfold c_amount_x33; rfl) hR_8.symm)
        · refine lv_lload_n hx hb dX1_amount_43 rfl (lv_at hl 1 rfl) ?_
          refine lv_aload_n hx hb dX1_amount_44 rfl (lv_at hl 2 rfl) ?_
          refine x_get (C := RX1) (T := TX1) (N := 7) (ci := 2) (fs := (cfs b i σ)) (v := .ref (b + 1)) hx hb hts hin_wsX10 hown hK hP.1 rfl 0 (by decide) (index := 14) (List.mem_of_getElem? (i := 2) rfl) rfl dX1_amount_45 ?_
          refine lv_iload hx hb dX1_amount_48 (lv_at hl 0 rfl) ?_
          refine x_aald (r := b + 2 + i33) hx hb hK 4 rfl hP.2.1 (vp_in_nI (by omega) (by decide)) (by rw [nI_clamp (by omega)]) dX1_amount_50 ?_
          refine lv_iload_n hx hb dX1_amount_51 rfl (lv_at hl 3 rfl) ?_
          refine x_callI (As := [.int (kind)]) (rest := [.long (z33)]) (fun q h => by subst h; unfold bA; omega) ⟨hx, hb, hml, hown, hts⟩ (cl_amount l G ids (b + 2 + i33) (5 * i + i33) σ kind) (cwV 1 hts gX1_amount_X4_amount rfl rfl rfl (by decide +kernel) ⟨Nat.le_of_ble_eq_true rfl, Nat.le_of_ble_eq_true rfl⟩) hK (hP.2.2 i33 (by omega)) rfl (hP.2.2 i33 (by omega)) hS rfl hl.1 rfl (Nat.le_of_ble_eq_true rfl) dX1_amount_52 ⟨Nat.zero_le _, Nat.zero_le _⟩ (fun H locs hP1 _ hk1 hS => ?_)
          replace hP := hP.join (by omega) hP1 hk1 (fun _ _ _ => rfl)
          refine lv_i2l (v := ((l_amount σ (5 * i + i33) kind)).toInt64) hx hb dX1_amount_55 rfl ?_
          refine lv_ladd hx hb dX1_amount_56 ?_
          refine lv_lstore_n (lv' := [(2, .long ((z33) + (((l_amount σ (5 * i + i33) kind)).toInt64))), (4, .int (nI (i33))), (0, .ref (b)), (1, .int (kind))]) hx hb dX1_amount_57 rfl hl (by decide) rfl (fun ls hl => ?_)
          refine n_iinc (x := i33) (dN := 1) (k := 1) (lv' := [(4, .int (nI (i33 + 1))), (2, .long ((z33) + (((l_amount σ (5 * i + i33) kind)).toInt64))), (0, .ref (b)), (1, .int (kind))]) hx hb dX1_amount_58 hl rfl (by decide) rfl (fun ls hl => ?_)
          refine lv_goto (tgt := 33) hx hb dX1_amount_61 (by decide) ?_
          exact (hWW _ _ _ _ _).mp (ih33 (i33 + 1) (by omega) (by omega) ((z33) + (((l_amount σ (5 * i + i33) kind)).toInt64)) (by show _ = c_amount_b33 σ i kind i33 (lp (c_amount_b33 σ i kind) i33 y_3); rw [← hz33]; exact (by unfold c_amount_b33; rfl))  _ _ hP hS _ (lv_sub hl [0, 1, 2, 3] rfl))
    exact (hWW _ _ _ _ _).mp (L33 (5 + 1) 0 (Nat.zero_le _) (by omega) y_3 rfl  _ _ hP hS _ (lv_sub hl [0, 1, 2, 3] rfl))
  refine lv_if_ne (x := kind) (tgt := 19) hx hb dX1_amount_3 (by decide) (fun c_1 => ?_) (fun c_1 => ?_)
  · refine lv_iload_n hx hb dX1_amount_19 rfl (lv_at hl 2 rfl) ?_
    refine lv_iconst (v := nI (1)) hx hb dX1_amount_20 (by decide) ?_
    refine lv_icmp_ne (x := kind) (y := nI (1)) (tgt := 30) hx hb dX1_amount_21 (by decide) (fun c_9 => ?_) (fun c_9 => ?_)
    · exact (hWW _ _ _ _ _).mp (J30_4 _ (by simp only [if_neg c_1, if_neg c_9]) _ _ hP hS _ (lv_sub hl [0, 1, 2] rfl))
    · refine lv_aload_n hx hb dX1_amount_24 rfl (lv_at hl 1 rfl) ?_
      refine x_get (C := RX1) (T := TX1) (N := 7) (ci := 2) (fs := (cfs b i σ)) (v := .int ((σ.1 3 i))) hx hb hts hin_wsX10 hown hK hP.1 rfl 2 (by decide) (index := 30) (List.mem_of_getElem? (i := 1) rfl) rfl dX1_amount_25 ?_
      refine lv_i2l (v := ((σ.1 3 i)).toInt64) hx hb dX1_amount_28 rfl ?_
      refine lv_lstore_n (lv' := [(2, .long (((σ.1 3 i)).toInt64)), (0, .ref (b)), (1, .int (kind))]) hx hb dX1_amount_29 rfl hl (by decide) rfl (fun ls hl => ?_)
      exact (hWW _ _ _ _ _).mp (J30_4 _ (by simp only [if_neg c_1, if_pos c_9]) _ _ hP hS _ (lv_sub hl [0, 1, 2] rfl))
  · refine lv_sipush (v := nI (1000)) hx hb dX1_amount_6 (by decide) ?_
    refine lv_aload_n hx hb dX1_amount_9 rfl (lv_at hl 1 rfl) ?_
    refine x_get (C := RX1) (T := TX1) (N := 7) (ci := 2) (fs := (cfs b i σ)) (v := .int ((σ.1 3 i))) hx hb hts hin_wsX10 hown hK hP.1 rfl 2 (by decide) (index := 30) (List.mem_of_getElem? (i := 1) rfl) rfl dX1_amount_10 ?_
    refine lv_imul (x := nI (1000)) (y := (σ.1 3 i)) hx hb dX1_amount_13 ?_
    refine lv_i2l (v := ((nI (1000)) * ((σ.1 3 i))).toInt64) hx hb dX1_amount_14 rfl ?_
    refine lv_lstore_n (lv' := [(2, .long (((nI (1000)) * ((σ.1 3 i))).toInt64)), (0, .ref (b)), (1, .int (kind))]) hx hb dX1_amount_15 rfl hl (by decide) rfl (fun ls hl => ?_)
    refine lv_goto (tgt := 30) hx hb dX1_amount_16 (by decide) ?_
    exact (hWW _ _ _ _ _).mp (J30_4 _ (by simp only [if_pos c_1]) _ _ hP hS _ (lv_sub hl [0, 1, 2] rfl))
