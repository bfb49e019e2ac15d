def k_hasLakeCell_b2 (σ : Sg) (i2 : Nat) : Int32 := (if (c_isLake σ (((σ.1 32 i2)).toNatClampNeg)) = 0 then nI (0) else nI (1))
def k_hasLakeCell (σ : Sg) (size : Int32) : Int32 := er (k_hasLakeCell_b2 σ) ((size).toNatClampNeg)
set_option maxHeartbeats 4000000 in
set_option maxRecDepth 100000 in
theorem ck_hasLakeCell (l : Launch) (G : va_G) (ids : Nat → ClassId) (o z tS tE : Nat) (d : Nat → Nat → Nat) (w : Nat → Nat) (σ : Sg) (size : Int32) (hs : vp_in size 26) (hL : ∀ j, j < size.toNatClampNeg → vp_in (σ.1 32 j) 25) : yI l yX5_hasLakeCell wsX5_hasLakeCell ({ frames := 1, cells := 0, slots := 0, locals := 20 } : Room) G ids tS tE [.ref (o), .int (size)] (CPic G ids o z tE d w σ) (k_hasLakeCell σ size) (CPic G ids o z tE d w σ) (cpG o z) := by
  unfold yI
  refine Met.ofW (cc := cX5_hasLakeCell) (maxL := 3) (ret := (some .boolean)) (by decide) rfl ?_
  intro p e s m args below meth c s₁ B hml hv
  obtain ⟨rfl, hP, hK, hZ⟩ := hv
  have hx := B.exec
  have hb := B.bytes
  have hr := B.returns
  have hts := atoms_spec (ws := wsX5_hasLakeCell) B.pre
  have hown : s.vm.findClass RX5 = some m.cls := findClass_of_methodNamed B.named
  have hlocks := B.notSynchronized
  have hS : va_S (cpG o z) s.heap s.heap [] := va_S.rf
  have hin_wsX50 : ∀ w ∈ wsX50, w ∈ wsX5_hasLakeCell := fun w h => List.mem_cons_of_mem _ (List.mem_append_left _ (List.mem_append_right _ h))
  have hin_wsX10 : ∀ w ∈ wsX10, w ∈ wsX5_hasLakeCell := fun w h => List.mem_cons_of_mem _ (List.mem_append_right _ h)
  have hl := lv_entry ([.ref (o), .int (size)]) (n := 3) (Nat.le_of_ble_eq_true rfl)
  rw [lg_entry_eq]
  generalize (lg_sl ([.ref (o), .int (size)]) ++ List.replicate (3 - (lg_sl ([.ref (o), .int (size)])).length) Slot.unset).toArray = ls at hl ⊢
  have hl : lv_has ls 3 [(0, .ref (o)), (1, .int (size))] := hl
  refine w_named (fun WW hWW => ?_)
  have hsl := vp_lt hs
  have hse := vp_self hs
  refine lv_iconst (v := nI (0)) hx hb dX5_hasLakeCell_0 (by decide) ?_
  refine lv_istore_n (lv' := [(2, .int (nI (0))), (0, .ref (o)), (1, .int (size))]) hx hb dX5_hasLakeCell_1 rfl hl (by decide) rfl (fun ls hl => ?_)
  have L2 : ∀ (n2 i2 : Nat), i2 ≤ (size).toNatClampNeg → ((size).toNatClampNeg) + 1 ≤ i2 + n2 → er (k_hasLakeCell_b2 σ) i2 = nI (0) → ∀ (H : Heap) (locs : List Loc), CPic G ids o z tE d w σ H → va_S (cpG o z) s.heap H locs → ∀ (ls : Array Slot), lv_has ls 3 [(2, .int (nI (i2))), (0, .ref (o)), (1, .int (size))] → WW H locs 0 0 (F0 m 2 ls []) := by
    intro n2
    induction n2 with
    | zero => intro i2 h1 h2; exact absurd h2 (by omega)
    | succ n2 ih2 =>
      intro i2 hi2 hn2 hz2 H locs hP hS ls hl
      refine (hWW _ _ _ _ _).mpr ?_
      refine lv_iload_n hx hb dX5_hasLakeCell_2 rfl (lv_at hl 0 rfl) ?_
      refine lv_iload_n hx hb dX5_hasLakeCell_3 rfl (lv_at hl 2 rfl) ?_
      refine W.eq (g2 := F0 m 4 ls (.int (nI ((size).toNatClampNeg)) :: .int (nI (i2)) :: [])) (congrArg (fun v => F0 m 4 ls (Value.int v :: .int (nI (i2)) :: [])) (hse)) ?_
      refine n_icmp_ge (x := i2) (y := (size).toNatClampNeg) (tgt := 32) hx hb (by omega) (by omega) dX5_hasLakeCell_4 (by decide) (fun c_1 => ?_) (fun c_1 => ?_)
      · have hiN : (size).toNatClampNeg = i2 := by omega
        subst hiN
        refine lv_iconst (v := nI (0)) hx hb dX5_hasLakeCell_32 (by decide) ?_
        exact x_zret (v := nI (0)) hx hb hr hlocks (by decide +kernel) hP hS dX5_hasLakeCell_33 (by unfold k_hasLakeCell; exact hz2.symm)
      · refine lv_aload_n hx hb dX5_hasLakeCell_7 rfl (lv_at hl 1 rfl) ?_
        refine x_get (C := RX5) (T := TX5) (N := 10) (ci := 6) (fs := (cpOf o σ)) (v := .ref (o + 1)) hx hb hts hin_wsX50 hown hK hP.main rfl 0 (by decide) (index := 11) (List.mem_of_getElem? (i := 1) rfl) rfl dX5_hasLakeCell_8 ?_
        refine lv_aload_n hx hb dX5_hasLakeCell_11 rfl (lv_at hl 1 rfl) ?_
        refine x_get (C := RX5) (T := TX5) (N := 10) (ci := 6) (fs := (cpOf o σ)) (v := .ref (o + 7)) hx hb hts hin_wsX50 hown hK hP.main rfl 8 (by decide) (index := 35) (List.mem_of_getElem? (i := 2) rfl) rfl dX5_hasLakeCell_12 ?_
        refine lv_iload_n hx hb dX5_hasLakeCell_15 rfl (lv_at hl 0 rfl) ?_
        refine x_iald (v := (σ.1 32 i2)) hx hb hK hP.lake (vp_in_nI (by omega) (by decide)) (by rw [nI_clamp (by omega)]) dX5_hasLakeCell_16 ?_
        refine x_aald (r := o + 9 + 7 * (((σ.1 32 i2)).toNatClampNeg)) hx hb hK 3 rfl hP.crow (hL i2 (by omega)) rfl dX5_hasLakeCell_17 ?_
        refine x_callI (As := []) (rest := []) (fun q h => cpG_blk (vp_lt (hL i2 (by omega))) h) ⟨hx, hb, hml, hown, hts⟩ (cc_isLake l G ids (o + 9 + 7 * (((σ.1 32 i2)).toNatClampNeg)) (((σ.1 32 i2)).toNatClampNeg) σ) (cwV 0 hts gX5_hasLakeCell_X1_isLake rfl rfl rfl (by decide +kernel) ⟨Nat.le_of_ble_eq_true rfl, Nat.le_of_ble_eq_true rfl⟩) hK (hP.cell (vp_lt (hL i2 (by omega)))) rfl (hP.blk (vp_lt (hL i2 (by omega)))) hS rfl hl.1 rfl (Nat.le_of_ble_eq_true rfl) dX5_hasLakeCell_18 ⟨Nat.zero_le _, Nat.zero_le _⟩ (fun H locs hP1 _ hk1 hS => ?_)
        replace hP := hP.join (vp_lt (hL i2 (by omega))) hP1 hk1 (fun _ _ _ => rfl) rfl
        refine lv_if_eq (x := (c_isLake σ (((σ.1 32 i2)).toNatClampNeg))) (tgt := 26) hx hb dX5_hasLakeCell_21 (by decide) (fun c_2 => ?_) (fun c_2 => ?_)
        · refine n_iinc (x := i2) (dN := 1) (k := 0) (lv' := [(2, .int (nI (i2 + 1))), (0, .ref (o)), (1, .int (size))]) hx hb dX5_hasLakeCell_26 hl rfl (by decide) rfl (fun ls hl => ?_)
          refine lv_goto (tgt := 2) hx hb dX5_hasLakeCell_29 (by decide) ?_
          have q_3 : nI (0) = k_hasLakeCell_b2 σ i2 := (by unfold k_hasLakeCell_b2; simp only [if_pos c_2])
          exact (hWW _ _ _ _ _).mp (ih2 (i2 + 1) (by omega) (by omega) (er_next hz2 q_3) _ _ hP hS _ (lv_sub hl [0, 1, 2] rfl))
        · refine lv_iconst (v := nI (1)) hx hb dX5_hasLakeCell_24 (by decide) ?_
          have q_4 : nI (1) = k_hasLakeCell_b2 σ i2 := (by unfold k_hasLakeCell_b2; simp only [if_neg c_2])
          exact x_zret (v := nI (1)) hx hb hr hlocks (by decide +kernel) hP hS dX5_hasLakeCell_25 (by unfold k_hasLakeCell; exact (er_ret hz2 q_4 (by decide) (by omega)).symm)
  exact (hWW _ _ _ _ _).mp (L2 ((size).toNatClampNeg + 1) 0 (Nat.zero_le _) (by omega) rfl _ _ hP hS _ (lv_sub hl [0, 1, 2] rfl))
