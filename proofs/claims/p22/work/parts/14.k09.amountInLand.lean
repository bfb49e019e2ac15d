def k_amountInLand_x5 (σ : Sg) (kind : Int32) (z5 : Int64) : Int64 := z5
def k_amountInLand_b5 (σ : Sg) (kind : Int32) (i5 : Nat) (z5 : Int64) : Int64 := (z5) + ((c_amount σ i5 kind))
def k_amountInLand (σ : Sg) (kind : Int32) : Int64 := (k_amountInLand_x5 σ kind (lp (k_amountInLand_b5 σ kind) 25 (0 : Int64)))
set_option maxHeartbeats 4000000 in
set_option maxRecDepth 100000 in
theorem ck_amountInLand (l : Launch) (G : va_G) (ids : Nat → ClassId) (o z tS tE : Nat) (d : Nat → Nat → Nat) (w : Nat → Nat) (σ : Sg) (kind : Int32) : yL l yX5_amountInLand wsX5_amountInLand ({ frames := 3, cells := 0, slots := 0, locals := 65 } : Room) G ids tS tE [.ref (o), .int (kind)] (CPic G ids o z tE d w σ) (k_amountInLand σ kind) (CPic G ids o z tE d w σ) (cpG o z) := by
  unfold yL
  refine Met.ofW (cc := cX5_amountInLand) (maxL := 5) (ret := (some .long)) (by decide) rfl ?_
  intro p e s m args below meth c s₁ B hml hv
  obtain ⟨rfl, hP, hK, hZ⟩ := hv
  have hx := B.exec
  have hb := B.bytes
  have hr := B.returns
  have hts := atoms_spec (ws := wsX5_amountInLand) B.pre
  have hown : s.vm.findClass RX5 = some m.cls := findClass_of_methodNamed B.named
  have hlocks := B.notSynchronized
  have hS : va_S (cpG o z) s.heap s.heap [] := va_S.rf
  have hin_wsX50 : ∀ w ∈ wsX50, w ∈ wsX5_amountInLand := fun w h => List.mem_cons_of_mem _ (List.mem_append_left _ (List.mem_append_left _ (List.mem_append_right _ h)))
  have hin_wsX10 : ∀ w ∈ wsX10, w ∈ wsX5_amountInLand := fun w h => List.mem_cons_of_mem _ (List.mem_append_left _ (List.mem_append_right _ h))
  have hin_wsX40 : ∀ w ∈ wsX40, w ∈ wsX5_amountInLand := fun w h => List.mem_cons_of_mem _ (List.mem_append_right _ h)
  have hl := lv_entry ([.ref (o), .int (kind)]) (n := 5) (Nat.le_of_ble_eq_true rfl)
  rw [lg_entry_eq]
  generalize (lg_sl ([.ref (o), .int (kind)]) ++ List.replicate (5 - (lg_sl ([.ref (o), .int (kind)])).length) Slot.unset).toArray = ls at hl ⊢
  have hl : lv_has ls 5 [(0, .ref (o)), (1, .int (kind))] := hl
  refine w_named (fun WW hWW => ?_)
  refine lv_lconst (v := 0) hx hb dX5_amountInLand_0 (by decide) ?_
  refine lv_lstore_n (lv' := [(2, .long ((0 : Int64))), (0, .ref (o)), (1, .int (kind))]) hx hb dX5_amountInLand_1 rfl hl (by decide) rfl (fun ls hl => ?_)
  refine lv_iconst (v := nI (0)) hx hb dX5_amountInLand_2 (by decide) ?_
  refine lv_istore (lv' := [(4, .int (nI (0))), (2, .long ((0 : Int64))), (0, .ref (o)), (1, .int (kind))]) hx hb dX5_amountInLand_3 hl (by decide) rfl (fun ls hl => ?_)
  have L5 : ∀ (n5 i5 : Nat), i5 ≤ 25 → 25 + 1 ≤ i5 + n5 → ∀ (z5 : Int64), z5 = lp (k_amountInLand_b5 σ kind) i5 (0 : Int64) → ∀ (H : Heap) (locs : List Loc), CPic G ids o z tE d w σ H → va_S (cpG o z) s.heap H locs → ∀ (ls : Array Slot), lv_has ls 5 [(4, .int (nI (i5))), (2, .long (z5)), (0, .ref (o)), (1, .int (kind))] → WW H locs 0 0 (F0 m 5 ls []) := by
    intro n5
    induction n5 with
    | zero => intro i5 h1 h2; exact absurd h2 (by omega)
    | succ n5 ih5 =>
      intro i5 hi5 hn5 z5 hz5  H locs hP hS ls hl
      refine (hWW _ _ _ _ _).mpr ?_
      refine lv_iload hx hb dX5_amountInLand_5 (lv_at hl 0 rfl) ?_
      refine lv_aload_n hx hb dX5_amountInLand_7 rfl (lv_at hl 2 rfl) ?_
      refine x_get (C := RX5) (T := TX5) (N := 10) (ci := 6) (fs := (cpOf o σ)) (v := .ref (o + 1)) hx hb hts hin_wsX50 hown hK hP.main rfl 0 (by decide) (index := 11) (List.mem_of_getElem? (i := 1) rfl) rfl dX5_amountInLand_8 ?_
      refine x_alen hx hb hK 3 rfl hP.crow (n := 25) rfl dX5_amountInLand_11 ?_
      refine n_icmp_ge (x := i5) (y := 25) (tgt := 35) hx hb (by omega) (by omega) dX5_amountInLand_12 (by decide) (fun c_1 => ?_) (fun c_1 => ?_)
      · have hiN : 25 = i5 := by omega
        subst hiN
        have hR_2 : k_amountInLand σ kind = k_amountInLand_x5 σ kind z5 := (by have q_ := hz5.symm; subst q_; unfold k_amountInLand; rfl)
        refine lv_lload_n hx hb dX5_amountInLand_35 rfl (lv_at hl 1 rfl) ?_
        exact x_lret (v := z5) hx hb hr hlocks hP hS dX5_amountInLand_36 (Eq.trans (by unfold k_amountInLand_x5; rfl) hR_2.symm)
      · refine lv_lload_n hx hb dX5_amountInLand_15 rfl (lv_at hl 1 rfl) ?_
        refine lv_aload_n hx hb dX5_amountInLand_16 rfl (lv_at hl 2 rfl) ?_
        refine x_get (C := RX5) (T := TX5) (N := 10) (ci := 6) (fs := (cpOf o σ)) (v := .ref (o + 1)) hx hb hts hin_wsX50 hown hK hP.main rfl 0 (by decide) (index := 11) (List.mem_of_getElem? (i := 1) rfl) rfl dX5_amountInLand_17 ?_
        refine lv_iload hx hb dX5_amountInLand_20 (lv_at hl 0 rfl) ?_
        refine x_aald (r := o + 9 + 7 * i5) hx hb hK 3 rfl hP.crow (vp_in_nI (by omega) (by decide)) (by rw [nI_clamp (by omega)]) dX5_amountInLand_22 ?_
        refine lv_iload_n hx hb dX5_amountInLand_23 rfl (lv_at hl 3 rfl) ?_
        refine x_callL (As := [.int (kind)]) (rest := [.long (z5)]) (fun q h => cpG_blk (by omega) h) ⟨hx, hb, hml, hown, hts⟩ (cc_amount l G ids (o + 9 + 7 * i5) i5 σ kind) (cwV 1 hts gX5_amountInLand_X1_amount rfl rfl rfl (by decide +kernel) ⟨Nat.le_of_ble_eq_true rfl, Nat.le_of_ble_eq_true rfl⟩) hK (hP.cell (by omega)) rfl (hP.blk (by omega)) hS rfl hl.1 rfl (Nat.le_of_ble_eq_true rfl) dX5_amountInLand_24 ⟨Nat.zero_le _, Nat.zero_le _⟩ (fun H locs hP1 _ hk1 hS => ?_)
        replace hP := hP.join (by omega) hP1 hk1 (fun _ _ _ => rfl) rfl
        refine lv_ladd hx hb dX5_amountInLand_27 ?_
        refine lv_lstore_n (lv' := [(2, .long ((z5) + ((c_amount σ i5 kind)))), (4, .int (nI (i5))), (0, .ref (o)), (1, .int (kind))]) hx hb dX5_amountInLand_28 rfl hl (by decide) rfl (fun ls hl => ?_)
        refine n_iinc (x := i5) (dN := 1) (k := 1) (lv' := [(4, .int (nI (i5 + 1))), (2, .long ((z5) + ((c_amount σ i5 kind)))), (0, .ref (o)), (1, .int (kind))]) hx hb dX5_amountInLand_29 hl rfl (by decide) rfl (fun ls hl => ?_)
        refine lv_goto (tgt := 5) hx hb dX5_amountInLand_32 (by decide) ?_
        exact (hWW _ _ _ _ _).mp (ih5 (i5 + 1) (by omega) (by omega) ((z5) + ((c_amount σ i5 kind))) (by show _ = k_amountInLand_b5 σ kind i5 (lp (k_amountInLand_b5 σ kind) i5 (0 : Int64)); rw [← hz5]; exact (by unfold k_amountInLand_b5; rfl))  _ _ hP hS _ (lv_sub hl [0, 1, 2, 3] rfl))
  exact (hWW _ _ _ _ _).mp (L5 (25 + 1) 0 (Nat.zero_le _) (by omega) (0 : Int64) rfl  _ _ hP hS _ (lv_sub hl [0, 1, 2, 3] rfl))
