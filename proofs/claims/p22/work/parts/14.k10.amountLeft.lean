def k_amountLeft_j38 (σ : Sg) (kind : Int32) (x_4 : Int64) : Int64 := x_4
def k_amountLeft (σ : Sg) (kind : Int32) : Int64 := (if kind = 0 then ((1000 : Int64)) * ((σ.2 29)) else (k_amountLeft_j38 σ kind (if kind = nI (1) then (σ.2 29) else ((σ.2 (30 + 0))) + ((σ.2 (30 + 1))))))
set_option maxHeartbeats 4000000 in
set_option maxRecDepth 100000 in
theorem ck_amountLeft (l : Launch) (G : va_G) (ids : Nat → ClassId) (o z tS tE : Nat) (d : Nat → Nat → Nat) (w : Nat → Nat) (σ : Sg) (kind : Int32) : yL l yX5_amountLeft wsX5_amountLeft ({ frames := 0, cells := 0, slots := 0, locals := 0 } : Room) G ids tS tE [.ref (o), .int (kind)] (CPic G ids o z tE d w σ) (k_amountLeft σ kind) (CPic G ids o z tE d w σ) (cpG o z) := by
  unfold yL
  refine Met.ofW (cc := cX5_amountLeft) (maxL := 2) (ret := (some .long)) (by decide) rfl ?_
  intro p e s m args below meth c s₁ B hml hv
  obtain ⟨rfl, hP, hK, hZ⟩ := hv
  have hx := B.exec
  have hb := B.bytes
  have hr := B.returns
  have hts := atoms_spec (ws := wsX5_amountLeft) B.pre
  have hown : s.vm.findClass RX5 = some m.cls := findClass_of_methodNamed B.named
  have hlocks := B.notSynchronized
  have hS : va_S (cpG o z) s.heap s.heap [] := va_S.rf
  have hin_wsX50 : ∀ w ∈ wsX50, w ∈ wsX5_amountLeft := fun w h => List.mem_cons_of_mem _ (List.mem_append_right _ h)
  have hl := lv_entry ([.ref (o), .int (kind)]) (n := 2) (Nat.le_of_ble_eq_true rfl)
  rw [lg_entry_eq]
  generalize (lg_sl ([.ref (o), .int (kind)]) ++ List.replicate (2 - (lg_sl ([.ref (o), .int (kind)])).length) Slot.unset).toArray = ls at hl ⊢
  have hl : lv_has ls 2 [(0, .ref (o)), (1, .int (kind))] := hl
  refine w_named (fun WW hWW => ?_)
  refine lv_iload_n hx hb dX5_amountLeft_0 rfl (lv_at hl 1 rfl) ?_
  refine lv_if_ne (x := kind) (tgt := 13) hx hb dX5_amountLeft_1 (by decide) (fun c_1 => ?_) (fun c_1 => ?_)
  · refine lv_iload_n hx hb dX5_amountLeft_13 rfl (lv_at hl 1 rfl) ?_
    refine lv_iconst (v := nI (1)) hx hb dX5_amountLeft_14 (by decide) ?_
    have J38_5 : ∀ (x_4 : Int64), x_4 = (if kind = nI (1) then (σ.2 29) else ((σ.2 (30 + 0))) + ((σ.2 (30 + 1)))) → ∀ (H : Heap) (locs : List Loc), CPic G ids o z tE d w σ H → va_S (cpG o z) s.heap H locs → ∀ (ls : Array Slot), lv_has ls 2 [(0, .ref (o)), (1, .int (kind))] → WW H locs 0 0 (F0 m 38 ls [.long (x_4)]) := by
      intro x_4 h_6 H locs hP hS ls hl
      refine (hWW _ _ _ _ _).mpr ?_
      have hR_7 : k_amountLeft σ kind = k_amountLeft_j38 σ kind x_4 := (by have q_ := h_6.symm; subst q_; unfold k_amountLeft; simp only [if_neg c_1])
      exact x_lret (v := x_4) hx hb hr hlocks hP hS dX5_amountLeft_38 (Eq.trans (by unfold k_amountLeft_j38; rfl) hR_7.symm)
    refine lv_icmp_ne (x := kind) (y := nI (1)) (tgt := 25) hx hb dX5_amountLeft_15 (by decide) (fun c_2 => ?_) (fun c_2 => ?_)
    · refine lv_aload_n hx hb dX5_amountLeft_25 rfl (lv_at hl 0 rfl) ?_
      refine x_get (C := RX5) (T := TX5) (N := 10) (ci := 6) (fs := (cpOf o σ)) (v := .ref (o + 6)) hx hb hts hin_wsX50 hown hK hP.main rfl 6 (by decide) (index := 32) (List.mem_of_getElem? (i := 3) rfl) rfl dX5_amountLeft_26 ?_
      refine lv_iconst (v := nI (0)) hx hb dX5_amountLeft_29 (by decide) ?_
      refine x_lald (v := (σ.2 (30 + 0))) hx hb hK hP.gas (vp_in_nI (by omega) (by decide)) (by rw [nI_clamp (by omega)]; exact if_pos (by omega)) dX5_amountLeft_30 ?_
      refine lv_aload_n hx hb dX5_amountLeft_31 rfl (lv_at hl 0 rfl) ?_
      refine x_get (C := RX5) (T := TX5) (N := 10) (ci := 6) (fs := (cpOf o σ)) (v := .ref (o + 6)) hx hb hts hin_wsX50 hown hK hP.main rfl 6 (by decide) (index := 32) (List.mem_of_getElem? (i := 3) rfl) rfl dX5_amountLeft_32 ?_
      refine lv_iconst (v := nI (1)) hx hb dX5_amountLeft_35 (by decide) ?_
      refine x_lald (v := (σ.2 (30 + 1))) hx hb hK hP.gas (vp_in_nI (by omega) (by decide)) (by rw [nI_clamp (by omega)]; exact if_pos (by omega)) dX5_amountLeft_36 ?_
      refine lv_ladd hx hb dX5_amountLeft_37 ?_
      exact (hWW _ _ _ _ _).mp (J38_5 _ (by simp only [if_neg c_2]) _ _ hP hS _ (lv_sub hl [0, 1] rfl))
    · refine lv_aload_n hx hb dX5_amountLeft_18 rfl (lv_at hl 0 rfl) ?_
      refine x_get (C := RX5) (T := TX5) (N := 10) (ci := 6) (fs := (cpOf o σ)) (v := .long ((σ.2 29))) hx hb hts hin_wsX50 hown hK hP.main rfl 7 (by decide) (index := 105) (List.mem_of_getElem? (i := 2) rfl) rfl dX5_amountLeft_19 ?_
      refine lv_goto (tgt := 38) hx hb dX5_amountLeft_22 (by decide) ?_
      exact (hWW _ _ _ _ _).mp (J38_5 _ (by simp only [if_pos c_2]) _ _ hP hS _ (lv_sub hl [0, 1] rfl))
  · refine lv_ldc2 (own := RX5) (v := 1000) hx hb hown (hts _ (List.mem_of_getElem? (i := 1) rfl)) dX5_amountLeft_4 ?_
    refine lv_aload_n hx hb dX5_amountLeft_7 rfl (lv_at hl 0 rfl) ?_
    refine x_get (C := RX5) (T := TX5) (N := 10) (ci := 6) (fs := (cpOf o σ)) (v := .long ((σ.2 29))) hx hb hts hin_wsX50 hown hK hP.main rfl 7 (by decide) (index := 105) (List.mem_of_getElem? (i := 2) rfl) rfl dX5_amountLeft_8 ?_
    refine lv_lmul hx hb dX5_amountLeft_11 ?_
    exact x_lret (v := ((1000 : Int64)) * ((σ.2 29))) hx hb hr hlocks hP hS dX5_amountLeft_12 (by unfold k_amountLeft; simp only [if_pos c_1])
