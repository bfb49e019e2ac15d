def h_readingAt_j34 (σ : Sg) (b : Nat) (month : Int32) (layer : Int32) (x_3 : Int32) : Int32 := x_3
def h_readingAt (σ : Sg) (b : Nat) (month : Int32) (layer : Int32) : Int32 := (h_readingAt_j34 σ b month layer (if (((month) - ((σ.1 22 b))) * (nI (5))) + (layer) < 0 then nI (0) else (if nI (5 * (600 - (σ.1 22 b).toNatClampNeg)) ≤ (((month) - ((σ.1 22 b))) * (nI (5))) + (layer) then nI (0) else (σ.1 (40 + b) (((((month) - ((σ.1 22 b))) * (nI (5))) + (layer)).toNatClampNeg)))))
theorem vp_0n {x : Int32} {n : Nat} (h0 : ¬ x < 0) (h : ¬ nI n ≤ x) (hn : n < 2 ^ 31) : vp_in x n := by
  rw [i_lt] at h0
  rw [i_le] at h
  rw [nI_toInt hn] at h
  have e0 : (0 : Int32).toInt = 0 := by decide
  rw [e0] at h0
  exact vp_in_iff.mpr ⟨by omega, by omega⟩
set_option maxHeartbeats 4000000 in
set_option maxRecDepth 100000 in
theorem ch_readingAt (l : Launch) (G : va_G) (ids : Nat → ClassId) (o z tS tE : Nat) (d : Nat → Nat → Nat) (w : Nat → Nat) (σ : Sg) (b : Nat) (month : Int32) (layer : Int32) (hb0 : b < cpN σ 1) : yI l yX0_readingAt wsX0_readingAt ({ frames := 0, cells := 0, slots := 0, locals := 0 } : Room) G ids tS tE [.ref (d 2 b), .int (month), .int (layer)] (CPic G ids o z tE d w σ) (h_readingAt σ b month layer) (CPic G ids o z tE d w σ) (fun _ : Nat => False) := by
  unfold yI
  refine Met.ofW (cc := cX0_readingAt) (maxL := 4) (ret := (some .int)) (by decide) rfl ?_
  intro p e s m args below meth c s₁ B hml hv
  obtain ⟨rfl, hP, hK, hZ⟩ := hv
  have hx := B.exec
  have hb := B.bytes
  have hr := B.returns
  have hts := atoms_spec (ws := wsX0_readingAt) B.pre
  have hown : s.vm.findClass RX0 = some m.cls := findClass_of_methodNamed B.named
  have hlocks := B.notSynchronized
  have hS : va_S (fun _ : Nat => False) s.heap s.heap [] := va_S.rf
  have hin_wsX00 : ∀ w ∈ wsX00, w ∈ wsX0_readingAt := fun w h => List.mem_cons_of_mem _ (List.mem_append_right _ h)
  have hl := lv_entry ([.ref (d 2 b), .int (month), .int (layer)]) (n := 4) (Nat.le_of_ble_eq_true rfl)
  rw [lg_entry_eq]
  generalize (lg_sl ([.ref (d 2 b), .int (month), .int (layer)]) ++ List.replicate (4 - (lg_sl ([.ref (d 2 b), .int (month), .int (layer)])).length) Slot.unset).toArray = ls at hl ⊢
  have hl : lv_has ls 4 [(0, .ref (d 2 b)), (1, .int (month)), (2, .int (layer))] := hl
  refine w_named (fun WW hWW => ?_)
  refine lv_iload_n hx hb dX0_readingAt_0 rfl (lv_at hl 1 rfl) ?_
  refine lv_aload_n hx hb dX0_readingAt_1 rfl (lv_at hl 0 rfl) ?_
  refine x_get (C := RX0) (T := TX0) (N := 5) (ci := 1) (fs := _) (v := .int ((σ.1 22 b))) hx hb hts hin_wsX00 hown hK (hP.hole hb0) rfl 2 (by decide) (index := 18) (List.mem_of_getElem? (i := 1) rfl) rfl dX0_readingAt_2 ?_
  refine lv_isub (x := month) (y := (σ.1 22 b)) hx hb dX0_readingAt_5 ?_
  refine lv_iconst (v := nI (5)) hx hb dX0_readingAt_6 (by decide) ?_
  refine lv_imul (x := (month) - ((σ.1 22 b))) (y := nI (5)) hx hb dX0_readingAt_7 ?_
  refine lv_iload_n hx hb dX0_readingAt_8 rfl (lv_at hl 2 rfl) ?_
  refine lv_iadd (x := ((month) - ((σ.1 22 b))) * (nI (5))) (y := layer) hx hb dX0_readingAt_9 ?_
  refine lv_istore_n (lv' := [(3, .int ((((month) - ((σ.1 22 b))) * (nI (5))) + (layer))), (0, .ref (d 2 b)), (1, .int (month)), (2, .int (layer))]) hx hb dX0_readingAt_10 rfl hl (by decide) rfl (fun ls hl => ?_)
  refine lv_iload_n hx hb dX0_readingAt_11 rfl (lv_at hl 0 rfl) ?_
  have J34_4 : ∀ (x_3 : Int32), x_3 = (if (((month) - ((σ.1 22 b))) * (nI (5))) + (layer) < 0 then nI (0) else (if nI (5 * (600 - (σ.1 22 b).toNatClampNeg)) ≤ (((month) - ((σ.1 22 b))) * (nI (5))) + (layer) then nI (0) else (σ.1 (40 + b) (((((month) - ((σ.1 22 b))) * (nI (5))) + (layer)).toNatClampNeg)))) → ∀ (H : Heap) (locs : List Loc), CPic G ids o z tE d w σ H → va_S (fun _ : Nat => False) s.heap H locs → ∀ (ls : Array Slot), lv_has ls 4 [(3, .int ((((month) - ((σ.1 22 b))) * (nI (5))) + (layer))), (0, .ref (d 2 b)), (1, .int (month)), (2, .int (layer))] → WW H locs 0 0 (F0 m 34 ls [.int (x_3)]) := by
    intro x_3 h_5 H locs hP hS ls hl
    refine (hWW _ _ _ _ _).mpr ?_
    have hR_6 : h_readingAt σ b month layer = h_readingAt_j34 σ b month layer x_3 := (by have q_ := h_5.symm; subst q_; unfold h_readingAt; rfl)
    exact x_iret (v := x_3) hx hb hr hlocks hP hS dX0_readingAt_34 (Eq.trans (by unfold h_readingAt_j34; rfl) hR_6.symm)
  refine lv_if_lt (x := (((month) - ((σ.1 22 b))) * (nI (5))) + (layer)) (tgt := 33) hx hb dX0_readingAt_12 (by decide) (fun c_1 => ?_) (fun c_1 => ?_)
  · refine lv_iconst (v := nI (0)) hx hb dX0_readingAt_33 (by decide) ?_
    exact (hWW _ _ _ _ _).mp (J34_4 _ (by simp only [if_pos c_1]) _ _ hP hS _ (lv_sub hl [0, 1, 2, 3] rfl))
  · refine lv_iload_n hx hb dX0_readingAt_15 rfl (lv_at hl 0 rfl) ?_
    refine lv_aload_n hx hb dX0_readingAt_16 rfl (lv_at hl 1 rfl) ?_
    refine x_get (C := RX0) (T := TX0) (N := 5) (ci := 1) (fs := _) (v := .ref (d 3 b)) hx hb hts hin_wsX00 hown hK (hP.hole hb0) rfl 3 (by decide) (index := 27) (List.mem_of_getElem? (i := 2) rfl) rfl dX0_readingAt_17 ?_
    refine x_alen hx hb hK 0 rfl (hP.rdg hb0) (n := 5 * (600 - (σ.1 22 b).toNatClampNeg)) rfl dX0_readingAt_20 ?_
    refine lv_icmp_ge (x := (((month) - ((σ.1 22 b))) * (nI (5))) + (layer)) (y := nI (5 * (600 - (σ.1 22 b).toNatClampNeg))) (tgt := 33) hx hb dX0_readingAt_21 (by decide) (fun c_7 => ?_) (fun c_7 => ?_)
    · refine lv_iconst (v := nI (0)) hx hb dX0_readingAt_33 (by decide) ?_
      exact (hWW _ _ _ _ _).mp (J34_4 _ (by simp only [if_neg c_1, if_pos c_7]) _ _ hP hS _ (lv_sub hl [0, 1, 2, 3] rfl))
    · refine lv_aload_n hx hb dX0_readingAt_24 rfl (lv_at hl 1 rfl) ?_
      refine x_get (C := RX0) (T := TX0) (N := 5) (ci := 1) (fs := _) (v := .ref (d 3 b)) hx hb hts hin_wsX00 hown hK (hP.hole hb0) rfl 3 (by decide) (index := 27) (List.mem_of_getElem? (i := 2) rfl) rfl dX0_readingAt_25 ?_
      refine lv_iload_n hx hb dX0_readingAt_28 rfl (lv_at hl 0 rfl) ?_
      refine x_iald (v := (σ.1 (40 + b) (((((month) - ((σ.1 22 b))) * (nI (5))) + (layer)).toNatClampNeg))) hx hb hK (hP.rdg hb0) (vp_0n c_1 c_7 (by omega)) rfl dX0_readingAt_29 ?_
      refine lv_goto (tgt := 34) hx hb dX0_readingAt_30 (by decide) ?_
      exact (hWW _ _ _ _ _).mp (J34_4 _ (by simp only [if_neg c_1, if_neg c_7]) _ _ hP hS _ (lv_sub hl [0, 1, 2, 3] rfl))
