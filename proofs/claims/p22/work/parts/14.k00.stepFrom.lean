def k_stepFrom_j50 (cell : Int32) (step : Int32) (x_5 : Int32) (x_11 : Int32) : Int32 := x_11
def k_stepFrom_j31 (cell : Int32) (step : Int32) (x_5 : Int32) : Int32 := (k_stepFrom_j50 cell step x_5 (if x_5 = 0 then (cell) + (step) else (if ((cell) + (step)) / (nI (5)) = (cell) / (nI (5)) then (cell) + (step) else (-1))))
def k_stepFrom (cell : Int32) (step : Int32) : Int32 := (if (cell) + (step) < 0 then (-1) else (if (cell) + (step) < nI (25) then (k_stepFrom_j31 cell step (if step = (-1) then nI (1) else (if step = nI (1) then nI (1) else nI (0)))) else (-1)))
set_option maxHeartbeats 4000000 in
set_option maxRecDepth 100000 in
theorem ck_stepFrom (l : Launch) (cell : Int32) (step : Int32) : sI l yX5_stepFrom wsX5_stepFrom ({ frames := 0, cells := 0, slots := 0, locals := 0 } : Room) [.int (cell), .int (step)] (k_stepFrom cell step) := by
  unfold sI
  refine Met.ofW (cc := cX5_stepFrom) (maxL := 4) (ret := (some .int)) (by decide) rfl ?_
  intro p e s m args below meth c s₁ B hml hv
  obtain ⟨rfl, -⟩ := hv
  have hx := B.exec
  have hb := B.bytes
  have hr := B.returns
  have hts := atoms_spec (ws := wsX5_stepFrom) B.pre
  have hown : s.vm.findClass RX5 = some m.cls := findClass_of_methodNamed B.named
  have hlocks := B.notSynchronized
  have hS : va_S (fun _ => False) s.heap s.heap [] := va_S.rf
  have hl := lv_entry ([.int (cell), .int (step)]) (n := 4) (Nat.le_of_ble_eq_true rfl)
  rw [lg_entry_eq]
  generalize (lg_sl ([.int (cell), .int (step)]) ++ List.replicate (4 - (lg_sl ([.int (cell), .int (step)])).length) Slot.unset).toArray = ls at hl ⊢
  have hl : lv_has ls 4 [(0, .int (cell)), (1, .int (step))] := hl
  refine w_named (fun WW hWW => ?_)
  refine lv_iload_n hx hb dX5_stepFrom_0 rfl (lv_at hl 0 rfl) ?_
  refine lv_iload_n hx hb dX5_stepFrom_1 rfl (lv_at hl 1 rfl) ?_
  refine lv_iadd (x := cell) (y := step) hx hb dX5_stepFrom_2 ?_
  refine lv_istore_n (lv' := [(2, .int ((cell) + (step))), (0, .int (cell)), (1, .int (step))]) hx hb dX5_stepFrom_3 rfl hl (by decide) rfl (fun ls hl => ?_)
  refine lv_iload_n hx hb dX5_stepFrom_4 rfl (lv_at hl 0 rfl) ?_
  refine lv_if_lt (x := (cell) + (step)) (tgt := 14) hx hb dX5_stepFrom_5 (by decide) (fun c_1 => ?_) (fun c_1 => ?_)
  · refine lv_iconst (v := (-1)) hx hb dX5_stepFrom_14 (by decide) ?_
    exact s_iret (v := (-1)) hx hb hr hlocks hS dX5_stepFrom_15 (by unfold k_stepFrom; simp only [if_pos c_1])
  · refine lv_iload_n hx hb dX5_stepFrom_8 rfl (lv_at hl 0 rfl) ?_
    refine lv_bipush (v := nI (25)) hx hb dX5_stepFrom_9 (by decide) ?_
    refine lv_icmp_lt (x := (cell) + (step)) (y := nI (25)) (tgt := 16) hx hb dX5_stepFrom_11 (by decide) (fun c_2 => ?_) (fun c_2 => ?_)
    · refine lv_iload_n hx hb dX5_stepFrom_16 rfl (lv_at hl 2 rfl) ?_
      refine lv_iconst (v := (-1)) hx hb dX5_stepFrom_17 (by decide) ?_
      have J31_6 : ∀ (x_5 : Int32), x_5 = (if step = (-1) then nI (1) else (if step = nI (1) then nI (1) else nI (0))) → ∀ (H : Heap) (locs : List Loc), va_S (fun _ => False) s.heap H locs → ∀ (ls : Array Slot), lv_has ls 4 [(2, .int ((cell) + (step))), (0, .int (cell)), (1, .int (step))] → WW H locs 0 0 (F0 m 31 ls [.int (x_5)]) := by
        intro x_5 h_7 H locs hS ls hl
        refine (hWW _ _ _ _ _).mpr ?_
        have hR_8 : k_stepFrom cell step = k_stepFrom_j31 cell step x_5 := (by have q_ := h_7.symm; subst q_; unfold k_stepFrom; simp only [if_neg c_1, if_pos c_2])
        refine lv_istore_n (lv' := [(3, .int (x_5)), (2, .int ((cell) + (step))), (0, .int (cell)), (1, .int (step))]) hx hb dX5_stepFrom_31 rfl hl (by decide) rfl (fun ls hl => ?_)
        refine lv_iload_n hx hb dX5_stepFrom_32 rfl (lv_at hl 0 rfl) ?_
        have J50_12 : ∀ (x_11 : Int32), x_11 = (if x_5 = 0 then (cell) + (step) else (if ((cell) + (step)) / (nI (5)) = (cell) / (nI (5)) then (cell) + (step) else (-1))) → ∀ (H : Heap) (locs : List Loc), va_S (fun _ => False) s.heap H locs → ∀ (ls : Array Slot), lv_has ls 4 [(3, .int (x_5)), (2, .int ((cell) + (step))), (0, .int (cell)), (1, .int (step))] → WW H locs 0 0 (F0 m 50 ls [.int (x_11)]) := by
          intro x_11 h_13 H locs hS ls hl
          refine (hWW _ _ _ _ _).mpr ?_
          have hR_14 : k_stepFrom cell step = k_stepFrom_j50 cell step x_5 x_11 := (Eq.trans hR_8 (by have q_ := h_13.symm; subst q_; unfold k_stepFrom_j31; rfl))
          exact s_iret (v := x_11) hx hb hr hlocks hS dX5_stepFrom_50 (Eq.trans (by unfold k_stepFrom_j50; rfl) hR_14.symm)
        refine lv_if_eq (x := x_5) (tgt := 49) hx hb dX5_stepFrom_33 (by decide) (fun c_9 => ?_) (fun c_9 => ?_)
        · refine lv_iload_n hx hb dX5_stepFrom_49 rfl (lv_at hl 1 rfl) ?_
          exact (hWW _ _ _ _ _).mp (J50_12 _ (by simp only [if_pos c_9]) _ _ hS _ (lv_sub hl [0, 1, 2, 3] rfl))
        · refine lv_iload_n hx hb dX5_stepFrom_36 rfl (lv_at hl 1 rfl) ?_
          refine lv_iconst (v := nI (5)) hx hb dX5_stepFrom_37 (by decide) ?_
          refine lv_idiv (x := (cell) + (step)) (y := nI (5)) hx hb dX5_stepFrom_38 (by decide) ?_
          refine lv_iload_n hx hb dX5_stepFrom_39 rfl (lv_at hl 2 rfl) ?_
          refine lv_iconst (v := nI (5)) hx hb dX5_stepFrom_40 (by decide) ?_
          refine lv_idiv (x := cell) (y := nI (5)) hx hb dX5_stepFrom_41 (by decide) ?_
          refine lv_icmp_eq (x := ((cell) + (step)) / (nI (5))) (y := (cell) / (nI (5))) (tgt := 49) hx hb dX5_stepFrom_42 (by decide) (fun c_15 => ?_) (fun c_15 => ?_)
          · refine lv_iload_n hx hb dX5_stepFrom_49 rfl (lv_at hl 1 rfl) ?_
            exact (hWW _ _ _ _ _).mp (J50_12 _ (by simp only [if_neg c_9, if_pos c_15]) _ _ hS _ (lv_sub hl [0, 1, 2, 3] rfl))
          · refine lv_iconst (v := (-1)) hx hb dX5_stepFrom_45 (by decide) ?_
            refine lv_goto (tgt := 50) hx hb dX5_stepFrom_46 (by decide) ?_
            exact (hWW _ _ _ _ _).mp (J50_12 _ (by simp only [if_neg c_9, if_neg c_15]) _ _ hS _ (lv_sub hl [0, 1, 2, 3] rfl))
      refine lv_icmp_eq (x := step) (y := (-1)) (tgt := 26) hx hb dX5_stepFrom_18 (by decide) (fun c_3 => ?_) (fun c_3 => ?_)
      · refine lv_iconst (v := nI (1)) hx hb dX5_stepFrom_26 (by decide) ?_
        refine lv_goto (tgt := 31) hx hb dX5_stepFrom_27 (by decide) ?_
        exact (hWW _ _ _ _ _).mp (J31_6 _ (by simp only [if_pos c_3]) _ _ hS _ (lv_sub hl [0, 1, 2] rfl))
      · refine lv_iload_n hx hb dX5_stepFrom_21 rfl (lv_at hl 2 rfl) ?_
        refine lv_iconst (v := nI (1)) hx hb dX5_stepFrom_22 (by decide) ?_
        refine lv_icmp_ne (x := step) (y := nI (1)) (tgt := 30) hx hb dX5_stepFrom_23 (by decide) (fun c_16 => ?_) (fun c_16 => ?_)
        · refine lv_iconst (v := nI (0)) hx hb dX5_stepFrom_30 (by decide) ?_
          exact (hWW _ _ _ _ _).mp (J31_6 _ (by simp only [if_neg c_3, if_neg c_16]) _ _ hS _ (lv_sub hl [0, 1, 2] rfl))
        · refine lv_iconst (v := nI (1)) hx hb dX5_stepFrom_26 (by decide) ?_
          refine lv_goto (tgt := 31) hx hb dX5_stepFrom_27 (by decide) ?_
          exact (hWW _ _ _ _ _).mp (J31_6 _ (by simp only [if_neg c_3, if_pos c_16]) _ _ hS _ (lv_sub hl [0, 1, 2] rfl))
    · refine lv_iconst (v := (-1)) hx hb dX5_stepFrom_14 (by decide) ?_
      exact s_iret (v := (-1)) hx hb hr hlocks hS dX5_stepFrom_15 (by unfold k_stepFrom; simp only [if_neg c_1, if_neg c_2])
