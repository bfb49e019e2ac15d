def m_within_j15 (v : Int32) (x : Int32) (y : Int32) (x_3 : Int32) : Int32 := x_3
def m_within (v : Int32) (x : Int32) (y : Int32) : Int32 := (m_within_j15 v x y (if v < x then nI (0) else (if y < v then nI (0) else nI (1))))
set_option maxHeartbeats 4000000 in
set_option maxRecDepth 100000 in
theorem cm_within (l : Launch) (v : Int32) (x : Int32) (y : Int32) : sI l yX6_within wsX6_within ({ frames := 0, cells := 0, slots := 0, locals := 0 } : Room) [.int (v), .int (x), .int (y)] (m_within v x y) := by
  unfold sI
  refine Met.ofW (cc := cX6_within) (maxL := 3) (ret := (some .boolean)) (by decide) rfl ?_
  intro p e s m args below meth c s₁ B hml hv
  obtain ⟨rfl, -⟩ := hv
  have hx := B.exec
  have hb := B.bytes
  have hr := B.returns
  have hts := atoms_spec (ws := wsX6_within) B.pre
  have hown : s.vm.findClass RX6 = some m.cls := findClass_of_methodNamed B.named
  have hlocks := B.notSynchronized
  have hS : va_S (fun _ => False) s.heap s.heap [] := va_S.rf
  have hl := lv_entry ([.int (v), .int (x), .int (y)]) (n := 3) (Nat.le_of_ble_eq_true rfl)
  rw [lg_entry_eq]
  generalize (lg_sl ([.int (v), .int (x), .int (y)]) ++ List.replicate (3 - (lg_sl ([.int (v), .int (x), .int (y)])).length) Slot.unset).toArray = ls at hl ⊢
  have hl : lv_has ls 3 [(0, .int (v)), (1, .int (x)), (2, .int (y))] := hl
  refine w_named (fun WW hWW => ?_)
  refine lv_iload_n hx hb dX6_within_0 rfl (lv_at hl 0 rfl) ?_
  refine lv_iload_n hx hb dX6_within_1 rfl (lv_at hl 1 rfl) ?_
  have J15_4 : ∀ (x_3 : Int32), x_3 = (if v < x then nI (0) else (if y < v then nI (0) else nI (1))) → ∀ (H : Heap) (locs : List Loc), va_S (fun _ => False) s.heap H locs → ∀ (ls : Array Slot), lv_has ls 3 [(0, .int (v)), (1, .int (x)), (2, .int (y))] → WW H locs 0 0 (F0 m 15 ls [.int (x_3)]) := by
    intro x_3 h_5 H locs hS ls hl
    refine (hWW _ _ _ _ _).mpr ?_
    have hR_6 : m_within v x y = m_within_j15 v x y x_3 := (by have q_ := h_5.symm; subst q_; unfold m_within; rfl)
    exact s_zret (v := x_3) hx hb hr hlocks (z_nar (by rw [h_5]; (repeat' split) <;> first | exact Or.inl rfl | exact Or.inr rfl)) hS dX6_within_15 (Eq.trans (by unfold m_within_j15; rfl) hR_6.symm)
  refine lv_icmp_lt (x := v) (y := x) (tgt := 14) hx hb dX6_within_2 (by decide) (fun c_1 => ?_) (fun c_1 => ?_)
  · refine lv_iconst (v := nI (0)) hx hb dX6_within_14 (by decide) ?_
    exact (hWW _ _ _ _ _).mp (J15_4 _ (by simp only [if_pos c_1]) _ _ hS _ (lv_sub hl [0, 1, 2] rfl))
  · refine lv_iload_n hx hb dX6_within_5 rfl (lv_at hl 0 rfl) ?_
    refine lv_iload_n hx hb dX6_within_6 rfl (lv_at hl 2 rfl) ?_
    refine lv_icmp_gt (x := v) (y := y) (tgt := 14) hx hb dX6_within_7 (by decide) (fun c_7 => ?_) (fun c_7 => ?_)
    · refine lv_iconst (v := nI (0)) hx hb dX6_within_14 (by decide) ?_
      exact (hWW _ _ _ _ _).mp (J15_4 _ (by simp only [if_neg c_1, if_pos c_7]) _ _ hS _ (lv_sub hl [0, 1, 2] rfl))
    · refine lv_iconst (v := nI (1)) hx hb dX6_within_10 (by decide) ?_
      refine lv_goto (tgt := 15) hx hb dX6_within_11 (by decide) ?_
      exact (hWW _ _ _ _ _).mp (J15_4 _ (by simp only [if_neg c_1, if_neg c_7]) _ _ hS _ (lv_sub hl [0, 1, 2] rfl))

def m_isCell (v : Int32) : Int32 := (m_within v (nI (0)) (nI (24)))
theorem m_within_b (v x y : Int32) : m_within v x y = 0 ∨ m_within v x y = 1 := by
  unfold m_within
  (repeat' split) <;> first | exact Or.inl rfl | exact Or.inr rfl
set_option maxHeartbeats 4000000 in
set_option maxRecDepth 100000 in
theorem cm_isCell (l : Launch) (v : Int32) : sI l yX6_isCell wsX6_isCell ({ frames := 1, cells := 0, slots := 0, locals := 22 } : Room) [.int (v)] (m_isCell v) := by
  unfold sI
  refine Met.ofW (cc := cX6_isCell) (maxL := 1) (ret := (some .boolean)) (by decide) rfl ?_
  intro p e s m args below meth c s₁ B hml hv
  obtain ⟨rfl, -⟩ := hv
  have hx := B.exec
  have hb := B.bytes
  have hr := B.returns
  have hts := atoms_spec (ws := wsX6_isCell) B.pre
  have hown : s.vm.findClass RX6 = some m.cls := findClass_of_methodNamed B.named
  have hlocks := B.notSynchronized
  have hS : va_S (fun _ => False) s.heap s.heap [] := va_S.rf
  have hl := lv_entry ([.int (v)]) (n := 1) (Nat.le_of_ble_eq_true rfl)
  rw [lg_entry_eq]
  generalize (lg_sl ([.int (v)]) ++ List.replicate (1 - (lg_sl ([.int (v)])).length) Slot.unset).toArray = ls at hl ⊢
  have hl : lv_has ls 1 [(0, .int (v))] := hl
  refine w_named (fun WW hWW => ?_)
  refine lv_iload_n hx hb dX6_isCell_0 rfl (lv_at hl 0 rfl) ?_
  refine lv_iconst (v := nI (0)) hx hb dX6_isCell_1 (by decide) ?_
  refine lv_bipush (v := nI (24)) hx hb dX6_isCell_2 (by decide) ?_
  refine s_call (As := [.int (v), .int (nI (0)), .int (nI (24))]) (rest := []) ⟨hx, hb, hml, hown, hts⟩ (cm_within l v (nI (0)) (nI (24)) ) (va_cwS 3 hts gX6_isCell_X6_within rfl rfl rfl (by decide +kernel) ⟨Nat.le_of_ble_eq_true rfl, Nat.le_of_ble_eq_true rfl⟩) hS rfl hl.1 rfl (Nat.le_of_ble_eq_true rfl) dX6_isCell_4 ⟨Nat.zero_le _, Nat.zero_le _⟩ (fun H locs _ _ hS => ?_)
  exact s_zret (v := (m_within v (nI (0)) (nI (24)))) hx hb hr hlocks (z_nar (m_within_b _ _ _)) hS dX6_isCell_7 (by unfold m_isCell; rfl)

def m_lesser_j10 (x : Int32) (y : Int32) (x_3 : Int32) : Int32 := x_3
def m_lesser (x : Int32) (y : Int32) : Int32 := (m_lesser_j10 x y (if y ≤ x then y else x))
set_option maxHeartbeats 4000000 in
set_option maxRecDepth 100000 in
theorem cm_lesser (l : Launch) (x : Int32) (y : Int32) : sI l yX6_lesser wsX6_lesser ({ frames := 0, cells := 0, slots := 0, locals := 0 } : Room) [.int (x), .int (y)] (m_lesser x y) := by
  unfold sI
  refine Met.ofW (cc := cX6_lesser) (maxL := 2) (ret := (some .int)) (by decide) rfl ?_
  intro p e s m args below meth c s₁ B hml hv
  obtain ⟨rfl, -⟩ := hv
  have hx := B.exec
  have hb := B.bytes
  have hr := B.returns
  have hts := atoms_spec (ws := wsX6_lesser) B.pre
  have hown : s.vm.findClass RX6 = some m.cls := findClass_of_methodNamed B.named
  have hlocks := B.notSynchronized
  have hS : va_S (fun _ => False) s.heap s.heap [] := va_S.rf
  have hl := lv_entry ([.int (x), .int (y)]) (n := 2) (Nat.le_of_ble_eq_true rfl)
  rw [lg_entry_eq]
  generalize (lg_sl ([.int (x), .int (y)]) ++ List.replicate (2 - (lg_sl ([.int (x), .int (y)])).length) Slot.unset).toArray = ls at hl ⊢
  have hl : lv_has ls 2 [(0, .int (x)), (1, .int (y))] := hl
  refine w_named (fun WW hWW => ?_)
  refine lv_iload_n hx hb dX6_lesser_0 rfl (lv_at hl 0 rfl) ?_
  refine lv_iload_n hx hb dX6_lesser_1 rfl (lv_at hl 1 rfl) ?_
  have J10_4 : ∀ (x_3 : Int32), x_3 = (if y ≤ x then y else x) → ∀ (H : Heap) (locs : List Loc), va_S (fun _ => False) s.heap H locs → ∀ (ls : Array Slot), lv_has ls 2 [(0, .int (x)), (1, .int (y))] → WW H locs 0 0 (F0 m 10 ls [.int (x_3)]) := by
    intro x_3 h_5 H locs hS ls hl
    refine (hWW _ _ _ _ _).mpr ?_
    have hR_6 : m_lesser x y = m_lesser_j10 x y x_3 := (by have q_ := h_5.symm; subst q_; unfold m_lesser; rfl)
    exact s_iret (v := x_3) hx hb hr hlocks hS dX6_lesser_10 (Eq.trans (by unfold m_lesser_j10; rfl) hR_6.symm)
  refine lv_icmp_ge (x := x) (y := y) (tgt := 9) hx hb dX6_lesser_2 (by decide) (fun c_1 => ?_) (fun c_1 => ?_)
  · refine lv_iload_n hx hb dX6_lesser_9 rfl (lv_at hl 1 rfl) ?_
    exact (hWW _ _ _ _ _).mp (J10_4 _ (by simp only [if_pos c_1]) _ _ hS _ (lv_sub hl [0, 1] rfl))
  · refine lv_iload_n hx hb dX6_lesser_5 rfl (lv_at hl 0 rfl) ?_
    refine lv_goto (tgt := 10) hx hb dX6_lesser_6 (by decide) ?_
    exact (hWW _ _ _ _ _).mp (J10_4 _ (by simp only [if_neg c_1]) _ _ hS _ (lv_sub hl [0, 1] rfl))

def m_greater_j10 (x : Int32) (y : Int32) (x_3 : Int32) : Int32 := x_3
def m_greater (x : Int32) (y : Int32) : Int32 := (m_greater_j10 x y (if x ≤ y then y else x))
set_option maxHeartbeats 4000000 in
set_option maxRecDepth 100000 in
theorem cm_greater (l : Launch) (x : Int32) (y : Int32) : sI l yX6_greater wsX6_greater ({ frames := 0, cells := 0, slots := 0, locals := 0 } : Room) [.int (x), .int (y)] (m_greater x y) := by
  unfold sI
  refine Met.ofW (cc := cX6_greater) (maxL := 2) (ret := (some .int)) (by decide) rfl ?_
  intro p e s m args below meth c s₁ B hml hv
  obtain ⟨rfl, -⟩ := hv
  have hx := B.exec
  have hb := B.bytes
  have hr := B.returns
  have hts := atoms_spec (ws := wsX6_greater) B.pre
  have hown : s.vm.findClass RX6 = some m.cls := findClass_of_methodNamed B.named
  have hlocks := B.notSynchronized
  have hS : va_S (fun _ => False) s.heap s.heap [] := va_S.rf
  have hl := lv_entry ([.int (x), .int (y)]) (n := 2) (Nat.le_of_ble_eq_true rfl)
  rw [lg_entry_eq]
  generalize (lg_sl ([.int (x), .int (y)]) ++ List.replicate (2 - (lg_sl ([.int (x), .int (y)])).length) Slot.unset).toArray = ls at hl ⊢
  have hl : lv_has ls 2 [(0, .int (x)), (1, .int (y))] := hl
  refine w_named (fun WW hWW => ?_)
  refine lv_iload_n hx hb dX6_greater_0 rfl (lv_at hl 0 rfl) ?_
  refine lv_iload_n hx hb dX6_greater_1 rfl (lv_at hl 1 rfl) ?_
  have J10_4 : ∀ (x_3 : Int32), x_3 = (if x ≤ y then y else x) → ∀ (H : Heap) (locs : List Loc), va_S (fun _ => False) s.heap H locs → ∀ (ls : Array Slot), lv_has ls 2 [(0, .int (x)), (1, .int (y))] → WW H locs 0 0 (F0 m 10 ls [.int (x_3)]) := by
    intro x_3 h_5 H locs hS ls hl
    refine (hWW _ _ _ _ _).mpr ?_
    have hR_6 : m_greater x y = m_greater_j10 x y x_3 := (by have q_ := h_5.symm; subst q_; unfold m_greater; rfl)
    exact s_iret (v := x_3) hx hb hr hlocks hS dX6_greater_10 (Eq.trans (by unfold m_greater_j10; rfl) hR_6.symm)
  refine lv_icmp_le (x := x) (y := y) (tgt := 9) hx hb dX6_greater_2 (by decide) (fun c_1 => ?_) (fun c_1 => ?_)
  · refine lv_iload_n hx hb dX6_greater_9 rfl (lv_at hl 1 rfl) ?_
    exact (hWW _ _ _ _ _).mp (J10_4 _ (by simp only [if_pos c_1]) _ _ hS _ (lv_sub hl [0, 1] rfl))
  · refine lv_iload_n hx hb dX6_greater_5 rfl (lv_at hl 0 rfl) ?_
    refine lv_goto (tgt := 10) hx hb dX6_greater_6 (by decide) ?_
    exact (hWW _ _ _ _ _).mp (J10_4 _ (by simp only [if_neg c_1]) _ _ hS _ (lv_sub hl [0, 1] rfl))

def m_beside_j69 (k : Int32) (w : Int32) (x_6 : Int32) : Int32 := x_6
def m_beside_j55 (k : Int32) (w : Int32) (x_12 : Int32) : Int32 := x_12
def m_beside_j35 (k : Int32) (w : Int32) (x_18 : Int32) : Int32 := x_18
def m_beside_j16 (k : Int32) (w : Int32) (x_24 : Int32) : Int32 := x_24
def m_beside (k : Int32) (w : Int32) : Int32 := (if w = 0 then (m_beside_j16 k w (if nI (5) ≤ k then (k) - (nI (5)) else (-1))) else (if w = nI (1) then (m_beside_j35 k w (if (k) - (k) / (nI (5)) * (nI (5)) = 0 then (-1) else (k) - (nI (1)))) else (if w = nI (2) then (m_beside_j55 k w (if (k) - (k) / (nI (5)) * (nI (5)) = nI (4) then (-1) else (k) + (nI (1)))) else (m_beside_j69 k w (if k ≤ nI (19) then (k) + (nI (5)) else (-1))))))
set_option maxHeartbeats 4000000 in
set_option maxRecDepth 100000 in
theorem cm_beside (l : Launch) (k : Int32) (w : Int32) : sI l yX6_beside wsX6_beside ({ frames := 0, cells := 0, slots := 0, locals := 0 } : Room) [.int (k), .int (w)] (m_beside k w) := by
  unfold sI
  refine Met.ofW (cc := cX6_beside) (maxL := 2) (ret := (some .int)) (by decide) rfl ?_
  intro p e s m args below meth c s₁ B hml hv
  obtain ⟨rfl, -⟩ := hv
  have hx := B.exec
  have hb := B.bytes
  have hr := B.returns
  have hts := atoms_spec (ws := wsX6_beside) B.pre
  have hown : s.vm.findClass RX6 = some m.cls := findClass_of_methodNamed B.named
  have hlocks := B.notSynchronized
  have hS : va_S (fun _ => False) s.heap s.heap [] := va_S.rf
  have hl := lv_entry ([.int (k), .int (w)]) (n := 2) (Nat.le_of_ble_eq_true rfl)
  rw [lg_entry_eq]
  generalize (lg_sl ([.int (k), .int (w)]) ++ List.replicate (2 - (lg_sl ([.int (k), .int (w)])).length) Slot.unset).toArray = ls at hl ⊢
  have hl : lv_has ls 2 [(0, .int (k)), (1, .int (w))] := hl
  refine w_named (fun WW hWW => ?_)
  refine lv_iload_n hx hb dX6_beside_0 rfl (lv_at hl 1 rfl) ?_
  refine lv_if_ne (x := w) (tgt := 17) hx hb dX6_beside_1 (by decide) (fun c_1 => ?_) (fun c_1 => ?_)
  · refine lv_iload_n hx hb dX6_beside_17 rfl (lv_at hl 1 rfl) ?_
    refine lv_iconst (v := nI (1)) hx hb dX6_beside_18 (by decide) ?_
    refine lv_icmp_ne (x := w) (y := nI (1)) (tgt := 36) hx hb dX6_beside_19 (by decide) (fun c_2 => ?_) (fun c_2 => ?_)
    · refine lv_iload_n hx hb dX6_beside_36 rfl (lv_at hl 1 rfl) ?_
      refine lv_iconst (v := nI (2)) hx hb dX6_beside_37 (by decide) ?_
      refine lv_icmp_ne (x := w) (y := nI (2)) (tgt := 56) hx hb dX6_beside_38 (by decide) (fun c_3 => ?_) (fun c_3 => ?_)
      · refine lv_iload_n hx hb dX6_beside_56 rfl (lv_at hl 0 rfl) ?_
        refine lv_bipush (v := nI (19)) hx hb dX6_beside_57 (by decide) ?_
        have J69_7 : ∀ (x_6 : Int32), x_6 = (if k ≤ nI (19) then (k) + (nI (5)) else (-1)) → ∀ (H : Heap) (locs : List Loc), va_S (fun _ => False) s.heap H locs → ∀ (ls : Array Slot), lv_has ls 2 [(0, .int (k)), (1, .int (w))] → WW H locs 0 0 (F0 m 69 ls [.int (x_6)]) := by
          intro x_6 h_8 H locs hS ls hl
          refine (hWW _ _ _ _ _).mpr ?_
          have hR_9 : m_beside k w = m_beside_j69 k w x_6 := (by have q_ := h_8.symm; subst q_; unfold m_beside; simp only [if_neg c_1, if_neg c_2, if_neg c_3])
          exact s_iret (v := x_6) hx hb hr hlocks hS dX6_beside_69 (Eq.trans (by unfold m_beside_j69; rfl) hR_9.symm)
        refine lv_icmp_le (x := k) (y := nI (19)) (tgt := 66) hx hb dX6_beside_59 (by decide) (fun c_4 => ?_) (fun c_4 => ?_)
        · refine lv_iload_n hx hb dX6_beside_66 rfl (lv_at hl 0 rfl) ?_
          refine lv_iconst (v := nI (5)) hx hb dX6_beside_67 (by decide) ?_
          refine lv_iadd (x := k) (y := nI (5)) hx hb dX6_beside_68 ?_
          exact (hWW _ _ _ _ _).mp (J69_7 _ (by simp only [if_pos c_4]) _ _ hS _ (lv_sub hl [0, 1] rfl))
        · refine lv_iconst (v := (-1)) hx hb dX6_beside_62 (by decide) ?_
          refine lv_goto (tgt := 69) hx hb dX6_beside_63 (by decide) ?_
          exact (hWW _ _ _ _ _).mp (J69_7 _ (by simp only [if_neg c_4]) _ _ hS _ (lv_sub hl [0, 1] rfl))
      · refine lv_iload_n hx hb dX6_beside_41 rfl (lv_at hl 0 rfl) ?_
        refine lv_iconst (v := nI (5)) hx hb dX6_beside_42 (by decide) ?_
        refine lv_irem (x := k) (y := nI (5)) hx hb dX6_beside_43 (by decide) ?_
        refine lv_iconst (v := nI (4)) hx hb dX6_beside_44 (by decide) ?_
        have J55_13 : ∀ (x_12 : Int32), x_12 = (if (k) - (k) / (nI (5)) * (nI (5)) = nI (4) then (-1) else (k) + (nI (1))) → ∀ (H : Heap) (locs : List Loc), va_S (fun _ => False) s.heap H locs → ∀ (ls : Array Slot), lv_has ls 2 [(0, .int (k)), (1, .int (w))] → WW H locs 0 0 (F0 m 55 ls [.int (x_12)]) := by
          intro x_12 h_14 H locs hS ls hl
          refine (hWW _ _ _ _ _).mpr ?_
          have hR_15 : m_beside k w = m_beside_j55 k w x_12 := (by have q_ := h_14.symm; subst q_; unfold m_beside; simp only [if_neg c_1, if_neg c_2, if_pos c_3])
          exact s_iret (v := x_12) hx hb hr hlocks hS dX6_beside_55 (Eq.trans (by unfold m_beside_j55; rfl) hR_15.symm)
        refine lv_icmp_ne (x := (k) - (k) / (nI (5)) * (nI (5))) (y := nI (4)) (tgt := 52) hx hb dX6_beside_45 (by decide) (fun c_10 => ?_) (fun c_10 => ?_)
        · refine lv_iload_n hx hb dX6_beside_52 rfl (lv_at hl 0 rfl) ?_
          refine lv_iconst (v := nI (1)) hx hb dX6_beside_53 (by decide) ?_
          refine lv_iadd (x := k) (y := nI (1)) hx hb dX6_beside_54 ?_
          exact (hWW _ _ _ _ _).mp (J55_13 _ (by simp only [if_neg c_10]) _ _ hS _ (lv_sub hl [0, 1] rfl))
        · refine lv_iconst (v := (-1)) hx hb dX6_beside_48 (by decide) ?_
          refine lv_goto (tgt := 55) hx hb dX6_beside_49 (by decide) ?_
          exact (hWW _ _ _ _ _).mp (J55_13 _ (by simp only [if_pos c_10]) _ _ hS _ (lv_sub hl [0, 1] rfl))
    · refine lv_iload_n hx hb dX6_beside_22 rfl (lv_at hl 0 rfl) ?_
      refine lv_iconst (v := nI (5)) hx hb dX6_beside_23 (by decide) ?_
      refine lv_irem (x := k) (y := nI (5)) hx hb dX6_beside_24 (by decide) ?_
      have J35_19 : ∀ (x_18 : Int32), x_18 = (if (k) - (k) / (nI (5)) * (nI (5)) = 0 then (-1) else (k) - (nI (1))) → ∀ (H : Heap) (locs : List Loc), va_S (fun _ => False) s.heap H locs → ∀ (ls : Array Slot), lv_has ls 2 [(0, .int (k)), (1, .int (w))] → WW H locs 0 0 (F0 m 35 ls [.int (x_18)]) := by
        intro x_18 h_20 H locs hS ls hl
        refine (hWW _ _ _ _ _).mpr ?_
        have hR_21 : m_beside k w = m_beside_j35 k w x_18 := (by have q_ := h_20.symm; subst q_; unfold m_beside; simp only [if_neg c_1, if_pos c_2])
        exact s_iret (v := x_18) hx hb hr hlocks hS dX6_beside_35 (Eq.trans (by unfold m_beside_j35; rfl) hR_21.symm)
      refine lv_if_ne (x := (k) - (k) / (nI (5)) * (nI (5))) (tgt := 32) hx hb dX6_beside_25 (by decide) (fun c_16 => ?_) (fun c_16 => ?_)
      · refine lv_iload_n hx hb dX6_beside_32 rfl (lv_at hl 0 rfl) ?_
        refine lv_iconst (v := nI (1)) hx hb dX6_beside_33 (by decide) ?_
        refine lv_isub (x := k) (y := nI (1)) hx hb dX6_beside_34 ?_
        exact (hWW _ _ _ _ _).mp (J35_19 _ (by simp only [if_neg c_16]) _ _ hS _ (lv_sub hl [0, 1] rfl))
      · refine lv_iconst (v := (-1)) hx hb dX6_beside_28 (by decide) ?_
        refine lv_goto (tgt := 35) hx hb dX6_beside_29 (by decide) ?_
        exact (hWW _ _ _ _ _).mp (J35_19 _ (by simp only [if_pos c_16]) _ _ hS _ (lv_sub hl [0, 1] rfl))
  · refine lv_iload_n hx hb dX6_beside_4 rfl (lv_at hl 0 rfl) ?_
    refine lv_iconst (v := nI (5)) hx hb dX6_beside_5 (by decide) ?_
    have J16_25 : ∀ (x_24 : Int32), x_24 = (if nI (5) ≤ k then (k) - (nI (5)) else (-1)) → ∀ (H : Heap) (locs : List Loc), va_S (fun _ => False) s.heap H locs → ∀ (ls : Array Slot), lv_has ls 2 [(0, .int (k)), (1, .int (w))] → WW H locs 0 0 (F0 m 16 ls [.int (x_24)]) := by
      intro x_24 h_26 H locs hS ls hl
      refine (hWW _ _ _ _ _).mpr ?_
      have hR_27 : m_beside k w = m_beside_j16 k w x_24 := (by have q_ := h_26.symm; subst q_; unfold m_beside; simp only [if_pos c_1])
      exact s_iret (v := x_24) hx hb hr hlocks hS dX6_beside_16 (Eq.trans (by unfold m_beside_j16; rfl) hR_27.symm)
    refine lv_icmp_ge (x := k) (y := nI (5)) (tgt := 13) hx hb dX6_beside_6 (by decide) (fun c_22 => ?_) (fun c_22 => ?_)
    · refine lv_iload_n hx hb dX6_beside_13 rfl (lv_at hl 0 rfl) ?_
      refine lv_iconst (v := nI (5)) hx hb dX6_beside_14 (by decide) ?_
      refine lv_isub (x := k) (y := nI (5)) hx hb dX6_beside_15 ?_
      exact (hWW _ _ _ _ _).mp (J16_25 _ (by simp only [if_pos c_22]) _ _ hS _ (lv_sub hl [0, 1] rfl))
    · refine lv_iconst (v := (-1)) hx hb dX6_beside_9 (by decide) ?_
      refine lv_goto (tgt := 16) hx hb dX6_beside_10 (by decide) ?_
      exact (hWW _ _ _ _ _).mp (J16_25 _ (by simp only [if_neg c_22]) _ _ hS _ (lv_sub hl [0, 1] rfl))

def m_thrown (σ : Sg) : Int32 := (σ.1 0 0)
set_option maxHeartbeats 4000000 in
set_option maxRecDepth 100000 in
theorem cm_thrown (l : Launch) (G : va_G) (cI cZ : ClassId) (a : Nat → Nat) (σ : Sg)  : mI l yX6_thrown wsX6_thrown ({ frames := 0, cells := 0, slots := 0, locals := 0 } : Room) G cI cZ a σ [] (m_thrown σ) σ := by
  unfold mI
  refine Met.ofW (cc := cX6_thrown) (maxL := 1) (ret := (some .int)) (by decide) rfl ?_
  intro p e s m args below meth c s₁ B hml hv
  obtain ⟨rfl, hP, hK, hD⟩ := hv
  have hx := B.exec
  have hb := B.bytes
  have hr := B.returns
  have hts := atoms_spec (ws := wsX6_thrown) B.pre
  have hown : s.vm.findClass RX6 = some m.cls := findClass_of_methodNamed B.named
  have hlocks := B.notSynchronized
  have hS : va_S (mA a) s.heap s.heap [] := va_S.rf
  have hin : ∀ w ∈ wsX60, w ∈ wsX6_thrown := fun w h => List.mem_cons_of_mem _ (List.mem_append_right _ h)
  have hl := lv_entry ([.ref (a 0)]) (n := 1) (Nat.le_of_ble_eq_true rfl)
  rw [lg_entry_eq]
  generalize (lg_sl ([.ref (a 0)]) ++ List.replicate (1 - (lg_sl ([.ref (a 0)])).length) Slot.unset).toArray = ls at hl ⊢
  have hl : lv_has ls 1 [(0, .ref (a 0))] := hl
  refine w_named (fun WW hWW => ?_)
  have hP : va_P G vwCl (wm cI cZ a σ) s.heap := hP
  refine lv_aload_n hx hb dX6_thrown_0 rfl (lv_at hl 0 rfl) ?_
  refine m_get (v := .int ((σ.1 0 0))) hx hb hts hin hown hK hP 0 (by decide) rfl (index := 90) (List.mem_of_getElem? (i := 1) rfl) dX6_thrown_1 ?_
  exact m_iret (v := (σ.1 0 0)) hx hb hr hlocks hP hK hD hS dX6_thrown_4 (by unfold m_thrown; rfl) (Eq.refl _)

def m_refused_j14 (σ : Sg) (w : Int32) (s_1 : Sg) (x_7 : Int32) : Int32 := x_7
def m_refused_j14_s (σ : Sg) (w : Int32) (s_1 : Sg) (x_7 : Int32) : Sg := s_1
def m_refused_k5 (σ : Sg) (w : Int32) (s_1 : Sg) : Int32 := (m_refused_j14 σ w s_1 (if w = 0 then nI (0) else nI (1)))
def m_refused_k5_s (σ : Sg) (w : Int32) (s_1 : Sg) : Sg := (m_refused_j14_s σ w s_1 (if w = 0 then nI (0) else nI (1)))
def m_refused (σ : Sg) (w : Int32) : Int32 := (m_refused_k5 σ w (si σ 0 (0) (w)))
def m_refused_s (σ : Sg) (w : Int32) : Sg := (m_refused_k5_s σ w (si σ 0 (0) (w)))
set_option maxHeartbeats 4000000 in
set_option maxRecDepth 100000 in
theorem cm_refused (l : Launch) (G : va_G) (cI cZ : ClassId) (a : Nat → Nat) (σ : Sg) (w : Int32) : mI l yX6_refused wsX6_refused ({ frames := 0, cells := 0, slots := 0, locals := 0 } : Room) G cI cZ a σ [.int (w)] (m_refused σ w) (m_refused_s σ w) := by
  unfold mI
  refine Met.ofW (cc := cX6_refused) (maxL := 2) (ret := (some .boolean)) (by decide) rfl ?_
  intro p e s m args below meth c s₁ B hml hv
  obtain ⟨rfl, hP, hK, hD⟩ := hv
  have hx := B.exec
  have hb := B.bytes
  have hr := B.returns
  have hts := atoms_spec (ws := wsX6_refused) B.pre
  have hown : s.vm.findClass RX6 = some m.cls := findClass_of_methodNamed B.named
  have hlocks := B.notSynchronized
  have hS : va_S (mA a) s.heap s.heap [] := va_S.rf
  have hin : ∀ w ∈ wsX60, w ∈ wsX6_refused := fun w h => List.mem_cons_of_mem _ (List.mem_append_right _ h)
  have hl := lv_entry ([.ref (a 0), .int (w)]) (n := 2) (Nat.le_of_ble_eq_true rfl)
  rw [lg_entry_eq]
  generalize (lg_sl ([.ref (a 0), .int (w)]) ++ List.replicate (2 - (lg_sl ([.ref (a 0), .int (w)])).length) Slot.unset).toArray = ls at hl ⊢
  have hl : lv_has ls 2 [(0, .ref (a 0)), (1, .int (w))] := hl
  refine w_named (fun WW hWW => ?_)
  have hP : va_P G vwCl (wm cI cZ a σ) s.heap := hP
  refine lv_aload_n hx hb dX6_refused_0 rfl (lv_at hl 0 rfl) ?_
  refine lv_iload_n hx hb dX6_refused_1 rfl (lv_at hl 1 rfl) ?_
  refine m_putI (v := w) hx hb hts hin hown hK hP hD hS 0 (by decide) rfl (by decide +kernel) rfl (index := 90) (List.mem_of_getElem? (i := 1) rfl) dX6_refused_2 (fun H locs hP hD hS => ?_)
  obtain ⟨s_1, e_2⟩ : ∃ z : Sg, z = (si σ 0 (0) (w)) := ⟨_, rfl⟩
  rw [← e_2] at hP hD
  have hR_3 : m_refused σ w = m_refused_k5 σ w s_1 := (by have q_ := e_2.symm; subst q_; unfold m_refused; rfl)
  have hR_4 : m_refused_s σ w = m_refused_k5_s σ w s_1 := (by have q_ := e_2.symm; subst q_; unfold m_refused_s; rfl)
  refine lv_iload_n hx hb dX6_refused_5 rfl (lv_at hl 1 rfl) ?_
  have J14_8 : ∀ (x_7 : Int32), x_7 = (if w = 0 then nI (0) else nI (1)) → ∀ (H : Heap) (locs : List Loc), va_P G vwCl (wm cI cZ a s_1) H → va_D (mA a) (wm cI cZ a s_1) → va_S (mA a) s.heap H locs → ∀ (ls : Array Slot), lv_has ls 2 [(0, .ref (a 0)), (1, .int (w))] → WW H locs 0 0 (F0 m 14 ls [.int (x_7)]) := by
    intro x_7 h_9 H locs hP hD hS ls hl
    refine (hWW _ _ _ _ _).mpr ?_
    have hR_10 : m_refused σ w = m_refused_j14 σ w s_1 x_7 := (Eq.trans hR_3 (by have q_ := h_9.symm; subst q_; unfold m_refused_k5; rfl))
    have hR_11 : m_refused_s σ w = m_refused_j14_s σ w s_1 x_7 := (Eq.trans hR_4 (by have q_ := h_9.symm; subst q_; unfold m_refused_k5_s; rfl))
    exact m_zret (v := x_7) hx hb hr hlocks (z_nar (by rw [h_9]; (repeat' split) <;> first | exact Or.inl rfl | exact Or.inr rfl)) hP hK hD hS dX6_refused_14 (Eq.trans (by unfold m_refused_j14; rfl) hR_10.symm) (Eq.trans (by unfold m_refused_j14_s; rfl) hR_11.symm)
  refine lv_if_eq (x := w) (tgt := 13) hx hb dX6_refused_6 (by decide) (fun c_5 => ?_) (fun c_5 => ?_)
  · refine lv_iconst (v := nI (0)) hx hb dX6_refused_13 (by decide) ?_
    exact (hWW _ _ _ _ _).mp (J14_8 _ (by simp only [if_pos c_5]) _ _ hP hD hS _ (lv_sub hl [0, 1] rfl))
  · refine lv_iconst (v := nI (1)) hx hb dX6_refused_9 (by decide) ?_
    refine lv_goto (tgt := 14) hx hb dX6_refused_10 (by decide) ?_
    exact (hWW _ _ _ _ _).mp (J14_8 _ (by simp only [if_neg c_5]) _ _ hP hD hS _ (lv_sub hl [0, 1] rfl))

def m_degreesOf_j62 (σ : Sg) (k : Int32) (x_4 : Int32) : Int32 := x_4
def m_degreesOf (σ : Sg) (k : Int32) : Int32 := (if 0 ≤ (σ.1 10 ((k).toNatClampNeg)) then (m_degreesOf_j62 σ k (if (σ.1 10 ((k).toNatClampNeg)) ≤ (nI (1000)) * (((σ.1 8 ((k).toNatClampNeg))) + ((σ.1 9 ((k).toNatClampNeg)))) then nI (0) else (((σ.1 10 ((k).toNatClampNeg))) - ((nI (1000)) * (((σ.1 8 ((k).toNatClampNeg))) + ((σ.1 9 ((k).toNatClampNeg)))))) / (nI (100)))) else ((σ.1 10 ((k).toNatClampNeg))) / (nI (100)))
set_option maxHeartbeats 4000000 in
set_option maxRecDepth 100000 in
theorem cm_degreesOf (l : Launch) (G : va_G) (cI cZ : ClassId) (a : Nat → Nat) (σ : Sg) (k : Int32) (hk : vp_in k 125) : mI l yX6_degreesOf wsX6_degreesOf ({ frames := 0, cells := 0, slots := 0, locals := 0 } : Room) G cI cZ a σ [.int (k)] (m_degreesOf σ k) σ := by
  unfold mI
  refine Met.ofW (cc := cX6_degreesOf) (maxL := 3) (ret := (some .int)) (by decide) rfl ?_
  intro p e s m args below meth c s₁ B hml hv
  obtain ⟨rfl, hP, hK, hD⟩ := hv
  have hx := B.exec
  have hb := B.bytes
  have hr := B.returns
  have hts := atoms_spec (ws := wsX6_degreesOf) B.pre
  have hown : s.vm.findClass RX6 = some m.cls := findClass_of_methodNamed B.named
  have hlocks := B.notSynchronized
  have hS : va_S (mA a) s.heap s.heap [] := va_S.rf
  have hin : ∀ w ∈ wsX60, w ∈ wsX6_degreesOf := fun w h => List.mem_cons_of_mem _ (List.mem_append_right _ h)
  have hl := lv_entry ([.ref (a 0), .int (k)]) (n := 3) (Nat.le_of_ble_eq_true rfl)
  rw [lg_entry_eq]
  generalize (lg_sl ([.ref (a 0), .int (k)]) ++ List.replicate (3 - (lg_sl ([.ref (a 0), .int (k)])).length) Slot.unset).toArray = ls at hl ⊢
  have hl : lv_has ls 3 [(0, .ref (a 0)), (1, .int (k))] := hl
  refine w_named (fun WW hWW => ?_)
  have hP : va_P G vwCl (wm cI cZ a σ) s.heap := hP
  refine lv_sipush (v := nI (1000)) hx hb dX6_degreesOf_0 (by decide) ?_
  refine lv_aload_n hx hb dX6_degreesOf_3 rfl (lv_at hl 0 rfl) ?_
  refine m_get (v := .ref (a 8)) hx hb hts hin hown hK hP 8 (by decide) rfl (index := 28) (List.mem_of_getElem? (i := 1) rfl) dX6_degreesOf_4 ?_
  refine lv_iload_n hx hb dX6_degreesOf_7 rfl (lv_at hl 1 rfl) ?_
  refine m_aldI (j := k) hx hb hK hP 7 8 rfl (hk) dX6_degreesOf_8 ?_
  refine W.eq (g2 := F0 m 9 ls [.int ((σ.1 8 ((k).toNatClampNeg))), .int (nI (1000))]) rfl ?_
  refine lv_aload_n hx hb dX6_degreesOf_9 rfl (lv_at hl 0 rfl) ?_
  refine m_get (v := .ref (a 9)) hx hb hts hin hown hK hP 9 (by decide) rfl (index := 31) (List.mem_of_getElem? (i := 2) rfl) dX6_degreesOf_10 ?_
  refine lv_iload_n hx hb dX6_degreesOf_13 rfl (lv_at hl 1 rfl) ?_
  refine m_aldI (j := k) hx hb hK hP 8 9 rfl (hk) dX6_degreesOf_14 ?_
  refine W.eq (g2 := F0 m 15 ls [.int ((σ.1 9 ((k).toNatClampNeg))), .int ((σ.1 8 ((k).toNatClampNeg))), .int (nI (1000))]) rfl ?_
  refine lv_iadd (x := (σ.1 8 ((k).toNatClampNeg))) (y := (σ.1 9 ((k).toNatClampNeg))) hx hb dX6_degreesOf_15 ?_
  refine lv_imul (x := nI (1000)) (y := ((σ.1 8 ((k).toNatClampNeg))) + ((σ.1 9 ((k).toNatClampNeg)))) hx hb dX6_degreesOf_16 ?_
  refine lv_istore_n (lv' := [(2, .int ((nI (1000)) * (((σ.1 8 ((k).toNatClampNeg))) + ((σ.1 9 ((k).toNatClampNeg)))))), (0, .ref (a 0)), (1, .int (k))]) hx hb dX6_degreesOf_17 rfl hl (by decide) rfl (fun ls hl => ?_)
  refine lv_aload_n hx hb dX6_degreesOf_18 rfl (lv_at hl 1 rfl) ?_
  refine m_get (v := .ref (a 10)) hx hb hts hin hown hK hP 10 (by decide) rfl (index := 34) (List.mem_of_getElem? (i := 3) rfl) dX6_degreesOf_19 ?_
  refine lv_iload_n hx hb dX6_degreesOf_22 rfl (lv_at hl 2 rfl) ?_
  refine m_aldI (j := k) hx hb hK hP 9 10 rfl (hk) dX6_degreesOf_23 ?_
  refine W.eq (g2 := F0 m 24 ls [.int ((σ.1 10 ((k).toNatClampNeg)))]) rfl ?_
  refine lv_if_ge (x := (σ.1 10 ((k).toNatClampNeg))) (tgt := 37) hx hb dX6_degreesOf_24 (by decide) (fun c_1 => ?_) (fun c_1 => ?_)
  · refine lv_aload_n hx hb dX6_degreesOf_37 rfl (lv_at hl 1 rfl) ?_
    refine m_get (v := .ref (a 10)) hx hb hts hin hown hK hP 10 (by decide) rfl (index := 34) (List.mem_of_getElem? (i := 3) rfl) dX6_degreesOf_38 ?_
    refine lv_iload_n hx hb dX6_degreesOf_41 rfl (lv_at hl 2 rfl) ?_
    refine m_aldI (j := k) hx hb hK hP 9 10 rfl (hk) dX6_degreesOf_42 ?_
    refine W.eq (g2 := F0 m 43 ls [.int ((σ.1 10 ((k).toNatClampNeg)))]) rfl ?_
    refine lv_iload_n hx hb dX6_degreesOf_43 rfl (lv_at hl 0 rfl) ?_
    have J62_5 : ∀ (x_4 : Int32), x_4 = (if (σ.1 10 ((k).toNatClampNeg)) ≤ (nI (1000)) * (((σ.1 8 ((k).toNatClampNeg))) + ((σ.1 9 ((k).toNatClampNeg)))) then nI (0) else (((σ.1 10 ((k).toNatClampNeg))) - ((nI (1000)) * (((σ.1 8 ((k).toNatClampNeg))) + ((σ.1 9 ((k).toNatClampNeg)))))) / (nI (100))) → ∀ (H : Heap) (locs : List Loc), va_P G vwCl (wm cI cZ a σ) H → va_D (mA a) (wm cI cZ a σ) → va_S (mA a) s.heap H locs → ∀ (ls : Array Slot), lv_has ls 3 [(2, .int ((nI (1000)) * (((σ.1 8 ((k).toNatClampNeg))) + ((σ.1 9 ((k).toNatClampNeg)))))), (0, .ref (a 0)), (1, .int (k))] → WW H locs 0 0 (F0 m 62 ls [.int (x_4)]) := by
      intro x_4 h_6 H locs hP hD hS ls hl
      refine (hWW _ _ _ _ _).mpr ?_
      have hR_7 : m_degreesOf σ k = m_degreesOf_j62 σ k x_4 := (by have q_ := h_6.symm; subst q_; unfold m_degreesOf; simp only [if_pos c_1])
      exact m_iret (v := x_4) hx hb hr hlocks hP hK hD hS dX6_degreesOf_62 (Eq.trans (by unfold m_degreesOf_j62; rfl) hR_7.symm) (Eq.refl _)
    refine lv_icmp_le (x := (σ.1 10 ((k).toNatClampNeg))) (y := (nI (1000)) * (((σ.1 8 ((k).toNatClampNeg))) + ((σ.1 9 ((k).toNatClampNeg))))) (tgt := 61) hx hb dX6_degreesOf_44 (by decide) (fun c_2 => ?_) (fun c_2 => ?_)
    · refine lv_iconst (v := nI (0)) hx hb dX6_degreesOf_61 (by decide) ?_
      exact (hWW _ _ _ _ _).mp (J62_5 _ (by simp only [if_pos c_2]) _ _ hP hD hS _ (lv_sub hl [0, 1, 2] rfl))
    · refine lv_aload_n hx hb dX6_degreesOf_47 rfl (lv_at hl 1 rfl) ?_
      refine m_get (v := .ref (a 10)) hx hb hts hin hown hK hP 10 (by decide) rfl (index := 34) (List.mem_of_getElem? (i := 3) rfl) dX6_degreesOf_48 ?_
      refine lv_iload_n hx hb dX6_degreesOf_51 rfl (lv_at hl 2 rfl) ?_
      refine m_aldI (j := k) hx hb hK hP 9 10 rfl (hk) dX6_degreesOf_52 ?_
      refine W.eq (g2 := F0 m 53 ls [.int ((σ.1 10 ((k).toNatClampNeg)))]) rfl ?_
      refine lv_iload_n hx hb dX6_degreesOf_53 rfl (lv_at hl 0 rfl) ?_
      refine lv_isub (x := (σ.1 10 ((k).toNatClampNeg))) (y := (nI (1000)) * (((σ.1 8 ((k).toNatClampNeg))) + ((σ.1 9 ((k).toNatClampNeg))))) hx hb dX6_degreesOf_54 ?_
      refine lv_bipush (v := nI (100)) hx hb dX6_degreesOf_55 (by decide) ?_
      refine lv_idiv (x := ((σ.1 10 ((k).toNatClampNeg))) - ((nI (1000)) * (((σ.1 8 ((k).toNatClampNeg))) + ((σ.1 9 ((k).toNatClampNeg)))))) (y := nI (100)) hx hb dX6_degreesOf_57 (by decide) ?_
      refine lv_goto (tgt := 62) hx hb dX6_degreesOf_58 (by decide) ?_
      exact (hWW _ _ _ _ _).mp (J62_5 _ (by simp only [if_neg c_2]) _ _ hP hD hS _ (lv_sub hl [0, 1, 2] rfl))
  · refine lv_aload_n hx hb dX6_degreesOf_27 rfl (lv_at hl 1 rfl) ?_
    refine m_get (v := .ref (a 10)) hx hb hts hin hown hK hP 10 (by decide) rfl (index := 34) (List.mem_of_getElem? (i := 3) rfl) dX6_degreesOf_28 ?_
    refine lv_iload_n hx hb dX6_degreesOf_31 rfl (lv_at hl 2 rfl) ?_
    refine m_aldI (j := k) hx hb hK hP 9 10 rfl (hk) dX6_degreesOf_32 ?_
    refine W.eq (g2 := F0 m 33 ls [.int ((σ.1 10 ((k).toNatClampNeg)))]) rfl ?_
    refine lv_bipush (v := nI (100)) hx hb dX6_degreesOf_33 (by decide) ?_
    refine lv_idiv (x := (σ.1 10 ((k).toNatClampNeg))) (y := nI (100)) hx hb dX6_degreesOf_35 (by decide) ?_
    exact m_iret (v := ((σ.1 10 ((k).toNatClampNeg))) / (nI (100))) hx hb hr hlocks hP hK hD hS dX6_degreesOf_36 (by unfold m_degreesOf; simp only [if_neg c_1]) (Eq.refl _)

def m_melted_j42 (σ : Sg) (k : Int32) (x_3 : Int32) : Int32 := x_3
def m_melted (σ : Sg) (k : Int32) : Int32 := (m_melted_j42 σ k (if nI (1000) ≤ (σ.1 10 ((k).toNatClampNeg)) then (m_lesser (((σ.1 8 ((k).toNatClampNeg))) + ((σ.1 9 ((k).toNatClampNeg)))) (((σ.1 10 ((k).toNatClampNeg))) / (nI (1000)))) else nI (0)))
set_option maxHeartbeats 4000000 in
set_option maxRecDepth 100000 in
theorem cm_melted (l : Launch) (G : va_G) (cI cZ : ClassId) (a : Nat → Nat) (σ : Sg) (k : Int32) (hk : vp_in k 125) : mI l yX6_melted wsX6_melted ({ frames := 1, cells := 0, slots := 0, locals := 21 } : Room) G cI cZ a σ [.int (k)] (m_melted σ k) σ := by
  unfold mI
  refine Met.ofW (cc := cX6_melted) (maxL := 2) (ret := (some .int)) (by decide) rfl ?_
  intro p e s m args below meth c s₁ B hml hv
  obtain ⟨rfl, hP, hK, hD⟩ := hv
  have hx := B.exec
  have hb := B.bytes
  have hr := B.returns
  have hts := atoms_spec (ws := wsX6_melted) B.pre
  have hown : s.vm.findClass RX6 = some m.cls := findClass_of_methodNamed B.named
  have hlocks := B.notSynchronized
  have hS : va_S (mA a) s.heap s.heap [] := va_S.rf
  have hin : ∀ w ∈ wsX60, w ∈ wsX6_melted := fun w h => List.mem_cons_of_mem _ (List.mem_append_right _ h)
  have hl := lv_entry ([.ref (a 0), .int (k)]) (n := 2) (Nat.le_of_ble_eq_true rfl)
  rw [lg_entry_eq]
  generalize (lg_sl ([.ref (a 0), .int (k)]) ++ List.replicate (2 - (lg_sl ([.ref (a 0), .int (k)])).length) Slot.unset).toArray = ls at hl ⊢
  have hl : lv_has ls 2 [(0, .ref (a 0)), (1, .int (k))] := hl
  refine w_named (fun WW hWW => ?_)
  have hP : va_P G vwCl (wm cI cZ a σ) s.heap := hP
  refine lv_aload_n hx hb dX6_melted_0 rfl (lv_at hl 0 rfl) ?_
  refine m_get (v := .ref (a 10)) hx hb hts hin hown hK hP 10 (by decide) rfl (index := 34) (List.mem_of_getElem? (i := 1) rfl) dX6_melted_1 ?_
  refine lv_iload_n hx hb dX6_melted_4 rfl (lv_at hl 1 rfl) ?_
  refine m_aldI (j := k) hx hb hK hP 9 10 rfl (hk) dX6_melted_5 ?_
  refine W.eq (g2 := F0 m 6 ls [.int ((σ.1 10 ((k).toNatClampNeg)))]) rfl ?_
  refine lv_sipush (v := nI (1000)) hx hb dX6_melted_6 (by decide) ?_
  have J42_4 : ∀ (x_3 : Int32), x_3 = (if nI (1000) ≤ (σ.1 10 ((k).toNatClampNeg)) then (m_lesser (((σ.1 8 ((k).toNatClampNeg))) + ((σ.1 9 ((k).toNatClampNeg)))) (((σ.1 10 ((k).toNatClampNeg))) / (nI (1000)))) else nI (0)) → ∀ (H : Heap) (locs : List Loc), va_P G vwCl (wm cI cZ a σ) H → va_D (mA a) (wm cI cZ a σ) → va_S (mA a) s.heap H locs → ∀ (ls : Array Slot), lv_has ls 2 [(0, .ref (a 0)), (1, .int (k))] → WW H locs 0 0 (F0 m 42 ls [.int (x_3)]) := by
    intro x_3 h_5 H locs hP hD hS ls hl
    refine (hWW _ _ _ _ _).mpr ?_
    have hR_6 : m_melted σ k = m_melted_j42 σ k x_3 := (by have q_ := h_5.symm; subst q_; unfold m_melted; rfl)
    exact m_iret (v := x_3) hx hb hr hlocks hP hK hD hS dX6_melted_42 (Eq.trans (by unfold m_melted_j42; rfl) hR_6.symm) (Eq.refl _)
  refine lv_icmp_ge (x := (σ.1 10 ((k).toNatClampNeg))) (y := nI (1000)) (tgt := 16) hx hb dX6_melted_9 (by decide) (fun c_1 => ?_) (fun c_1 => ?_)
  · refine lv_aload_n hx hb dX6_melted_16 rfl (lv_at hl 0 rfl) ?_
    refine m_get (v := .ref (a 8)) hx hb hts hin hown hK hP 8 (by decide) rfl (index := 28) (List.mem_of_getElem? (i := 2) rfl) dX6_melted_17 ?_
    refine lv_iload_n hx hb dX6_melted_20 rfl (lv_at hl 1 rfl) ?_
    refine m_aldI (j := k) hx hb hK hP 7 8 rfl (hk) dX6_melted_21 ?_
    refine W.eq (g2 := F0 m 22 ls [.int ((σ.1 8 ((k).toNatClampNeg)))]) rfl ?_
    refine lv_aload_n hx hb dX6_melted_22 rfl (lv_at hl 0 rfl) ?_
    refine m_get (v := .ref (a 9)) hx hb hts hin hown hK hP 9 (by decide) rfl (index := 31) (List.mem_of_getElem? (i := 3) rfl) dX6_melted_23 ?_
    refine lv_iload_n hx hb dX6_melted_26 rfl (lv_at hl 1 rfl) ?_
    refine m_aldI (j := k) hx hb hK hP 8 9 rfl (hk) dX6_melted_27 ?_
    refine W.eq (g2 := F0 m 28 ls [.int ((σ.1 9 ((k).toNatClampNeg))), .int ((σ.1 8 ((k).toNatClampNeg)))]) rfl ?_
    refine lv_iadd (x := (σ.1 8 ((k).toNatClampNeg))) (y := (σ.1 9 ((k).toNatClampNeg))) hx hb dX6_melted_28 ?_
    refine lv_aload_n hx hb dX6_melted_29 rfl (lv_at hl 0 rfl) ?_
    refine m_get (v := .ref (a 10)) hx hb hts hin hown hK hP 10 (by decide) rfl (index := 34) (List.mem_of_getElem? (i := 1) rfl) dX6_melted_30 ?_
    refine lv_iload_n hx hb dX6_melted_33 rfl (lv_at hl 1 rfl) ?_
    refine m_aldI (j := k) hx hb hK hP 9 10 rfl (hk) dX6_melted_34 ?_
    refine W.eq (g2 := F0 m 35 ls [.int ((σ.1 10 ((k).toNatClampNeg))), .int (((σ.1 8 ((k).toNatClampNeg))) + ((σ.1 9 ((k).toNatClampNeg))))]) rfl ?_
    refine lv_sipush (v := nI (1000)) hx hb dX6_melted_35 (by decide) ?_
    refine lv_idiv (x := (σ.1 10 ((k).toNatClampNeg))) (y := nI (1000)) hx hb dX6_melted_38 (by decide) ?_
    refine m_callS (As := [.int (((σ.1 8 ((k).toNatClampNeg))) + ((σ.1 9 ((k).toNatClampNeg)))), .int (((σ.1 10 ((k).toNatClampNeg))) / (nI (1000)))]) (rest := []) ⟨hx, hb, hml, hown, hts⟩ (cm_lesser l (((σ.1 8 ((k).toNatClampNeg))) + ((σ.1 9 ((k).toNatClampNeg)))) (((σ.1 10 ((k).toNatClampNeg))) / (nI (1000))) ) (va_cwS 2 hts gX6_melted_X6_lesser rfl rfl rfl (by decide +kernel) ⟨Nat.le_of_ble_eq_true rfl, Nat.le_of_ble_eq_true rfl⟩) hP hS rfl hl.1 rfl (Nat.le_of_ble_eq_true rfl) dX6_melted_39 ⟨Nat.zero_le _, Nat.zero_le _⟩ (fun H locs hP hS => ?_)
    exact (hWW _ _ _ _ _).mp (J42_4 _ (by simp only [if_pos c_1]) _ _ hP hD hS _ (lv_sub hl [0, 1] rfl))
  · refine lv_iconst (v := nI (0)) hx hb dX6_melted_12 (by decide) ?_
    refine lv_goto (tgt := 42) hx hb dX6_melted_13 (by decide) ?_
    exact (hWW _ _ _ _ _).mp (J42_4 _ (by simp only [if_neg c_1]) _ _ hP hD hS _ (lv_sub hl [0, 1] rfl))

def m_isLake_j15 (σ : Sg) (k : Int32) (x_3 : Int32) : Int32 := x_3
def m_isLake (σ : Sg) (k : Int32) : Int32 := (m_isLake_j15 σ k (if (σ.1 3 ((k).toNatClampNeg)) ≤ nI (2) then nI (0) else nI (1)))
set_option maxHeartbeats 4000000 in
set_option maxRecDepth 100000 in
theorem cm_isLake (l : Launch) (G : va_G) (cI cZ : ClassId) (a : Nat → Nat) (σ : Sg) (k : Int32) (hk : vp_in k 25) : mI l yX6_isLake wsX6_isLake ({ frames := 0, cells := 0, slots := 0, locals := 0 } : Room) G cI cZ a σ [.int (k)] (m_isLake σ k) σ := by
  unfold mI
  refine Met.ofW (cc := cX6_isLake) (maxL := 2) (ret := (some .boolean)) (by decide) rfl ?_
  intro p e s m args below meth c s₁ B hml hv
  obtain ⟨rfl, hP, hK, hD⟩ := hv
  have hx := B.exec
  have hb := B.bytes
  have hr := B.returns
  have hts := atoms_spec (ws := wsX6_isLake) B.pre
  have hown : s.vm.findClass RX6 = some m.cls := findClass_of_methodNamed B.named
  have hlocks := B.notSynchronized
  have hS : va_S (mA a) s.heap s.heap [] := va_S.rf
  have hin : ∀ w ∈ wsX60, w ∈ wsX6_isLake := fun w h => List.mem_cons_of_mem _ (List.mem_append_right _ h)
  have hl := lv_entry ([.ref (a 0), .int (k)]) (n := 2) (Nat.le_of_ble_eq_true rfl)
  rw [lg_entry_eq]
  generalize (lg_sl ([.ref (a 0), .int (k)]) ++ List.replicate (2 - (lg_sl ([.ref (a 0), .int (k)])).length) Slot.unset).toArray = ls at hl ⊢
  have hl : lv_has ls 2 [(0, .ref (a 0)), (1, .int (k))] := hl
  refine w_named (fun WW hWW => ?_)
  have hP : va_P G vwCl (wm cI cZ a σ) s.heap := hP
  refine lv_aload_n hx hb dX6_isLake_0 rfl (lv_at hl 0 rfl) ?_
  refine m_get (v := .ref (a 3)) hx hb hts hin hown hK hP 3 (by decide) rfl (index := 13) (List.mem_of_getElem? (i := 1) rfl) dX6_isLake_1 ?_
  refine lv_iload_n hx hb dX6_isLake_4 rfl (lv_at hl 1 rfl) ?_
  refine m_aldI (j := k) hx hb hK hP 2 3 rfl (hk) dX6_isLake_5 ?_
  refine W.eq (g2 := F0 m 6 ls [.int ((σ.1 3 ((k).toNatClampNeg)))]) rfl ?_
  refine lv_iconst (v := nI (2)) hx hb dX6_isLake_6 (by decide) ?_
  have J15_4 : ∀ (x_3 : Int32), x_3 = (if (σ.1 3 ((k).toNatClampNeg)) ≤ nI (2) then nI (0) else nI (1)) → ∀ (H : Heap) (locs : List Loc), va_P G vwCl (wm cI cZ a σ) H → va_D (mA a) (wm cI cZ a σ) → va_S (mA a) s.heap H locs → ∀ (ls : Array Slot), lv_has ls 2 [(0, .ref (a 0)), (1, .int (k))] → WW H locs 0 0 (F0 m 15 ls [.int (x_3)]) := by
    intro x_3 h_5 H locs hP hD hS ls hl
    refine (hWW _ _ _ _ _).mpr ?_
    have hR_6 : m_isLake σ k = m_isLake_j15 σ k x_3 := (by have q_ := h_5.symm; subst q_; unfold m_isLake; rfl)
    exact m_zret (v := x_3) hx hb hr hlocks (z_nar (by rw [h_5]; (repeat' split) <;> first | exact Or.inl rfl | exact Or.inr rfl)) hP hK hD hS dX6_isLake_15 (Eq.trans (by unfold m_isLake_j15; rfl) hR_6.symm) (Eq.refl _)
  refine lv_icmp_le (x := (σ.1 3 ((k).toNatClampNeg))) (y := nI (2)) (tgt := 14) hx hb dX6_isLake_7 (by decide) (fun c_1 => ?_) (fun c_1 => ?_)
  · refine lv_iconst (v := nI (0)) hx hb dX6_isLake_14 (by decide) ?_
    exact (hWW _ _ _ _ _).mp (J15_4 _ (by simp only [if_pos c_1]) _ _ hP hD hS _ (lv_sub hl [0, 1] rfl))
  · refine lv_iconst (v := nI (1)) hx hb dX6_isLake_10 (by decide) ?_
    refine lv_goto (tgt := 15) hx hb dX6_isLake_11 (by decide) ?_
    exact (hWW _ _ _ _ _).mp (J15_4 _ (by simp only [if_neg c_1]) _ _ hP hD hS _ (lv_sub hl [0, 1] rfl))

def m_bring_k21_s (σ : Sg) (k : Int32) (v : Int32) (s_1 : Sg) (s_4 : Sg) : Sg := s_4
def m_bring_k10_s (σ : Sg) (k : Int32) (v : Int32) (s_1 : Sg) : Sg := (m_bring_k21_s σ k v s_1 (sl s_1 26 (((s_1.2 26)) + ((v).toInt64))))
def m_bring_s (σ : Sg) (k : Int32) (v : Int32) : Sg := (m_bring_k10_s σ k v (si σ 10 ((k).toNatClampNeg) (((σ.1 10 ((k).toNatClampNeg))) + (v))))
set_option maxHeartbeats 4000000 in
set_option maxRecDepth 100000 in
theorem cm_bring (l : Launch) (G : va_G) (cI cZ : ClassId) (a : Nat → Nat) (σ : Sg) (k : Int32) (v : Int32) (hk : vp_in k 125) : mV l yX6_bring wsX6_bring ({ frames := 0, cells := 0, slots := 0, locals := 0 } : Room) G cI cZ a σ [.int (k), .int (v)] (m_bring_s σ k v) := by
  unfold mV
  refine Met.ofW (cc := cX6_bring) (maxL := 3) (ret := none) (by decide) rfl ?_
  intro p e s m args below meth c s₁ B hml hv
  obtain ⟨rfl, hP, hK, hD⟩ := hv
  have hx := B.exec
  have hb := B.bytes
  have hr := B.returns
  have hts := atoms_spec (ws := wsX6_bring) B.pre
  have hown : s.vm.findClass RX6 = some m.cls := findClass_of_methodNamed B.named
  have hlocks := B.notSynchronized
  have hS : va_S (mA a) s.heap s.heap [] := va_S.rf
  have hin : ∀ w ∈ wsX60, w ∈ wsX6_bring := fun w h => List.mem_cons_of_mem _ (List.mem_append_right _ h)
  have hl := lv_entry ([.ref (a 0), .int (k), .int (v)]) (n := 3) (Nat.le_of_ble_eq_true rfl)
  rw [lg_entry_eq]
  generalize (lg_sl ([.ref (a 0), .int (k), .int (v)]) ++ List.replicate (3 - (lg_sl ([.ref (a 0), .int (k), .int (v)])).length) Slot.unset).toArray = ls at hl ⊢
  have hl : lv_has ls 3 [(0, .ref (a 0)), (1, .int (k)), (2, .int (v))] := hl
  refine w_named (fun WW hWW => ?_)
  have hP : va_P G vwCl (wm cI cZ a σ) s.heap := hP
  refine lv_aload_n hx hb dX6_bring_0 rfl (lv_at hl 0 rfl) ?_
  refine m_get (v := .ref (a 10)) hx hb hts hin hown hK hP 10 (by decide) rfl (index := 34) (List.mem_of_getElem? (i := 1) rfl) dX6_bring_1 ?_
  refine lv_iload_n hx hb dX6_bring_4 rfl (lv_at hl 1 rfl) ?_
  refine lv_dup2_11 hx hb dX6_bring_5 rfl rfl ?_
  refine m_aldI (j := k) hx hb hK hP 9 10 rfl (hk) dX6_bring_6 ?_
  refine W.eq (g2 := F0 m 7 ls [.int ((σ.1 10 ((k).toNatClampNeg))), .int (k), .ref (a 10)]) rfl ?_
  refine lv_iload_n hx hb dX6_bring_7 rfl (lv_at hl 2 rfl) ?_
  refine lv_iadd (x := (σ.1 10 ((k).toNatClampNeg))) (y := v) hx hb dX6_bring_8 ?_
  refine m_astI (j := k) (v := ((σ.1 10 ((k).toNatClampNeg))) + (v)) hx hb hK hP hD hS 9 10 rfl rfl (hk) dX6_bring_9 (fun H locs hP hD hS => ?_)
  obtain ⟨s_1, e_2⟩ : ∃ z : Sg, z = (si σ 10 ((k).toNatClampNeg) (((σ.1 10 ((k).toNatClampNeg))) + (v))) := ⟨_, rfl⟩
  rw [← e_2] at hP hD
  have hR_3 : m_bring_s σ k v = m_bring_k10_s σ k v s_1 := (by have q_ := e_2.symm; subst q_; unfold m_bring_s; rfl)
  refine lv_aload_n hx hb dX6_bring_10 rfl (lv_at hl 0 rfl) ?_
  refine lv_dup hx hb dX6_bring_11 rfl ?_
  refine m_get (v := .long ((s_1.2 26))) hx hb hts hin hown hK hP 26 (by decide) rfl (index := 76) (List.mem_of_getElem? (i := 2) rfl) dX6_bring_12 ?_
  refine lv_iload_n hx hb dX6_bring_15 rfl (lv_at hl 2 rfl) ?_
  refine lv_i2l (v := (v).toInt64) hx hb dX6_bring_16 rfl ?_
  refine lv_ladd hx hb dX6_bring_17 ?_
  refine m_putJ (v := ((s_1.2 26)) + ((v).toInt64)) hx hb hts hin hown hK hP hD hS 26 (by decide) rfl (by decide +kernel) rfl (index := 76) (List.mem_of_getElem? (i := 2) rfl) dX6_bring_18 (fun H locs hP hD hS => ?_)
  obtain ⟨s_4, e_5⟩ : ∃ z : Sg, z = (sl s_1 26 (((s_1.2 26)) + ((v).toInt64))) := ⟨_, rfl⟩
  rw [← e_5] at hP hD
  have hR_6 : m_bring_s σ k v = m_bring_k21_s σ k v s_1 s_4 := (Eq.trans hR_3 (by have q_ := e_5.symm; subst q_; unfold m_bring_k10_s; rfl))
  exact m_vret hx hb hr hlocks hP hK hD hS dX6_bring_21 (Eq.trans (by unfold m_bring_k21_s; rfl) hR_6.symm)

def m_sink_k65_s (σ : Sg) (k : Nat) (s_1 : Sg) (s_4 : Sg) (s_7 : Sg) (s_10 : Sg) : Sg := s_10
def m_sink_k53_s (σ : Sg) (k : Nat) (s_1 : Sg) (s_4 : Sg) (s_7 : Sg) : Sg := (m_sink_k65_s σ k s_1 s_4 s_7 (si s_7 3 (k / 5) (((s_7.1 3 (k / 5))) + ((m_greater (nI (0)) (((m_melted σ (nI (k)))) - ((σ.1 8 k))))))))
def m_sink_k41_s (σ : Sg) (k : Nat) (s_1 : Sg) (s_4 : Sg) : Sg := (m_sink_k53_s σ k s_1 s_4 (si s_4 2 (k / 5) (((s_4.1 2 (k / 5))) - ((m_greater (nI (0)) (((m_melted σ (nI (k)))) - ((σ.1 8 k))))))))
def m_sink_k27_s (σ : Sg) (k : Nat) (s_1 : Sg) : Sg := (m_sink_k41_s σ k s_1 (si s_1 10 (k) (((s_1.1 10 k)) - ((nI (1000)) * ((m_greater (nI (0)) (((m_melted σ (nI (k)))) - ((σ.1 8 k)))))))))
def m_sink_s (σ : Sg) (k : Nat) : Sg := (m_sink_k27_s σ k (si σ 9 (k) (((σ.1 9 k)) - ((m_greater (nI (0)) (((m_melted σ (nI (k)))) - ((σ.1 8 k))))))))
set_option maxHeartbeats 4000000 in
set_option maxRecDepth 100000 in
theorem cm_sink (l : Launch) (G : va_G) (cI cZ : ClassId) (a : Nat → Nat) (σ : Sg) (k : Nat) (hk : k < 125) : mV l yX6_sink wsX6_sink ({ frames := 2, cells := 0, slots := 0, locals := 42 } : Room) G cI cZ a σ [.int (nI (k))] (m_sink_s σ k) := by
  unfold mV
  refine Met.ofW (cc := cX6_sink) (maxL := 3) (ret := none) (by decide) rfl ?_
  intro p e s m args below meth c s₁ B hml hv
  obtain ⟨rfl, hP, hK, hD⟩ := hv
  have hx := B.exec
  have hb := B.bytes
  have hr := B.returns
  have hts := atoms_spec (ws := wsX6_sink) B.pre
  have hown : s.vm.findClass RX6 = some m.cls := findClass_of_methodNamed B.named
  have hlocks := B.notSynchronized
  have hS : va_S (mA a) s.heap s.heap [] := va_S.rf
  have hin : ∀ w ∈ wsX60, w ∈ wsX6_sink := fun w h => List.mem_cons_of_mem _ (List.mem_append_right _ h)
  have hl := lv_entry ([.ref (a 0), .int (nI (k))]) (n := 3) (Nat.le_of_ble_eq_true rfl)
  rw [lg_entry_eq]
  generalize (lg_sl ([.ref (a 0), .int (nI (k))]) ++ List.replicate (3 - (lg_sl ([.ref (a 0), .int (nI (k))])).length) Slot.unset).toArray = ls at hl ⊢
  have hl : lv_has ls 3 [(0, .ref (a 0)), (1, .int (nI (k)))] := hl
  refine w_named (fun WW hWW => ?_)
  have hP : va_P G vwCl (wm cI cZ a σ) s.heap := hP
  refine lv_iconst (v := nI (0)) hx hb dX6_sink_0 (by decide) ?_
  refine lv_aload_n hx hb dX6_sink_1 rfl (lv_at hl 0 rfl) ?_
  refine lv_iload_n hx hb dX6_sink_2 rfl (lv_at hl 1 rfl) ?_
  refine m_callI (As := [.int (nI (k))]) (rest := [.int (nI (0))]) (fun _ h => h) ⟨hx, hb, hml, hown, hts⟩ (cm_melted l G cI cZ a σ  (nI (k)) (vp_in_nI (by omega) (by decide))) (cwV 1 hts gX6_sink_X6_melted rfl rfl rfl (by decide +kernel) ⟨Nat.le_of_ble_eq_true rfl, Nat.le_of_ble_eq_true rfl⟩) hK hP hD hS rfl hl.1 rfl (Nat.le_of_ble_eq_true rfl) dX6_sink_3 ⟨Nat.zero_le _, Nat.zero_le _⟩ (fun H locs hP hD _ _ hS => ?_)
  refine lv_aload_n hx hb dX6_sink_6 rfl (lv_at hl 0 rfl) ?_
  refine m_get (v := .ref (a 8)) hx hb hts hin hown hK hP 8 (by decide) rfl (index := 28) (List.mem_of_getElem? (i := 1) rfl) dX6_sink_7 ?_
  refine lv_iload_n hx hb dX6_sink_10 rfl (lv_at hl 1 rfl) ?_
  refine m_ald (j := k) hx hb hK hP 7 8 rfl (by decide) (by omega) dX6_sink_11 ?_
  refine W.eq (g2 := F0 m 12 ls [.int ((σ.1 8 k)), .int ((m_melted σ (nI (k)))), .int (nI (0))]) rfl ?_
  refine lv_isub (x := (m_melted σ (nI (k)))) (y := (σ.1 8 k)) hx hb dX6_sink_12 ?_
  refine m_callS (As := [.int (nI (0)), .int (((m_melted σ (nI (k)))) - ((σ.1 8 k)))]) (rest := []) ⟨hx, hb, hml, hown, hts⟩ (cm_greater l (nI (0)) (((m_melted σ (nI (k)))) - ((σ.1 8 k))) ) (va_cwS 2 hts gX6_sink_X6_greater rfl rfl rfl (by decide +kernel) ⟨Nat.le_of_ble_eq_true rfl, Nat.le_of_ble_eq_true rfl⟩) hP hS rfl hl.1 rfl (Nat.le_of_ble_eq_true rfl) dX6_sink_13 ⟨Nat.zero_le _, Nat.zero_le _⟩ (fun H locs hP hS => ?_)
  refine lv_istore_n (lv' := [(2, .int ((m_greater (nI (0)) (((m_melted σ (nI (k)))) - ((σ.1 8 k)))))), (0, .ref (a 0)), (1, .int (nI (k)))]) hx hb dX6_sink_16 rfl hl (by decide) rfl (fun ls hl => ?_)
  refine lv_aload_n hx hb dX6_sink_17 rfl (lv_at hl 1 rfl) ?_
  refine m_get (v := .ref (a 9)) hx hb hts hin hown hK hP 9 (by decide) rfl (index := 31) (List.mem_of_getElem? (i := 2) rfl) dX6_sink_18 ?_
  refine lv_iload_n hx hb dX6_sink_21 rfl (lv_at hl 2 rfl) ?_
  refine lv_dup2_11 hx hb dX6_sink_22 rfl rfl ?_
  refine m_ald (j := k) hx hb hK hP 8 9 rfl (by decide) (by omega) dX6_sink_23 ?_
  refine W.eq (g2 := F0 m 24 ls [.int ((σ.1 9 k)), .int (nI (k)), .ref (a 9)]) rfl ?_
  refine lv_iload_n hx hb dX6_sink_24 rfl (lv_at hl 0 rfl) ?_
  refine lv_isub (x := (σ.1 9 k)) (y := (m_greater (nI (0)) (((m_melted σ (nI (k)))) - ((σ.1 8 k))))) hx hb dX6_sink_25 ?_
  refine m_ast (j := k) (v := ((σ.1 9 k)) - ((m_greater (nI (0)) (((m_melted σ (nI (k)))) - ((σ.1 8 k)))))) hx hb hK hP hD hS 8 9 rfl rfl (by decide) (by omega) dX6_sink_26 (fun H locs hP hD hS => ?_)
  obtain ⟨s_1, e_2⟩ : ∃ z : Sg, z = (si σ 9 (k) (((σ.1 9 k)) - ((m_greater (nI (0)) (((m_melted σ (nI (k)))) - ((σ.1 8 k))))))) := ⟨_, rfl⟩
  rw [← e_2] at hP hD
  have hR_3 : m_sink_s σ k = m_sink_k27_s σ k s_1 := (by have q_ := e_2.symm; subst q_; unfold m_sink_s; rfl)
  refine lv_aload_n hx hb dX6_sink_27 rfl (lv_at hl 1 rfl) ?_
  refine m_get (v := .ref (a 10)) hx hb hts hin hown hK hP 10 (by decide) rfl (index := 34) (List.mem_of_getElem? (i := 3) rfl) dX6_sink_28 ?_
  refine lv_iload_n hx hb dX6_sink_31 rfl (lv_at hl 2 rfl) ?_
  refine lv_dup2_11 hx hb dX6_sink_32 rfl rfl ?_
  refine m_ald (j := k) hx hb hK hP 9 10 rfl (by decide) (by omega) dX6_sink_33 ?_
  refine W.eq (g2 := F0 m 34 ls [.int ((s_1.1 10 k)), .int (nI (k)), .ref (a 10)]) rfl ?_
  refine lv_sipush (v := nI (1000)) hx hb dX6_sink_34 (by decide) ?_
  refine lv_iload_n hx hb dX6_sink_37 rfl (lv_at hl 0 rfl) ?_
  refine lv_imul (x := nI (1000)) (y := (m_greater (nI (0)) (((m_melted σ (nI (k)))) - ((σ.1 8 k))))) hx hb dX6_sink_38 ?_
  refine lv_isub (x := (s_1.1 10 k)) (y := (nI (1000)) * ((m_greater (nI (0)) (((m_melted σ (nI (k)))) - ((σ.1 8 k)))))) hx hb dX6_sink_39 ?_
  refine m_ast (j := k) (v := ((s_1.1 10 k)) - ((nI (1000)) * ((m_greater (nI (0)) (((m_melted σ (nI (k)))) - ((σ.1 8 k))))))) hx hb hK hP hD hS 9 10 rfl rfl (by decide) (by omega) dX6_sink_40 (fun H locs hP hD hS => ?_)
  obtain ⟨s_4, e_5⟩ : ∃ z : Sg, z = (si s_1 10 (k) (((s_1.1 10 k)) - ((nI (1000)) * ((m_greater (nI (0)) (((m_melted σ (nI (k)))) - ((σ.1 8 k)))))))) := ⟨_, rfl⟩
  rw [← e_5] at hP hD
  have hR_6 : m_sink_s σ k = m_sink_k41_s σ k s_1 s_4 := (Eq.trans hR_3 (by have q_ := e_5.symm; subst q_; unfold m_sink_k27_s; rfl))
  refine lv_aload_n hx hb dX6_sink_41 rfl (lv_at hl 1 rfl) ?_
  refine m_get (v := .ref (a 2)) hx hb hts hin hown hK hP 2 (by decide) rfl (index := 7) (List.mem_of_getElem? (i := 4) rfl) dX6_sink_42 ?_
  refine lv_iload_n hx hb dX6_sink_45 rfl (lv_at hl 2 rfl) ?_
  refine lv_iconst (v := nI (5)) hx hb dX6_sink_46 (by decide) ?_
  refine n_div (x := k) (y := 5) hx hb (by omega) (by omega) (by omega) dX6_sink_47 ?_
  refine lv_dup2_11 hx hb dX6_sink_48 rfl rfl ?_
  refine m_ald (j := k / 5) hx hb hK hP 1 2 rfl (by decide) (by omega) dX6_sink_49 ?_
  refine W.eq (g2 := F0 m 50 ls [.int ((s_4.1 2 (k / 5))), .int (nI (k / 5)), .ref (a 2)]) rfl ?_
  refine lv_iload_n hx hb dX6_sink_50 rfl (lv_at hl 0 rfl) ?_
  refine lv_isub (x := (s_4.1 2 (k / 5))) (y := (m_greater (nI (0)) (((m_melted σ (nI (k)))) - ((σ.1 8 k))))) hx hb dX6_sink_51 ?_
  refine m_ast (j := k / 5) (v := ((s_4.1 2 (k / 5))) - ((m_greater (nI (0)) (((m_melted σ (nI (k)))) - ((σ.1 8 k)))))) hx hb hK hP hD hS 1 2 rfl rfl (by decide) (by omega) dX6_sink_52 (fun H locs hP hD hS => ?_)
  obtain ⟨s_7, e_8⟩ : ∃ z : Sg, z = (si s_4 2 (k / 5) (((s_4.1 2 (k / 5))) - ((m_greater (nI (0)) (((m_melted σ (nI (k)))) - ((σ.1 8 k))))))) := ⟨_, rfl⟩
  rw [← e_8] at hP hD
  have hR_9 : m_sink_s σ k = m_sink_k53_s σ k s_1 s_4 s_7 := (Eq.trans hR_6 (by have q_ := e_8.symm; subst q_; unfold m_sink_k41_s; rfl))
  refine lv_aload_n hx hb dX6_sink_53 rfl (lv_at hl 1 rfl) ?_
  refine m_get (v := .ref (a 3)) hx hb hts hin hown hK hP 3 (by decide) rfl (index := 13) (List.mem_of_getElem? (i := 5) rfl) dX6_sink_54 ?_
  refine lv_iload_n hx hb dX6_sink_57 rfl (lv_at hl 2 rfl) ?_
  refine lv_iconst (v := nI (5)) hx hb dX6_sink_58 (by decide) ?_
  refine n_div (x := k) (y := 5) hx hb (by omega) (by omega) (by omega) dX6_sink_59 ?_
  refine lv_dup2_11 hx hb dX6_sink_60 rfl rfl ?_
  refine m_ald (j := k / 5) hx hb hK hP 2 3 rfl (by decide) (by omega) dX6_sink_61 ?_
  refine W.eq (g2 := F0 m 62 ls [.int ((s_7.1 3 (k / 5))), .int (nI (k / 5)), .ref (a 3)]) rfl ?_
  refine lv_iload_n hx hb dX6_sink_62 rfl (lv_at hl 0 rfl) ?_
  refine lv_iadd (x := (s_7.1 3 (k / 5))) (y := (m_greater (nI (0)) (((m_melted σ (nI (k)))) - ((σ.1 8 k))))) hx hb dX6_sink_63 ?_
  refine m_ast (j := k / 5) (v := ((s_7.1 3 (k / 5))) + ((m_greater (nI (0)) (((m_melted σ (nI (k)))) - ((σ.1 8 k)))))) hx hb hK hP hD hS 2 3 rfl rfl (by decide) (by omega) dX6_sink_64 (fun H locs hP hD hS => ?_)
  obtain ⟨s_10, e_11⟩ : ∃ z : Sg, z = (si s_7 3 (k / 5) (((s_7.1 3 (k / 5))) + ((m_greater (nI (0)) (((m_melted σ (nI (k)))) - ((σ.1 8 k))))))) := ⟨_, rfl⟩
  rw [← e_11] at hP hD
  have hR_12 : m_sink_s σ k = m_sink_k65_s σ k s_1 s_4 s_7 s_10 := (Eq.trans hR_9 (by have q_ := e_11.symm; subst q_; unfold m_sink_k53_s; rfl))
  exact m_vret hx hb hr hlocks hP hK hD hS dX6_sink_65 (Eq.trans (by unfold m_sink_k65_s; rfl) hR_12.symm)
