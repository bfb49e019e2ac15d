def m_reading_j86 (σ : Sg) (b : Int32) (mo : Int32) (y : Int32) (x_3 : Int32) (x_10 : Int32) (s_15 : Sg) (x_21 : Int32) : Int32 := x_21
def m_reading_j86_s (σ : Sg) (b : Int32) (mo : Int32) (y : Int32) (x_3 : Int32) (x_10 : Int32) (s_15 : Sg) (x_21 : Int32) : Sg := s_15
def m_reading_k63 (σ : Sg) (b : Int32) (mo : Int32) (y : Int32) (x_3 : Int32) (x_10 : Int32) (s_15 : Sg) : Int32 := (m_reading_j86 σ b mo y x_3 x_10 s_15 (if (m_refused σ x_10) = 0 then (s_15.1 23 (((((nI (3000)) * (b)) + ((nI (5)) * (mo))) + (y)).toNatClampNeg)) else nI (0)))
def m_reading_k63_s (σ : Sg) (b : Int32) (mo : Int32) (y : Int32) (x_3 : Int32) (x_10 : Int32) (s_15 : Sg) : Sg := (m_reading_j86_s σ b mo y x_3 x_10 s_15 (if (m_refused σ x_10) = 0 then (s_15.1 23 (((((nI (3000)) * (b)) + ((nI (5)) * (mo))) + (y)).toNatClampNeg)) else nI (0)))
def m_reading_j60 (σ : Sg) (b : Int32) (mo : Int32) (y : Int32) (x_3 : Int32) (x_10 : Int32) : Int32 := (m_reading_k63 σ b mo y x_3 x_10 (m_refused_s σ x_10))
def m_reading_j60_s (σ : Sg) (b : Int32) (mo : Int32) (y : Int32) (x_3 : Int32) (x_10 : Int32) : Sg := (m_reading_k63_s σ b mo y x_3 x_10 (m_refused_s σ x_10))
def m_reading_j47 (σ : Sg) (b : Int32) (mo : Int32) (y : Int32) (x_3 : Int32) : Int32 := (m_reading_j60 σ b mo y x_3 (if x_3 = 0 then nI (1) else nI (0)))
def m_reading_j47_s (σ : Sg) (b : Int32) (mo : Int32) (y : Int32) (x_3 : Int32) : Sg := (m_reading_j60_s σ b mo y x_3 (if x_3 = 0 then nI (1) else nI (0)))
def m_reading (σ : Sg) (b : Int32) (mo : Int32) (y : Int32) : Int32 := (m_reading_j47 σ b mo y (if (m_within b (nI (0)) (((σ.1 19 0)) - (nI (1)))) = 0 then nI (0) else (if (m_within y (nI (0)) (nI (4))) = 0 then nI (0) else (if (m_within mo (σ.1 22 ((b).toNatClampNeg)) (((σ.1 1 0)) - (nI (1)))) = 0 then nI (0) else nI (1)))))
def m_reading_s (σ : Sg) (b : Int32) (mo : Int32) (y : Int32) : Sg := (m_reading_j47_s σ b mo y (if (m_within b (nI (0)) (((σ.1 19 0)) - (nI (1)))) = 0 then nI (0) else (if (m_within y (nI (0)) (nI (4))) = 0 then nI (0) else (if (m_within mo (σ.1 22 ((b).toNatClampNeg)) (((σ.1 1 0)) - (nI (1)))) = 0 then nI (0) else nI (1)))))
set_option maxHeartbeats 4000000 in
set_option maxRecDepth 100000 in
theorem cm_reading (l : Launch) (G : va_G) (cI cZ : ClassId) (a : Nat → Nat) (σ : Sg) (b : Int32) (mo : Int32) (y : Int32) (hO : mOK σ) (hB : ∀ j, j < (σ.1 19 0).toNatClampNeg → vp_in (σ.1 22 j) 601) : mI l yX6_reading wsX6_reading ({ frames := 1, cells := 0, slots := 0, locals := 22 } : Room) G cI cZ a σ [.int (b), .int (mo), .int (y)] (m_reading σ b mo y) (m_reading_s σ b mo y) := by
  unfold mI
  refine Met.ofW (cc := cX6_reading) (maxL := 5) (ret := (some .int)) (by decide) rfl ?_
  intro p e s m args below meth c s₁ B hml hv
  obtain ⟨rfl, hP, hK, hD⟩ := hv
  have hx := B.exec
  have hb := B.bytes
  have hr := B.returns
  have hts := atoms_spec (ws := wsX6_reading) B.pre
  have hown : s.vm.findClass RX6 = some m.cls := findClass_of_methodNamed B.named
  have hlocks := B.notSynchronized
  have hS : va_S (mA a) s.heap s.heap [] := va_S.rf
  have hin : ∀ w ∈ wsX60, w ∈ wsX6_reading := fun w h => List.mem_cons_of_mem _ (List.mem_append_right _ h)
  have hl := lv_entry ([.ref (a 0), .int (b), .int (mo), .int (y)]) (n := 5) (Nat.le_of_ble_eq_true rfl)
  rw [lg_entry_eq]
  generalize (lg_sl ([.ref (a 0), .int (b), .int (mo), .int (y)]) ++ List.replicate (5 - (lg_sl ([.ref (a 0), .int (b), .int (mo), .int (y)])).length) Slot.unset).toArray = ls at hl ⊢
  have hl : lv_has ls 5 [(0, .ref (a 0)), (1, .int (b)), (2, .int (mo)), (3, .int (y))] := hl
  refine w_named (fun WW hWW => ?_)
  have hP : va_P G vwCl (wm cI cZ a σ) s.heap := hP
  have h19 := vp_lt hO.2.1
  refine lv_iload_n hx hb dX6_reading_0 rfl (lv_at hl 1 rfl) ?_
  refine lv_iconst (v := nI (0)) hx hb dX6_reading_1 (by decide) ?_
  refine lv_aload_n hx hb dX6_reading_2 rfl (lv_at hl 0 rfl) ?_
  refine m_get (v := .int ((σ.1 19 0))) hx hb hts hin hown hK hP 19 (by decide) rfl (index := 135) (List.mem_of_getElem? (i := 1) rfl) dX6_reading_3 ?_
  refine lv_iconst (v := nI (1)) hx hb dX6_reading_6 (by decide) ?_
  refine lv_isub (x := (σ.1 19 0)) (y := nI (1)) hx hb dX6_reading_7 ?_
  refine m_callS (As := [.int (b), .int (nI (0)), .int (((σ.1 19 0)) - (nI (1)))]) (rest := []) ⟨hx, hb, hml, hown, hts⟩ (cm_within l b (nI (0)) (((σ.1 19 0)) - (nI (1))) ) (va_cwS 3 hts gX6_reading_X6_within rfl rfl rfl (by decide +kernel) ⟨Nat.le_of_ble_eq_true rfl, Nat.le_of_ble_eq_true rfl⟩) hP hS rfl hl.1 rfl (Nat.le_of_ble_eq_true rfl) dX6_reading_8 ⟨Nat.zero_le _, Nat.zero_le _⟩ (fun H locs hP hS => ?_)
  have J47_4 : ∀ (x_3 : Int32), x_3 = (if (m_within b (nI (0)) (((σ.1 19 0)) - (nI (1)))) = 0 then nI (0) else (if (m_within y (nI (0)) (nI (4))) = 0 then nI (0) else (if (m_within mo (σ.1 22 ((b).toNatClampNeg)) (((σ.1 1 0)) - (nI (1)))) = 0 then nI (0) else nI (1)))) → ∀ (H : Heap) (locs : List Loc), va_P G vwCl (wm cI cZ a σ) H → va_D (mA a) (wm cI cZ a σ) → va_S (mA a) s.heap H locs → ∀ (ls : Array Slot), lv_has ls 5 [(0, .ref (a 0)), (1, .int (b)), (2, .int (mo)), (3, .int (y))] → WW H locs 0 0 (F0 m 47 ls [.int (x_3)]) := by
    intro x_3 h_5 H locs hP hD hS ls hl
    refine (hWW _ _ _ _ _).mpr ?_
    have hR_6 : m_reading σ b mo y = m_reading_j47 σ b mo y x_3 := (by have q_ := h_5.symm; subst q_; unfold m_reading; rfl)
    have hR_7 : m_reading_s σ b mo y = m_reading_j47_s σ b mo y x_3 := (by have q_ := h_5.symm; subst q_; unfold m_reading_s; rfl)
    refine lv_istore (lv' := [(4, .int (x_3)), (0, .ref (a 0)), (1, .int (b)), (2, .int (mo)), (3, .int (y))]) hx hb dX6_reading_47 hl (by decide) rfl (fun ls hl => ?_)
    refine lv_aload_n hx hb dX6_reading_49 rfl (lv_at hl 1 rfl) ?_
    refine lv_iload hx hb dX6_reading_50 (lv_at hl 0 rfl) ?_
    have J60_11 : ∀ (x_10 : Int32), x_10 = (if x_3 = 0 then nI (1) else nI (0)) → ∀ (H : Heap) (locs : List Loc), va_P G vwCl (wm cI cZ a σ) H → va_D (mA a) (wm cI cZ a σ) → va_S (mA a) s.heap H locs → ∀ (ls : Array Slot), lv_has ls 5 [(4, .int (x_3)), (0, .ref (a 0)), (1, .int (b)), (2, .int (mo)), (3, .int (y))] → WW H locs 0 0 (F0 m 60 ls [.int (x_10), .ref (a 0)]) := by
      intro x_10 h_12 H locs hP hD hS ls hl
      refine (hWW _ _ _ _ _).mpr ?_
      have hR_13 : m_reading σ b mo y = m_reading_j60 σ b mo y x_3 x_10 := (Eq.trans hR_6 (by have q_ := h_12.symm; subst q_; unfold m_reading_j47; rfl))
      have hR_14 : m_reading_s σ b mo y = m_reading_j60_s σ b mo y x_3 x_10 := (Eq.trans hR_7 (by have q_ := h_12.symm; subst q_; unfold m_reading_j47_s; rfl))
      refine m_callI (As := [.int (x_10)]) (rest := []) (fun _ h => h) ⟨hx, hb, hml, hown, hts⟩ (cm_refused l G cI cZ a σ  x_10 ) (cwV 1 hts gX6_reading_X6_refused rfl rfl rfl (by decide +kernel) ⟨Nat.le_of_ble_eq_true rfl, Nat.le_of_ble_eq_true rfl⟩) hK hP hD hS rfl hl.1 rfl (Nat.le_of_ble_eq_true rfl) dX6_reading_60 ⟨Nat.zero_le _, Nat.zero_le _⟩ (fun H locs hP hD _ _ hS => ?_)
      obtain ⟨s_15, e_16⟩ : ∃ z : Sg, z = (m_refused_s σ x_10) := ⟨_, rfl⟩
      rw [← e_16] at hP hD
      have hR_17 : m_reading σ b mo y = m_reading_k63 σ b mo y x_3 x_10 s_15 := (Eq.trans hR_13 (by have q_ := e_16.symm; subst q_; unfold m_reading_j60; rfl))
      have hR_18 : m_reading_s σ b mo y = m_reading_k63_s σ b mo y x_3 x_10 s_15 := (Eq.trans hR_14 (by have q_ := e_16.symm; subst q_; unfold m_reading_j60_s; rfl))
      have J86_22 : ∀ (x_21 : Int32), x_21 = (if (m_refused σ x_10) = 0 then (s_15.1 23 (((((nI (3000)) * (b)) + ((nI (5)) * (mo))) + (y)).toNatClampNeg)) else nI (0)) → ∀ (H : Heap) (locs : List Loc), va_P G vwCl (wm cI cZ a s_15) H → va_D (mA a) (wm cI cZ a s_15) → va_S (mA a) s.heap H locs → ∀ (ls : Array Slot), lv_has ls 5 [(4, .int (x_3)), (0, .ref (a 0)), (1, .int (b)), (2, .int (mo)), (3, .int (y))] → WW H locs 0 0 (F0 m 86 ls [.int (x_21)]) := by
        intro x_21 h_23 H locs hP hD hS ls hl
        refine (hWW _ _ _ _ _).mpr ?_
        have hR_24 : m_reading σ b mo y = m_reading_j86 σ b mo y x_3 x_10 s_15 x_21 := (Eq.trans hR_17 (by have q_ := h_23.symm; subst q_; unfold m_reading_k63; rfl))
        have hR_25 : m_reading_s σ b mo y = m_reading_j86_s σ b mo y x_3 x_10 s_15 x_21 := (Eq.trans hR_18 (by have q_ := h_23.symm; subst q_; unfold m_reading_k63_s; rfl))
        exact m_iret (v := x_21) hx hb hr hlocks hP hK hD hS dX6_reading_86 (Eq.trans (by unfold m_reading_j86; rfl) hR_24.symm) (Eq.trans (by unfold m_reading_j86_s; rfl) hR_25.symm)
      refine lv_if_eq (x := (m_refused σ x_10)) (tgt := 70) hx hb dX6_reading_63 (by decide) (fun c_19 => ?_) (fun c_19 => ?_)
      · have q1 := ck_3 h_5 (ck_b h_12 (m_refused_0 c_19))
        have hb9 := w_below hO.2.1 (by decide) q1.1
        have hm9 := w_mon hO.2.2.2.1 (hB _ (vp_lt hb9)) q1.2.2
        refine lv_aload_n hx hb dX6_reading_70 rfl (lv_at hl 1 rfl) ?_
        refine m_get (v := .ref (a 23)) hx hb hts hin hown hK hP 23 (by decide) rfl (index := 68) (List.mem_of_getElem? (i := 4) rfl) dX6_reading_71 ?_
        refine lv_sipush (v := nI (3000)) hx hb dX6_reading_74 (by decide) ?_
        refine lv_iload_n hx hb dX6_reading_77 rfl (lv_at hl 2 rfl) ?_
        refine lv_imul (x := nI (3000)) (y := b) hx hb dX6_reading_78 ?_
        refine lv_iconst (v := nI (5)) hx hb dX6_reading_79 (by decide) ?_
        refine lv_iload_n hx hb dX6_reading_80 rfl (lv_at hl 3 rfl) ?_
        refine lv_imul (x := nI (5)) (y := mo) hx hb dX6_reading_81 ?_
        refine lv_iadd (x := (nI (3000)) * (b)) (y := (nI (5)) * (mo)) hx hb dX6_reading_82 ?_
        refine lv_iload_n hx hb dX6_reading_83 rfl (lv_at hl 4 rfl) ?_
        refine lv_iadd (x := ((nI (3000)) * (b)) + ((nI (5)) * (mo))) (y := y) hx hb dX6_reading_84 ?_
        refine m_aldI (j := (((nI (3000)) * (b)) + ((nI (5)) * (mo))) + (y)) hx hb hK hP 20 23 rfl (vp_rd (vp_wide hb9 (by omega)) hm9 (w_in (n := 4) q1.2.1 (by decide))) dX6_reading_85 ?_
        refine W.eq (g2 := F0 m 86 ls [.int ((s_15.1 23 (((((nI (3000)) * (b)) + ((nI (5)) * (mo))) + (y)).toNatClampNeg)))]) rfl ?_
        exact (hWW _ _ _ _ _).mp (J86_22 _ (by simp only [if_pos c_19]) _ _ hP hD hS _ (lv_sub hl [0, 1, 2, 3, 4] rfl))
      · refine lv_iconst (v := nI (0)) hx hb dX6_reading_66 (by decide) ?_
        refine lv_goto (tgt := 86) hx hb dX6_reading_67 (by decide) ?_
        exact (hWW _ _ _ _ _).mp (J86_22 _ (by simp only [if_neg c_19]) _ _ hP hD hS _ (lv_sub hl [0, 1, 2, 3, 4] rfl))
    refine lv_if_eq (x := x_3) (tgt := 59) hx hb dX6_reading_52 (by decide) (fun c_8 => ?_) (fun c_8 => ?_)
    · refine lv_iconst (v := nI (1)) hx hb dX6_reading_59 (by decide) ?_
      exact (hWW _ _ _ _ _).mp (J60_11 _ (by simp only [if_pos c_8]) _ _ hP hD hS _ (lv_sub hl [0, 1, 2, 3, 4] rfl))
    · refine lv_iconst (v := nI (0)) hx hb dX6_reading_55 (by decide) ?_
      refine lv_goto (tgt := 60) hx hb dX6_reading_56 (by decide) ?_
      exact (hWW _ _ _ _ _).mp (J60_11 _ (by simp only [if_neg c_8]) _ _ hP hD hS _ (lv_sub hl [0, 1, 2, 3, 4] rfl))
  refine lv_if_eq (x := (m_within b (nI (0)) (((σ.1 19 0)) - (nI (1))))) (tgt := 46) hx hb dX6_reading_11 (by decide) (fun c_1 => ?_) (fun c_1 => ?_)
  · refine lv_iconst (v := nI (0)) hx hb dX6_reading_46 (by decide) ?_
    exact (hWW _ _ _ _ _).mp (J47_4 _ (by simp only [if_pos c_1]) _ _ hP hD hS _ (lv_sub hl [0, 1, 2, 3] rfl))
  · refine lv_iload_n hx hb dX6_reading_14 rfl (lv_at hl 3 rfl) ?_
    refine lv_iconst (v := nI (0)) hx hb dX6_reading_15 (by decide) ?_
    refine lv_iconst (v := nI (4)) hx hb dX6_reading_16 (by decide) ?_
    refine m_callS (As := [.int (y), .int (nI (0)), .int (nI (4))]) (rest := []) ⟨hx, hb, hml, hown, hts⟩ (cm_within l y (nI (0)) (nI (4)) ) (va_cwS 3 hts gX6_reading_X6_within rfl rfl rfl (by decide +kernel) ⟨Nat.le_of_ble_eq_true rfl, Nat.le_of_ble_eq_true rfl⟩) hP hS rfl hl.1 rfl (Nat.le_of_ble_eq_true rfl) dX6_reading_17 ⟨Nat.zero_le _, Nat.zero_le _⟩ (fun H locs hP hS => ?_)
    refine lv_if_eq (x := (m_within y (nI (0)) (nI (4)))) (tgt := 46) hx hb dX6_reading_20 (by decide) (fun c_26 => ?_) (fun c_26 => ?_)
    · refine lv_iconst (v := nI (0)) hx hb dX6_reading_46 (by decide) ?_
      exact (hWW _ _ _ _ _).mp (J47_4 _ (by simp only [if_neg c_1, if_pos c_26]) _ _ hP hD hS _ (lv_sub hl [0, 1, 2, 3] rfl))
    · refine lv_iload_n hx hb dX6_reading_23 rfl (lv_at hl 2 rfl) ?_
      refine lv_aload_n hx hb dX6_reading_24 rfl (lv_at hl 0 rfl) ?_
      refine m_get (v := .ref (a 22)) hx hb hts hin hown hK hP 22 (by decide) rfl (index := 65) (List.mem_of_getElem? (i := 2) rfl) dX6_reading_25 ?_
      refine lv_iload_n hx hb dX6_reading_28 rfl (lv_at hl 1 rfl) ?_
      refine m_aldI (j := b) hx hb hK hP 19 22 rfl (vp_wide (w_below hO.2.1 (by decide) c_1) (by omega)) dX6_reading_29 ?_
      refine W.eq (g2 := F0 m 30 ls [.int ((σ.1 22 ((b).toNatClampNeg))), .int (mo)]) rfl ?_
      refine lv_aload_n hx hb dX6_reading_30 rfl (lv_at hl 0 rfl) ?_
      refine m_get (v := .int ((σ.1 1 0))) hx hb hts hin hown hK hP 1 (by decide) rfl (index := 109) (List.mem_of_getElem? (i := 3) rfl) dX6_reading_31 ?_
      refine lv_iconst (v := nI (1)) hx hb dX6_reading_34 (by decide) ?_
      refine lv_isub (x := (σ.1 1 0)) (y := nI (1)) hx hb dX6_reading_35 ?_
      refine m_callS (As := [.int (mo), .int ((σ.1 22 ((b).toNatClampNeg))), .int (((σ.1 1 0)) - (nI (1)))]) (rest := []) ⟨hx, hb, hml, hown, hts⟩ (cm_within l mo (σ.1 22 ((b).toNatClampNeg)) (((σ.1 1 0)) - (nI (1))) ) (va_cwS 3 hts gX6_reading_X6_within rfl rfl rfl (by decide +kernel) ⟨Nat.le_of_ble_eq_true rfl, Nat.le_of_ble_eq_true rfl⟩) hP hS rfl hl.1 rfl (Nat.le_of_ble_eq_true rfl) dX6_reading_36 ⟨Nat.zero_le _, Nat.zero_le _⟩ (fun H locs hP hS => ?_)
      refine lv_if_eq (x := (m_within mo (σ.1 22 ((b).toNatClampNeg)) (((σ.1 1 0)) - (nI (1))))) (tgt := 46) hx hb dX6_reading_39 (by decide) (fun c_27 => ?_) (fun c_27 => ?_)
      · refine lv_iconst (v := nI (0)) hx hb dX6_reading_46 (by decide) ?_
        exact (hWW _ _ _ _ _).mp (J47_4 _ (by simp only [if_neg c_1, if_neg c_26, if_pos c_27]) _ _ hP hD hS _ (lv_sub hl [0, 1, 2, 3] rfl))
      · refine lv_iconst (v := nI (1)) hx hb dX6_reading_42 (by decide) ?_
        refine lv_goto (tgt := 47) hx hb dX6_reading_43 (by decide) ?_
        exact (hWW _ _ _ _ _).mp (J47_4 _ (by simp only [if_neg c_1, if_neg c_26, if_neg c_27]) _ _ hP hD hS _ (lv_sub hl [0, 1, 2, 3] rfl))
