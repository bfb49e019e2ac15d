def m_fire_k85 (σ : Sg) (cell : Int32) (x_3 : Int32) (s_8 : Sg) (s_13 : Sg) (s_17 : Sg) (s_21 : Sg) : Int32 := ((s_8.1 11 (((nI (5)) * (cell)).toNatClampNeg))) / (nI (2))
def m_fire_k85_s (σ : Sg) (cell : Int32) (x_3 : Int32) (s_8 : Sg) (s_13 : Sg) (s_17 : Sg) (s_21 : Sg) : Sg := s_21
def m_fire_k74 (σ : Sg) (cell : Int32) (x_3 : Int32) (s_8 : Sg) (s_13 : Sg) (s_17 : Sg) : Int32 := (m_fire_k85 σ cell x_3 s_8 s_13 s_17 (sl s_17 30 (((s_17.2 30)) + ((((s_8.1 11 (((nI (5)) * (cell)).toNatClampNeg))) / (nI (2))).toInt64))))
def m_fire_k74_s (σ : Sg) (cell : Int32) (x_3 : Int32) (s_8 : Sg) (s_13 : Sg) (s_17 : Sg) : Sg := (m_fire_k85_s σ cell x_3 s_8 s_13 s_17 (sl s_17 30 (((s_17.2 30)) + ((((s_8.1 11 (((nI (5)) * (cell)).toNatClampNeg))) / (nI (2))).toInt64))))
def m_fire_k62 (σ : Sg) (cell : Int32) (x_3 : Int32) (s_8 : Sg) (s_13 : Sg) : Int32 := (m_fire_k74 σ cell x_3 s_8 s_13 (si s_13 11 (((nI (5)) * (cell)).toNatClampNeg) (((s_13.1 11 (((nI (5)) * (cell)).toNatClampNeg))) - (((s_8.1 11 (((nI (5)) * (cell)).toNatClampNeg))) / (nI (2))))))
def m_fire_k62_s (σ : Sg) (cell : Int32) (x_3 : Int32) (s_8 : Sg) (s_13 : Sg) : Sg := (m_fire_k74_s σ cell x_3 s_8 s_13 (si s_13 11 (((nI (5)) * (cell)).toNatClampNeg) (((s_13.1 11 (((nI (5)) * (cell)).toNatClampNeg))) - (((s_8.1 11 (((nI (5)) * (cell)).toNatClampNeg))) / (nI (2))))))
def m_fire_k39 (σ : Sg) (cell : Int32) (x_3 : Int32) (s_8 : Sg) : Int32 := (if (m_refused σ x_3) = 0 then (m_fire_k62 σ cell x_3 s_8 (si s_8 5 ((cell).toNatClampNeg) (nI (0)))) else nI (0))
def m_fire_k39_s (σ : Sg) (cell : Int32) (x_3 : Int32) (s_8 : Sg) : Sg := (if (m_refused σ x_3) = 0 then (m_fire_k62_s σ cell x_3 s_8 (si s_8 5 ((cell).toNatClampNeg) (nI (0)))) else s_8)
def m_fire_j36 (σ : Sg) (cell : Int32) (x_3 : Int32) : Int32 := (m_fire_k39 σ cell x_3 (m_refused_s σ x_3))
def m_fire_j36_s (σ : Sg) (cell : Int32) (x_3 : Int32) : Sg := (m_fire_k39_s σ cell x_3 (m_refused_s σ x_3))
def m_fire (σ : Sg) (cell : Int32) : Int32 := (m_fire_j36 σ cell (if (m_isCell cell) = 0 then nI (1) else (if (m_isLake σ cell) = 0 then (if (σ.1 4 ((cell).toNatClampNeg)) ≤ 0 then nI (0) else nI (2)) else nI (2))))
def m_fire_s (σ : Sg) (cell : Int32) : Sg := (m_fire_j36_s σ cell (if (m_isCell cell) = 0 then nI (1) else (if (m_isLake σ cell) = 0 then (if (σ.1 4 ((cell).toNatClampNeg)) ≤ 0 then nI (0) else nI (2)) else nI (2))))
set_option maxHeartbeats 4000000 in
set_option maxRecDepth 100000 in
theorem cm_fire (l : Launch) (G : va_G) (cI cZ : ClassId) (a : Nat → Nat) (σ : Sg) (cell : Int32) : mI l yX6_fire wsX6_fire ({ frames := 2, cells := 0, slots := 0, locals := 42 } : Room) G cI cZ a σ [.int (cell)] (m_fire σ cell) (m_fire_s σ cell) := by
  unfold mI
  refine Met.ofW (cc := cX6_fire) (maxL := 4) (ret := (some .int)) (by decide) rfl ?_
  intro p e s m args below meth c s₁ B hml hv
  obtain ⟨rfl, hP, hK, hD⟩ := hv
  have hx := B.exec
  have hb := B.bytes
  have hr := B.returns
  have hts := atoms_spec (ws := wsX6_fire) B.pre
  have hown : s.vm.findClass RX6 = some m.cls := findClass_of_methodNamed B.named
  have hlocks := B.notSynchronized
  have hS : va_S (mA a) s.heap s.heap [] := va_S.rf
  have hin : ∀ w ∈ wsX60, w ∈ wsX6_fire := fun w h => List.mem_cons_of_mem _ (List.mem_append_right _ h)
  have hl := lv_entry ([.ref (a 0), .int (cell)]) (n := 4) (Nat.le_of_ble_eq_true rfl)
  rw [lg_entry_eq]
  generalize (lg_sl ([.ref (a 0), .int (cell)]) ++ List.replicate (4 - (lg_sl ([.ref (a 0), .int (cell)])).length) Slot.unset).toArray = ls at hl ⊢
  have hl : lv_has ls 4 [(0, .ref (a 0)), (1, .int (cell))] := hl
  refine w_named (fun WW hWW => ?_)
  have hP : va_P G vwCl (wm cI cZ a σ) s.heap := hP
  refine lv_iload_n hx hb dX6_fire_0 rfl (lv_at hl 1 rfl) ?_
  refine m_callS (As := [.int (cell)]) (rest := []) ⟨hx, hb, hml, hown, hts⟩ (cm_isCell l cell ) (va_cwS 1 hts gX6_fire_X6_isCell rfl rfl rfl (by decide +kernel) ⟨Nat.le_of_ble_eq_true rfl, Nat.le_of_ble_eq_true rfl⟩) hP hS rfl hl.1 rfl (Nat.le_of_ble_eq_true rfl) dX6_fire_1 ⟨Nat.zero_le _, Nat.zero_le _⟩ (fun H locs hP hS => ?_)
  refine lv_istore_n (lv' := [(2, .int ((m_isCell cell))), (0, .ref (a 0)), (1, .int (cell))]) hx hb dX6_fire_4 rfl hl (by decide) rfl (fun ls hl => ?_)
  refine lv_aload_n hx hb dX6_fire_5 rfl (lv_at hl 1 rfl) ?_
  refine lv_iload_n hx hb dX6_fire_6 rfl (lv_at hl 0 rfl) ?_
  have J36_4 : ∀ (x_3 : Int32), x_3 = (if (m_isCell cell) = 0 then nI (1) else (if (m_isLake σ cell) = 0 then (if (σ.1 4 ((cell).toNatClampNeg)) ≤ 0 then nI (0) else nI (2)) else nI (2))) → ∀ (H : Heap) (locs : List Loc), va_P G vwCl (wm cI cZ a σ) H → va_D (mA a) (wm cI cZ a σ) → va_S (mA a) s.heap H locs → ∀ (ls : Array Slot), lv_has ls 4 [(2, .int ((m_isCell cell))), (0, .ref (a 0)), (1, .int (cell))] → WW H locs 0 0 (F0 m 36 ls [.int (x_3), .ref (a 0)]) := by
    intro x_3 h_5 H locs hP hD hS ls hl
    refine (hWW _ _ _ _ _).mpr ?_
    have hR_6 : m_fire σ cell = m_fire_j36 σ cell x_3 := (by have q_ := h_5.symm; subst q_; unfold m_fire; rfl)
    have hR_7 : m_fire_s σ cell = m_fire_j36_s σ cell x_3 := (by have q_ := h_5.symm; subst q_; unfold m_fire_s; rfl)
    refine m_callI (As := [.int (x_3)]) (rest := []) (fun _ h => h) ⟨hx, hb, hml, hown, hts⟩ (cm_refused l G cI cZ a σ  x_3 ) (cwV 1 hts gX6_fire_X6_refused rfl rfl rfl (by decide +kernel) ⟨Nat.le_of_ble_eq_true rfl, Nat.le_of_ble_eq_true rfl⟩) hK hP hD hS rfl hl.1 rfl (Nat.le_of_ble_eq_true rfl) dX6_fire_36 ⟨Nat.zero_le _, Nat.zero_le _⟩ (fun H locs hP hD _ _ hS => ?_)
    obtain ⟨s_8, e_9⟩ : ∃ z : Sg, z = (m_refused_s σ x_3) := ⟨_, rfl⟩
    rw [← e_9] at hP hD
    have hR_10 : m_fire σ cell = m_fire_k39 σ cell x_3 s_8 := (Eq.trans hR_6 (by have q_ := e_9.symm; subst q_; unfold m_fire_j36; rfl))
    have hR_11 : m_fire_s σ cell = m_fire_k39_s σ cell x_3 s_8 := (Eq.trans hR_7 (by have q_ := e_9.symm; subst q_; unfold m_fire_j36_s; rfl))
    refine lv_if_eq (x := (m_refused σ x_3)) (tgt := 44) hx hb dX6_fire_39 (by decide) (fun c_12 => ?_) (fun c_12 => ?_)
    · have hq := w_isCell (ck_one h_5 (m_refused_0 c_12))
      have hq5 := vp_5 hq
      refine lv_aload_n hx hb dX6_fire_44 rfl (lv_at hl 1 rfl) ?_
      refine m_get (v := .ref (a 11)) hx hb hts hin hown hK hP 11 (by decide) rfl (index := 37) (List.mem_of_getElem? (i := 2) rfl) dX6_fire_45 ?_
      refine lv_iconst (v := nI (5)) hx hb dX6_fire_48 (by decide) ?_
      refine lv_iload_n hx hb dX6_fire_49 rfl (lv_at hl 2 rfl) ?_
      refine lv_imul (x := nI (5)) (y := cell) hx hb dX6_fire_50 ?_
      refine m_aldI (j := (nI (5)) * (cell)) hx hb hK hP 10 11 rfl (hq5) dX6_fire_51 ?_
      refine W.eq (g2 := F0 m 52 ls [.int ((s_8.1 11 (((nI (5)) * (cell)).toNatClampNeg)))]) rfl ?_
      refine lv_iconst (v := nI (2)) hx hb dX6_fire_52 (by decide) ?_
      refine lv_idiv (x := (s_8.1 11 (((nI (5)) * (cell)).toNatClampNeg))) (y := nI (2)) hx hb dX6_fire_53 (by decide) ?_
      refine lv_istore_n (lv' := [(3, .int (((s_8.1 11 (((nI (5)) * (cell)).toNatClampNeg))) / (nI (2)))), (2, .int ((m_isCell cell))), (0, .ref (a 0)), (1, .int (cell))]) hx hb dX6_fire_54 rfl hl (by decide) rfl (fun ls hl => ?_)
      refine lv_aload_n hx hb dX6_fire_55 rfl (lv_at hl 2 rfl) ?_
      refine m_get (v := .ref (a 5)) hx hb hts hin hown hK hP 5 (by decide) rfl (index := 19) (List.mem_of_getElem? (i := 3) rfl) dX6_fire_56 ?_
      refine lv_iload_n hx hb dX6_fire_59 rfl (lv_at hl 3 rfl) ?_
      refine lv_iconst (v := nI (0)) hx hb dX6_fire_60 (by decide) ?_
      refine m_astI (j := cell) (v := nI (0)) hx hb hK hP hD hS 4 5 rfl rfl (hq) dX6_fire_61 (fun H locs hP hD hS => ?_)
      obtain ⟨s_13, e_14⟩ : ∃ z : Sg, z = (si s_8 5 ((cell).toNatClampNeg) (nI (0))) := ⟨_, rfl⟩
      rw [← e_14] at hP hD
      have hR_15 : m_fire σ cell = m_fire_k62 σ cell x_3 s_8 s_13 := (Eq.trans hR_10 (by have q_ := e_14.symm; subst q_; unfold m_fire_k39; simp only [if_pos c_12]))
      have hR_16 : m_fire_s σ cell = m_fire_k62_s σ cell x_3 s_8 s_13 := (Eq.trans hR_11 (by have q_ := e_14.symm; subst q_; unfold m_fire_k39_s; simp only [if_pos c_12]))
      refine lv_aload_n hx hb dX6_fire_62 rfl (lv_at hl 2 rfl) ?_
      refine m_get (v := .ref (a 11)) hx hb hts hin hown hK hP 11 (by decide) rfl (index := 37) (List.mem_of_getElem? (i := 2) rfl) dX6_fire_63 ?_
      refine lv_iconst (v := nI (5)) hx hb dX6_fire_66 (by decide) ?_
      refine lv_iload_n hx hb dX6_fire_67 rfl (lv_at hl 3 rfl) ?_
      refine lv_imul (x := nI (5)) (y := cell) hx hb dX6_fire_68 ?_
      refine lv_dup2_11 hx hb dX6_fire_69 rfl rfl ?_
      refine m_aldI (j := (nI (5)) * (cell)) hx hb hK hP 10 11 rfl (hq5) dX6_fire_70 ?_
      refine W.eq (g2 := F0 m 71 ls [.int ((s_13.1 11 (((nI (5)) * (cell)).toNatClampNeg))), .int ((nI (5)) * (cell)), .ref (a 11)]) rfl ?_
      refine lv_iload_n hx hb dX6_fire_71 rfl (lv_at hl 0 rfl) ?_
      refine lv_isub (x := (s_13.1 11 (((nI (5)) * (cell)).toNatClampNeg))) (y := ((s_8.1 11 (((nI (5)) * (cell)).toNatClampNeg))) / (nI (2))) hx hb dX6_fire_72 ?_
      refine m_astI (j := (nI (5)) * (cell)) (v := ((s_13.1 11 (((nI (5)) * (cell)).toNatClampNeg))) - (((s_8.1 11 (((nI (5)) * (cell)).toNatClampNeg))) / (nI (2)))) hx hb hK hP hD hS 10 11 rfl rfl (hq5) dX6_fire_73 (fun H locs hP hD hS => ?_)
      obtain ⟨s_17, e_18⟩ : ∃ z : Sg, z = (si s_13 11 (((nI (5)) * (cell)).toNatClampNeg) (((s_13.1 11 (((nI (5)) * (cell)).toNatClampNeg))) - (((s_8.1 11 (((nI (5)) * (cell)).toNatClampNeg))) / (nI (2))))) := ⟨_, rfl⟩
      rw [← e_18] at hP hD
      have hR_19 : m_fire σ cell = m_fire_k74 σ cell x_3 s_8 s_13 s_17 := (Eq.trans hR_15 (by have q_ := e_18.symm; subst q_; unfold m_fire_k62; rfl))
      have hR_20 : m_fire_s σ cell = m_fire_k74_s σ cell x_3 s_8 s_13 s_17 := (Eq.trans hR_16 (by have q_ := e_18.symm; subst q_; unfold m_fire_k62_s; rfl))
      refine lv_aload_n hx hb dX6_fire_74 rfl (lv_at hl 2 rfl) ?_
      refine lv_dup hx hb dX6_fire_75 rfl ?_
      refine m_get (v := .long ((s_17.2 30))) hx hb hts hin hown hK hP 30 (by decide) rfl (index := 162) (List.mem_of_getElem? (i := 4) rfl) dX6_fire_76 ?_
      refine lv_iload_n hx hb dX6_fire_79 rfl (lv_at hl 0 rfl) ?_
      refine lv_i2l (v := (((s_8.1 11 (((nI (5)) * (cell)).toNatClampNeg))) / (nI (2))).toInt64) hx hb dX6_fire_80 rfl ?_
      refine lv_ladd hx hb dX6_fire_81 ?_
      refine m_putJ (v := ((s_17.2 30)) + ((((s_8.1 11 (((nI (5)) * (cell)).toNatClampNeg))) / (nI (2))).toInt64)) hx hb hts hin hown hK hP hD hS 30 (by decide) rfl (by decide +kernel) rfl (index := 162) (List.mem_of_getElem? (i := 4) rfl) dX6_fire_82 (fun H locs hP hD hS => ?_)
      obtain ⟨s_21, e_22⟩ : ∃ z : Sg, z = (sl s_17 30 (((s_17.2 30)) + ((((s_8.1 11 (((nI (5)) * (cell)).toNatClampNeg))) / (nI (2))).toInt64))) := ⟨_, rfl⟩
      rw [← e_22] at hP hD
      have hR_23 : m_fire σ cell = m_fire_k85 σ cell x_3 s_8 s_13 s_17 s_21 := (Eq.trans hR_19 (by have q_ := e_22.symm; subst q_; unfold m_fire_k74; rfl))
      have hR_24 : m_fire_s σ cell = m_fire_k85_s σ cell x_3 s_8 s_13 s_17 s_21 := (Eq.trans hR_20 (by have q_ := e_22.symm; subst q_; unfold m_fire_k74_s; rfl))
      refine lv_iload_n hx hb dX6_fire_85 rfl (lv_at hl 0 rfl) ?_
      exact m_iret (v := ((s_8.1 11 (((nI (5)) * (cell)).toNatClampNeg))) / (nI (2))) hx hb hr hlocks hP hK hD hS dX6_fire_86 (Eq.trans (by unfold m_fire_k85; rfl) hR_23.symm) (Eq.trans (by unfold m_fire_k85_s; rfl) hR_24.symm)
    · refine lv_iconst (v := nI (0)) hx hb dX6_fire_42 (by decide) ?_
      exact m_iret (v := nI (0)) hx hb hr hlocks hP hK hD hS dX6_fire_43 (Eq.trans (by unfold m_fire_k39; simp only [if_neg c_12]) hR_10.symm) (Eq.trans (by unfold m_fire_k39_s; simp only [if_neg c_12]) hR_11.symm)
  refine lv_if_ne (x := (m_isCell cell)) (tgt := 14) hx hb dX6_fire_7 (by decide) (fun c_1 => ?_) (fun c_1 => ?_)
  · refine lv_aload_n hx hb dX6_fire_14 rfl (lv_at hl 1 rfl) ?_
    refine lv_iload_n hx hb dX6_fire_15 rfl (lv_at hl 2 rfl) ?_
    refine m_callI (As := [.int (cell)]) (rest := [.ref (a 0)]) (fun _ h => h) ⟨hx, hb, hml, hown, hts⟩ (cm_isLake l G cI cZ a σ  cell (w_isCell c_1)) (cwV 1 hts gX6_fire_X6_isLake rfl rfl rfl (by decide +kernel) ⟨Nat.le_of_ble_eq_true rfl, Nat.le_of_ble_eq_true rfl⟩) hK hP hD hS rfl hl.1 rfl (Nat.le_of_ble_eq_true rfl) dX6_fire_16 ⟨Nat.zero_le _, Nat.zero_le _⟩ (fun H locs hP hD _ _ hS => ?_)
    refine lv_if_ne (x := (m_isLake σ cell)) (tgt := 31) hx hb dX6_fire_19 (by decide) (fun c_25 => ?_) (fun c_25 => ?_)
    · refine lv_iconst (v := nI (2)) hx hb dX6_fire_31 (by decide) ?_
      refine lv_goto (tgt := 36) hx hb dX6_fire_32 (by decide) ?_
      exact (hWW _ _ _ _ _).mp (J36_4 _ (by simp only [if_neg c_1, if_neg c_25]) _ _ hP hD hS _ (lv_sub hl [0, 1, 2] rfl))
    · refine lv_aload_n hx hb dX6_fire_22 rfl (lv_at hl 1 rfl) ?_
      refine m_get (v := .ref (a 4)) hx hb hts hin hown hK hP 4 (by decide) rfl (index := 16) (List.mem_of_getElem? (i := 1) rfl) dX6_fire_23 ?_
      refine lv_iload_n hx hb dX6_fire_26 rfl (lv_at hl 2 rfl) ?_
      refine m_aldI (j := cell) hx hb hK hP 3 4 rfl (w_isCell c_1) dX6_fire_27 ?_
      refine W.eq (g2 := F0 m 28 ls [.int ((σ.1 4 ((cell).toNatClampNeg))), .ref (a 0)]) rfl ?_
      refine lv_if_le (x := (σ.1 4 ((cell).toNatClampNeg))) (tgt := 35) hx hb dX6_fire_28 (by decide) (fun c_26 => ?_) (fun c_26 => ?_)
      · refine lv_iconst (v := nI (0)) hx hb dX6_fire_35 (by decide) ?_
        exact (hWW _ _ _ _ _).mp (J36_4 _ (by simp only [if_neg c_1, if_pos c_25, if_pos c_26]) _ _ hP hD hS _ (lv_sub hl [0, 1, 2] rfl))
      · refine lv_iconst (v := nI (2)) hx hb dX6_fire_31 (by decide) ?_
        refine lv_goto (tgt := 36) hx hb dX6_fire_32 (by decide) ?_
        exact (hWW _ _ _ _ _).mp (J36_4 _ (by simp only [if_neg c_1, if_pos c_25, if_neg c_26]) _ _ hP hD hS _ (lv_sub hl [0, 1, 2] rfl))
  · refine lv_iconst (v := nI (1)) hx hb dX6_fire_10 (by decide) ?_
    refine lv_goto (tgt := 36) hx hb dX6_fire_11 (by decide) ?_
    exact (hWW _ _ _ _ _).mp (J36_4 _ (by simp only [if_pos c_1]) _ _ hP hD hS _ (lv_sub hl [0, 1, 2] rfl))
