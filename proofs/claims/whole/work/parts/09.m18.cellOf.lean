def m_cellOf_j134 (σ : Sg) (cell : Int32) (what : Int32) (x_3 : Int32) (s_8 : Sg) (x_16 : Int32) (τ_17 : Sg) : Int32 := x_16
def m_cellOf_j134_s (σ : Sg) (cell : Int32) (what : Int32) (x_3 : Int32) (s_8 : Sg) (x_16 : Int32) (τ_17 : Sg) : Sg := τ_17
def m_cellOf_j87 (σ : Sg) (cell : Int32) (what : Int32) (x_3 : Int32) (s_8 : Sg) (x_29 : Int32) : Int32 := x_29
def m_cellOf_j87_s (σ : Sg) (cell : Int32) (what : Int32) (x_3 : Int32) (s_8 : Sg) (x_29 : Int32) : Sg := s_8
def m_cellOf_k30 (σ : Sg) (cell : Int32) (what : Int32) (x_3 : Int32) (s_8 : Sg) : Int32 := (if (m_refused σ x_3) = 0 then (if nI (4) ≤ what then (m_cellOf_j134 σ cell what x_3 s_8 (if what = nI (4) then (s_8.1 6 ((cell).toNatClampNeg)) else (if what = nI (5) then (m_houseIn s_8 cell) else (if what = nI (6) then (m_lakeOf s_8 cell) else (m_thawed s_8 cell)))) (if what = nI (4) then s_8 else (if what = nI (5) then s_8 else (if what = nI (6) then (m_lakeOf_s s_8 cell) else s_8)))) else (m_cellOf_j87 σ cell what x_3 s_8 (if what = 0 then (s_8.1 2 ((cell).toNatClampNeg)) else (if what = nI (1) then (s_8.1 3 ((cell).toNatClampNeg)) else (if what = nI (2) then (s_8.1 4 ((cell).toNatClampNeg)) else (s_8.1 5 ((cell).toNatClampNeg))))))) else nI (0))
def m_cellOf_k30_s (σ : Sg) (cell : Int32) (what : Int32) (x_3 : Int32) (s_8 : Sg) : Sg := (if (m_refused σ x_3) = 0 then (if nI (4) ≤ what then (m_cellOf_j134_s σ cell what x_3 s_8 (if what = nI (4) then (s_8.1 6 ((cell).toNatClampNeg)) else (if what = nI (5) then (m_houseIn s_8 cell) else (if what = nI (6) then (m_lakeOf s_8 cell) else (m_thawed s_8 cell)))) (if what = nI (4) then s_8 else (if what = nI (5) then s_8 else (if what = nI (6) then (m_lakeOf_s s_8 cell) else s_8)))) else (m_cellOf_j87_s σ cell what x_3 s_8 (if what = 0 then (s_8.1 2 ((cell).toNatClampNeg)) else (if what = nI (1) then (s_8.1 3 ((cell).toNatClampNeg)) else (if what = nI (2) then (s_8.1 4 ((cell).toNatClampNeg)) else (s_8.1 5 ((cell).toNatClampNeg))))))) else s_8)
def m_cellOf_j27 (σ : Sg) (cell : Int32) (what : Int32) (x_3 : Int32) : Int32 := (m_cellOf_k30 σ cell what x_3 (m_refused_s σ x_3))
def m_cellOf_j27_s (σ : Sg) (cell : Int32) (what : Int32) (x_3 : Int32) : Sg := (m_cellOf_k30_s σ cell what x_3 (m_refused_s σ x_3))
def m_cellOf (σ : Sg) (cell : Int32) (what : Int32) : Int32 := (m_cellOf_j27 σ cell what (if (m_isCell cell) = 0 then nI (1) else (if (m_within what (nI (0)) (nI (7))) = 0 then nI (2) else nI (0))))
def m_cellOf_s (σ : Sg) (cell : Int32) (what : Int32) : Sg := (m_cellOf_j27_s σ cell what (if (m_isCell cell) = 0 then nI (1) else (if (m_within what (nI (0)) (nI (7))) = 0 then nI (2) else nI (0))))
set_option maxHeartbeats 4000000 in
set_option maxRecDepth 100000 in
theorem cm_cellOf (l : Launch) (G : va_G) (cI cZ : ClassId) (a : Nat → Nat) (σ : Sg) (cell : Int32) (what : Int32) (hO : mOK σ) : mI l yX6_cellOf wsX6_cellOf ({ frames := 3, cells := 0, slots := 0, locals := 68 } : Room) G cI cZ a σ [.int (cell), .int (what)] (m_cellOf σ cell what) (m_cellOf_s σ cell what) := by
  unfold mI
  refine Met.ofW (cc := cX6_cellOf) (maxL := 3) (ret := (some .int)) (by decide) rfl ?_
  intro p e s m args below meth c s₁ B hml hv
  obtain ⟨rfl, hP, hK, hD⟩ := hv
  have hx := B.exec
  have hb := B.bytes
  have hr := B.returns
  have hts := atoms_spec (ws := wsX6_cellOf) B.pre
  have hown : s.vm.findClass RX6 = some m.cls := findClass_of_methodNamed B.named
  have hlocks := B.notSynchronized
  have hS : va_S (mA a) s.heap s.heap [] := va_S.rf
  have hin : ∀ w ∈ wsX60, w ∈ wsX6_cellOf := fun w h => List.mem_cons_of_mem _ (List.mem_append_right _ h)
  have hl := lv_entry ([.ref (a 0), .int (cell), .int (what)]) (n := 3) (Nat.le_of_ble_eq_true rfl)
  rw [lg_entry_eq]
  generalize (lg_sl ([.ref (a 0), .int (cell), .int (what)]) ++ List.replicate (3 - (lg_sl ([.ref (a 0), .int (cell), .int (what)])).length) Slot.unset).toArray = ls at hl ⊢
  have hl : lv_has ls 3 [(0, .ref (a 0)), (1, .int (cell)), (2, .int (what))] := hl
  refine w_named (fun WW hWW => ?_)
  have hP : va_P G vwCl (wm cI cZ a σ) s.heap := hP
  refine lv_aload_n hx hb dX6_cellOf_0 rfl (lv_at hl 0 rfl) ?_
  refine lv_iload_n hx hb dX6_cellOf_1 rfl (lv_at hl 1 rfl) ?_
  refine m_callS (As := [.int (cell)]) (rest := [.ref (a 0)]) ⟨hx, hb, hml, hown, hts⟩ (cm_isCell l cell ) (va_cwS 1 hts gX6_cellOf_X6_isCell rfl rfl rfl (by decide +kernel) ⟨Nat.le_of_ble_eq_true rfl, Nat.le_of_ble_eq_true rfl⟩) hP hS rfl hl.1 rfl (Nat.le_of_ble_eq_true rfl) dX6_cellOf_2 ⟨Nat.zero_le _, Nat.zero_le _⟩ (fun H locs hP hS => ?_)
  have J27_4 : ∀ (x_3 : Int32), x_3 = (if (m_isCell cell) = 0 then nI (1) else (if (m_within what (nI (0)) (nI (7))) = 0 then nI (2) else nI (0))) → ∀ (H : Heap) (locs : List Loc), va_P G vwCl (wm cI cZ a σ) H → va_D (mA a) (wm cI cZ a σ) → va_S (mA a) s.heap H locs → ∀ (ls : Array Slot), lv_has ls 3 [(0, .ref (a 0)), (1, .int (cell)), (2, .int (what))] → WW H locs 0 0 (F0 m 27 ls [.int (x_3), .ref (a 0)]) := by
    intro x_3 h_5 H locs hP hD hS ls hl
    refine (hWW _ _ _ _ _).mpr ?_
    have hR_6 : m_cellOf σ cell what = m_cellOf_j27 σ cell what x_3 := (by have q_ := h_5.symm; subst q_; unfold m_cellOf; rfl)
    have hR_7 : m_cellOf_s σ cell what = m_cellOf_j27_s σ cell what x_3 := (by have q_ := h_5.symm; subst q_; unfold m_cellOf_s; rfl)
    refine m_callI (As := [.int (x_3)]) (rest := []) (fun _ h => h) ⟨hx, hb, hml, hown, hts⟩ (cm_refused l G cI cZ a σ  x_3 ) (cwV 1 hts gX6_cellOf_X6_refused rfl rfl rfl (by decide +kernel) ⟨Nat.le_of_ble_eq_true rfl, Nat.le_of_ble_eq_true rfl⟩) hK hP hD hS rfl hl.1 rfl (Nat.le_of_ble_eq_true rfl) dX6_cellOf_27 ⟨Nat.zero_le _, Nat.zero_le _⟩ (fun H locs hP hD _ _ hS => ?_)
    obtain ⟨s_8, e_9⟩ : ∃ z : Sg, z = (m_refused_s σ x_3) := ⟨_, rfl⟩
    rw [← e_9] at hP hD
    have hR_10 : m_cellOf σ cell what = m_cellOf_k30 σ cell what x_3 s_8 := (Eq.trans hR_6 (by have q_ := e_9.symm; subst q_; unfold m_cellOf_j27; rfl))
    have hR_11 : m_cellOf_s σ cell what = m_cellOf_k30_s σ cell what x_3 s_8 := (Eq.trans hR_7 (by have q_ := e_9.symm; subst q_; unfold m_cellOf_j27_s; rfl))
    refine lv_if_eq (x := (m_refused σ x_3)) (tgt := 35) hx hb dX6_cellOf_30 (by decide) (fun c_12 => ?_) (fun c_12 => ?_)
    · have hq := w_isCell (ck_tri h_5 (m_refused_0 c_12)).1
      refine lv_iload_n hx hb dX6_cellOf_35 rfl (lv_at hl 2 rfl) ?_
      refine lv_iconst (v := nI (4)) hx hb dX6_cellOf_36 (by decide) ?_
      refine lv_icmp_ge (x := what) (y := nI (4)) (tgt := 88) hx hb dX6_cellOf_37 (by decide) (fun c_13 => ?_) (fun c_13 => ?_)
      · refine lv_iload_n hx hb dX6_cellOf_88 rfl (lv_at hl 2 rfl) ?_
        refine lv_iconst (v := nI (4)) hx hb dX6_cellOf_89 (by decide) ?_
        have J134_18 : ∀ (x_16 : Int32), x_16 = (if what = nI (4) then (s_8.1 6 ((cell).toNatClampNeg)) else (if what = nI (5) then (m_houseIn s_8 cell) else (if what = nI (6) then (m_lakeOf s_8 cell) else (m_thawed s_8 cell)))) → ∀ (τ_17 : Sg), τ_17 = (if what = nI (4) then s_8 else (if what = nI (5) then s_8 else (if what = nI (6) then (m_lakeOf_s s_8 cell) else s_8))) → ∀ (H : Heap) (locs : List Loc), va_P G vwCl (wm cI cZ a τ_17) H → va_D (mA a) (wm cI cZ a τ_17) → va_S (mA a) s.heap H locs → ∀ (ls : Array Slot), lv_has ls 3 [(0, .ref (a 0)), (1, .int (cell)), (2, .int (what))] → WW H locs 0 0 (F0 m 134 ls [.int (x_16)]) := by
          intro x_16 h_19 τ_17 h_20 H locs hP hD hS ls hl
          refine (hWW _ _ _ _ _).mpr ?_
          have hR_21 : m_cellOf σ cell what = m_cellOf_j134 σ cell what x_3 s_8 x_16 τ_17 := (Eq.trans hR_10 (by have q_ := h_20.symm; subst q_; have q_ := h_19.symm; subst q_; unfold m_cellOf_k30; simp only [if_pos c_12, if_pos c_13]))
          have hR_22 : m_cellOf_s σ cell what = m_cellOf_j134_s σ cell what x_3 s_8 x_16 τ_17 := (Eq.trans hR_11 (by have q_ := h_20.symm; subst q_; have q_ := h_19.symm; subst q_; unfold m_cellOf_k30_s; simp only [if_pos c_12, if_pos c_13]))
          exact m_iret (v := x_16) hx hb hr hlocks hP hK hD hS dX6_cellOf_134 (Eq.trans (by unfold m_cellOf_j134; rfl) hR_21.symm) (Eq.trans (by unfold m_cellOf_j134_s; rfl) hR_22.symm)
        refine lv_icmp_ne (x := what) (y := nI (4)) (tgt := 102) hx hb dX6_cellOf_90 (by decide) (fun c_14 => ?_) (fun c_14 => ?_)
        · refine lv_iload_n hx hb dX6_cellOf_102 rfl (lv_at hl 2 rfl) ?_
          refine lv_iconst (v := nI (5)) hx hb dX6_cellOf_103 (by decide) ?_
          refine lv_icmp_ne (x := what) (y := nI (5)) (tgt := 115) hx hb dX6_cellOf_104 (by decide) (fun c_23 => ?_) (fun c_23 => ?_)
          · refine lv_iload_n hx hb dX6_cellOf_115 rfl (lv_at hl 2 rfl) ?_
            refine lv_bipush (v := nI (6)) hx hb dX6_cellOf_116 (by decide) ?_
            refine lv_icmp_ne (x := what) (y := nI (6)) (tgt := 129) hx hb dX6_cellOf_118 (by decide) (fun c_24 => ?_) (fun c_24 => ?_)
            · refine lv_aload_n hx hb dX6_cellOf_129 rfl (lv_at hl 0 rfl) ?_
              refine lv_iload_n hx hb dX6_cellOf_130 rfl (lv_at hl 1 rfl) ?_
              refine m_callI (As := [.int (cell)]) (rest := []) (fun _ h => h) ⟨hx, hb, hml, hown, hts⟩ (cm_thawed l G cI cZ a s_8  cell (hq)) (cwV 1 hts gX6_cellOf_X6_thawed rfl rfl rfl (by decide +kernel) ⟨Nat.le_of_ble_eq_true rfl, Nat.le_of_ble_eq_true rfl⟩) hK hP hD hS rfl hl.1 rfl (Nat.le_of_ble_eq_true rfl) dX6_cellOf_131 ⟨Nat.zero_le _, Nat.zero_le _⟩ (fun H locs hP hD _ _ hS => ?_)
              exact (hWW _ _ _ _ _).mp (J134_18 _ (by simp only [if_neg c_14, if_neg c_23, if_neg c_24]) _ (by simp only [if_neg c_14, if_neg c_23, if_neg c_24]) _ _ hP hD hS _ (lv_sub hl [0, 1, 2] rfl))
            · refine lv_aload_n hx hb dX6_cellOf_121 rfl (lv_at hl 0 rfl) ?_
              refine lv_iload_n hx hb dX6_cellOf_122 rfl (lv_at hl 1 rfl) ?_
              refine m_callI (As := [.int (cell)]) (rest := []) (fun _ h => h) ⟨hx, hb, hml, hown, hts⟩ (cm_lakeOf l G cI cZ a s_8  cell (hq)) (cwV 1 hts gX6_cellOf_X6_lakeOf rfl rfl rfl (by decide +kernel) ⟨Nat.le_of_ble_eq_true rfl, Nat.le_of_ble_eq_true rfl⟩) hK hP hD hS rfl hl.1 rfl (Nat.le_of_ble_eq_true rfl) dX6_cellOf_123 ⟨Nat.zero_le _, Nat.zero_le _⟩ (fun H locs hP hD _ _ hS => ?_)
              obtain ⟨s_25, e_26⟩ : ∃ z : Sg, z = (m_lakeOf_s s_8 cell) := ⟨_, rfl⟩
              rw [← e_26] at hP hD
              refine lv_goto (tgt := 134) hx hb dX6_cellOf_126 (by decide) ?_
              exact (hWW _ _ _ _ _).mp (J134_18 _ (by have q_ := e_26.symm; subst q_; simp only [if_neg c_14, if_neg c_23, if_pos c_24]) _ (by have q_ := e_26.symm; subst q_; simp only [if_neg c_14, if_neg c_23, if_pos c_24]) _ _ hP hD hS _ (lv_sub hl [0, 1, 2] rfl))
          · refine lv_aload_n hx hb dX6_cellOf_107 rfl (lv_at hl 0 rfl) ?_
            refine lv_iload_n hx hb dX6_cellOf_108 rfl (lv_at hl 1 rfl) ?_
            refine m_callI (As := [.int (cell)]) (rest := []) (fun _ h => h) ⟨hx, hb, hml, hown, hts⟩ (cm_houseIn l G cI cZ a s_8  cell (by rw [e_9]; exact hO)) (cwV 1 hts gX6_cellOf_X6_houseIn rfl rfl rfl (by decide +kernel) ⟨Nat.le_of_ble_eq_true rfl, Nat.le_of_ble_eq_true rfl⟩) hK hP hD hS rfl hl.1 rfl (Nat.le_of_ble_eq_true rfl) dX6_cellOf_109 ⟨Nat.zero_le _, Nat.zero_le _⟩ (fun H locs hP hD _ _ hS => ?_)
            refine lv_goto (tgt := 134) hx hb dX6_cellOf_112 (by decide) ?_
            exact (hWW _ _ _ _ _).mp (J134_18 _ (by simp only [if_neg c_14, if_pos c_23]) _ (by simp only [if_neg c_14, if_pos c_23]) _ _ hP hD hS _ (lv_sub hl [0, 1, 2] rfl))
        · refine lv_aload_n hx hb dX6_cellOf_93 rfl (lv_at hl 0 rfl) ?_
          refine m_get (v := .ref (a 6)) hx hb hts hin hown hK hP 6 (by decide) rfl (index := 22) (List.mem_of_getElem? (i := 5) rfl) dX6_cellOf_94 ?_
          refine lv_iload_n hx hb dX6_cellOf_97 rfl (lv_at hl 1 rfl) ?_
          refine m_aldI (j := cell) hx hb hK hP 5 6 rfl (hq) dX6_cellOf_98 ?_
          refine W.eq (g2 := F0 m 99 ls [.int ((s_8.1 6 ((cell).toNatClampNeg)))]) rfl ?_
          refine lv_goto (tgt := 134) hx hb dX6_cellOf_99 (by decide) ?_
          exact (hWW _ _ _ _ _).mp (J134_18 _ (by simp only [if_pos c_14]) _ (by simp only [if_pos c_14]) _ _ hP hD hS _ (lv_sub hl [0, 1, 2] rfl))
      · refine lv_iload_n hx hb dX6_cellOf_40 rfl (lv_at hl 2 rfl) ?_
        have J87_30 : ∀ (x_29 : Int32), x_29 = (if what = 0 then (s_8.1 2 ((cell).toNatClampNeg)) else (if what = nI (1) then (s_8.1 3 ((cell).toNatClampNeg)) else (if what = nI (2) then (s_8.1 4 ((cell).toNatClampNeg)) else (s_8.1 5 ((cell).toNatClampNeg))))) → ∀ (H : Heap) (locs : List Loc), va_P G vwCl (wm cI cZ a s_8) H → va_D (mA a) (wm cI cZ a s_8) → va_S (mA a) s.heap H locs → ∀ (ls : Array Slot), lv_has ls 3 [(0, .ref (a 0)), (1, .int (cell)), (2, .int (what))] → WW H locs 0 0 (F0 m 87 ls [.int (x_29)]) := by
          intro x_29 h_31 H locs hP hD hS ls hl
          refine (hWW _ _ _ _ _).mpr ?_
          have hR_32 : m_cellOf σ cell what = m_cellOf_j87 σ cell what x_3 s_8 x_29 := (Eq.trans hR_10 (by have q_ := h_31.symm; subst q_; unfold m_cellOf_k30; simp only [if_pos c_12, if_neg c_13]))
          have hR_33 : m_cellOf_s σ cell what = m_cellOf_j87_s σ cell what x_3 s_8 x_29 := (Eq.trans hR_11 (by have q_ := h_31.symm; subst q_; unfold m_cellOf_k30_s; simp only [if_pos c_12, if_neg c_13]))
          exact m_iret (v := x_29) hx hb hr hlocks hP hK hD hS dX6_cellOf_87 (Eq.trans (by unfold m_cellOf_j87; rfl) hR_32.symm) (Eq.trans (by unfold m_cellOf_j87_s; rfl) hR_33.symm)
        refine lv_if_ne (x := what) (tgt := 53) hx hb dX6_cellOf_41 (by decide) (fun c_27 => ?_) (fun c_27 => ?_)
        · refine lv_iload_n hx hb dX6_cellOf_53 rfl (lv_at hl 2 rfl) ?_
          refine lv_iconst (v := nI (1)) hx hb dX6_cellOf_54 (by decide) ?_
          refine lv_icmp_ne (x := what) (y := nI (1)) (tgt := 67) hx hb dX6_cellOf_55 (by decide) (fun c_34 => ?_) (fun c_34 => ?_)
          · refine lv_iload_n hx hb dX6_cellOf_67 rfl (lv_at hl 2 rfl) ?_
            refine lv_iconst (v := nI (2)) hx hb dX6_cellOf_68 (by decide) ?_
            refine lv_icmp_ne (x := what) (y := nI (2)) (tgt := 81) hx hb dX6_cellOf_69 (by decide) (fun c_35 => ?_) (fun c_35 => ?_)
            · refine lv_aload_n hx hb dX6_cellOf_81 rfl (lv_at hl 0 rfl) ?_
              refine m_get (v := .ref (a 5)) hx hb hts hin hown hK hP 5 (by decide) rfl (index := 19) (List.mem_of_getElem? (i := 4) rfl) dX6_cellOf_82 ?_
              refine lv_iload_n hx hb dX6_cellOf_85 rfl (lv_at hl 1 rfl) ?_
              refine m_aldI (j := cell) hx hb hK hP 4 5 rfl (hq) dX6_cellOf_86 ?_
              refine W.eq (g2 := F0 m 87 ls [.int ((s_8.1 5 ((cell).toNatClampNeg)))]) rfl ?_
              exact (hWW _ _ _ _ _).mp (J87_30 _ (by simp only [if_neg c_27, if_neg c_34, if_neg c_35]) _ _ hP hD hS _ (lv_sub hl [0, 1, 2] rfl))
            · refine lv_aload_n hx hb dX6_cellOf_72 rfl (lv_at hl 0 rfl) ?_
              refine m_get (v := .ref (a 4)) hx hb hts hin hown hK hP 4 (by decide) rfl (index := 16) (List.mem_of_getElem? (i := 3) rfl) dX6_cellOf_73 ?_
              refine lv_iload_n hx hb dX6_cellOf_76 rfl (lv_at hl 1 rfl) ?_
              refine m_aldI (j := cell) hx hb hK hP 3 4 rfl (hq) dX6_cellOf_77 ?_
              refine W.eq (g2 := F0 m 78 ls [.int ((s_8.1 4 ((cell).toNatClampNeg)))]) rfl ?_
              refine lv_goto (tgt := 87) hx hb dX6_cellOf_78 (by decide) ?_
              exact (hWW _ _ _ _ _).mp (J87_30 _ (by simp only [if_neg c_27, if_neg c_34, if_pos c_35]) _ _ hP hD hS _ (lv_sub hl [0, 1, 2] rfl))
          · refine lv_aload_n hx hb dX6_cellOf_58 rfl (lv_at hl 0 rfl) ?_
            refine m_get (v := .ref (a 3)) hx hb hts hin hown hK hP 3 (by decide) rfl (index := 13) (List.mem_of_getElem? (i := 2) rfl) dX6_cellOf_59 ?_
            refine lv_iload_n hx hb dX6_cellOf_62 rfl (lv_at hl 1 rfl) ?_
            refine m_aldI (j := cell) hx hb hK hP 2 3 rfl (hq) dX6_cellOf_63 ?_
            refine W.eq (g2 := F0 m 64 ls [.int ((s_8.1 3 ((cell).toNatClampNeg)))]) rfl ?_
            refine lv_goto (tgt := 87) hx hb dX6_cellOf_64 (by decide) ?_
            exact (hWW _ _ _ _ _).mp (J87_30 _ (by simp only [if_neg c_27, if_pos c_34]) _ _ hP hD hS _ (lv_sub hl [0, 1, 2] rfl))
        · refine lv_aload_n hx hb dX6_cellOf_44 rfl (lv_at hl 0 rfl) ?_
          refine m_get (v := .ref (a 2)) hx hb hts hin hown hK hP 2 (by decide) rfl (index := 7) (List.mem_of_getElem? (i := 1) rfl) dX6_cellOf_45 ?_
          refine lv_iload_n hx hb dX6_cellOf_48 rfl (lv_at hl 1 rfl) ?_
          refine m_aldI (j := cell) hx hb hK hP 1 2 rfl (hq) dX6_cellOf_49 ?_
          refine W.eq (g2 := F0 m 50 ls [.int ((s_8.1 2 ((cell).toNatClampNeg)))]) rfl ?_
          refine lv_goto (tgt := 87) hx hb dX6_cellOf_50 (by decide) ?_
          exact (hWW _ _ _ _ _).mp (J87_30 _ (by simp only [if_pos c_27]) _ _ hP hD hS _ (lv_sub hl [0, 1, 2] rfl))
    · refine lv_iconst (v := nI (0)) hx hb dX6_cellOf_33 (by decide) ?_
      exact m_iret (v := nI (0)) hx hb hr hlocks hP hK hD hS dX6_cellOf_34 (Eq.trans (by unfold m_cellOf_k30; simp only [if_neg c_12]) hR_10.symm) (Eq.trans (by unfold m_cellOf_k30_s; simp only [if_neg c_12]) hR_11.symm)
  refine lv_if_ne (x := (m_isCell cell)) (tgt := 12) hx hb dX6_cellOf_5 (by decide) (fun c_1 => ?_) (fun c_1 => ?_)
  · refine lv_iload_n hx hb dX6_cellOf_12 rfl (lv_at hl 2 rfl) ?_
    refine lv_iconst (v := nI (0)) hx hb dX6_cellOf_13 (by decide) ?_
    refine lv_bipush (v := nI (7)) hx hb dX6_cellOf_14 (by decide) ?_
    refine m_callS (As := [.int (what), .int (nI (0)), .int (nI (7))]) (rest := [.ref (a 0)]) ⟨hx, hb, hml, hown, hts⟩ (cm_within l what (nI (0)) (nI (7)) ) (va_cwS 3 hts gX6_cellOf_X6_within rfl rfl rfl (by decide +kernel) ⟨Nat.le_of_ble_eq_true rfl, Nat.le_of_ble_eq_true rfl⟩) hP hS rfl hl.1 rfl (Nat.le_of_ble_eq_true rfl) dX6_cellOf_16 ⟨Nat.zero_le _, Nat.zero_le _⟩ (fun H locs hP hS => ?_)
    refine lv_if_ne (x := (m_within what (nI (0)) (nI (7)))) (tgt := 26) hx hb dX6_cellOf_19 (by decide) (fun c_36 => ?_) (fun c_36 => ?_)
    · refine lv_iconst (v := nI (0)) hx hb dX6_cellOf_26 (by decide) ?_
      exact (hWW _ _ _ _ _).mp (J27_4 _ (by simp only [if_neg c_1, if_neg c_36]) _ _ hP hD hS _ (lv_sub hl [0, 1, 2] rfl))
    · refine lv_iconst (v := nI (2)) hx hb dX6_cellOf_22 (by decide) ?_
      refine lv_goto (tgt := 27) hx hb dX6_cellOf_23 (by decide) ?_
      exact (hWW _ _ _ _ _).mp (J27_4 _ (by simp only [if_neg c_1, if_pos c_36]) _ _ hP hD hS _ (lv_sub hl [0, 1, 2] rfl))
  · refine lv_iconst (v := nI (1)) hx hb dX6_cellOf_8 (by decide) ?_
    refine lv_goto (tgt := 27) hx hb dX6_cellOf_9 (by decide) ?_
    exact (hWW _ _ _ _ _).mp (J27_4 _ (by simp only [if_pos c_1]) _ _ hP hD hS _ (lv_sub hl [0, 1, 2] rfl))
