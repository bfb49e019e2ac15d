def m_layerOf_j139 (σ : Sg) (cell : Int32) (layer : Int32) (what : Int32) (x_3 : Int32) (x_10 : Int32) (s_15 : Sg) (x_23 : Int32) : Int32 := x_23
def m_layerOf_j139_s (σ : Sg) (cell : Int32) (layer : Int32) (what : Int32) (x_3 : Int32) (x_10 : Int32) (s_15 : Sg) (x_23 : Int32) : Sg := s_15
def m_layerOf_j102 (σ : Sg) (cell : Int32) (layer : Int32) (what : Int32) (x_3 : Int32) (x_10 : Int32) (s_15 : Sg) (x_31 : Int32) : Int32 := x_31
def m_layerOf_j102_s (σ : Sg) (cell : Int32) (layer : Int32) (what : Int32) (x_3 : Int32) (x_10 : Int32) (s_15 : Sg) (x_31 : Int32) : Sg := s_15
def m_layerOf_k50 (σ : Sg) (cell : Int32) (layer : Int32) (what : Int32) (x_3 : Int32) (x_10 : Int32) (s_15 : Sg) : Int32 := (if (m_refused σ x_10) = 0 then (if nI (3) ≤ what then (m_layerOf_j139 σ cell layer what x_3 x_10 s_15 (if what = nI (3) then (s_15.1 9 ((((nI (5)) * (cell)) + (layer)).toNatClampNeg)) else (if what = nI (4) then (s_15.1 11 ((((nI (5)) * (cell)) + (layer)).toNatClampNeg)) else (m_melted s_15 (((nI (5)) * (cell)) + (layer)))))) else (m_layerOf_j102 σ cell layer what x_3 x_10 s_15 (if what = 0 then (m_degreesOf s_15 (((nI (5)) * (cell)) + (layer))) else (if what = nI (1) then (s_15.1 10 ((((nI (5)) * (cell)) + (layer)).toNatClampNeg)) else (s_15.1 8 ((((nI (5)) * (cell)) + (layer)).toNatClampNeg)))))) else nI (0))
def m_layerOf_k50_s (σ : Sg) (cell : Int32) (layer : Int32) (what : Int32) (x_3 : Int32) (x_10 : Int32) (s_15 : Sg) : Sg := (if (m_refused σ x_10) = 0 then (if nI (3) ≤ what then (m_layerOf_j139_s σ cell layer what x_3 x_10 s_15 (if what = nI (3) then (s_15.1 9 ((((nI (5)) * (cell)) + (layer)).toNatClampNeg)) else (if what = nI (4) then (s_15.1 11 ((((nI (5)) * (cell)) + (layer)).toNatClampNeg)) else (m_melted s_15 (((nI (5)) * (cell)) + (layer)))))) else (m_layerOf_j102_s σ cell layer what x_3 x_10 s_15 (if what = 0 then (m_degreesOf s_15 (((nI (5)) * (cell)) + (layer))) else (if what = nI (1) then (s_15.1 10 ((((nI (5)) * (cell)) + (layer)).toNatClampNeg)) else (s_15.1 8 ((((nI (5)) * (cell)) + (layer)).toNatClampNeg)))))) else s_15)
def m_layerOf_j47 (σ : Sg) (cell : Int32) (layer : Int32) (what : Int32) (x_3 : Int32) (x_10 : Int32) : Int32 := (m_layerOf_k50 σ cell layer what x_3 x_10 (m_refused_s σ x_10))
def m_layerOf_j47_s (σ : Sg) (cell : Int32) (layer : Int32) (what : Int32) (x_3 : Int32) (x_10 : Int32) : Sg := (m_layerOf_k50_s σ cell layer what x_3 x_10 (m_refused_s σ x_10))
def m_layerOf_j21 (σ : Sg) (cell : Int32) (layer : Int32) (what : Int32) (x_3 : Int32) : Int32 := (m_layerOf_j47 σ cell layer what x_3 (if x_3 = 0 then nI (1) else (if (m_within what (nI (0)) (nI (5))) = 0 then nI (2) else nI (0))))
def m_layerOf_j21_s (σ : Sg) (cell : Int32) (layer : Int32) (what : Int32) (x_3 : Int32) : Sg := (m_layerOf_j47_s σ cell layer what x_3 (if x_3 = 0 then nI (1) else (if (m_within what (nI (0)) (nI (5))) = 0 then nI (2) else nI (0))))
def m_layerOf (σ : Sg) (cell : Int32) (layer : Int32) (what : Int32) : Int32 := (m_layerOf_j21 σ cell layer what (if (m_isCell cell) = 0 then nI (0) else (if (m_within layer (nI (0)) (nI (4))) = 0 then nI (0) else nI (1))))
def m_layerOf_s (σ : Sg) (cell : Int32) (layer : Int32) (what : Int32) : Sg := (m_layerOf_j21_s σ cell layer what (if (m_isCell cell) = 0 then nI (0) else (if (m_within layer (nI (0)) (nI (4))) = 0 then nI (0) else nI (1))))
set_option maxHeartbeats 4000000 in
set_option maxRecDepth 100000 in
theorem cm_layerOf (l : Launch) (G : va_G) (cI cZ : ClassId) (a : Nat → Nat) (σ : Sg) (cell : Int32) (layer : Int32) (what : Int32) : mI l yX6_layerOf wsX6_layerOf ({ frames := 2, cells := 0, slots := 0, locals := 42 } : Room) G cI cZ a σ [.int (cell), .int (layer), .int (what)] (m_layerOf σ cell layer what) (m_layerOf_s σ cell layer what) := by
  unfold mI
  refine Met.ofW (cc := cX6_layerOf) (maxL := 6) (ret := (some .int)) (by decide) rfl ?_
  intro p e s m args below meth c s₁ B hml hv
  obtain ⟨rfl, hP, hK, hD⟩ := hv
  have hx := B.exec
  have hb := B.bytes
  have hr := B.returns
  have hts := atoms_spec (ws := wsX6_layerOf) B.pre
  have hown : s.vm.findClass RX6 = some m.cls := findClass_of_methodNamed B.named
  have hlocks := B.notSynchronized
  have hS : va_S (mA a) s.heap s.heap [] := va_S.rf
  have hin : ∀ w ∈ wsX60, w ∈ wsX6_layerOf := fun w h => List.mem_cons_of_mem _ (List.mem_append_right _ h)
  have hl := lv_entry ([.ref (a 0), .int (cell), .int (layer), .int (what)]) (n := 6) (Nat.le_of_ble_eq_true rfl)
  rw [lg_entry_eq]
  generalize (lg_sl ([.ref (a 0), .int (cell), .int (layer), .int (what)]) ++ List.replicate (6 - (lg_sl ([.ref (a 0), .int (cell), .int (layer), .int (what)])).length) Slot.unset).toArray = ls at hl ⊢
  have hl : lv_has ls 6 [(0, .ref (a 0)), (1, .int (cell)), (2, .int (layer)), (3, .int (what))] := hl
  refine w_named (fun WW hWW => ?_)
  have hP : va_P G vwCl (wm cI cZ a σ) s.heap := hP
  refine lv_iload_n hx hb dX6_layerOf_0 rfl (lv_at hl 1 rfl) ?_
  refine m_callS (As := [.int (cell)]) (rest := []) ⟨hx, hb, hml, hown, hts⟩ (cm_isCell l cell ) (va_cwS 1 hts gX6_layerOf_X6_isCell rfl rfl rfl (by decide +kernel) ⟨Nat.le_of_ble_eq_true rfl, Nat.le_of_ble_eq_true rfl⟩) hP hS rfl hl.1 rfl (Nat.le_of_ble_eq_true rfl) dX6_layerOf_1 ⟨Nat.zero_le _, Nat.zero_le _⟩ (fun H locs hP hS => ?_)
  have J21_4 : ∀ (x_3 : Int32), x_3 = (if (m_isCell cell) = 0 then nI (0) else (if (m_within layer (nI (0)) (nI (4))) = 0 then nI (0) else nI (1))) → ∀ (H : Heap) (locs : List Loc), va_P G vwCl (wm cI cZ a σ) H → va_D (mA a) (wm cI cZ a σ) → va_S (mA a) s.heap H locs → ∀ (ls : Array Slot), lv_has ls 6 [(0, .ref (a 0)), (1, .int (cell)), (2, .int (layer)), (3, .int (what))] → WW H locs 0 0 (F0 m 21 ls [.int (x_3)]) := by
    intro x_3 h_5 H locs hP hD hS ls hl
    refine (hWW _ _ _ _ _).mpr ?_
    have hR_6 : m_layerOf σ cell layer what = m_layerOf_j21 σ cell layer what x_3 := (by have q_ := h_5.symm; subst q_; unfold m_layerOf; rfl)
    have hR_7 : m_layerOf_s σ cell layer what = m_layerOf_j21_s σ cell layer what x_3 := (by have q_ := h_5.symm; subst q_; unfold m_layerOf_s; rfl)
    refine lv_istore (lv' := [(4, .int (x_3)), (0, .ref (a 0)), (1, .int (cell)), (2, .int (layer)), (3, .int (what))]) hx hb dX6_layerOf_21 hl (by decide) rfl (fun ls hl => ?_)
    refine lv_aload_n hx hb dX6_layerOf_23 rfl (lv_at hl 1 rfl) ?_
    refine lv_iload hx hb dX6_layerOf_24 (lv_at hl 0 rfl) ?_
    have J47_11 : ∀ (x_10 : Int32), x_10 = (if x_3 = 0 then nI (1) else (if (m_within what (nI (0)) (nI (5))) = 0 then nI (2) else nI (0))) → ∀ (H : Heap) (locs : List Loc), va_P G vwCl (wm cI cZ a σ) H → va_D (mA a) (wm cI cZ a σ) → va_S (mA a) s.heap H locs → ∀ (ls : Array Slot), lv_has ls 6 [(4, .int (x_3)), (0, .ref (a 0)), (1, .int (cell)), (2, .int (layer)), (3, .int (what))] → WW H locs 0 0 (F0 m 47 ls [.int (x_10), .ref (a 0)]) := by
      intro x_10 h_12 H locs hP hD hS ls hl
      refine (hWW _ _ _ _ _).mpr ?_
      have hR_13 : m_layerOf σ cell layer what = m_layerOf_j47 σ cell layer what x_3 x_10 := (Eq.trans hR_6 (by have q_ := h_12.symm; subst q_; unfold m_layerOf_j21; rfl))
      have hR_14 : m_layerOf_s σ cell layer what = m_layerOf_j47_s σ cell layer what x_3 x_10 := (Eq.trans hR_7 (by have q_ := h_12.symm; subst q_; unfold m_layerOf_j21_s; rfl))
      refine m_callI (As := [.int (x_10)]) (rest := []) (fun _ h => h) ⟨hx, hb, hml, hown, hts⟩ (cm_refused l G cI cZ a σ  x_10 ) (cwV 1 hts gX6_layerOf_X6_refused rfl rfl rfl (by decide +kernel) ⟨Nat.le_of_ble_eq_true rfl, Nat.le_of_ble_eq_true rfl⟩) hK hP hD hS rfl hl.1 rfl (Nat.le_of_ble_eq_true rfl) dX6_layerOf_47 ⟨Nat.zero_le _, Nat.zero_le _⟩ (fun H locs hP hD _ _ hS => ?_)
      obtain ⟨s_15, e_16⟩ : ∃ z : Sg, z = (m_refused_s σ x_10) := ⟨_, rfl⟩
      rw [← e_16] at hP hD
      have hR_17 : m_layerOf σ cell layer what = m_layerOf_k50 σ cell layer what x_3 x_10 s_15 := (Eq.trans hR_13 (by have q_ := e_16.symm; subst q_; unfold m_layerOf_j47; rfl))
      have hR_18 : m_layerOf_s σ cell layer what = m_layerOf_k50_s σ cell layer what x_3 x_10 s_15 := (Eq.trans hR_14 (by have q_ := e_16.symm; subst q_; unfold m_layerOf_j47_s; rfl))
      refine lv_if_eq (x := (m_refused σ x_10)) (tgt := 55) hx hb dX6_layerOf_50 (by decide) (fun c_19 => ?_) (fun c_19 => ?_)
      · have q0 := ck_tri h_12 (m_refused_0 c_19)
        have q1 := ck_two h_5 q0.1
        have hq : vp_in (nI (5) * (cell) + (layer)) 125 := vp_5l (w_isCell q1.1) (w_in (n := 4) q1.2 (by decide))
        refine lv_iconst (v := nI (5)) hx hb dX6_layerOf_55 (by decide) ?_
        refine lv_iload_n hx hb dX6_layerOf_56 rfl (lv_at hl 2 rfl) ?_
        refine lv_imul (x := nI (5)) (y := cell) hx hb dX6_layerOf_57 ?_
        refine lv_iload_n hx hb dX6_layerOf_58 rfl (lv_at hl 3 rfl) ?_
        refine lv_iadd (x := (nI (5)) * (cell)) (y := layer) hx hb dX6_layerOf_59 ?_
        refine lv_istore (lv' := [(5, .int (((nI (5)) * (cell)) + (layer))), (4, .int (x_3)), (0, .ref (a 0)), (1, .int (cell)), (2, .int (layer)), (3, .int (what))]) hx hb dX6_layerOf_60 hl (by decide) rfl (fun ls hl => ?_)
        refine lv_iload_n hx hb dX6_layerOf_62 rfl (lv_at hl 5 rfl) ?_
        refine lv_iconst (v := nI (3)) hx hb dX6_layerOf_63 (by decide) ?_
        refine lv_icmp_ge (x := what) (y := nI (3)) (tgt := 103) hx hb dX6_layerOf_64 (by decide) (fun c_20 => ?_) (fun c_20 => ?_)
        · refine lv_iload_n hx hb dX6_layerOf_103 rfl (lv_at hl 5 rfl) ?_
          refine lv_iconst (v := nI (3)) hx hb dX6_layerOf_104 (by decide) ?_
          have J139_24 : ∀ (x_23 : Int32), x_23 = (if what = nI (3) then (s_15.1 9 ((((nI (5)) * (cell)) + (layer)).toNatClampNeg)) else (if what = nI (4) then (s_15.1 11 ((((nI (5)) * (cell)) + (layer)).toNatClampNeg)) else (m_melted s_15 (((nI (5)) * (cell)) + (layer))))) → ∀ (H : Heap) (locs : List Loc), va_P G vwCl (wm cI cZ a s_15) H → va_D (mA a) (wm cI cZ a s_15) → va_S (mA a) s.heap H locs → ∀ (ls : Array Slot), lv_has ls 6 [(5, .int (((nI (5)) * (cell)) + (layer))), (4, .int (x_3)), (0, .ref (a 0)), (1, .int (cell)), (2, .int (layer)), (3, .int (what))] → WW H locs 0 0 (F0 m 139 ls [.int (x_23)]) := by
            intro x_23 h_25 H locs hP hD hS ls hl
            refine (hWW _ _ _ _ _).mpr ?_
            have hR_26 : m_layerOf σ cell layer what = m_layerOf_j139 σ cell layer what x_3 x_10 s_15 x_23 := (Eq.trans hR_17 (by have q_ := h_25.symm; subst q_; unfold m_layerOf_k50; simp only [if_pos c_19, if_pos c_20]))
            have hR_27 : m_layerOf_s σ cell layer what = m_layerOf_j139_s σ cell layer what x_3 x_10 s_15 x_23 := (Eq.trans hR_18 (by have q_ := h_25.symm; subst q_; unfold m_layerOf_k50_s; simp only [if_pos c_19, if_pos c_20]))
            exact m_iret (v := x_23) hx hb hr hlocks hP hK hD hS dX6_layerOf_139 (Eq.trans (by unfold m_layerOf_j139; rfl) hR_26.symm) (Eq.trans (by unfold m_layerOf_j139_s; rfl) hR_27.symm)
          refine lv_icmp_ne (x := what) (y := nI (3)) (tgt := 118) hx hb dX6_layerOf_105 (by decide) (fun c_21 => ?_) (fun c_21 => ?_)
          · refine lv_iload_n hx hb dX6_layerOf_118 rfl (lv_at hl 5 rfl) ?_
            refine lv_iconst (v := nI (4)) hx hb dX6_layerOf_119 (by decide) ?_
            refine lv_icmp_ne (x := what) (y := nI (4)) (tgt := 133) hx hb dX6_layerOf_120 (by decide) (fun c_28 => ?_) (fun c_28 => ?_)
            · refine lv_aload_n hx hb dX6_layerOf_133 rfl (lv_at hl 2 rfl) ?_
              refine lv_iload hx hb dX6_layerOf_134 (lv_at hl 0 rfl) ?_
              refine m_callI (As := [.int (((nI (5)) * (cell)) + (layer))]) (rest := []) (fun _ h => h) ⟨hx, hb, hml, hown, hts⟩ (cm_melted l G cI cZ a s_15  (((nI (5)) * (cell)) + (layer)) (hq)) (cwV 1 hts gX6_layerOf_X6_melted rfl rfl rfl (by decide +kernel) ⟨Nat.le_of_ble_eq_true rfl, Nat.le_of_ble_eq_true rfl⟩) hK hP hD hS rfl hl.1 rfl (Nat.le_of_ble_eq_true rfl) dX6_layerOf_136 ⟨Nat.zero_le _, Nat.zero_le _⟩ (fun H locs hP hD _ _ hS => ?_)
              exact (hWW _ _ _ _ _).mp (J139_24 _ (by simp only [if_neg c_21, if_neg c_28]) _ _ hP hD hS _ (lv_sub hl [0, 1, 2, 3, 4, 5] rfl))
            · refine lv_aload_n hx hb dX6_layerOf_123 rfl (lv_at hl 2 rfl) ?_
              refine m_get (v := .ref (a 11)) hx hb hts hin hown hK hP 11 (by decide) rfl (index := 37) (List.mem_of_getElem? (i := 4) rfl) dX6_layerOf_124 ?_
              refine lv_iload hx hb dX6_layerOf_127 (lv_at hl 0 rfl) ?_
              refine m_aldI (j := ((nI (5)) * (cell)) + (layer)) hx hb hK hP 10 11 rfl (hq) dX6_layerOf_129 ?_
              refine W.eq (g2 := F0 m 130 ls [.int ((s_15.1 11 ((((nI (5)) * (cell)) + (layer)).toNatClampNeg)))]) rfl ?_
              refine lv_goto (tgt := 139) hx hb dX6_layerOf_130 (by decide) ?_
              exact (hWW _ _ _ _ _).mp (J139_24 _ (by simp only [if_neg c_21, if_pos c_28]) _ _ hP hD hS _ (lv_sub hl [0, 1, 2, 3, 4, 5] rfl))
          · refine lv_aload_n hx hb dX6_layerOf_108 rfl (lv_at hl 2 rfl) ?_
            refine m_get (v := .ref (a 9)) hx hb hts hin hown hK hP 9 (by decide) rfl (index := 31) (List.mem_of_getElem? (i := 3) rfl) dX6_layerOf_109 ?_
            refine lv_iload hx hb dX6_layerOf_112 (lv_at hl 0 rfl) ?_
            refine m_aldI (j := ((nI (5)) * (cell)) + (layer)) hx hb hK hP 8 9 rfl (hq) dX6_layerOf_114 ?_
            refine W.eq (g2 := F0 m 115 ls [.int ((s_15.1 9 ((((nI (5)) * (cell)) + (layer)).toNatClampNeg)))]) rfl ?_
            refine lv_goto (tgt := 139) hx hb dX6_layerOf_115 (by decide) ?_
            exact (hWW _ _ _ _ _).mp (J139_24 _ (by simp only [if_pos c_21]) _ _ hP hD hS _ (lv_sub hl [0, 1, 2, 3, 4, 5] rfl))
        · refine lv_iload_n hx hb dX6_layerOf_67 rfl (lv_at hl 5 rfl) ?_
          have J102_32 : ∀ (x_31 : Int32), x_31 = (if what = 0 then (m_degreesOf s_15 (((nI (5)) * (cell)) + (layer))) else (if what = nI (1) then (s_15.1 10 ((((nI (5)) * (cell)) + (layer)).toNatClampNeg)) else (s_15.1 8 ((((nI (5)) * (cell)) + (layer)).toNatClampNeg)))) → ∀ (H : Heap) (locs : List Loc), va_P G vwCl (wm cI cZ a s_15) H → va_D (mA a) (wm cI cZ a s_15) → va_S (mA a) s.heap H locs → ∀ (ls : Array Slot), lv_has ls 6 [(5, .int (((nI (5)) * (cell)) + (layer))), (4, .int (x_3)), (0, .ref (a 0)), (1, .int (cell)), (2, .int (layer)), (3, .int (what))] → WW H locs 0 0 (F0 m 102 ls [.int (x_31)]) := by
            intro x_31 h_33 H locs hP hD hS ls hl
            refine (hWW _ _ _ _ _).mpr ?_
            have hR_34 : m_layerOf σ cell layer what = m_layerOf_j102 σ cell layer what x_3 x_10 s_15 x_31 := (Eq.trans hR_17 (by have q_ := h_33.symm; subst q_; unfold m_layerOf_k50; simp only [if_pos c_19, if_neg c_20]))
            have hR_35 : m_layerOf_s σ cell layer what = m_layerOf_j102_s σ cell layer what x_3 x_10 s_15 x_31 := (Eq.trans hR_18 (by have q_ := h_33.symm; subst q_; unfold m_layerOf_k50_s; simp only [if_pos c_19, if_neg c_20]))
            exact m_iret (v := x_31) hx hb hr hlocks hP hK hD hS dX6_layerOf_102 (Eq.trans (by unfold m_layerOf_j102; rfl) hR_34.symm) (Eq.trans (by unfold m_layerOf_j102_s; rfl) hR_35.symm)
          refine lv_if_ne (x := what) (tgt := 80) hx hb dX6_layerOf_68 (by decide) (fun c_29 => ?_) (fun c_29 => ?_)
          · refine lv_iload_n hx hb dX6_layerOf_80 rfl (lv_at hl 5 rfl) ?_
            refine lv_iconst (v := nI (1)) hx hb dX6_layerOf_81 (by decide) ?_
            refine lv_icmp_ne (x := what) (y := nI (1)) (tgt := 95) hx hb dX6_layerOf_82 (by decide) (fun c_36 => ?_) (fun c_36 => ?_)
            · refine lv_aload_n hx hb dX6_layerOf_95 rfl (lv_at hl 2 rfl) ?_
              refine m_get (v := .ref (a 8)) hx hb hts hin hown hK hP 8 (by decide) rfl (index := 28) (List.mem_of_getElem? (i := 2) rfl) dX6_layerOf_96 ?_
              refine lv_iload hx hb dX6_layerOf_99 (lv_at hl 0 rfl) ?_
              refine m_aldI (j := ((nI (5)) * (cell)) + (layer)) hx hb hK hP 7 8 rfl (hq) dX6_layerOf_101 ?_
              refine W.eq (g2 := F0 m 102 ls [.int ((s_15.1 8 ((((nI (5)) * (cell)) + (layer)).toNatClampNeg)))]) rfl ?_
              exact (hWW _ _ _ _ _).mp (J102_32 _ (by simp only [if_neg c_29, if_neg c_36]) _ _ hP hD hS _ (lv_sub hl [0, 1, 2, 3, 4, 5] rfl))
            · refine lv_aload_n hx hb dX6_layerOf_85 rfl (lv_at hl 2 rfl) ?_
              refine m_get (v := .ref (a 10)) hx hb hts hin hown hK hP 10 (by decide) rfl (index := 34) (List.mem_of_getElem? (i := 1) rfl) dX6_layerOf_86 ?_
              refine lv_iload hx hb dX6_layerOf_89 (lv_at hl 0 rfl) ?_
              refine m_aldI (j := ((nI (5)) * (cell)) + (layer)) hx hb hK hP 9 10 rfl (hq) dX6_layerOf_91 ?_
              refine W.eq (g2 := F0 m 92 ls [.int ((s_15.1 10 ((((nI (5)) * (cell)) + (layer)).toNatClampNeg)))]) rfl ?_
              refine lv_goto (tgt := 102) hx hb dX6_layerOf_92 (by decide) ?_
              exact (hWW _ _ _ _ _).mp (J102_32 _ (by simp only [if_neg c_29, if_pos c_36]) _ _ hP hD hS _ (lv_sub hl [0, 1, 2, 3, 4, 5] rfl))
          · refine lv_aload_n hx hb dX6_layerOf_71 rfl (lv_at hl 2 rfl) ?_
            refine lv_iload hx hb dX6_layerOf_72 (lv_at hl 0 rfl) ?_
            refine m_callI (As := [.int (((nI (5)) * (cell)) + (layer))]) (rest := []) (fun _ h => h) ⟨hx, hb, hml, hown, hts⟩ (cm_degreesOf l G cI cZ a s_15  (((nI (5)) * (cell)) + (layer)) (hq)) (cwV 1 hts gX6_layerOf_X6_degreesOf rfl rfl rfl (by decide +kernel) ⟨Nat.le_of_ble_eq_true rfl, Nat.le_of_ble_eq_true rfl⟩) hK hP hD hS rfl hl.1 rfl (Nat.le_of_ble_eq_true rfl) dX6_layerOf_74 ⟨Nat.zero_le _, Nat.zero_le _⟩ (fun H locs hP hD _ _ hS => ?_)
            refine lv_goto (tgt := 102) hx hb dX6_layerOf_77 (by decide) ?_
            exact (hWW _ _ _ _ _).mp (J102_32 _ (by simp only [if_pos c_29]) _ _ hP hD hS _ (lv_sub hl [0, 1, 2, 3, 4, 5] rfl))
      · refine lv_iconst (v := nI (0)) hx hb dX6_layerOf_53 (by decide) ?_
        exact m_iret (v := nI (0)) hx hb hr hlocks hP hK hD hS dX6_layerOf_54 (Eq.trans (by unfold m_layerOf_k50; simp only [if_neg c_19]) hR_17.symm) (Eq.trans (by unfold m_layerOf_k50_s; simp only [if_neg c_19]) hR_18.symm)
    refine lv_if_ne (x := x_3) (tgt := 33) hx hb dX6_layerOf_26 (by decide) (fun c_8 => ?_) (fun c_8 => ?_)
    · refine lv_iload_n hx hb dX6_layerOf_33 rfl (lv_at hl 4 rfl) ?_
      refine lv_iconst (v := nI (0)) hx hb dX6_layerOf_34 (by decide) ?_
      refine lv_iconst (v := nI (5)) hx hb dX6_layerOf_35 (by decide) ?_
      refine m_callS (As := [.int (what), .int (nI (0)), .int (nI (5))]) (rest := [.ref (a 0)]) ⟨hx, hb, hml, hown, hts⟩ (cm_within l what (nI (0)) (nI (5)) ) (va_cwS 3 hts gX6_layerOf_X6_within rfl rfl rfl (by decide +kernel) ⟨Nat.le_of_ble_eq_true rfl, Nat.le_of_ble_eq_true rfl⟩) hP hS rfl hl.1 rfl (Nat.le_of_ble_eq_true rfl) dX6_layerOf_36 ⟨Nat.zero_le _, Nat.zero_le _⟩ (fun H locs hP hS => ?_)
      refine lv_if_ne (x := (m_within what (nI (0)) (nI (5)))) (tgt := 46) hx hb dX6_layerOf_39 (by decide) (fun c_37 => ?_) (fun c_37 => ?_)
      · refine lv_iconst (v := nI (0)) hx hb dX6_layerOf_46 (by decide) ?_
        exact (hWW _ _ _ _ _).mp (J47_11 _ (by simp only [if_neg c_8, if_neg c_37]) _ _ hP hD hS _ (lv_sub hl [0, 1, 2, 3, 4] rfl))
      · refine lv_iconst (v := nI (2)) hx hb dX6_layerOf_42 (by decide) ?_
        refine lv_goto (tgt := 47) hx hb dX6_layerOf_43 (by decide) ?_
        exact (hWW _ _ _ _ _).mp (J47_11 _ (by simp only [if_neg c_8, if_pos c_37]) _ _ hP hD hS _ (lv_sub hl [0, 1, 2, 3, 4] rfl))
    · refine lv_iconst (v := nI (1)) hx hb dX6_layerOf_29 (by decide) ?_
      refine lv_goto (tgt := 47) hx hb dX6_layerOf_30 (by decide) ?_
      exact (hWW _ _ _ _ _).mp (J47_11 _ (by simp only [if_pos c_8]) _ _ hP hD hS _ (lv_sub hl [0, 1, 2, 3, 4] rfl))
  refine lv_if_eq (x := (m_isCell cell)) (tgt := 20) hx hb dX6_layerOf_4 (by decide) (fun c_1 => ?_) (fun c_1 => ?_)
  · refine lv_iconst (v := nI (0)) hx hb dX6_layerOf_20 (by decide) ?_
    exact (hWW _ _ _ _ _).mp (J21_4 _ (by simp only [if_pos c_1]) _ _ hP hD hS _ (lv_sub hl [0, 1, 2, 3] rfl))
  · refine lv_iload_n hx hb dX6_layerOf_7 rfl (lv_at hl 2 rfl) ?_
    refine lv_iconst (v := nI (0)) hx hb dX6_layerOf_8 (by decide) ?_
    refine lv_iconst (v := nI (4)) hx hb dX6_layerOf_9 (by decide) ?_
    refine m_callS (As := [.int (layer), .int (nI (0)), .int (nI (4))]) (rest := []) ⟨hx, hb, hml, hown, hts⟩ (cm_within l layer (nI (0)) (nI (4)) ) (va_cwS 3 hts gX6_layerOf_X6_within rfl rfl rfl (by decide +kernel) ⟨Nat.le_of_ble_eq_true rfl, Nat.le_of_ble_eq_true rfl⟩) hP hS rfl hl.1 rfl (Nat.le_of_ble_eq_true rfl) dX6_layerOf_10 ⟨Nat.zero_le _, Nat.zero_le _⟩ (fun H locs hP hS => ?_)
    refine lv_if_eq (x := (m_within layer (nI (0)) (nI (4)))) (tgt := 20) hx hb dX6_layerOf_13 (by decide) (fun c_38 => ?_) (fun c_38 => ?_)
    · refine lv_iconst (v := nI (0)) hx hb dX6_layerOf_20 (by decide) ?_
      exact (hWW _ _ _ _ _).mp (J21_4 _ (by simp only [if_neg c_1, if_pos c_38]) _ _ hP hD hS _ (lv_sub hl [0, 1, 2, 3] rfl))
    · refine lv_iconst (v := nI (1)) hx hb dX6_layerOf_16 (by decide) ?_
      refine lv_goto (tgt := 21) hx hb dX6_layerOf_17 (by decide) ?_
      exact (hWW _ _ _ _ _).mp (J21_4 _ (by simp only [if_neg c_1, if_neg c_38]) _ _ hP hD hS _ (lv_sub hl [0, 1, 2, 3] rfl))
