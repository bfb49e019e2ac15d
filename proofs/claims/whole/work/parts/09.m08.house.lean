def m_house_k125 (σ : Sg) (cell : Int32) (pile : Int32) (co : Int32) (x_3 : Int32) (x_10 : Int32) (s_15 : Sg) (s_21 : Sg) (s_26 : Sg) (s_31 : Sg) (s_36 : Sg) (s_41 : Sg) : Int32 := ((s_41.1 13 0)) - (nI (1))
def m_house_k125_s (σ : Sg) (cell : Int32) (pile : Int32) (co : Int32) (x_3 : Int32) (x_10 : Int32) (s_15 : Sg) (s_21 : Sg) (s_26 : Sg) (s_31 : Sg) (s_36 : Sg) (s_41 : Sg) : Sg := s_41
def m_house_k115 (σ : Sg) (cell : Int32) (pile : Int32) (co : Int32) (x_3 : Int32) (x_10 : Int32) (s_15 : Sg) (s_21 : Sg) (s_26 : Sg) (s_31 : Sg) (s_36 : Sg) : Int32 := (m_house_k125 σ cell pile co x_3 x_10 s_15 s_21 s_26 s_31 s_36 (si s_36 13 (0) (((s_36.1 13 0)) + (nI (1)))))
def m_house_k115_s (σ : Sg) (cell : Int32) (pile : Int32) (co : Int32) (x_3 : Int32) (x_10 : Int32) (s_15 : Sg) (s_21 : Sg) (s_26 : Sg) (s_31 : Sg) (s_36 : Sg) : Sg := (m_house_k125_s σ cell pile co x_3 x_10 s_15 s_21 s_26 s_31 s_36 (si s_36 13 (0) (((s_36.1 13 0)) + (nI (1)))))
def m_house_k102 (σ : Sg) (cell : Int32) (pile : Int32) (co : Int32) (x_3 : Int32) (x_10 : Int32) (s_15 : Sg) (s_21 : Sg) (s_26 : Sg) (s_31 : Sg) : Int32 := (m_house_k115 σ cell pile co x_3 x_10 s_15 s_21 s_26 s_31 (si s_31 18 (((s_31.1 13 0)).toNatClampNeg) ((s_31.1 1 0))))
def m_house_k102_s (σ : Sg) (cell : Int32) (pile : Int32) (co : Int32) (x_3 : Int32) (x_10 : Int32) (s_15 : Sg) (s_21 : Sg) (s_26 : Sg) (s_31 : Sg) : Sg := (m_house_k115_s σ cell pile co x_3 x_10 s_15 s_21 s_26 s_31 (si s_31 18 (((s_31.1 13 0)).toNatClampNeg) ((s_31.1 1 0))))
def m_house_k92 (σ : Sg) (cell : Int32) (pile : Int32) (co : Int32) (x_3 : Int32) (x_10 : Int32) (s_15 : Sg) (s_21 : Sg) (s_26 : Sg) : Int32 := (m_house_k102 σ cell pile co x_3 x_10 s_15 s_21 s_26 (si s_26 16 (((s_26.1 13 0)).toNatClampNeg) (vp_nar .boolean (co))))
def m_house_k92_s (σ : Sg) (cell : Int32) (pile : Int32) (co : Int32) (x_3 : Int32) (x_10 : Int32) (s_15 : Sg) (s_21 : Sg) (s_26 : Sg) : Sg := (m_house_k102_s σ cell pile co x_3 x_10 s_15 s_21 s_26 (si s_26 16 (((s_26.1 13 0)).toNatClampNeg) (vp_nar .boolean (co))))
def m_house_k82 (σ : Sg) (cell : Int32) (pile : Int32) (co : Int32) (x_3 : Int32) (x_10 : Int32) (s_15 : Sg) (s_21 : Sg) : Int32 := (m_house_k92 σ cell pile co x_3 x_10 s_15 s_21 (si s_21 15 (((s_21.1 13 0)).toNatClampNeg) (pile)))
def m_house_k82_s (σ : Sg) (cell : Int32) (pile : Int32) (co : Int32) (x_3 : Int32) (x_10 : Int32) (s_15 : Sg) (s_21 : Sg) : Sg := (m_house_k92_s σ cell pile co x_3 x_10 s_15 s_21 (si s_21 15 (((s_21.1 13 0)).toNatClampNeg) (pile)))
def m_house_k67 (σ : Sg) (cell : Int32) (pile : Int32) (co : Int32) (x_3 : Int32) (x_10 : Int32) (s_15 : Sg) : Int32 := (if (m_refused σ x_10) = 0 then (m_house_k82 σ cell pile co x_3 x_10 s_15 (si s_15 14 (((s_15.1 13 0)).toNatClampNeg) (cell))) else nI (0))
def m_house_k67_s (σ : Sg) (cell : Int32) (pile : Int32) (co : Int32) (x_3 : Int32) (x_10 : Int32) (s_15 : Sg) : Sg := (if (m_refused σ x_10) = 0 then (m_house_k82_s σ cell pile co x_3 x_10 s_15 (si s_15 14 (((s_15.1 13 0)).toNatClampNeg) (cell))) else s_15)
def m_house_j64 (σ : Sg) (cell : Int32) (pile : Int32) (co : Int32) (x_3 : Int32) (x_10 : Int32) : Int32 := (m_house_k67 σ cell pile co x_3 x_10 (m_refused_s σ x_10))
def m_house_j64_s (σ : Sg) (cell : Int32) (pile : Int32) (co : Int32) (x_3 : Int32) (x_10 : Int32) : Sg := (m_house_k67_s σ cell pile co x_3 x_10 (m_refused_s σ x_10))
def m_house_j21 (σ : Sg) (cell : Int32) (pile : Int32) (co : Int32) (x_3 : Int32) : Int32 := (m_house_j64 σ cell pile co x_3 (if x_3 = 0 then nI (1) else (if (m_houseIn σ cell) = (-1) then (if (m_isLake σ cell) = 0 then (if (σ.1 13 0) = nI (10) then nI (2) else nI (0)) else nI (2)) else nI (2))))
def m_house_j21_s (σ : Sg) (cell : Int32) (pile : Int32) (co : Int32) (x_3 : Int32) : Sg := (m_house_j64_s σ cell pile co x_3 (if x_3 = 0 then nI (1) else (if (m_houseIn σ cell) = (-1) then (if (m_isLake σ cell) = 0 then (if (σ.1 13 0) = nI (10) then nI (2) else nI (0)) else nI (2)) else nI (2))))
def m_house (σ : Sg) (cell : Int32) (pile : Int32) (co : Int32) : Int32 := (m_house_j21 σ cell pile co (if (m_isCell cell) = 0 then nI (0) else (if (m_within pile (nI (1)) (nI (4))) = 0 then nI (0) else nI (1))))
def m_house_s (σ : Sg) (cell : Int32) (pile : Int32) (co : Int32) : Sg := (m_house_j21_s σ cell pile co (if (m_isCell cell) = 0 then nI (0) else (if (m_within pile (nI (1)) (nI (4))) = 0 then nI (0) else nI (1))))
set_option maxHeartbeats 4000000 in
set_option maxRecDepth 100000 in
theorem cm_house (l : Launch) (G : va_G) (cI cZ : ClassId) (a : Nat → Nat) (σ : Sg) (cell : Int32) (pile : Int32) (co : Int32) (hO : mOK σ) : mI l yX6_house wsX6_house ({ frames := 2, cells := 0, slots := 0, locals := 42 } : Room) G cI cZ a σ [.int (cell), .int (pile), .int (co)] (m_house σ cell pile co) (m_house_s σ cell pile co) := by
  unfold mI
  refine Met.ofW (cc := cX6_house) (maxL := 5) (ret := (some .int)) (by decide) rfl ?_
  intro p e s m args below meth c s₁ B hml hv
  obtain ⟨rfl, hP, hK, hD⟩ := hv
  have hx := B.exec
  have hb := B.bytes
  have hr := B.returns
  have hts := atoms_spec (ws := wsX6_house) B.pre
  have hown : s.vm.findClass RX6 = some m.cls := findClass_of_methodNamed B.named
  have hlocks := B.notSynchronized
  have hS : va_S (mA a) s.heap s.heap [] := va_S.rf
  have hin : ∀ w ∈ wsX60, w ∈ wsX6_house := fun w h => List.mem_cons_of_mem _ (List.mem_append_right _ h)
  have hl := lv_entry ([.ref (a 0), .int (cell), .int (pile), .int (co)]) (n := 5) (Nat.le_of_ble_eq_true rfl)
  rw [lg_entry_eq]
  generalize (lg_sl ([.ref (a 0), .int (cell), .int (pile), .int (co)]) ++ List.replicate (5 - (lg_sl ([.ref (a 0), .int (cell), .int (pile), .int (co)])).length) Slot.unset).toArray = ls at hl ⊢
  have hl : lv_has ls 5 [(0, .ref (a 0)), (1, .int (cell)), (2, .int (pile)), (3, .int (co))] := hl
  refine w_named (fun WW hWW => ?_)
  have hP : va_P G vwCl (wm cI cZ a σ) s.heap := hP
  refine lv_iload_n hx hb dX6_house_0 rfl (lv_at hl 1 rfl) ?_
  refine m_callS (As := [.int (cell)]) (rest := []) ⟨hx, hb, hml, hown, hts⟩ (cm_isCell l cell ) (va_cwS 1 hts gX6_house_X6_isCell rfl rfl rfl (by decide +kernel) ⟨Nat.le_of_ble_eq_true rfl, Nat.le_of_ble_eq_true rfl⟩) hP hS rfl hl.1 rfl (Nat.le_of_ble_eq_true rfl) dX6_house_1 ⟨Nat.zero_le _, Nat.zero_le _⟩ (fun H locs hP hS => ?_)
  have J21_4 : ∀ (x_3 : Int32), x_3 = (if (m_isCell cell) = 0 then nI (0) else (if (m_within pile (nI (1)) (nI (4))) = 0 then nI (0) else nI (1))) → ∀ (H : Heap) (locs : List Loc), va_P G vwCl (wm cI cZ a σ) H → va_D (mA a) (wm cI cZ a σ) → va_S (mA a) s.heap H locs → ∀ (ls : Array Slot), lv_has ls 5 [(0, .ref (a 0)), (1, .int (cell)), (2, .int (pile)), (3, .int (co))] → WW H locs 0 0 (F0 m 21 ls [.int (x_3)]) := by
    intro x_3 h_5 H locs hP hD hS ls hl
    refine (hWW _ _ _ _ _).mpr ?_
    have hR_6 : m_house σ cell pile co = m_house_j21 σ cell pile co x_3 := (by have q_ := h_5.symm; subst q_; unfold m_house; rfl)
    have hR_7 : m_house_s σ cell pile co = m_house_j21_s σ cell pile co x_3 := (by have q_ := h_5.symm; subst q_; unfold m_house_s; rfl)
    refine lv_istore (lv' := [(4, .int (x_3)), (0, .ref (a 0)), (1, .int (cell)), (2, .int (pile)), (3, .int (co))]) hx hb dX6_house_21 hl (by decide) rfl (fun ls hl => ?_)
    refine lv_aload_n hx hb dX6_house_23 rfl (lv_at hl 1 rfl) ?_
    refine lv_iload hx hb dX6_house_24 (lv_at hl 0 rfl) ?_
    have J64_11 : ∀ (x_10 : Int32), x_10 = (if x_3 = 0 then nI (1) else (if (m_houseIn σ cell) = (-1) then (if (m_isLake σ cell) = 0 then (if (σ.1 13 0) = nI (10) then nI (2) else nI (0)) else nI (2)) else nI (2))) → ∀ (H : Heap) (locs : List Loc), va_P G vwCl (wm cI cZ a σ) H → va_D (mA a) (wm cI cZ a σ) → va_S (mA a) s.heap H locs → ∀ (ls : Array Slot), lv_has ls 5 [(4, .int (x_3)), (0, .ref (a 0)), (1, .int (cell)), (2, .int (pile)), (3, .int (co))] → WW H locs 0 0 (F0 m 64 ls [.int (x_10), .ref (a 0)]) := by
      intro x_10 h_12 H locs hP hD hS ls hl
      refine (hWW _ _ _ _ _).mpr ?_
      have hR_13 : m_house σ cell pile co = m_house_j64 σ cell pile co x_3 x_10 := (Eq.trans hR_6 (by have q_ := h_12.symm; subst q_; unfold m_house_j21; rfl))
      have hR_14 : m_house_s σ cell pile co = m_house_j64_s σ cell pile co x_3 x_10 := (Eq.trans hR_7 (by have q_ := h_12.symm; subst q_; unfold m_house_j21_s; rfl))
      refine m_callI (As := [.int (x_10)]) (rest := []) (fun _ h => h) ⟨hx, hb, hml, hown, hts⟩ (cm_refused l G cI cZ a σ  x_10 ) (cwV 1 hts gX6_house_X6_refused rfl rfl rfl (by decide +kernel) ⟨Nat.le_of_ble_eq_true rfl, Nat.le_of_ble_eq_true rfl⟩) hK hP hD hS rfl hl.1 rfl (Nat.le_of_ble_eq_true rfl) dX6_house_64 ⟨Nat.zero_le _, Nat.zero_le _⟩ (fun H locs hP hD _ _ hS => ?_)
      obtain ⟨s_15, e_16⟩ : ∃ z : Sg, z = (m_refused_s σ x_10) := ⟨_, rfl⟩
      rw [← e_16] at hP hD
      have kp_17 : s_15.1 13 0 = (m_refused_s σ x_10).1 13 0 := (congrArg (fun z : Sg => z.1 13 0) e_16).trans rfl
      have hR_18 : m_house σ cell pile co = m_house_k67 σ cell pile co x_3 x_10 s_15 := (Eq.trans hR_13 (by have q_ := e_16.symm; subst q_; unfold m_house_j64; rfl))
      have hR_19 : m_house_s σ cell pile co = m_house_k67_s σ cell pile co x_3 x_10 s_15 := (Eq.trans hR_14 (by have q_ := e_16.symm; subst q_; unfold m_house_j64_s; rfl))
      refine lv_if_eq (x := (m_refused σ x_10)) (tgt := 72) hx hb dX6_house_67 (by decide) (fun c_20 => ?_) (fun c_20 => ?_)
      · have q0 := ck_house h_12 (m_refused_0 c_20)
        have q1 := ck_two h_5 q0.1
        have hq : vp_in (σ.1 13 0) 10 := vp_ne hO.1 q0.2.2.2
        refine lv_aload_n hx hb dX6_house_72 rfl (lv_at hl 1 rfl) ?_
        refine m_get (v := .ref (a 14)) hx hb hts hin hown hK hP 14 (by decide) rfl (index := 43) (List.mem_of_getElem? (i := 2) rfl) dX6_house_73 ?_
        refine lv_aload_n hx hb dX6_house_76 rfl (lv_at hl 1 rfl) ?_
        refine m_get (v := .int ((s_15.1 13 0))) hx hb hts hin hown hK hP 13 (by decide) rfl (index := 132) (List.mem_of_getElem? (i := 1) rfl) dX6_house_77 ?_
        refine lv_iload_n hx hb dX6_house_80 rfl (lv_at hl 2 rfl) ?_
        refine m_astI (j := (s_15.1 13 0)) (v := cell) hx hb hK hP hD hS 12 14 rfl rfl (by rw [kp_17]; exact hq) dX6_house_81 (fun H locs hP hD hS => ?_)
        obtain ⟨s_21, e_22⟩ : ∃ z : Sg, z = (si s_15 14 (((s_15.1 13 0)).toNatClampNeg) (cell)) := ⟨_, rfl⟩
        rw [← e_22] at hP hD
        have kp_23 : s_21.1 13 0 = (m_refused_s σ x_10).1 13 0 := (congrArg (fun z : Sg => z.1 13 0) e_22).trans kp_17
        have hR_24 : m_house σ cell pile co = m_house_k82 σ cell pile co x_3 x_10 s_15 s_21 := (Eq.trans hR_18 (by have q_ := e_22.symm; subst q_; unfold m_house_k67; simp only [if_pos c_20]))
        have hR_25 : m_house_s σ cell pile co = m_house_k82_s σ cell pile co x_3 x_10 s_15 s_21 := (Eq.trans hR_19 (by have q_ := e_22.symm; subst q_; unfold m_house_k67_s; simp only [if_pos c_20]))
        refine lv_aload_n hx hb dX6_house_82 rfl (lv_at hl 1 rfl) ?_
        refine m_get (v := .ref (a 15)) hx hb hts hin hown hK hP 15 (by decide) rfl (index := 46) (List.mem_of_getElem? (i := 3) rfl) dX6_house_83 ?_
        refine lv_aload_n hx hb dX6_house_86 rfl (lv_at hl 1 rfl) ?_
        refine m_get (v := .int ((s_21.1 13 0))) hx hb hts hin hown hK hP 13 (by decide) rfl (index := 132) (List.mem_of_getElem? (i := 1) rfl) dX6_house_87 ?_
        refine lv_iload_n hx hb dX6_house_90 rfl (lv_at hl 3 rfl) ?_
        refine m_astI (j := (s_21.1 13 0)) (v := pile) hx hb hK hP hD hS 13 15 rfl rfl (by rw [kp_23]; exact hq) dX6_house_91 (fun H locs hP hD hS => ?_)
        obtain ⟨s_26, e_27⟩ : ∃ z : Sg, z = (si s_21 15 (((s_21.1 13 0)).toNatClampNeg) (pile)) := ⟨_, rfl⟩
        rw [← e_27] at hP hD
        have kp_28 : s_26.1 13 0 = (m_refused_s σ x_10).1 13 0 := (congrArg (fun z : Sg => z.1 13 0) e_27).trans kp_23
        have hR_29 : m_house σ cell pile co = m_house_k92 σ cell pile co x_3 x_10 s_15 s_21 s_26 := (Eq.trans hR_24 (by have q_ := e_27.symm; subst q_; unfold m_house_k82; rfl))
        have hR_30 : m_house_s σ cell pile co = m_house_k92_s σ cell pile co x_3 x_10 s_15 s_21 s_26 := (Eq.trans hR_25 (by have q_ := e_27.symm; subst q_; unfold m_house_k82_s; rfl))
        refine lv_aload_n hx hb dX6_house_92 rfl (lv_at hl 1 rfl) ?_
        refine m_get (v := .ref (a 16)) hx hb hts hin hown hK hP 16 (by decide) rfl (index := 49) (List.mem_of_getElem? (i := 4) rfl) dX6_house_93 ?_
        refine lv_aload_n hx hb dX6_house_96 rfl (lv_at hl 1 rfl) ?_
        refine m_get (v := .int ((s_26.1 13 0))) hx hb hts hin hown hK hP 13 (by decide) rfl (index := 132) (List.mem_of_getElem? (i := 1) rfl) dX6_house_97 ?_
        refine lv_iload_n hx hb dX6_house_100 rfl (lv_at hl 4 rfl) ?_
        refine m_zastI (j := (s_26.1 13 0)) (v := co) hx hb hK hP hD hS 14 16 rfl rfl (by rw [kp_28]; exact hq) dX6_house_101 (fun H locs hP hD hS => ?_)
        obtain ⟨s_31, e_32⟩ : ∃ z : Sg, z = (si s_26 16 (((s_26.1 13 0)).toNatClampNeg) (vp_nar .boolean (co))) := ⟨_, rfl⟩
        rw [← e_32] at hP hD
        have kp_33 : s_31.1 13 0 = (m_refused_s σ x_10).1 13 0 := (congrArg (fun z : Sg => z.1 13 0) e_32).trans kp_28
        have hR_34 : m_house σ cell pile co = m_house_k102 σ cell pile co x_3 x_10 s_15 s_21 s_26 s_31 := (Eq.trans hR_29 (by have q_ := e_32.symm; subst q_; unfold m_house_k92; rfl))
        have hR_35 : m_house_s σ cell pile co = m_house_k102_s σ cell pile co x_3 x_10 s_15 s_21 s_26 s_31 := (Eq.trans hR_30 (by have q_ := e_32.symm; subst q_; unfold m_house_k92_s; rfl))
        refine lv_aload_n hx hb dX6_house_102 rfl (lv_at hl 1 rfl) ?_
        refine m_get (v := .ref (a 18)) hx hb hts hin hown hK hP 18 (by decide) rfl (index := 56) (List.mem_of_getElem? (i := 5) rfl) dX6_house_103 ?_
        refine lv_aload_n hx hb dX6_house_106 rfl (lv_at hl 1 rfl) ?_
        refine m_get (v := .int ((s_31.1 13 0))) hx hb hts hin hown hK hP 13 (by decide) rfl (index := 132) (List.mem_of_getElem? (i := 1) rfl) dX6_house_107 ?_
        refine lv_aload_n hx hb dX6_house_110 rfl (lv_at hl 1 rfl) ?_
        refine m_get (v := .int ((s_31.1 1 0))) hx hb hts hin hown hK hP 1 (by decide) rfl (index := 109) (List.mem_of_getElem? (i := 6) rfl) dX6_house_111 ?_
        refine m_astI (j := (s_31.1 13 0)) (v := (s_31.1 1 0)) hx hb hK hP hD hS 16 18 rfl rfl (by rw [kp_33]; exact hq) dX6_house_114 (fun H locs hP hD hS => ?_)
        obtain ⟨s_36, e_37⟩ : ∃ z : Sg, z = (si s_31 18 (((s_31.1 13 0)).toNatClampNeg) ((s_31.1 1 0))) := ⟨_, rfl⟩
        rw [← e_37] at hP hD
        have kp_38 : s_36.1 13 0 = (m_refused_s σ x_10).1 13 0 := (congrArg (fun z : Sg => z.1 13 0) e_37).trans kp_33
        have hR_39 : m_house σ cell pile co = m_house_k115 σ cell pile co x_3 x_10 s_15 s_21 s_26 s_31 s_36 := (Eq.trans hR_34 (by have q_ := e_37.symm; subst q_; unfold m_house_k102; rfl))
        have hR_40 : m_house_s σ cell pile co = m_house_k115_s σ cell pile co x_3 x_10 s_15 s_21 s_26 s_31 s_36 := (Eq.trans hR_35 (by have q_ := e_37.symm; subst q_; unfold m_house_k102_s; rfl))
        refine lv_aload_n hx hb dX6_house_115 rfl (lv_at hl 1 rfl) ?_
        refine lv_dup hx hb dX6_house_116 rfl ?_
        refine m_get (v := .int ((s_36.1 13 0))) hx hb hts hin hown hK hP 13 (by decide) rfl (index := 132) (List.mem_of_getElem? (i := 1) rfl) dX6_house_117 ?_
        refine lv_iconst (v := nI (1)) hx hb dX6_house_120 (by decide) ?_
        refine lv_iadd (x := (s_36.1 13 0)) (y := nI (1)) hx hb dX6_house_121 ?_
        refine m_putI (v := ((s_36.1 13 0)) + (nI (1))) hx hb hts hin hown hK hP hD hS 13 (by decide) rfl (by decide +kernel) rfl (index := 132) (List.mem_of_getElem? (i := 1) rfl) dX6_house_122 (fun H locs hP hD hS => ?_)
        obtain ⟨s_41, e_42⟩ : ∃ z : Sg, z = (si s_36 13 (0) (((s_36.1 13 0)) + (nI (1)))) := ⟨_, rfl⟩
        rw [← e_42] at hP hD
        have hR_44 : m_house σ cell pile co = m_house_k125 σ cell pile co x_3 x_10 s_15 s_21 s_26 s_31 s_36 s_41 := (Eq.trans hR_39 (by have q_ := e_42.symm; subst q_; unfold m_house_k115; rfl))
        have hR_45 : m_house_s σ cell pile co = m_house_k125_s σ cell pile co x_3 x_10 s_15 s_21 s_26 s_31 s_36 s_41 := (Eq.trans hR_40 (by have q_ := e_42.symm; subst q_; unfold m_house_k115_s; rfl))
        refine lv_aload_n hx hb dX6_house_125 rfl (lv_at hl 1 rfl) ?_
        refine m_get (v := .int ((s_41.1 13 0))) hx hb hts hin hown hK hP 13 (by decide) rfl (index := 132) (List.mem_of_getElem? (i := 1) rfl) dX6_house_126 ?_
        refine lv_iconst (v := nI (1)) hx hb dX6_house_129 (by decide) ?_
        refine lv_isub (x := (s_41.1 13 0)) (y := nI (1)) hx hb dX6_house_130 ?_
        exact m_iret (v := ((s_41.1 13 0)) - (nI (1))) hx hb hr hlocks hP hK hD hS dX6_house_131 (Eq.trans (by unfold m_house_k125; rfl) hR_44.symm) (Eq.trans (by unfold m_house_k125_s; rfl) hR_45.symm)
      · refine lv_iconst (v := nI (0)) hx hb dX6_house_70 (by decide) ?_
        exact m_iret (v := nI (0)) hx hb hr hlocks hP hK hD hS dX6_house_71 (Eq.trans (by unfold m_house_k67; simp only [if_neg c_20]) hR_18.symm) (Eq.trans (by unfold m_house_k67_s; simp only [if_neg c_20]) hR_19.symm)
    refine lv_if_ne (x := x_3) (tgt := 33) hx hb dX6_house_26 (by decide) (fun c_8 => ?_) (fun c_8 => ?_)
    · refine lv_aload_n hx hb dX6_house_33 rfl (lv_at hl 1 rfl) ?_
      refine lv_iload_n hx hb dX6_house_34 rfl (lv_at hl 2 rfl) ?_
      refine m_callI (As := [.int (cell)]) (rest := [.ref (a 0)]) (fun _ h => h) ⟨hx, hb, hml, hown, hts⟩ (cm_houseIn l G cI cZ a σ  cell hO) (cwV 1 hts gX6_house_X6_houseIn rfl rfl rfl (by decide +kernel) ⟨Nat.le_of_ble_eq_true rfl, Nat.le_of_ble_eq_true rfl⟩) hK hP hD hS rfl hl.1 rfl (Nat.le_of_ble_eq_true rfl) dX6_house_35 ⟨Nat.zero_le _, Nat.zero_le _⟩ (fun H locs hP hD _ _ hS => ?_)
      refine lv_iconst (v := (-1)) hx hb dX6_house_38 (by decide) ?_
      refine lv_icmp_ne (x := (m_houseIn σ cell)) (y := (-1)) (tgt := 59) hx hb dX6_house_39 (by decide) (fun c_46 => ?_) (fun c_46 => ?_)
      · refine lv_iconst (v := nI (2)) hx hb dX6_house_59 (by decide) ?_
        refine lv_goto (tgt := 64) hx hb dX6_house_60 (by decide) ?_
        exact (hWW _ _ _ _ _).mp (J64_11 _ (by simp only [if_neg c_8, if_neg c_46]) _ _ hP hD hS _ (lv_sub hl [0, 1, 2, 3, 4] rfl))
      · refine lv_aload_n hx hb dX6_house_42 rfl (lv_at hl 1 rfl) ?_
        refine lv_iload_n hx hb dX6_house_43 rfl (lv_at hl 2 rfl) ?_
        refine m_callI (As := [.int (cell)]) (rest := [.ref (a 0)]) (fun _ h => h) ⟨hx, hb, hml, hown, hts⟩ (cm_isLake l G cI cZ a σ  cell (w_isCell (ck_two h_5 c_8).1)) (cwV 1 hts gX6_house_X6_isLake rfl rfl rfl (by decide +kernel) ⟨Nat.le_of_ble_eq_true rfl, Nat.le_of_ble_eq_true rfl⟩) hK hP hD hS rfl hl.1 rfl (Nat.le_of_ble_eq_true rfl) dX6_house_44 ⟨Nat.zero_le _, Nat.zero_le _⟩ (fun H locs hP hD _ _ hS => ?_)
        refine lv_if_ne (x := (m_isLake σ cell)) (tgt := 59) hx hb dX6_house_47 (by decide) (fun c_47 => ?_) (fun c_47 => ?_)
        · refine lv_iconst (v := nI (2)) hx hb dX6_house_59 (by decide) ?_
          refine lv_goto (tgt := 64) hx hb dX6_house_60 (by decide) ?_
          exact (hWW _ _ _ _ _).mp (J64_11 _ (by simp only [if_neg c_8, if_pos c_46, if_neg c_47]) _ _ hP hD hS _ (lv_sub hl [0, 1, 2, 3, 4] rfl))
        · refine lv_aload_n hx hb dX6_house_50 rfl (lv_at hl 1 rfl) ?_
          refine m_get (v := .int ((σ.1 13 0))) hx hb hts hin hown hK hP 13 (by decide) rfl (index := 132) (List.mem_of_getElem? (i := 1) rfl) dX6_house_51 ?_
          refine lv_bipush (v := nI (10)) hx hb dX6_house_54 (by decide) ?_
          refine lv_icmp_ne (x := (σ.1 13 0)) (y := nI (10)) (tgt := 63) hx hb dX6_house_56 (by decide) (fun c_48 => ?_) (fun c_48 => ?_)
          · refine lv_iconst (v := nI (0)) hx hb dX6_house_63 (by decide) ?_
            exact (hWW _ _ _ _ _).mp (J64_11 _ (by simp only [if_neg c_8, if_pos c_46, if_pos c_47, if_neg c_48]) _ _ hP hD hS _ (lv_sub hl [0, 1, 2, 3, 4] rfl))
          · refine lv_iconst (v := nI (2)) hx hb dX6_house_59 (by decide) ?_
            refine lv_goto (tgt := 64) hx hb dX6_house_60 (by decide) ?_
            exact (hWW _ _ _ _ _).mp (J64_11 _ (by simp only [if_neg c_8, if_pos c_46, if_pos c_47, if_pos c_48]) _ _ hP hD hS _ (lv_sub hl [0, 1, 2, 3, 4] rfl))
    · refine lv_iconst (v := nI (1)) hx hb dX6_house_29 (by decide) ?_
      refine lv_goto (tgt := 64) hx hb dX6_house_30 (by decide) ?_
      exact (hWW _ _ _ _ _).mp (J64_11 _ (by simp only [if_pos c_8]) _ _ hP hD hS _ (lv_sub hl [0, 1, 2, 3, 4] rfl))
  refine lv_if_eq (x := (m_isCell cell)) (tgt := 20) hx hb dX6_house_4 (by decide) (fun c_1 => ?_) (fun c_1 => ?_)
  · refine lv_iconst (v := nI (0)) hx hb dX6_house_20 (by decide) ?_
    exact (hWW _ _ _ _ _).mp (J21_4 _ (by simp only [if_pos c_1]) _ _ hP hD hS _ (lv_sub hl [0, 1, 2, 3] rfl))
  · refine lv_iload_n hx hb dX6_house_7 rfl (lv_at hl 2 rfl) ?_
    refine lv_iconst (v := nI (1)) hx hb dX6_house_8 (by decide) ?_
    refine lv_iconst (v := nI (4)) hx hb dX6_house_9 (by decide) ?_
    refine m_callS (As := [.int (pile), .int (nI (1)), .int (nI (4))]) (rest := []) ⟨hx, hb, hml, hown, hts⟩ (cm_within l pile (nI (1)) (nI (4)) ) (va_cwS 3 hts gX6_house_X6_within rfl rfl rfl (by decide +kernel) ⟨Nat.le_of_ble_eq_true rfl, Nat.le_of_ble_eq_true rfl⟩) hP hS rfl hl.1 rfl (Nat.le_of_ble_eq_true rfl) dX6_house_10 ⟨Nat.zero_le _, Nat.zero_le _⟩ (fun H locs hP hS => ?_)
    refine lv_if_eq (x := (m_within pile (nI (1)) (nI (4)))) (tgt := 20) hx hb dX6_house_13 (by decide) (fun c_49 => ?_) (fun c_49 => ?_)
    · refine lv_iconst (v := nI (0)) hx hb dX6_house_20 (by decide) ?_
      exact (hWW _ _ _ _ _).mp (J21_4 _ (by simp only [if_neg c_1, if_pos c_49]) _ _ hP hD hS _ (lv_sub hl [0, 1, 2, 3] rfl))
    · refine lv_iconst (v := nI (1)) hx hb dX6_house_16 (by decide) ?_
      refine lv_goto (tgt := 21) hx hb dX6_house_17 (by decide) ?_
      exact (hWW _ _ _ _ _).mp (J21_4 _ (by simp only [if_neg c_1, if_neg c_49]) _ _ hP hD hS _ (lv_sub hl [0, 1, 2, 3] rfl))
