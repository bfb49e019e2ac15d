def m_borehole_k92 (σ : Sg) (cell : Int32) (dr : Int32) (x_3 : Int32) (s_8 : Sg) (s_14 : Sg) (s_19 : Sg) (s_24 : Sg) (s_29 : Sg) : Int32 := ((s_29.1 19 0)) - (nI (1))
def m_borehole_k92_s (σ : Sg) (cell : Int32) (dr : Int32) (x_3 : Int32) (s_8 : Sg) (s_14 : Sg) (s_19 : Sg) (s_24 : Sg) (s_29 : Sg) : Sg := s_29
def m_borehole_k82 (σ : Sg) (cell : Int32) (dr : Int32) (x_3 : Int32) (s_8 : Sg) (s_14 : Sg) (s_19 : Sg) (s_24 : Sg) : Int32 := (m_borehole_k92 σ cell dr x_3 s_8 s_14 s_19 s_24 (si s_24 19 (0) (((s_24.1 19 0)) + (nI (1)))))
def m_borehole_k82_s (σ : Sg) (cell : Int32) (dr : Int32) (x_3 : Int32) (s_8 : Sg) (s_14 : Sg) (s_19 : Sg) (s_24 : Sg) : Sg := (m_borehole_k92_s σ cell dr x_3 s_8 s_14 s_19 s_24 (si s_24 19 (0) (((s_24.1 19 0)) + (nI (1)))))
def m_borehole_k69 (σ : Sg) (cell : Int32) (dr : Int32) (x_3 : Int32) (s_8 : Sg) (s_14 : Sg) (s_19 : Sg) : Int32 := (m_borehole_k82 σ cell dr x_3 s_8 s_14 s_19 (si s_19 22 (((s_19.1 19 0)).toNatClampNeg) ((s_19.1 1 0))))
def m_borehole_k69_s (σ : Sg) (cell : Int32) (dr : Int32) (x_3 : Int32) (s_8 : Sg) (s_14 : Sg) (s_19 : Sg) : Sg := (m_borehole_k82_s σ cell dr x_3 s_8 s_14 s_19 (si s_19 22 (((s_19.1 19 0)).toNatClampNeg) ((s_19.1 1 0))))
def m_borehole_k59 (σ : Sg) (cell : Int32) (dr : Int32) (x_3 : Int32) (s_8 : Sg) (s_14 : Sg) : Int32 := (m_borehole_k69 σ cell dr x_3 s_8 s_14 (si s_14 21 (((s_14.1 19 0)).toNatClampNeg) (dr)))
def m_borehole_k59_s (σ : Sg) (cell : Int32) (dr : Int32) (x_3 : Int32) (s_8 : Sg) (s_14 : Sg) : Sg := (m_borehole_k69_s σ cell dr x_3 s_8 s_14 (si s_14 21 (((s_14.1 19 0)).toNatClampNeg) (dr)))
def m_borehole_k44 (σ : Sg) (cell : Int32) (dr : Int32) (x_3 : Int32) (s_8 : Sg) : Int32 := (if (m_refused σ x_3) = 0 then (m_borehole_k59 σ cell dr x_3 s_8 (si s_8 20 (((s_8.1 19 0)).toNatClampNeg) (cell))) else nI (0))
def m_borehole_k44_s (σ : Sg) (cell : Int32) (dr : Int32) (x_3 : Int32) (s_8 : Sg) : Sg := (if (m_refused σ x_3) = 0 then (m_borehole_k59_s σ cell dr x_3 s_8 (si s_8 20 (((s_8.1 19 0)).toNatClampNeg) (cell))) else s_8)
def m_borehole_j41 (σ : Sg) (cell : Int32) (dr : Int32) (x_3 : Int32) : Int32 := (m_borehole_k44 σ cell dr x_3 (m_refused_s σ x_3))
def m_borehole_j41_s (σ : Sg) (cell : Int32) (dr : Int32) (x_3 : Int32) : Sg := (m_borehole_k44_s σ cell dr x_3 (m_refused_s σ x_3))
def m_borehole (σ : Sg) (cell : Int32) (dr : Int32) : Int32 := (m_borehole_j41 σ cell dr (if (m_isCell cell) = 0 then nI (1) else (if (m_within dr (-12) (nI (12))) = 0 then nI (2) else (if (σ.1 19 0) = nI (10) then nI (3) else nI (0)))))
def m_borehole_s (σ : Sg) (cell : Int32) (dr : Int32) : Sg := (m_borehole_j41_s σ cell dr (if (m_isCell cell) = 0 then nI (1) else (if (m_within dr (-12) (nI (12))) = 0 then nI (2) else (if (σ.1 19 0) = nI (10) then nI (3) else nI (0)))))
set_option maxHeartbeats 4000000 in
set_option maxRecDepth 100000 in
theorem cm_borehole (l : Launch) (G : va_G) (cI cZ : ClassId) (a : Nat → Nat) (σ : Sg) (cell : Int32) (dr : Int32) (hO : mOK σ) : mI l yX6_borehole wsX6_borehole ({ frames := 2, cells := 0, slots := 0, locals := 42 } : Room) G cI cZ a σ [.int (cell), .int (dr)] (m_borehole σ cell dr) (m_borehole_s σ cell dr) := by
  unfold mI
  refine Met.ofW (cc := cX6_borehole) (maxL := 3) (ret := (some .int)) (by decide) rfl ?_
  intro p e s m args below meth c s₁ B hml hv
  obtain ⟨rfl, hP, hK, hD⟩ := hv
  have hx := B.exec
  have hb := B.bytes
  have hr := B.returns
  have hts := atoms_spec (ws := wsX6_borehole) B.pre
  have hown : s.vm.findClass RX6 = some m.cls := findClass_of_methodNamed B.named
  have hlocks := B.notSynchronized
  have hS : va_S (mA a) s.heap s.heap [] := va_S.rf
  have hin : ∀ w ∈ wsX60, w ∈ wsX6_borehole := fun w h => List.mem_cons_of_mem _ (List.mem_append_right _ h)
  have hl := lv_entry ([.ref (a 0), .int (cell), .int (dr)]) (n := 3) (Nat.le_of_ble_eq_true rfl)
  rw [lg_entry_eq]
  generalize (lg_sl ([.ref (a 0), .int (cell), .int (dr)]) ++ List.replicate (3 - (lg_sl ([.ref (a 0), .int (cell), .int (dr)])).length) Slot.unset).toArray = ls at hl ⊢
  have hl : lv_has ls 3 [(0, .ref (a 0)), (1, .int (cell)), (2, .int (dr))] := hl
  refine w_named (fun WW hWW => ?_)
  have hP : va_P G vwCl (wm cI cZ a σ) s.heap := hP
  refine lv_aload_n hx hb dX6_borehole_0 rfl (lv_at hl 0 rfl) ?_
  refine lv_iload_n hx hb dX6_borehole_1 rfl (lv_at hl 1 rfl) ?_
  refine m_callS (As := [.int (cell)]) (rest := [.ref (a 0)]) ⟨hx, hb, hml, hown, hts⟩ (cm_isCell l cell ) (va_cwS 1 hts gX6_borehole_X6_isCell rfl rfl rfl (by decide +kernel) ⟨Nat.le_of_ble_eq_true rfl, Nat.le_of_ble_eq_true rfl⟩) hP hS rfl hl.1 rfl (Nat.le_of_ble_eq_true rfl) dX6_borehole_2 ⟨Nat.zero_le _, Nat.zero_le _⟩ (fun H locs hP hS => ?_)
  have J41_4 : ∀ (x_3 : Int32), x_3 = (if (m_isCell cell) = 0 then nI (1) else (if (m_within dr (-12) (nI (12))) = 0 then nI (2) else (if (σ.1 19 0) = nI (10) then nI (3) else nI (0)))) → ∀ (H : Heap) (locs : List Loc), va_P G vwCl (wm cI cZ a σ) H → va_D (mA a) (wm cI cZ a σ) → va_S (mA a) s.heap H locs → ∀ (ls : Array Slot), lv_has ls 3 [(0, .ref (a 0)), (1, .int (cell)), (2, .int (dr))] → WW H locs 0 0 (F0 m 41 ls [.int (x_3), .ref (a 0)]) := by
    intro x_3 h_5 H locs hP hD hS ls hl
    refine (hWW _ _ _ _ _).mpr ?_
    have hR_6 : m_borehole σ cell dr = m_borehole_j41 σ cell dr x_3 := (by have q_ := h_5.symm; subst q_; unfold m_borehole; rfl)
    have hR_7 : m_borehole_s σ cell dr = m_borehole_j41_s σ cell dr x_3 := (by have q_ := h_5.symm; subst q_; unfold m_borehole_s; rfl)
    refine m_callI (As := [.int (x_3)]) (rest := []) (fun _ h => h) ⟨hx, hb, hml, hown, hts⟩ (cm_refused l G cI cZ a σ  x_3 ) (cwV 1 hts gX6_borehole_X6_refused rfl rfl rfl (by decide +kernel) ⟨Nat.le_of_ble_eq_true rfl, Nat.le_of_ble_eq_true rfl⟩) hK hP hD hS rfl hl.1 rfl (Nat.le_of_ble_eq_true rfl) dX6_borehole_41 ⟨Nat.zero_le _, Nat.zero_le _⟩ (fun H locs hP hD _ _ hS => ?_)
    obtain ⟨s_8, e_9⟩ : ∃ z : Sg, z = (m_refused_s σ x_3) := ⟨_, rfl⟩
    rw [← e_9] at hP hD
    have kp_10 : s_8.1 19 0 = (m_refused_s σ x_3).1 19 0 := (congrArg (fun z : Sg => z.1 19 0) e_9).trans rfl
    have hR_11 : m_borehole σ cell dr = m_borehole_k44 σ cell dr x_3 s_8 := (Eq.trans hR_6 (by have q_ := e_9.symm; subst q_; unfold m_borehole_j41; rfl))
    have hR_12 : m_borehole_s σ cell dr = m_borehole_k44_s σ cell dr x_3 s_8 := (Eq.trans hR_7 (by have q_ := e_9.symm; subst q_; unfold m_borehole_j41_s; rfl))
    refine lv_if_eq (x := (m_refused σ x_3)) (tgt := 49) hx hb dX6_borehole_44 (by decide) (fun c_13 => ?_) (fun c_13 => ?_)
    · have hq : vp_in (σ.1 19 0) 10 := vp_ne hO.2.1 (ck_four h_5 (m_refused_0 c_13)).2.2
      refine lv_aload_n hx hb dX6_borehole_49 rfl (lv_at hl 0 rfl) ?_
      refine m_get (v := .ref (a 20)) hx hb hts hin hown hK hP 20 (by decide) rfl (index := 59) (List.mem_of_getElem? (i := 2) rfl) dX6_borehole_50 ?_
      refine lv_aload_n hx hb dX6_borehole_53 rfl (lv_at hl 0 rfl) ?_
      refine m_get (v := .int ((s_8.1 19 0))) hx hb hts hin hown hK hP 19 (by decide) rfl (index := 135) (List.mem_of_getElem? (i := 1) rfl) dX6_borehole_54 ?_
      refine lv_iload_n hx hb dX6_borehole_57 rfl (lv_at hl 1 rfl) ?_
      refine m_astI (j := (s_8.1 19 0)) (v := cell) hx hb hK hP hD hS 17 20 rfl rfl (by rw [kp_10]; exact hq) dX6_borehole_58 (fun H locs hP hD hS => ?_)
      obtain ⟨s_14, e_15⟩ : ∃ z : Sg, z = (si s_8 20 (((s_8.1 19 0)).toNatClampNeg) (cell)) := ⟨_, rfl⟩
      rw [← e_15] at hP hD
      have kp_16 : s_14.1 19 0 = (m_refused_s σ x_3).1 19 0 := (congrArg (fun z : Sg => z.1 19 0) e_15).trans kp_10
      have hR_17 : m_borehole σ cell dr = m_borehole_k59 σ cell dr x_3 s_8 s_14 := (Eq.trans hR_11 (by have q_ := e_15.symm; subst q_; unfold m_borehole_k44; simp only [if_pos c_13]))
      have hR_18 : m_borehole_s σ cell dr = m_borehole_k59_s σ cell dr x_3 s_8 s_14 := (Eq.trans hR_12 (by have q_ := e_15.symm; subst q_; unfold m_borehole_k44_s; simp only [if_pos c_13]))
      refine lv_aload_n hx hb dX6_borehole_59 rfl (lv_at hl 0 rfl) ?_
      refine m_get (v := .ref (a 21)) hx hb hts hin hown hK hP 21 (by decide) rfl (index := 62) (List.mem_of_getElem? (i := 3) rfl) dX6_borehole_60 ?_
      refine lv_aload_n hx hb dX6_borehole_63 rfl (lv_at hl 0 rfl) ?_
      refine m_get (v := .int ((s_14.1 19 0))) hx hb hts hin hown hK hP 19 (by decide) rfl (index := 135) (List.mem_of_getElem? (i := 1) rfl) dX6_borehole_64 ?_
      refine lv_iload_n hx hb dX6_borehole_67 rfl (lv_at hl 2 rfl) ?_
      refine m_astI (j := (s_14.1 19 0)) (v := dr) hx hb hK hP hD hS 18 21 rfl rfl (by rw [kp_16]; exact hq) dX6_borehole_68 (fun H locs hP hD hS => ?_)
      obtain ⟨s_19, e_20⟩ : ∃ z : Sg, z = (si s_14 21 (((s_14.1 19 0)).toNatClampNeg) (dr)) := ⟨_, rfl⟩
      rw [← e_20] at hP hD
      have kp_21 : s_19.1 19 0 = (m_refused_s σ x_3).1 19 0 := (congrArg (fun z : Sg => z.1 19 0) e_20).trans kp_16
      have hR_22 : m_borehole σ cell dr = m_borehole_k69 σ cell dr x_3 s_8 s_14 s_19 := (Eq.trans hR_17 (by have q_ := e_20.symm; subst q_; unfold m_borehole_k59; rfl))
      have hR_23 : m_borehole_s σ cell dr = m_borehole_k69_s σ cell dr x_3 s_8 s_14 s_19 := (Eq.trans hR_18 (by have q_ := e_20.symm; subst q_; unfold m_borehole_k59_s; rfl))
      refine lv_aload_n hx hb dX6_borehole_69 rfl (lv_at hl 0 rfl) ?_
      refine m_get (v := .ref (a 22)) hx hb hts hin hown hK hP 22 (by decide) rfl (index := 65) (List.mem_of_getElem? (i := 4) rfl) dX6_borehole_70 ?_
      refine lv_aload_n hx hb dX6_borehole_73 rfl (lv_at hl 0 rfl) ?_
      refine m_get (v := .int ((s_19.1 19 0))) hx hb hts hin hown hK hP 19 (by decide) rfl (index := 135) (List.mem_of_getElem? (i := 1) rfl) dX6_borehole_74 ?_
      refine lv_aload_n hx hb dX6_borehole_77 rfl (lv_at hl 0 rfl) ?_
      refine m_get (v := .int ((s_19.1 1 0))) hx hb hts hin hown hK hP 1 (by decide) rfl (index := 109) (List.mem_of_getElem? (i := 5) rfl) dX6_borehole_78 ?_
      refine m_astI (j := (s_19.1 19 0)) (v := (s_19.1 1 0)) hx hb hK hP hD hS 19 22 rfl rfl (by rw [kp_21]; exact hq) dX6_borehole_81 (fun H locs hP hD hS => ?_)
      obtain ⟨s_24, e_25⟩ : ∃ z : Sg, z = (si s_19 22 (((s_19.1 19 0)).toNatClampNeg) ((s_19.1 1 0))) := ⟨_, rfl⟩
      rw [← e_25] at hP hD
      have kp_26 : s_24.1 19 0 = (m_refused_s σ x_3).1 19 0 := (congrArg (fun z : Sg => z.1 19 0) e_25).trans kp_21
      have hR_27 : m_borehole σ cell dr = m_borehole_k82 σ cell dr x_3 s_8 s_14 s_19 s_24 := (Eq.trans hR_22 (by have q_ := e_25.symm; subst q_; unfold m_borehole_k69; rfl))
      have hR_28 : m_borehole_s σ cell dr = m_borehole_k82_s σ cell dr x_3 s_8 s_14 s_19 s_24 := (Eq.trans hR_23 (by have q_ := e_25.symm; subst q_; unfold m_borehole_k69_s; rfl))
      refine lv_aload_n hx hb dX6_borehole_82 rfl (lv_at hl 0 rfl) ?_
      refine lv_dup hx hb dX6_borehole_83 rfl ?_
      refine m_get (v := .int ((s_24.1 19 0))) hx hb hts hin hown hK hP 19 (by decide) rfl (index := 135) (List.mem_of_getElem? (i := 1) rfl) dX6_borehole_84 ?_
      refine lv_iconst (v := nI (1)) hx hb dX6_borehole_87 (by decide) ?_
      refine lv_iadd (x := (s_24.1 19 0)) (y := nI (1)) hx hb dX6_borehole_88 ?_
      refine m_putI (v := ((s_24.1 19 0)) + (nI (1))) hx hb hts hin hown hK hP hD hS 19 (by decide) rfl (by decide +kernel) rfl (index := 135) (List.mem_of_getElem? (i := 1) rfl) dX6_borehole_89 (fun H locs hP hD hS => ?_)
      obtain ⟨s_29, e_30⟩ : ∃ z : Sg, z = (si s_24 19 (0) (((s_24.1 19 0)) + (nI (1)))) := ⟨_, rfl⟩
      rw [← e_30] at hP hD
      have hR_32 : m_borehole σ cell dr = m_borehole_k92 σ cell dr x_3 s_8 s_14 s_19 s_24 s_29 := (Eq.trans hR_27 (by have q_ := e_30.symm; subst q_; unfold m_borehole_k82; rfl))
      have hR_33 : m_borehole_s σ cell dr = m_borehole_k92_s σ cell dr x_3 s_8 s_14 s_19 s_24 s_29 := (Eq.trans hR_28 (by have q_ := e_30.symm; subst q_; unfold m_borehole_k82_s; rfl))
      refine lv_aload_n hx hb dX6_borehole_92 rfl (lv_at hl 0 rfl) ?_
      refine m_get (v := .int ((s_29.1 19 0))) hx hb hts hin hown hK hP 19 (by decide) rfl (index := 135) (List.mem_of_getElem? (i := 1) rfl) dX6_borehole_93 ?_
      refine lv_iconst (v := nI (1)) hx hb dX6_borehole_96 (by decide) ?_
      refine lv_isub (x := (s_29.1 19 0)) (y := nI (1)) hx hb dX6_borehole_97 ?_
      exact m_iret (v := ((s_29.1 19 0)) - (nI (1))) hx hb hr hlocks hP hK hD hS dX6_borehole_98 (Eq.trans (by unfold m_borehole_k92; rfl) hR_32.symm) (Eq.trans (by unfold m_borehole_k92_s; rfl) hR_33.symm)
    · refine lv_iconst (v := nI (0)) hx hb dX6_borehole_47 (by decide) ?_
      exact m_iret (v := nI (0)) hx hb hr hlocks hP hK hD hS dX6_borehole_48 (Eq.trans (by unfold m_borehole_k44; simp only [if_neg c_13]) hR_11.symm) (Eq.trans (by unfold m_borehole_k44_s; simp only [if_neg c_13]) hR_12.symm)
  refine lv_if_ne (x := (m_isCell cell)) (tgt := 12) hx hb dX6_borehole_5 (by decide) (fun c_1 => ?_) (fun c_1 => ?_)
  · refine lv_iload_n hx hb dX6_borehole_12 rfl (lv_at hl 2 rfl) ?_
    refine lv_bipush (v := (-12)) hx hb dX6_borehole_13 (by decide) ?_
    refine lv_bipush (v := nI (12)) hx hb dX6_borehole_15 (by decide) ?_
    refine m_callS (As := [.int (dr), .int ((-12)), .int (nI (12))]) (rest := [.ref (a 0)]) ⟨hx, hb, hml, hown, hts⟩ (cm_within l dr (-12) (nI (12)) ) (va_cwS 3 hts gX6_borehole_X6_within rfl rfl rfl (by decide +kernel) ⟨Nat.le_of_ble_eq_true rfl, Nat.le_of_ble_eq_true rfl⟩) hP hS rfl hl.1 rfl (Nat.le_of_ble_eq_true rfl) dX6_borehole_17 ⟨Nat.zero_le _, Nat.zero_le _⟩ (fun H locs hP hS => ?_)
    refine lv_if_ne (x := (m_within dr (-12) (nI (12)))) (tgt := 27) hx hb dX6_borehole_20 (by decide) (fun c_34 => ?_) (fun c_34 => ?_)
    · refine lv_aload_n hx hb dX6_borehole_27 rfl (lv_at hl 0 rfl) ?_
      refine m_get (v := .int ((σ.1 19 0))) hx hb hts hin hown hK hP 19 (by decide) rfl (index := 135) (List.mem_of_getElem? (i := 1) rfl) dX6_borehole_28 ?_
      refine lv_bipush (v := nI (10)) hx hb dX6_borehole_31 (by decide) ?_
      refine lv_icmp_ne (x := (σ.1 19 0)) (y := nI (10)) (tgt := 40) hx hb dX6_borehole_33 (by decide) (fun c_35 => ?_) (fun c_35 => ?_)
      · refine lv_iconst (v := nI (0)) hx hb dX6_borehole_40 (by decide) ?_
        exact (hWW _ _ _ _ _).mp (J41_4 _ (by simp only [if_neg c_1, if_neg c_34, if_neg c_35]) _ _ hP hD hS _ (lv_sub hl [0, 1, 2] rfl))
      · refine lv_iconst (v := nI (3)) hx hb dX6_borehole_36 (by decide) ?_
        refine lv_goto (tgt := 41) hx hb dX6_borehole_37 (by decide) ?_
        exact (hWW _ _ _ _ _).mp (J41_4 _ (by simp only [if_neg c_1, if_neg c_34, if_pos c_35]) _ _ hP hD hS _ (lv_sub hl [0, 1, 2] rfl))
    · refine lv_iconst (v := nI (2)) hx hb dX6_borehole_23 (by decide) ?_
      refine lv_goto (tgt := 41) hx hb dX6_borehole_24 (by decide) ?_
      exact (hWW _ _ _ _ _).mp (J41_4 _ (by simp only [if_neg c_1, if_pos c_34]) _ _ hP hD hS _ (lv_sub hl [0, 1, 2] rfl))
  · refine lv_iconst (v := nI (1)) hx hb dX6_borehole_8 (by decide) ?_
    refine lv_goto (tgt := 41) hx hb dX6_borehole_9 (by decide) ?_
    exact (hWW _ _ _ _ _).mp (J41_4 _ (by simp only [if_pos c_1]) _ _ hP hD hS _ (lv_sub hl [0, 1, 2] rfl))
