def m_borehole_k92 (σ : Sg) (cell : Int32) (dr : Int32) (x_3 : Int32) (s_8 : Sg) (s_13 : Sg) (s_17 : Sg) (s_21 : Sg) (s_25 : Sg) : Int32 := ((s_25.1 19 0)) - (nI (1))
def m_borehole_k92_s (σ : Sg) (cell : Int32) (dr : Int32) (x_3 : Int32) (s_8 : Sg) (s_13 : Sg) (s_17 : Sg) (s_21 : Sg) (s_25 : Sg) : Sg := s_25
def m_borehole_k82 (σ : Sg) (cell : Int32) (dr : Int32) (x_3 : Int32) (s_8 : Sg) (s_13 : Sg) (s_17 : Sg) (s_21 : Sg) : Int32 := (m_borehole_k92 σ cell dr x_3 s_8 s_13 s_17 s_21 (si s_21 19 (0) (((s_21.1 19 0)) + (nI (1)))))
def m_borehole_k82_s (σ : Sg) (cell : Int32) (dr : Int32) (x_3 : Int32) (s_8 : Sg) (s_13 : Sg) (s_17 : Sg) (s_21 : Sg) : Sg := (m_borehole_k92_s σ cell dr x_3 s_8 s_13 s_17 s_21 (si s_21 19 (0) (((s_21.1 19 0)) + (nI (1)))))
def m_borehole_k69 (σ : Sg) (cell : Int32) (dr : Int32) (x_3 : Int32) (s_8 : Sg) (s_13 : Sg) (s_17 : Sg) : Int32 := (m_borehole_k82 σ cell dr x_3 s_8 s_13 s_17 (si s_17 22 (((s_17.1 19 0)).toNatClampNeg) ((s_17.1 1 0))))
def m_borehole_k69_s (σ : Sg) (cell : Int32) (dr : Int32) (x_3 : Int32) (s_8 : Sg) (s_13 : Sg) (s_17 : Sg) : Sg := (m_borehole_k82_s σ cell dr x_3 s_8 s_13 s_17 (si s_17 22 (((s_17.1 19 0)).toNatClampNeg) ((s_17.1 1 0))))
def m_borehole_k59 (σ : Sg) (cell : Int32) (dr : Int32) (x_3 : Int32) (s_8 : Sg) (s_13 : Sg) : Int32 := (m_borehole_k69 σ cell dr x_3 s_8 s_13 (si s_13 21 (((s_13.1 19 0)).toNatClampNeg) (dr)))
def m_borehole_k59_s (σ : Sg) (cell : Int32) (dr : Int32) (x_3 : Int32) (s_8 : Sg) (s_13 : Sg) : Sg := (m_borehole_k69_s σ cell dr x_3 s_8 s_13 (si s_13 21 (((s_13.1 19 0)).toNatClampNeg) (dr)))
def m_borehole_k44 (σ : Sg) (cell : Int32) (dr : Int32) (x_3 : Int32) (s_8 : Sg) : Int32 := (if (m_refused σ x_3) = 0 then (m_borehole_k59 σ cell dr x_3 s_8 (si s_8 20 (((s_8.1 19 0)).toNatClampNeg) (cell))) else nI (0))
def m_borehole_k44_s (σ : Sg) (cell : Int32) (dr : Int32) (x_3 : Int32) (s_8 : Sg) : Sg := (if (m_refused σ x_3) = 0 then (m_borehole_k59_s σ cell dr x_3 s_8 (si s_8 20 (((s_8.1 19 0)).toNatClampNeg) (cell))) else s_8)
def m_borehole_j41 (σ : Sg) (cell : Int32) (dr : Int32) (x_3 : Int32) : Int32 := (m_borehole_k44 σ cell dr x_3 (m_refused_s σ x_3))
def m_borehole_j41_s (σ : Sg) (cell : Int32) (dr : Int32) (x_3 : Int32) : Sg := (m_borehole_k44_s σ cell dr x_3 (m_refused_s σ x_3))
def m_borehole (σ : Sg) (cell : Int32) (dr : Int32) : Int32 := (m_borehole_j41 σ cell dr (if (m_isCell cell) = 0 then nI (1) else (if (m_within dr (-12) (nI (12))) = 0 then nI (2) else (if (σ.1 19 0) = nI (10) then nI (3) else nI (0)))))
def m_borehole_s (σ : Sg) (cell : Int32) (dr : Int32) : Sg := (m_borehole_j41_s σ cell dr (if (m_isCell cell) = 0 then nI (1) else (if (m_within dr (-12) (nI (12))) = 0 then nI (2) else (if (σ.1 19 0) = nI (10) then nI (3) else nI (0)))))
set_option maxHeartbeats 4000000 in
set_option maxRecDepth 100000 in
theorem cm_borehole (l : Launch) (G : va_G) (cI cZ : ClassId) (a : Nat → Nat) (σ : Sg) (cell : Int32) (dr : Int32) (hO : mOK σ) : mI l yX6_borehole wsX6_borehole ({ frames := 2, cells := 0, slots := 0, locals := 42 } : Room) G cI cZ a σ [.int (cell), .int (dr)] (m_borehole σ cell dr) (m_borehole_s σ cell dr) := by
  unfold mI
  refine Met.ofW (cc := cX6_borehole) (maxL := 3) (ret := (some .int)) (by decide) rfl ?_
  intro p e s m args below meth c s₁ B hml hv
  obtain ⟨rfl, hP, hK, hD⟩ := hv
  have hx := B.exec
  have hb := B.bytes
  have hr := B.returns
  have hts := atoms_spec (ws := wsX6_borehole) B.pre
  have hown : s.vm.findClass RX6 = some m.cls := findClass_of_methodNamed B.named
  have hlocks := B.notSynchronized
  have hS : va_S (mA a) s.heap s.heap [] := va_S.rf
  have hin : ∀ w ∈ wsX60, w ∈ wsX6_borehole := fun w h => List.mem_cons_of_mem _ (List.mem_append_right _ h)
  have hl := lv_entry ([.ref (a 0), .int (cell), .int (dr)]) (n := 3) (Nat.le_of_ble_eq_true rfl)
  rw [lg_entry_eq]
  generalize (lg_sl ([.ref (a 0), .int (cell), .int (dr)]) ++ List.replicate (3 - (lg_sl ([.ref (a 0), .int (cell), .int (dr)])).length) Slot.unset).toArray = ls at hl ⊢
  have hl : lv_has ls 3 [(0, .ref (a 0)), (1, .int (cell)), (2, .int (dr))] := hl
  refine w_named (fun WW hWW => ?_)
  have hP : va_P G vwCl (wm cI cZ a σ) s.heap := hP
  refine lv_aload_n hx hb dX6_borehole_0 rfl (lv_at hl 0 rfl) ?_
  refine lv_iload_n hx hb dX6_borehole_1 rfl (lv_at hl 1 rfl) ?_
  refine m_callS (As := [.int (cell)]) (rest := [.ref (a 0)]) ⟨hx, hb, hml, hown, hts⟩ (cm_isCell l cell ) (va_cwS 1 hts gX6_borehole_X6_isCell rfl rfl rfl (by decide +kernel) ⟨Nat.le_of_ble_eq_true rfl, Nat.le_of_ble_eq_true rfl⟩) hP hS rfl hl.1 rfl (Nat.le_of_ble_eq_true rfl) dX6_borehole_2 ⟨Nat.zero_le _, Nat.zero_le _⟩ (fun H locs hP hS => ?_)
  have J41_4 : ∀ (x_3 : Int32), x_3 = (if (m_isCell cell) = 0 then nI (1) else (if (m_within dr (-12) (nI (12))) = 0 then nI (2) else (if (σ.1 19 0) = nI (10) then nI (3) else nI (0)))) → ∀ (H : Heap) (locs : List Loc), va_P G vwCl (wm cI cZ a σ) H → va_D (mA a) (wm cI cZ a σ) → va_S (mA a) s.heap H locs → ∀ (ls : Array Slot), lv_has ls 3 [(0, .ref (a 0)), (1, .int (cell)), (2, .int (dr))] → WW H locs 0 0 (F0 m 41 ls [.int (x_3), .ref (a 0)]) := by
    intro x_3 h_5 H locs hP hD hS ls hl
    refine (hWW _ _ _ _ _).mpr ?_
    have hR_6 : m_borehole σ cell dr = m_borehole_j41 σ cell dr x_3 := (by subst h_5; unfold m_borehole; rfl)
    have hR_7 : m_borehole_s σ cell dr = m_borehole_j41_s σ cell dr x_3 := (by subst h_5; unfold m_borehole_s; rfl)
    refine m_callI (As := [.int (x_3)]) (rest := []) (fun _ h => h) ⟨hx, hb, hml, hown, hts⟩ (cm_refused l G cI cZ a σ  x_3 ) (cwV 1 hts gX6_borehole_X6_refused rfl rfl rfl (by decide +kernel) ⟨Nat.le_of_ble_eq_true rfl, Nat.le_of_ble_eq_true rfl⟩) hK hP hD hS rfl hl.1 rfl (Nat.le_of_ble_eq_true rfl) dX6_borehole_41 ⟨Nat.zero_le _, Nat.zero_le _⟩ (fun H locs hP hD _ _ hS => ?_)
    obtain ⟨s_8, e_9⟩ : ∃ z : Sg, z = (m_refused_s σ x_3) := ⟨_, rfl⟩
    rw [← e_9] at hP hD
    have hR_10 : m_borehole σ cell dr = m_borehole_k44 σ cell dr x_3 s_8 := (Eq.trans hR_6 (by subst e_9; unfold m_borehole_j41; rfl))
    have hR_11 : m_borehole_s σ cell dr = m_borehole_k44_s σ cell dr x_3 s_8 := (Eq.trans hR_7 (by subst e_9; unfold m_borehole_j41_s; rfl))
    refine lv_if_eq (x := (m_refused σ x_3)) (tgt := 49) hx hb dX6_borehole_44 (by decide) (fun c_12 => ?_) (fun c_12 => ?_)
    · have hq : vp_in (σ.1 19 0) 10 := vp_ne hO.2.1 (ck_four h_5 (m_refused_0 c_12)).2.2
      refine lv_aload_n hx hb dX6_borehole_49 rfl (lv_at hl 0 rfl) ?_
      refine m_get (v := .ref (a 20)) hx hb hts hin hown hK hP 20 (by decide) rfl (index := 59) (List.mem_of_getElem? (i := 2) rfl) dX6_borehole_50 ?_
      refine lv_aload_n hx hb dX6_borehole_53 rfl (lv_at hl 0 rfl) ?_
      refine m_get (v := .int ((s_8.1 19 0))) hx hb hts hin hown hK hP 19 (by decide) rfl (index := 135) (List.mem_of_getElem? (i := 1) rfl) dX6_borehole_54 ?_
      refine lv_iload_n hx hb dX6_borehole_57 rfl (lv_at hl 1 rfl) ?_
      refine m_astI (j := (s_8.1 19 0)) (v := cell) hx hb hK hP hD hS 17 20 rfl rfl (hq) dX6_borehole_58 (fun H locs hP hD hS => ?_)
      obtain ⟨s_13, e_14⟩ : ∃ z : Sg, z = (si s_8 20 (((s_8.1 19 0)).toNatClampNeg) (cell)) := ⟨_, rfl⟩
      rw [← e_14] at hP hD
      have hR_15 : m_borehole σ cell dr = m_borehole_k59 σ cell dr x_3 s_8 s_13 := (Eq.trans hR_10 (by subst e_14; unfold m_borehole_k44; simp only [if_pos c_12]))
      have hR_16 : m_borehole_s σ cell dr = m_borehole_k59_s σ cell dr x_3 s_8 s_13 := (Eq.trans hR_11 (by subst e_14; unfold m_borehole_k44_s; simp only [if_pos c_12]))
      refine lv_aload_n hx hb dX6_borehole_59 rfl (lv_at hl 0 rfl) ?_
      refine m_get (v := .ref (a 21)) hx hb hts hin hown hK hP 21 (by decide) rfl (index := 62) (List.mem_of_getElem? (i := 3) rfl) dX6_borehole_60 ?_
      refine lv_aload_n hx hb dX6_borehole_63 rfl (lv_at hl 0 rfl) ?_
      refine m_get (v := .int ((s_13.1 19 0))) hx hb hts hin hown hK hP 19 (by decide) rfl (index := 135) (List.mem_of_getElem? (i := 1) rfl) dX6_borehole_64 ?_
      refine lv_iload_n hx hb dX6_borehole_67 rfl (lv_at hl 2 rfl) ?_
      refine m_astI (j := (s_13.1 19 0)) (v := dr) hx hb hK hP hD hS 18 21 rfl rfl (hq) dX6_borehole_68 (fun H locs hP hD hS => ?_)
      obtain ⟨s_17, e_18⟩ : ∃ z : Sg, z = (si s_13 21 (((s_13.1 19 0)).toNatClampNeg) (dr)) := ⟨_, rfl⟩
      rw [← e_18] at hP hD
      have hR_19 : m_borehole σ cell dr = m_borehole_k69 σ cell dr x_3 s_8 s_13 s_17 := (Eq.trans hR_15 (by subst e_18; unfold m_borehole_k59; rfl))
      have hR_20 : m_borehole_s σ cell dr = m_borehole_k69_s σ cell dr x_3 s_8 s_13 s_17 := (Eq.trans hR_16 (by subst e_18; unfold m_borehole_k59_s; rfl))
      refine lv_aload_n hx hb dX6_borehole_69 rfl (lv_at hl 0 rfl) ?_
      refine m_get (v := .ref (a 22)) hx hb hts hin hown hK hP 22 (by decide) rfl (index := 65) (List.mem_of_getElem? (i := 4) rfl) dX6_borehole_70 ?_
      refine lv_aload_n hx hb dX6_borehole_73 rfl (lv_at hl 0 rfl) ?_
      refine m_get (v := .int ((s_17.1 19 0))) hx hb hts hin hown hK hP 19 (by decide) rfl (index := 135) (List.mem_of_getElem? (i := 1) rfl) dX6_borehole_74 ?_
      refine lv_aload_n hx hb dX6_borehole_77 rfl (lv_at hl 0 rfl) ?_
      refine m_get (v := .int ((s_17.1 1 0))) hx hb hts hin hown hK hP 1 (by decide) rfl (index := 109) (List.mem_of_getElem? (i := 5) rfl) dX6_borehole_78 ?_
      refine m_astI (j := (s_17.1 19 0)) (v := (s_17.1 1 0)) hx hb hK hP hD hS 19 22 rfl rfl (hq) dX6_borehole_81 (fun H locs hP hD hS => ?_)
      obtain ⟨s_21, e_22⟩ : ∃ z : Sg, z = (si s_17 22 (((s_17.1 19 0)).toNatClampNeg) ((s_17.1 1 0))) := ⟨_, rfl⟩
      rw [← e_22] at hP hD
      have hR_23 : m_borehole σ cell dr = m_borehole_k82 σ cell dr x_3 s_8 s_13 s_17 s_21 := (Eq.trans hR_19 (by subst e_22; unfold m_borehole_k69; rfl))
      have hR_24 : m_borehole_s σ cell dr = m_borehole_k82_s σ cell dr x_3 s_8 s_13 s_17 s_21 := (Eq.trans hR_20 (by subst e_22; unfold m_borehole_k69_s; rfl))
      refine lv_aload_n hx hb dX6_borehole_82 rfl (lv_at hl 0 rfl) ?_
      refine lv_dup hx hb dX6_borehole_83 rfl ?_
      refine m_get (v := .int ((s_21.1 19 0))) hx hb hts hin hown hK hP 19 (by decide) rfl (index := 135) (List.mem_of_getElem? (i := 1) rfl) dX6_borehole_84 ?_
      refine lv_iconst (v := nI (1)) hx hb dX6_borehole_87 (by decide) ?_
      refine lv_iadd (x := (s_21.1 19 0)) (y := nI (1)) hx hb dX6_borehole_88 ?_
      refine m_putI (v := ((s_21.1 19 0)) + (nI (1))) hx hb hts hin hown hK hP hD hS 19 (by decide) rfl (by decide +kernel) rfl (index := 135) (List.mem_of_getElem? (i := 1) rfl) dX6_borehole_89 (fun H locs hP hD hS => ?_)
      obtain ⟨s_25, e_26⟩ : ∃ z : Sg, z = (si s_21 19 (0) (((s_21.1 19 0)) + (nI (1)))) := ⟨_, rfl⟩
      rw [← e_26] at hP hD
      have hR_27 : m_borehole σ cell dr = m_borehole_k92 σ cell dr x_3 s_8 s_13 s_17 s_21 s_25 := (Eq.trans hR_23 (by subst e_26; unfold m_borehole_k82; rfl))
      have hR_28 : m_borehole_s σ cell dr = m_borehole_k92_s σ cell dr x_3 s_8 s_13 s_17 s_21 s_25 := (Eq.trans hR_24 (by subst e_26; unfold m_borehole_k82_s; rfl))
      refine lv_aload_n hx hb dX6_borehole_92 rfl (lv_at hl 0 rfl) ?_
      refine m_get (v := .int ((s_25.1 19 0))) hx hb hts hin hown hK hP 19 (by decide) rfl (index := 135) (List.mem_of_getElem? (i := 1) rfl) dX6_borehole_93 ?_
      refine lv_iconst (v := nI (1)) hx hb dX6_borehole_96 (by decide) ?_
      refine lv_isub (x := (s_25.1 19 0)) (y := nI (1)) hx hb dX6_borehole_97 ?_
      exact m_iret (v := ((s_25.1 19 0)) - (nI (1))) hx hb hr hlocks hP hK hD hS dX6_borehole_98 (Eq.trans (by unfold m_borehole_k92; rfl) hR_27.symm) (Eq.trans (by unfold m_borehole_k92_s; rfl) hR_28.symm)
    · refine lv_iconst (v := nI (0)) hx hb dX6_borehole_47 (by decide) ?_
      exact m_iret (v := nI (0)) hx hb hr hlocks hP hK hD hS dX6_borehole_48 (Eq.trans (by unfold m_borehole_k44; simp only [if_neg c_12]) hR_10.symm) (Eq.trans (by unfold m_borehole_k44_s; simp only [if_neg c_12]) hR_11.symm)
  refine lv_if_ne (x := (m_isCell cell)) (tgt := 12) hx hb dX6_borehole_5 (by decide) (fun c_1 => ?_) (fun c_1 => ?_)
  · refine lv_iload_n hx hb dX6_borehole_12 rfl (lv_at hl 2 rfl) ?_
    refine lv_bipush (v := (-12)) hx hb dX6_borehole_13 (by decide) ?_
    refine lv_bipush (v := nI (12)) hx hb dX6_borehole_15 (by decide) ?_
    refine m_callS (As := [.int (dr), .int ((-12)), .int (nI (12))]) (rest := [.ref (a 0)]) ⟨hx, hb, hml, hown, hts⟩ (cm_within l dr (-12) (nI (12)) ) (va_cwS 3 hts gX6_borehole_X6_within rfl rfl rfl (by decide +kernel) ⟨Nat.le_of_ble_eq_true rfl, Nat.le_of_ble_eq_true rfl⟩) hP hS rfl hl.1 rfl (Nat.le_of_ble_eq_true rfl) dX6_borehole_17 ⟨Nat.zero_le _, Nat.zero_le _⟩ (fun H locs hP hS => ?_)
    refine lv_if_ne (x := (m_within dr (-12) (nI (12)))) (tgt := 27) hx hb dX6_borehole_20 (by decide) (fun c_29 => ?_) (fun c_29 => ?_)
    · refine lv_aload_n hx hb dX6_borehole_27 rfl (lv_at hl 0 rfl) ?_
      refine m_get (v := .int ((σ.1 19 0))) hx hb hts hin hown hK hP 19 (by decide) rfl (index := 135) (List.mem_of_getElem? (i := 1) rfl) dX6_borehole_28 ?_
      refine lv_bipush (v := nI (10)) hx hb dX6_borehole_31 (by decide) ?_
      refine lv_icmp_ne (x := (σ.1 19 0)) (y := nI (10)) (tgt := 40) hx hb dX6_borehole_33 (by decide) (fun c_30 => ?_) (fun c_30 => ?_)
      · refine lv_iconst (v := nI (0)) hx hb dX6_borehole_40 (by decide) ?_
        exact (hWW _ _ _ _ _).mp (J41_4 _ (by simp only [if_neg c_1, if_neg c_29, if_neg c_30]) _ _ hP hD hS _ (lv_sub hl [0, 1, 2] rfl))
      · refine lv_iconst (v := nI (3)) hx hb dX6_borehole_36 (by decide) ?_
        refine lv_goto (tgt := 41) hx hb dX6_borehole_37 (by decide) ?_
        exact (hWW _ _ _ _ _).mp (J41_4 _ (by simp only [if_neg c_1, if_neg c_29, if_pos c_30]) _ _ hP hD hS _ (lv_sub hl [0, 1, 2] rfl))
    · refine lv_iconst (v := nI (2)) hx hb dX6_borehole_23 (by decide) ?_
      refine lv_goto (tgt := 41) hx hb dX6_borehole_24 (by decide) ?_
      exact (hWW _ _ _ _ _).mp (J41_4 _ (by simp only [if_neg c_1, if_pos c_29]) _ _ hP hD hS _ (lv_sub hl [0, 1, 2] rfl))
  · refine lv_iconst (v := nI (1)) hx hb dX6_borehole_8 (by decide) ?_
    refine lv_goto (tgt := 41) hx hb dX6_borehole_9 (by decide) ?_
    exact (hWW _ _ _ _ _).mp (J41_4 _ (by simp only [if_pos c_1]) _ _ hP hD hS _ (lv_sub hl [0, 1, 2] rfl))
