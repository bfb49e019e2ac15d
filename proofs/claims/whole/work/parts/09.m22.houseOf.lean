def m_houseOf_j93 (σ : Sg) (h : Int32) (what : Int32) (x_3 : Int32) (s_8 : Sg) (x_16 : Int32) : Int32 := x_16
def m_houseOf_j93_s (σ : Sg) (h : Int32) (what : Int32) (x_3 : Int32) (s_8 : Sg) (x_16 : Int32) : Sg := s_8
def m_houseOf_j59 (σ : Sg) (h : Int32) (what : Int32) (x_3 : Int32) (s_8 : Sg) (x_24 : Int32) : Int32 := x_24
def m_houseOf_j59_s (σ : Sg) (h : Int32) (what : Int32) (x_3 : Int32) (s_8 : Sg) (x_24 : Int32) : Sg := s_8
def m_houseOf_k30 (σ : Sg) (h : Int32) (what : Int32) (x_3 : Int32) (s_8 : Sg) : Int32 := (if (m_refused σ x_3) = 0 then (if nI (2) ≤ what then (m_houseOf_j93 σ h what x_3 s_8 (if what = nI (2) then (s_8.1 17 ((h).toNatClampNeg)) else (if what = nI (3) then (s_8.1 18 ((h).toNatClampNeg)) else (m_worth s_8 h)))) else (m_houseOf_j59 σ h what x_3 s_8 (if what = 0 then (s_8.1 14 ((h).toNatClampNeg)) else (s_8.1 15 ((h).toNatClampNeg))))) else nI (0))
def m_houseOf_k30_s (σ : Sg) (h : Int32) (what : Int32) (x_3 : Int32) (s_8 : Sg) : Sg := (if (m_refused σ x_3) = 0 then (if nI (2) ≤ what then (m_houseOf_j93_s σ h what x_3 s_8 (if what = nI (2) then (s_8.1 17 ((h).toNatClampNeg)) else (if what = nI (3) then (s_8.1 18 ((h).toNatClampNeg)) else (m_worth s_8 h)))) else (m_houseOf_j59_s σ h what x_3 s_8 (if what = 0 then (s_8.1 14 ((h).toNatClampNeg)) else (s_8.1 15 ((h).toNatClampNeg))))) else s_8)
def m_houseOf_j27 (σ : Sg) (h : Int32) (what : Int32) (x_3 : Int32) : Int32 := (m_houseOf_k30 σ h what x_3 (m_refused_s σ x_3))
def m_houseOf_j27_s (σ : Sg) (h : Int32) (what : Int32) (x_3 : Int32) : Sg := (m_houseOf_k30_s σ h what x_3 (m_refused_s σ x_3))
def m_houseOf (σ : Sg) (h : Int32) (what : Int32) : Int32 := (m_houseOf_j27 σ h what (if (m_isHouse σ h) = 0 then nI (1) else (if (m_within what (nI (0)) (nI (4))) = 0 then nI (2) else nI (0))))
def m_houseOf_s (σ : Sg) (h : Int32) (what : Int32) : Sg := (m_houseOf_j27_s σ h what (if (m_isHouse σ h) = 0 then nI (1) else (if (m_within what (nI (0)) (nI (4))) = 0 then nI (2) else nI (0))))
set_option maxHeartbeats 4000000 in
set_option maxRecDepth 100000 in
theorem cm_houseOf (l : Launch) (G : va_G) (cI cZ : ClassId) (a : Nat → Nat) (σ : Sg) (h : Int32) (what : Int32) (hO : mOK σ) : mI l yX6_houseOf wsX6_houseOf ({ frames := 2, cells := 0, slots := 0, locals := 47 } : Room) G cI cZ a σ [.int (h), .int (what)] (m_houseOf σ h what) (m_houseOf_s σ h what) := by
  unfold mI
  refine Met.ofW (cc := cX6_houseOf) (maxL := 3) (ret := (some .int)) (by decide) rfl ?_
  intro p e s m args below meth c s₁ B hml hv
  obtain ⟨rfl, hP, hK, hD⟩ := hv
  have hx := B.exec
  have hb := B.bytes
  have hr := B.returns
  have hts := atoms_spec (ws := wsX6_houseOf) B.pre
  have hown : s.vm.findClass RX6 = some m.cls := findClass_of_methodNamed B.named
  have hlocks := B.notSynchronized
  have hS : va_S (mA a) s.heap s.heap [] := va_S.rf
  have hin : ∀ w ∈ wsX60, w ∈ wsX6_houseOf := fun w h => List.mem_cons_of_mem _ (List.mem_append_right _ h)
  have hl := lv_entry ([.ref (a 0), .int (h), .int (what)]) (n := 3) (Nat.le_of_ble_eq_true rfl)
  rw [lg_entry_eq]
  generalize (lg_sl ([.ref (a 0), .int (h), .int (what)]) ++ List.replicate (3 - (lg_sl ([.ref (a 0), .int (h), .int (what)])).length) Slot.unset).toArray = ls at hl ⊢
  have hl : lv_has ls 3 [(0, .ref (a 0)), (1, .int (h)), (2, .int (what))] := hl
  refine w_named (fun WW hWW => ?_)
  have hP : va_P G vwCl (wm cI cZ a σ) s.heap := hP
  refine lv_aload_n hx hb dX6_houseOf_0 rfl (lv_at hl 0 rfl) ?_
  refine lv_aload_n hx hb dX6_houseOf_1 rfl (lv_at hl 0 rfl) ?_
  refine lv_iload_n hx hb dX6_houseOf_2 rfl (lv_at hl 1 rfl) ?_
  refine m_callI (As := [.int (h)]) (rest := [.ref (a 0)]) (fun _ h => h) ⟨hx, hb, hml, hown, hts⟩ (cm_isHouse l G cI cZ a σ  h ) (cwV 1 hts gX6_houseOf_X6_isHouse rfl rfl rfl (by decide +kernel) ⟨Nat.le_of_ble_eq_true rfl, Nat.le_of_ble_eq_true rfl⟩) hK hP hD hS rfl hl.1 rfl (Nat.le_of_ble_eq_true rfl) dX6_houseOf_3 ⟨Nat.zero_le _, Nat.zero_le _⟩ (fun H locs hP hD _ _ hS => ?_)
  have J27_4 : ∀ (x_3 : Int32), x_3 = (if (m_isHouse σ h) = 0 then nI (1) else (if (m_within what (nI (0)) (nI (4))) = 0 then nI (2) else nI (0))) → ∀ (H : Heap) (locs : List Loc), va_P G vwCl (wm cI cZ a σ) H → va_D (mA a) (wm cI cZ a σ) → va_S (mA a) s.heap H locs → ∀ (ls : Array Slot), lv_has ls 3 [(0, .ref (a 0)), (1, .int (h)), (2, .int (what))] → WW H locs 0 0 (F0 m 27 ls [.int (x_3), .ref (a 0)]) := by
    intro x_3 h_5 H locs hP hD hS ls hl
    refine (hWW _ _ _ _ _).mpr ?_
    have hR_6 : m_houseOf σ h what = m_houseOf_j27 σ h what x_3 := (by have q_ := h_5.symm; subst q_; unfold m_houseOf; rfl)
    have hR_7 : m_houseOf_s σ h what = m_houseOf_j27_s σ h what x_3 := (by have q_ := h_5.symm; subst q_; unfold m_houseOf_s; rfl)
    refine m_callI (As := [.int (x_3)]) (rest := []) (fun _ h => h) ⟨hx, hb, hml, hown, hts⟩ (cm_refused l G cI cZ a σ  x_3 ) (cwV 1 hts gX6_houseOf_X6_refused rfl rfl rfl (by decide +kernel) ⟨Nat.le_of_ble_eq_true rfl, Nat.le_of_ble_eq_true rfl⟩) hK hP hD hS rfl hl.1 rfl (Nat.le_of_ble_eq_true rfl) dX6_houseOf_27 ⟨Nat.zero_le _, Nat.zero_le _⟩ (fun H locs hP hD _ _ hS => ?_)
    obtain ⟨s_8, e_9⟩ : ∃ z : Sg, z = (m_refused_s σ x_3) := ⟨_, rfl⟩
    rw [← e_9] at hP hD
    have hR_10 : m_houseOf σ h what = m_houseOf_k30 σ h what x_3 s_8 := (Eq.trans hR_6 (by have q_ := e_9.symm; subst q_; unfold m_houseOf_j27; rfl))
    have hR_11 : m_houseOf_s σ h what = m_houseOf_k30_s σ h what x_3 s_8 := (Eq.trans hR_7 (by have q_ := e_9.symm; subst q_; unfold m_houseOf_j27_s; rfl))
    refine lv_if_eq (x := (m_refused σ x_3)) (tgt := 35) hx hb dX6_houseOf_30 (by decide) (fun c_12 => ?_) (fun c_12 => ?_)
    · have hh : vp_in h (σ.1 13 0).toNatClampNeg := w_below hO.1 (by decide) (ck_tri h_5 (m_refused_0 c_12)).1
      have h13 := vp_lt hO.1
      have hq : vp_in h 10 := vp_wide hh (by omega)
      refine lv_iload_n hx hb dX6_houseOf_35 rfl (lv_at hl 2 rfl) ?_
      refine lv_iconst (v := nI (2)) hx hb dX6_houseOf_36 (by decide) ?_
      refine lv_icmp_ge (x := what) (y := nI (2)) (tgt := 60) hx hb dX6_houseOf_37 (by decide) (fun c_13 => ?_) (fun c_13 => ?_)
      · refine lv_iload_n hx hb dX6_houseOf_60 rfl (lv_at hl 2 rfl) ?_
        refine lv_iconst (v := nI (2)) hx hb dX6_houseOf_61 (by decide) ?_
        have J93_17 : ∀ (x_16 : Int32), x_16 = (if what = nI (2) then (s_8.1 17 ((h).toNatClampNeg)) else (if what = nI (3) then (s_8.1 18 ((h).toNatClampNeg)) else (m_worth s_8 h))) → ∀ (H : Heap) (locs : List Loc), va_P G vwCl (wm cI cZ a s_8) H → va_D (mA a) (wm cI cZ a s_8) → va_S (mA a) s.heap H locs → ∀ (ls : Array Slot), lv_has ls 3 [(0, .ref (a 0)), (1, .int (h)), (2, .int (what))] → WW H locs 0 0 (F0 m 93 ls [.int (x_16)]) := by
          intro x_16 h_18 H locs hP hD hS ls hl
          refine (hWW _ _ _ _ _).mpr ?_
          have hR_19 : m_houseOf σ h what = m_houseOf_j93 σ h what x_3 s_8 x_16 := (Eq.trans hR_10 (by have q_ := h_18.symm; subst q_; unfold m_houseOf_k30; simp only [if_pos c_12, if_pos c_13]))
          have hR_20 : m_houseOf_s σ h what = m_houseOf_j93_s σ h what x_3 s_8 x_16 := (Eq.trans hR_11 (by have q_ := h_18.symm; subst q_; unfold m_houseOf_k30_s; simp only [if_pos c_12, if_pos c_13]))
          exact m_iret (v := x_16) hx hb hr hlocks hP hK hD hS dX6_houseOf_93 (Eq.trans (by unfold m_houseOf_j93; rfl) hR_19.symm) (Eq.trans (by unfold m_houseOf_j93_s; rfl) hR_20.symm)
        refine lv_icmp_ne (x := what) (y := nI (2)) (tgt := 74) hx hb dX6_houseOf_62 (by decide) (fun c_14 => ?_) (fun c_14 => ?_)
        · refine lv_iload_n hx hb dX6_houseOf_74 rfl (lv_at hl 2 rfl) ?_
          refine lv_iconst (v := nI (3)) hx hb dX6_houseOf_75 (by decide) ?_
          refine lv_icmp_ne (x := what) (y := nI (3)) (tgt := 88) hx hb dX6_houseOf_76 (by decide) (fun c_21 => ?_) (fun c_21 => ?_)
          · refine lv_aload_n hx hb dX6_houseOf_88 rfl (lv_at hl 0 rfl) ?_
            refine lv_iload_n hx hb dX6_houseOf_89 rfl (lv_at hl 1 rfl) ?_
            refine m_callI (As := [.int (h)]) (rest := []) (fun _ h => h) ⟨hx, hb, hml, hown, hts⟩ (cm_worth l G cI cZ a s_8  h (by rw [e_9]; exact hO) (by rw [e_9]; exact hh)) (cwV 1 hts gX6_houseOf_X6_worth rfl rfl rfl (by decide +kernel) ⟨Nat.le_of_ble_eq_true rfl, Nat.le_of_ble_eq_true rfl⟩) hK hP hD hS rfl hl.1 rfl (Nat.le_of_ble_eq_true rfl) dX6_houseOf_90 ⟨Nat.zero_le _, Nat.zero_le _⟩ (fun H locs hP hD _ _ hS => ?_)
            exact (hWW _ _ _ _ _).mp (J93_17 _ (by simp only [if_neg c_14, if_neg c_21]) _ _ hP hD hS _ (lv_sub hl [0, 1, 2] rfl))
          · refine lv_aload_n hx hb dX6_houseOf_79 rfl (lv_at hl 0 rfl) ?_
            refine m_get (v := .ref (a 18)) hx hb hts hin hown hK hP 18 (by decide) rfl (index := 56) (List.mem_of_getElem? (i := 4) rfl) dX6_houseOf_80 ?_
            refine lv_iload_n hx hb dX6_houseOf_83 rfl (lv_at hl 1 rfl) ?_
            refine m_aldI (j := h) hx hb hK hP 16 18 rfl (hq) dX6_houseOf_84 ?_
            refine W.eq (g2 := F0 m 85 ls [.int ((s_8.1 18 ((h).toNatClampNeg)))]) rfl ?_
            refine lv_goto (tgt := 93) hx hb dX6_houseOf_85 (by decide) ?_
            exact (hWW _ _ _ _ _).mp (J93_17 _ (by simp only [if_neg c_14, if_pos c_21]) _ _ hP hD hS _ (lv_sub hl [0, 1, 2] rfl))
        · refine lv_aload_n hx hb dX6_houseOf_65 rfl (lv_at hl 0 rfl) ?_
          refine m_get (v := .ref (a 17)) hx hb hts hin hown hK hP 17 (by decide) rfl (index := 53) (List.mem_of_getElem? (i := 3) rfl) dX6_houseOf_66 ?_
          refine lv_iload_n hx hb dX6_houseOf_69 rfl (lv_at hl 1 rfl) ?_
          refine m_aldI (j := h) hx hb hK hP 15 17 rfl (hq) dX6_houseOf_70 ?_
          refine W.eq (g2 := F0 m 71 ls [.int ((s_8.1 17 ((h).toNatClampNeg)))]) rfl ?_
          refine lv_goto (tgt := 93) hx hb dX6_houseOf_71 (by decide) ?_
          exact (hWW _ _ _ _ _).mp (J93_17 _ (by simp only [if_pos c_14]) _ _ hP hD hS _ (lv_sub hl [0, 1, 2] rfl))
      · refine lv_iload_n hx hb dX6_houseOf_40 rfl (lv_at hl 2 rfl) ?_
        have J59_25 : ∀ (x_24 : Int32), x_24 = (if what = 0 then (s_8.1 14 ((h).toNatClampNeg)) else (s_8.1 15 ((h).toNatClampNeg))) → ∀ (H : Heap) (locs : List Loc), va_P G vwCl (wm cI cZ a s_8) H → va_D (mA a) (wm cI cZ a s_8) → va_S (mA a) s.heap H locs → ∀ (ls : Array Slot), lv_has ls 3 [(0, .ref (a 0)), (1, .int (h)), (2, .int (what))] → WW H locs 0 0 (F0 m 59 ls [.int (x_24)]) := by
          intro x_24 h_26 H locs hP hD hS ls hl
          refine (hWW _ _ _ _ _).mpr ?_
          have hR_27 : m_houseOf σ h what = m_houseOf_j59 σ h what x_3 s_8 x_24 := (Eq.trans hR_10 (by have q_ := h_26.symm; subst q_; unfold m_houseOf_k30; simp only [if_pos c_12, if_neg c_13]))
          have hR_28 : m_houseOf_s σ h what = m_houseOf_j59_s σ h what x_3 s_8 x_24 := (Eq.trans hR_11 (by have q_ := h_26.symm; subst q_; unfold m_houseOf_k30_s; simp only [if_pos c_12, if_neg c_13]))
          exact m_iret (v := x_24) hx hb hr hlocks hP hK hD hS dX6_houseOf_59 (Eq.trans (by unfold m_houseOf_j59; rfl) hR_27.symm) (Eq.trans (by unfold m_houseOf_j59_s; rfl) hR_28.symm)
        refine lv_if_ne (x := what) (tgt := 53) hx hb dX6_houseOf_41 (by decide) (fun c_22 => ?_) (fun c_22 => ?_)
        · refine lv_aload_n hx hb dX6_houseOf_53 rfl (lv_at hl 0 rfl) ?_
          refine m_get (v := .ref (a 15)) hx hb hts hin hown hK hP 15 (by decide) rfl (index := 46) (List.mem_of_getElem? (i := 2) rfl) dX6_houseOf_54 ?_
          refine lv_iload_n hx hb dX6_houseOf_57 rfl (lv_at hl 1 rfl) ?_
          refine m_aldI (j := h) hx hb hK hP 13 15 rfl (hq) dX6_houseOf_58 ?_
          refine W.eq (g2 := F0 m 59 ls [.int ((s_8.1 15 ((h).toNatClampNeg)))]) rfl ?_
          exact (hWW _ _ _ _ _).mp (J59_25 _ (by simp only [if_neg c_22]) _ _ hP hD hS _ (lv_sub hl [0, 1, 2] rfl))
        · refine lv_aload_n hx hb dX6_houseOf_44 rfl (lv_at hl 0 rfl) ?_
          refine m_get (v := .ref (a 14)) hx hb hts hin hown hK hP 14 (by decide) rfl (index := 43) (List.mem_of_getElem? (i := 1) rfl) dX6_houseOf_45 ?_
          refine lv_iload_n hx hb dX6_houseOf_48 rfl (lv_at hl 1 rfl) ?_
          refine m_aldI (j := h) hx hb hK hP 12 14 rfl (hq) dX6_houseOf_49 ?_
          refine W.eq (g2 := F0 m 50 ls [.int ((s_8.1 14 ((h).toNatClampNeg)))]) rfl ?_
          refine lv_goto (tgt := 59) hx hb dX6_houseOf_50 (by decide) ?_
          exact (hWW _ _ _ _ _).mp (J59_25 _ (by simp only [if_pos c_22]) _ _ hP hD hS _ (lv_sub hl [0, 1, 2] rfl))
    · refine lv_iconst (v := nI (0)) hx hb dX6_houseOf_33 (by decide) ?_
      exact m_iret (v := nI (0)) hx hb hr hlocks hP hK hD hS dX6_houseOf_34 (Eq.trans (by unfold m_houseOf_k30; simp only [if_neg c_12]) hR_10.symm) (Eq.trans (by unfold m_houseOf_k30_s; simp only [if_neg c_12]) hR_11.symm)
  refine lv_if_ne (x := (m_isHouse σ h)) (tgt := 13) hx hb dX6_houseOf_6 (by decide) (fun c_1 => ?_) (fun c_1 => ?_)
  · refine lv_iload_n hx hb dX6_houseOf_13 rfl (lv_at hl 2 rfl) ?_
    refine lv_iconst (v := nI (0)) hx hb dX6_houseOf_14 (by decide) ?_
    refine lv_iconst (v := nI (4)) hx hb dX6_houseOf_15 (by decide) ?_
    refine m_callS (As := [.int (what), .int (nI (0)), .int (nI (4))]) (rest := [.ref (a 0)]) ⟨hx, hb, hml, hown, hts⟩ (cm_within l what (nI (0)) (nI (4)) ) (va_cwS 3 hts gX6_houseOf_X6_within rfl rfl rfl (by decide +kernel) ⟨Nat.le_of_ble_eq_true rfl, Nat.le_of_ble_eq_true rfl⟩) hP hS rfl hl.1 rfl (Nat.le_of_ble_eq_true rfl) dX6_houseOf_16 ⟨Nat.zero_le _, Nat.zero_le _⟩ (fun H locs hP hS => ?_)
    refine lv_if_ne (x := (m_within what (nI (0)) (nI (4)))) (tgt := 26) hx hb dX6_houseOf_19 (by decide) (fun c_29 => ?_) (fun c_29 => ?_)
    · refine lv_iconst (v := nI (0)) hx hb dX6_houseOf_26 (by decide) ?_
      exact (hWW _ _ _ _ _).mp (J27_4 _ (by simp only [if_neg c_1, if_neg c_29]) _ _ hP hD hS _ (lv_sub hl [0, 1, 2] rfl))
    · refine lv_iconst (v := nI (2)) hx hb dX6_houseOf_22 (by decide) ?_
      refine lv_goto (tgt := 27) hx hb dX6_houseOf_23 (by decide) ?_
      exact (hWW _ _ _ _ _).mp (J27_4 _ (by simp only [if_neg c_1, if_pos c_29]) _ _ hP hD hS _ (lv_sub hl [0, 1, 2] rfl))
  · refine lv_iconst (v := nI (1)) hx hb dX6_houseOf_9 (by decide) ?_
    refine lv_goto (tgt := 27) hx hb dX6_houseOf_10 (by decide) ?_
    exact (hWW _ _ _ _ _).mp (J27_4 _ (by simp only [if_pos c_1]) _ _ hP hD hS _ (lv_sub hl [0, 1, 2] rfl))
