def m_claim_k61 (σ : Sg) (h : Int32) (x_3 : Int32) (s_8 : Sg) (s_14 : Sg) (s_19 : Sg) : Int32 := ((s_19.1 24 0)) - (nI (1))
def m_claim_k61_s (σ : Sg) (h : Int32) (x_3 : Int32) (s_8 : Sg) (s_14 : Sg) (s_19 : Sg) : Sg := s_19
def m_claim_k51 (σ : Sg) (h : Int32) (x_3 : Int32) (s_8 : Sg) (s_14 : Sg) : Int32 := (m_claim_k61 σ h x_3 s_8 s_14 (si s_14 24 (0) (((s_14.1 24 0)) + (nI (1)))))
def m_claim_k51_s (σ : Sg) (h : Int32) (x_3 : Int32) (s_8 : Sg) (s_14 : Sg) : Sg := (m_claim_k61_s σ h x_3 s_8 s_14 (si s_14 24 (0) (((s_14.1 24 0)) + (nI (1)))))
def m_claim_k32 (σ : Sg) (h : Int32) (x_3 : Int32) (s_8 : Sg) : Int32 := (if (m_refused σ x_3) = 0 then (m_claim_k51 σ h x_3 s_8 (si s_8 25 (((s_8.1 24 0)).toNatClampNeg) ((m_worth s_8 h)))) else nI (0))
def m_claim_k32_s (σ : Sg) (h : Int32) (x_3 : Int32) (s_8 : Sg) : Sg := (if (m_refused σ x_3) = 0 then (m_claim_k51_s σ h x_3 s_8 (si s_8 25 (((s_8.1 24 0)).toNatClampNeg) ((m_worth s_8 h)))) else s_8)
def m_claim_j29 (σ : Sg) (h : Int32) (x_3 : Int32) : Int32 := (m_claim_k32 σ h x_3 (m_refused_s σ x_3))
def m_claim_j29_s (σ : Sg) (h : Int32) (x_3 : Int32) : Sg := (m_claim_k32_s σ h x_3 (m_refused_s σ x_3))
def m_claim (σ : Sg) (h : Int32) : Int32 := (m_claim_j29 σ h (if (m_isHouse σ h) = 0 then nI (1) else (if (σ.1 24 0) = nI (40) then nI (2) else nI (0))))
def m_claim_s (σ : Sg) (h : Int32) : Sg := (m_claim_j29_s σ h (if (m_isHouse σ h) = 0 then nI (1) else (if (σ.1 24 0) = nI (40) then nI (2) else nI (0))))
set_option maxHeartbeats 4000000 in
set_option maxRecDepth 100000 in
theorem cm_claim (l : Launch) (G : va_G) (cI cZ : ClassId) (a : Nat → Nat) (σ : Sg) (h : Int32) (hO : mOK σ) : mI l yX6_claim wsX6_claim ({ frames := 2, cells := 0, slots := 0, locals := 47 } : Room) G cI cZ a σ [.int (h)] (m_claim σ h) (m_claim_s σ h) := by
  unfold mI
  refine Met.ofW (cc := cX6_claim) (maxL := 3) (ret := (some .int)) (by decide) rfl ?_
  intro p e s m args below meth c s₁ B hml hv
  obtain ⟨rfl, hP, hK, hD⟩ := hv
  have hx := B.exec
  have hb := B.bytes
  have hr := B.returns
  have hts := atoms_spec (ws := wsX6_claim) B.pre
  have hown : s.vm.findClass RX6 = some m.cls := findClass_of_methodNamed B.named
  have hlocks := B.notSynchronized
  have hS : va_S (mA a) s.heap s.heap [] := va_S.rf
  have hin : ∀ w ∈ wsX60, w ∈ wsX6_claim := fun w h => List.mem_cons_of_mem _ (List.mem_append_right _ h)
  have hl := lv_entry ([.ref (a 0), .int (h)]) (n := 3) (Nat.le_of_ble_eq_true rfl)
  rw [lg_entry_eq]
  generalize (lg_sl ([.ref (a 0), .int (h)]) ++ List.replicate (3 - (lg_sl ([.ref (a 0), .int (h)])).length) Slot.unset).toArray = ls at hl ⊢
  have hl : lv_has ls 3 [(0, .ref (a 0)), (1, .int (h))] := hl
  refine w_named (fun WW hWW => ?_)
  have hP : va_P G vwCl (wm cI cZ a σ) s.heap := hP
  refine lv_aload_n hx hb dX6_claim_0 rfl (lv_at hl 0 rfl) ?_
  refine lv_iload_n hx hb dX6_claim_1 rfl (lv_at hl 1 rfl) ?_
  refine m_callI (As := [.int (h)]) (rest := []) (fun _ h => h) ⟨hx, hb, hml, hown, hts⟩ (cm_isHouse l G cI cZ a σ  h ) (cwV 1 hts gX6_claim_X6_isHouse rfl rfl rfl (by decide +kernel) ⟨Nat.le_of_ble_eq_true rfl, Nat.le_of_ble_eq_true rfl⟩) hK hP hD hS rfl hl.1 rfl (Nat.le_of_ble_eq_true rfl) dX6_claim_2 ⟨Nat.zero_le _, Nat.zero_le _⟩ (fun H locs hP hD _ _ hS => ?_)
  refine lv_istore_n (lv' := [(2, .int ((m_isHouse σ h))), (0, .ref (a 0)), (1, .int (h))]) hx hb dX6_claim_5 rfl hl (by decide) rfl (fun ls hl => ?_)
  refine lv_aload_n hx hb dX6_claim_6 rfl (lv_at hl 1 rfl) ?_
  refine lv_iload_n hx hb dX6_claim_7 rfl (lv_at hl 0 rfl) ?_
  have J29_4 : ∀ (x_3 : Int32), x_3 = (if (m_isHouse σ h) = 0 then nI (1) else (if (σ.1 24 0) = nI (40) then nI (2) else nI (0))) → ∀ (H : Heap) (locs : List Loc), va_P G vwCl (wm cI cZ a σ) H → va_D (mA a) (wm cI cZ a σ) → va_S (mA a) s.heap H locs → ∀ (ls : Array Slot), lv_has ls 3 [(2, .int ((m_isHouse σ h))), (0, .ref (a 0)), (1, .int (h))] → WW H locs 0 0 (F0 m 29 ls [.int (x_3), .ref (a 0)]) := by
    intro x_3 h_5 H locs hP hD hS ls hl
    refine (hWW _ _ _ _ _).mpr ?_
    have hR_6 : m_claim σ h = m_claim_j29 σ h x_3 := (by have q_ := h_5.symm; subst q_; unfold m_claim; rfl)
    have hR_7 : m_claim_s σ h = m_claim_j29_s σ h x_3 := (by have q_ := h_5.symm; subst q_; unfold m_claim_s; rfl)
    refine m_callI (As := [.int (x_3)]) (rest := []) (fun _ h => h) ⟨hx, hb, hml, hown, hts⟩ (cm_refused l G cI cZ a σ  x_3 ) (cwV 1 hts gX6_claim_X6_refused rfl rfl rfl (by decide +kernel) ⟨Nat.le_of_ble_eq_true rfl, Nat.le_of_ble_eq_true rfl⟩) hK hP hD hS rfl hl.1 rfl (Nat.le_of_ble_eq_true rfl) dX6_claim_29 ⟨Nat.zero_le _, Nat.zero_le _⟩ (fun H locs hP hD _ _ hS => ?_)
    obtain ⟨s_8, e_9⟩ : ∃ z : Sg, z = (m_refused_s σ x_3) := ⟨_, rfl⟩
    rw [← e_9] at hP hD
    have kp_10 : s_8.1 24 0 = (m_refused_s σ x_3).1 24 0 := (congrArg (fun z : Sg => z.1 24 0) e_9).trans rfl
    have hR_11 : m_claim σ h = m_claim_k32 σ h x_3 s_8 := (Eq.trans hR_6 (by have q_ := e_9.symm; subst q_; unfold m_claim_j29; rfl))
    have hR_12 : m_claim_s σ h = m_claim_k32_s σ h x_3 s_8 := (Eq.trans hR_7 (by have q_ := e_9.symm; subst q_; unfold m_claim_j29_s; rfl))
    refine lv_if_eq (x := (m_refused σ x_3)) (tgt := 37) hx hb dX6_claim_32 (by decide) (fun c_13 => ?_) (fun c_13 => ?_)
    · have q0 := ck_tri h_5 (m_refused_0 c_13)
      have hq : vp_in (σ.1 24 0) 40 := vp_ne hO.2.2.1 q0.2
      have hh : vp_in h (σ.1 13 0).toNatClampNeg := w_below hO.1 (by decide) q0.1
      refine lv_aload_n hx hb dX6_claim_37 rfl (lv_at hl 1 rfl) ?_
      refine m_get (v := .ref (a 25)) hx hb hts hin hown hK hP 25 (by decide) rfl (index := 71) (List.mem_of_getElem? (i := 2) rfl) dX6_claim_38 ?_
      refine lv_aload_n hx hb dX6_claim_41 rfl (lv_at hl 1 rfl) ?_
      refine m_get (v := .int ((s_8.1 24 0))) hx hb hts hin hown hK hP 24 (by decide) rfl (index := 177) (List.mem_of_getElem? (i := 1) rfl) dX6_claim_42 ?_
      refine lv_aload_n hx hb dX6_claim_45 rfl (lv_at hl 1 rfl) ?_
      refine lv_iload_n hx hb dX6_claim_46 rfl (lv_at hl 2 rfl) ?_
      refine m_callI (As := [.int (h)]) (rest := [.int ((s_8.1 24 0)), .ref (a 25)]) (fun _ h => h) ⟨hx, hb, hml, hown, hts⟩ (cm_worth l G cI cZ a s_8  h (by rw [e_9]; exact hO) (by rw [e_9]; exact hh)) (cwV 1 hts gX6_claim_X6_worth rfl rfl rfl (by decide +kernel) ⟨Nat.le_of_ble_eq_true rfl, Nat.le_of_ble_eq_true rfl⟩) hK hP hD hS rfl hl.1 rfl (Nat.le_of_ble_eq_true rfl) dX6_claim_47 ⟨Nat.zero_le _, Nat.zero_le _⟩ (fun H locs hP hD _ _ hS => ?_)
      refine m_astI (j := (s_8.1 24 0)) (v := (m_worth s_8 h)) hx hb hK hP hD hS 21 25 rfl rfl (by rw [kp_10]; exact hq) dX6_claim_50 (fun H locs hP hD hS => ?_)
      obtain ⟨s_14, e_15⟩ : ∃ z : Sg, z = (si s_8 25 (((s_8.1 24 0)).toNatClampNeg) ((m_worth s_8 h))) := ⟨_, rfl⟩
      rw [← e_15] at hP hD
      have kp_16 : s_14.1 24 0 = (m_refused_s σ x_3).1 24 0 := (congrArg (fun z : Sg => z.1 24 0) e_15).trans kp_10
      have hR_17 : m_claim σ h = m_claim_k51 σ h x_3 s_8 s_14 := (Eq.trans hR_11 (by have q_ := e_15.symm; subst q_; unfold m_claim_k32; simp only [if_pos c_13]))
      have hR_18 : m_claim_s σ h = m_claim_k51_s σ h x_3 s_8 s_14 := (Eq.trans hR_12 (by have q_ := e_15.symm; subst q_; unfold m_claim_k32_s; simp only [if_pos c_13]))
      refine lv_aload_n hx hb dX6_claim_51 rfl (lv_at hl 1 rfl) ?_
      refine lv_dup hx hb dX6_claim_52 rfl ?_
      refine m_get (v := .int ((s_14.1 24 0))) hx hb hts hin hown hK hP 24 (by decide) rfl (index := 177) (List.mem_of_getElem? (i := 1) rfl) dX6_claim_53 ?_
      refine lv_iconst (v := nI (1)) hx hb dX6_claim_56 (by decide) ?_
      refine lv_iadd (x := (s_14.1 24 0)) (y := nI (1)) hx hb dX6_claim_57 ?_
      refine m_putI (v := ((s_14.1 24 0)) + (nI (1))) hx hb hts hin hown hK hP hD hS 24 (by decide) rfl (by decide +kernel) rfl (index := 177) (List.mem_of_getElem? (i := 1) rfl) dX6_claim_58 (fun H locs hP hD hS => ?_)
      obtain ⟨s_19, e_20⟩ : ∃ z : Sg, z = (si s_14 24 (0) (((s_14.1 24 0)) + (nI (1)))) := ⟨_, rfl⟩
      rw [← e_20] at hP hD
      have hR_22 : m_claim σ h = m_claim_k61 σ h x_3 s_8 s_14 s_19 := (Eq.trans hR_17 (by have q_ := e_20.symm; subst q_; unfold m_claim_k51; rfl))
      have hR_23 : m_claim_s σ h = m_claim_k61_s σ h x_3 s_8 s_14 s_19 := (Eq.trans hR_18 (by have q_ := e_20.symm; subst q_; unfold m_claim_k51_s; rfl))
      refine lv_aload_n hx hb dX6_claim_61 rfl (lv_at hl 1 rfl) ?_
      refine m_get (v := .int ((s_19.1 24 0))) hx hb hts hin hown hK hP 24 (by decide) rfl (index := 177) (List.mem_of_getElem? (i := 1) rfl) dX6_claim_62 ?_
      refine lv_iconst (v := nI (1)) hx hb dX6_claim_65 (by decide) ?_
      refine lv_isub (x := (s_19.1 24 0)) (y := nI (1)) hx hb dX6_claim_66 ?_
      exact m_iret (v := ((s_19.1 24 0)) - (nI (1))) hx hb hr hlocks hP hK hD hS dX6_claim_67 (Eq.trans (by unfold m_claim_k61; rfl) hR_22.symm) (Eq.trans (by unfold m_claim_k61_s; rfl) hR_23.symm)
    · refine lv_iconst (v := nI (0)) hx hb dX6_claim_35 (by decide) ?_
      exact m_iret (v := nI (0)) hx hb hr hlocks hP hK hD hS dX6_claim_36 (Eq.trans (by unfold m_claim_k32; simp only [if_neg c_13]) hR_11.symm) (Eq.trans (by unfold m_claim_k32_s; simp only [if_neg c_13]) hR_12.symm)
  refine lv_if_ne (x := (m_isHouse σ h)) (tgt := 15) hx hb dX6_claim_8 (by decide) (fun c_1 => ?_) (fun c_1 => ?_)
  · refine lv_aload_n hx hb dX6_claim_15 rfl (lv_at hl 1 rfl) ?_
    refine m_get (v := .int ((σ.1 24 0))) hx hb hts hin hown hK hP 24 (by decide) rfl (index := 177) (List.mem_of_getElem? (i := 1) rfl) dX6_claim_16 ?_
    refine lv_bipush (v := nI (40)) hx hb dX6_claim_19 (by decide) ?_
    refine lv_icmp_ne (x := (σ.1 24 0)) (y := nI (40)) (tgt := 28) hx hb dX6_claim_21 (by decide) (fun c_24 => ?_) (fun c_24 => ?_)
    · refine lv_iconst (v := nI (0)) hx hb dX6_claim_28 (by decide) ?_
      exact (hWW _ _ _ _ _).mp (J29_4 _ (by simp only [if_neg c_1, if_neg c_24]) _ _ hP hD hS _ (lv_sub hl [0, 1, 2] rfl))
    · refine lv_iconst (v := nI (2)) hx hb dX6_claim_24 (by decide) ?_
      refine lv_goto (tgt := 29) hx hb dX6_claim_25 (by decide) ?_
      exact (hWW _ _ _ _ _).mp (J29_4 _ (by simp only [if_neg c_1, if_pos c_24]) _ _ hP hD hS _ (lv_sub hl [0, 1, 2] rfl))
  · refine lv_iconst (v := nI (1)) hx hb dX6_claim_11 (by decide) ?_
    refine lv_goto (tgt := 29) hx hb dX6_claim_12 (by decide) ?_
    exact (hWW _ _ _ _ _).mp (J29_4 _ (by simp only [if_pos c_1]) _ _ hP hD hS _ (lv_sub hl [0, 1, 2] rfl))
