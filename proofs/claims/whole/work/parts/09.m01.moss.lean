def m_moss_k48 (σ : Sg) (cell : Int32) (moss : Int32) (x_3 : Int32) (s_8 : Sg) (s_13 : Sg) : Int32 := (s_8.1 5 ((cell).toNatClampNeg))
def m_moss_k48_s (σ : Sg) (cell : Int32) (moss : Int32) (x_3 : Int32) (s_8 : Sg) (s_13 : Sg) : Sg := s_13
def m_moss_k29 (σ : Sg) (cell : Int32) (moss : Int32) (x_3 : Int32) (s_8 : Sg) : Int32 := (if (m_refused σ x_3) = 0 then (m_moss_k48 σ cell moss x_3 s_8 (si s_8 5 ((cell).toNatClampNeg) (moss))) else nI (0))
def m_moss_k29_s (σ : Sg) (cell : Int32) (moss : Int32) (x_3 : Int32) (s_8 : Sg) : Sg := (if (m_refused σ x_3) = 0 then (m_moss_k48_s σ cell moss x_3 s_8 (si s_8 5 ((cell).toNatClampNeg) (moss))) else s_8)
def m_moss_j26 (σ : Sg) (cell : Int32) (moss : Int32) (x_3 : Int32) : Int32 := (m_moss_k29 σ cell moss x_3 (m_refused_s σ x_3))
def m_moss_j26_s (σ : Sg) (cell : Int32) (moss : Int32) (x_3 : Int32) : Sg := (m_moss_k29_s σ cell moss x_3 (m_refused_s σ x_3))
def m_moss (σ : Sg) (cell : Int32) (moss : Int32) : Int32 := (m_moss_j26 σ cell moss (if (m_isCell cell) = 0 then nI (1) else (if (m_within moss (nI (0)) (nI (3))) = 0 then nI (2) else nI (0))))
def m_moss_s (σ : Sg) (cell : Int32) (moss : Int32) : Sg := (m_moss_j26_s σ cell moss (if (m_isCell cell) = 0 then nI (1) else (if (m_within moss (nI (0)) (nI (3))) = 0 then nI (2) else nI (0))))
set_option maxHeartbeats 4000000 in
set_option maxRecDepth 100000 in
theorem cm_moss (l : Launch) (G : va_G) (cI cZ : ClassId) (a : Nat → Nat) (σ : Sg) (cell : Int32) (moss : Int32) : mI l yX6_moss wsX6_moss ({ frames := 2, cells := 0, slots := 0, locals := 42 } : Room) G cI cZ a σ [.int (cell), .int (moss)] (m_moss σ cell moss) (m_moss_s σ cell moss) := by
  unfold mI
  refine Met.ofW (cc := cX6_moss) (maxL := 4) (ret := (some .int)) (by decide) rfl ?_
  intro p e s m args below meth c s₁ B hml hv
  obtain ⟨rfl, hP, hK, hD⟩ := hv
  have hx := B.exec
  have hb := B.bytes
  have hr := B.returns
  have hts := atoms_spec (ws := wsX6_moss) B.pre
  have hown : s.vm.findClass RX6 = some m.cls := findClass_of_methodNamed B.named
  have hlocks := B.notSynchronized
  have hS : va_S (mA a) s.heap s.heap [] := va_S.rf
  have hin : ∀ w ∈ wsX60, w ∈ wsX6_moss := fun w h => List.mem_cons_of_mem _ (List.mem_append_right _ h)
  have hl := lv_entry ([.ref (a 0), .int (cell), .int (moss)]) (n := 4) (Nat.le_of_ble_eq_true rfl)
  rw [lg_entry_eq]
  generalize (lg_sl ([.ref (a 0), .int (cell), .int (moss)]) ++ List.replicate (4 - (lg_sl ([.ref (a 0), .int (cell), .int (moss)])).length) Slot.unset).toArray = ls at hl ⊢
  have hl : lv_has ls 4 [(0, .ref (a 0)), (1, .int (cell)), (2, .int (moss))] := hl
  refine w_named (fun WW hWW => ?_)
  have hP : va_P G vwCl (wm cI cZ a σ) s.heap := hP
  refine lv_aload_n hx hb dX6_moss_0 rfl (lv_at hl 0 rfl) ?_
  refine lv_iload_n hx hb dX6_moss_1 rfl (lv_at hl 1 rfl) ?_
  refine m_callS (As := [.int (cell)]) (rest := [.ref (a 0)]) ⟨hx, hb, hml, hown, hts⟩ (cm_isCell l cell ) (va_cwS 1 hts gX6_moss_X6_isCell rfl rfl rfl (by decide +kernel) ⟨Nat.le_of_ble_eq_true rfl, Nat.le_of_ble_eq_true rfl⟩) hP hS rfl hl.1 rfl (Nat.le_of_ble_eq_true rfl) dX6_moss_2 ⟨Nat.zero_le _, Nat.zero_le _⟩ (fun H locs hP hS => ?_)
  have J26_4 : ∀ (x_3 : Int32), x_3 = (if (m_isCell cell) = 0 then nI (1) else (if (m_within moss (nI (0)) (nI (3))) = 0 then nI (2) else nI (0))) → ∀ (H : Heap) (locs : List Loc), va_P G vwCl (wm cI cZ a σ) H → va_D (mA a) (wm cI cZ a σ) → va_S (mA a) s.heap H locs → ∀ (ls : Array Slot), lv_has ls 4 [(0, .ref (a 0)), (1, .int (cell)), (2, .int (moss))] → WW H locs 0 0 (F0 m 26 ls [.int (x_3), .ref (a 0)]) := by
    intro x_3 h_5 H locs hP hD hS ls hl
    refine (hWW _ _ _ _ _).mpr ?_
    have hR_6 : m_moss σ cell moss = m_moss_j26 σ cell moss x_3 := (by have q_ := h_5.symm; subst q_; unfold m_moss; rfl)
    have hR_7 : m_moss_s σ cell moss = m_moss_j26_s σ cell moss x_3 := (by have q_ := h_5.symm; subst q_; unfold m_moss_s; rfl)
    refine m_callI (As := [.int (x_3)]) (rest := []) (fun _ h => h) ⟨hx, hb, hml, hown, hts⟩ (cm_refused l G cI cZ a σ  x_3 ) (cwV 1 hts gX6_moss_X6_refused rfl rfl rfl (by decide +kernel) ⟨Nat.le_of_ble_eq_true rfl, Nat.le_of_ble_eq_true rfl⟩) hK hP hD hS rfl hl.1 rfl (Nat.le_of_ble_eq_true rfl) dX6_moss_26 ⟨Nat.zero_le _, Nat.zero_le _⟩ (fun H locs hP hD _ _ hS => ?_)
    obtain ⟨s_8, e_9⟩ : ∃ z : Sg, z = (m_refused_s σ x_3) := ⟨_, rfl⟩
    rw [← e_9] at hP hD
    have hR_10 : m_moss σ cell moss = m_moss_k29 σ cell moss x_3 s_8 := (Eq.trans hR_6 (by have q_ := e_9.symm; subst q_; unfold m_moss_j26; rfl))
    have hR_11 : m_moss_s σ cell moss = m_moss_k29_s σ cell moss x_3 s_8 := (Eq.trans hR_7 (by have q_ := e_9.symm; subst q_; unfold m_moss_j26_s; rfl))
    refine lv_if_eq (x := (m_refused σ x_3)) (tgt := 34) hx hb dX6_moss_29 (by decide) (fun c_12 => ?_) (fun c_12 => ?_)
    · have hq := w_isCell (ck_tri h_5 (m_refused_0 c_12)).1
      refine lv_aload_n hx hb dX6_moss_34 rfl (lv_at hl 0 rfl) ?_
      refine m_get (v := .ref (a 5)) hx hb hts hin hown hK hP 5 (by decide) rfl (index := 19) (List.mem_of_getElem? (i := 1) rfl) dX6_moss_35 ?_
      refine lv_iload_n hx hb dX6_moss_38 rfl (lv_at hl 1 rfl) ?_
      refine m_aldI (j := cell) hx hb hK hP 4 5 rfl (hq) dX6_moss_39 ?_
      refine W.eq (g2 := F0 m 40 ls [.int ((s_8.1 5 ((cell).toNatClampNeg)))]) rfl ?_
      refine lv_istore_n (lv' := [(3, .int ((s_8.1 5 ((cell).toNatClampNeg)))), (0, .ref (a 0)), (1, .int (cell)), (2, .int (moss))]) hx hb dX6_moss_40 rfl hl (by decide) rfl (fun ls hl => ?_)
      refine lv_aload_n hx hb dX6_moss_41 rfl (lv_at hl 1 rfl) ?_
      refine m_get (v := .ref (a 5)) hx hb hts hin hown hK hP 5 (by decide) rfl (index := 19) (List.mem_of_getElem? (i := 1) rfl) dX6_moss_42 ?_
      refine lv_iload_n hx hb dX6_moss_45 rfl (lv_at hl 2 rfl) ?_
      refine lv_iload_n hx hb dX6_moss_46 rfl (lv_at hl 3 rfl) ?_
      refine m_astI (j := cell) (v := moss) hx hb hK hP hD hS 4 5 rfl rfl (hq) dX6_moss_47 (fun H locs hP hD hS => ?_)
      obtain ⟨s_13, e_14⟩ : ∃ z : Sg, z = (si s_8 5 ((cell).toNatClampNeg) (moss)) := ⟨_, rfl⟩
      rw [← e_14] at hP hD
      have hR_15 : m_moss σ cell moss = m_moss_k48 σ cell moss x_3 s_8 s_13 := (Eq.trans hR_10 (by have q_ := e_14.symm; subst q_; unfold m_moss_k29; simp only [if_pos c_12]))
      have hR_16 : m_moss_s σ cell moss = m_moss_k48_s σ cell moss x_3 s_8 s_13 := (Eq.trans hR_11 (by have q_ := e_14.symm; subst q_; unfold m_moss_k29_s; simp only [if_pos c_12]))
      refine lv_iload_n hx hb dX6_moss_48 rfl (lv_at hl 0 rfl) ?_
      exact m_iret (v := (s_8.1 5 ((cell).toNatClampNeg))) hx hb hr hlocks hP hK hD hS dX6_moss_49 (Eq.trans (by unfold m_moss_k48; rfl) hR_15.symm) (Eq.trans (by unfold m_moss_k48_s; rfl) hR_16.symm)
    · refine lv_iconst (v := nI (0)) hx hb dX6_moss_32 (by decide) ?_
      exact m_iret (v := nI (0)) hx hb hr hlocks hP hK hD hS dX6_moss_33 (Eq.trans (by unfold m_moss_k29; simp only [if_neg c_12]) hR_10.symm) (Eq.trans (by unfold m_moss_k29_s; simp only [if_neg c_12]) hR_11.symm)
  refine lv_if_ne (x := (m_isCell cell)) (tgt := 12) hx hb dX6_moss_5 (by decide) (fun c_1 => ?_) (fun c_1 => ?_)
  · refine lv_iload_n hx hb dX6_moss_12 rfl (lv_at hl 2 rfl) ?_
    refine lv_iconst (v := nI (0)) hx hb dX6_moss_13 (by decide) ?_
    refine lv_iconst (v := nI (3)) hx hb dX6_moss_14 (by decide) ?_
    refine m_callS (As := [.int (moss), .int (nI (0)), .int (nI (3))]) (rest := [.ref (a 0)]) ⟨hx, hb, hml, hown, hts⟩ (cm_within l moss (nI (0)) (nI (3)) ) (va_cwS 3 hts gX6_moss_X6_within rfl rfl rfl (by decide +kernel) ⟨Nat.le_of_ble_eq_true rfl, Nat.le_of_ble_eq_true rfl⟩) hP hS rfl hl.1 rfl (Nat.le_of_ble_eq_true rfl) dX6_moss_15 ⟨Nat.zero_le _, Nat.zero_le _⟩ (fun H locs hP hS => ?_)
    refine lv_if_ne (x := (m_within moss (nI (0)) (nI (3)))) (tgt := 25) hx hb dX6_moss_18 (by decide) (fun c_17 => ?_) (fun c_17 => ?_)
    · refine lv_iconst (v := nI (0)) hx hb dX6_moss_25 (by decide) ?_
      exact (hWW _ _ _ _ _).mp (J26_4 _ (by simp only [if_neg c_1, if_neg c_17]) _ _ hP hD hS _ (lv_sub hl [0, 1, 2] rfl))
    · refine lv_iconst (v := nI (2)) hx hb dX6_moss_21 (by decide) ?_
      refine lv_goto (tgt := 26) hx hb dX6_moss_22 (by decide) ?_
      exact (hWW _ _ _ _ _).mp (J26_4 _ (by simp only [if_neg c_1, if_pos c_17]) _ _ hP hD hS _ (lv_sub hl [0, 1, 2] rfl))
  · refine lv_iconst (v := nI (1)) hx hb dX6_moss_8 (by decide) ?_
    refine lv_goto (tgt := 26) hx hb dX6_moss_9 (by decide) ?_
    exact (hWW _ _ _ _ _).mp (J26_4 _ (by simp only [if_pos c_1]) _ _ hP hD hS _ (lv_sub hl [0, 1, 2] rfl))
