def m_air_j40 (σ : Sg) (gas : Int32) (x_3 : Int32) (s_8 : Sg) (x_14 : Int64) : Int64 := x_14
def m_air_j40_s (σ : Sg) (gas : Int32) (x_3 : Int32) (s_8 : Sg) (x_14 : Int64) : Sg := s_8
def m_air_k18 (σ : Sg) (gas : Int32) (x_3 : Int32) (s_8 : Sg) : Int64 := (m_air_j40 σ gas x_3 s_8 (if (m_refused σ x_3) = 0 then (if gas = 0 then (s_8.2 30) else (s_8.2 31)) else (0 : Int64)))
def m_air_k18_s (σ : Sg) (gas : Int32) (x_3 : Int32) (s_8 : Sg) : Sg := (m_air_j40_s σ gas x_3 s_8 (if (m_refused σ x_3) = 0 then (if gas = 0 then (s_8.2 30) else (s_8.2 31)) else (0 : Int64)))
def m_air_j15 (σ : Sg) (gas : Int32) (x_3 : Int32) : Int64 := (m_air_k18 σ gas x_3 (m_refused_s σ x_3))
def m_air_j15_s (σ : Sg) (gas : Int32) (x_3 : Int32) : Sg := (m_air_k18_s σ gas x_3 (m_refused_s σ x_3))
def m_air (σ : Sg) (gas : Int32) : Int64 := (m_air_j15 σ gas (if (m_within gas (nI (0)) (nI (1))) = 0 then nI (1) else nI (0)))
def m_air_s (σ : Sg) (gas : Int32) : Sg := (m_air_j15_s σ gas (if (m_within gas (nI (0)) (nI (1))) = 0 then nI (1) else nI (0)))
set_option maxHeartbeats 4000000 in
set_option maxRecDepth 100000 in
theorem cm_air (l : Launch) (G : va_G) (cI cZ : ClassId) (a : Nat → Nat) (σ : Sg) (gas : Int32) : mL l yX6_air wsX6_air ({ frames := 1, cells := 0, slots := 0, locals := 22 } : Room) G cI cZ a σ [.int (gas)] (m_air σ gas) (m_air_s σ gas) := by
  unfold mL
  refine Met.ofW (cc := cX6_air) (maxL := 2) (ret := (some .long)) (by decide) rfl ?_
  intro p e s m args below meth c s₁ B hml hv
  obtain ⟨rfl, hP, hK, hD⟩ := hv
  have hx := B.exec
  have hb := B.bytes
  have hr := B.returns
  have hts := atoms_spec (ws := wsX6_air) B.pre
  have hown : s.vm.findClass RX6 = some m.cls := findClass_of_methodNamed B.named
  have hlocks := B.notSynchronized
  have hS : va_S (mA a) s.heap s.heap [] := va_S.rf
  have hin : ∀ w ∈ wsX60, w ∈ wsX6_air := fun w h => List.mem_cons_of_mem _ (List.mem_append_right _ h)
  have hl := lv_entry ([.ref (a 0), .int (gas)]) (n := 2) (Nat.le_of_ble_eq_true rfl)
  rw [lg_entry_eq]
  generalize (lg_sl ([.ref (a 0), .int (gas)]) ++ List.replicate (2 - (lg_sl ([.ref (a 0), .int (gas)])).length) Slot.unset).toArray = ls at hl ⊢
  have hl : lv_has ls 2 [(0, .ref (a 0)), (1, .int (gas))] := hl
  refine w_named (fun WW hWW => ?_)
  have hP : va_P G vwCl (wm cI cZ a σ) s.heap := hP
  refine lv_aload_n hx hb dX6_air_0 rfl (lv_at hl 0 rfl) ?_
  refine lv_iload_n hx hb dX6_air_1 rfl (lv_at hl 1 rfl) ?_
  refine lv_iconst (v := nI (0)) hx hb dX6_air_2 (by decide) ?_
  refine lv_iconst (v := nI (1)) hx hb dX6_air_3 (by decide) ?_
  refine m_callS (As := [.int (gas), .int (nI (0)), .int (nI (1))]) (rest := [.ref (a 0)]) ⟨hx, hb, hml, hown, hts⟩ (cm_within l gas (nI (0)) (nI (1)) ) (va_cwS 3 hts gX6_air_X6_within rfl rfl rfl (by decide +kernel) ⟨Nat.le_of_ble_eq_true rfl, Nat.le_of_ble_eq_true rfl⟩) hP hS rfl hl.1 rfl (Nat.le_of_ble_eq_true rfl) dX6_air_4 ⟨Nat.zero_le _, Nat.zero_le _⟩ (fun H locs hP hS => ?_)
  have J15_4 : ∀ (x_3 : Int32), x_3 = (if (m_within gas (nI (0)) (nI (1))) = 0 then nI (1) else nI (0)) → ∀ (H : Heap) (locs : List Loc), va_P G vwCl (wm cI cZ a σ) H → va_D (mA a) (wm cI cZ a σ) → va_S (mA a) s.heap H locs → ∀ (ls : Array Slot), lv_has ls 2 [(0, .ref (a 0)), (1, .int (gas))] → WW H locs 0 0 (F0 m 15 ls [.int (x_3), .ref (a 0)]) := by
    intro x_3 h_5 H locs hP hD hS ls hl
    refine (hWW _ _ _ _ _).mpr ?_
    have hR_6 : m_air σ gas = m_air_j15 σ gas x_3 := (by have q_ := h_5.symm; subst q_; unfold m_air; rfl)
    have hR_7 : m_air_s σ gas = m_air_j15_s σ gas x_3 := (by have q_ := h_5.symm; subst q_; unfold m_air_s; rfl)
    refine m_callI (As := [.int (x_3)]) (rest := []) (fun _ h => h) ⟨hx, hb, hml, hown, hts⟩ (cm_refused l G cI cZ a σ  x_3 ) (cwV 1 hts gX6_air_X6_refused rfl rfl rfl (by decide +kernel) ⟨Nat.le_of_ble_eq_true rfl, Nat.le_of_ble_eq_true rfl⟩) hK hP hD hS rfl hl.1 rfl (Nat.le_of_ble_eq_true rfl) dX6_air_15 ⟨Nat.zero_le _, Nat.zero_le _⟩ (fun H locs hP hD _ _ hS => ?_)
    obtain ⟨s_8, e_9⟩ : ∃ z : Sg, z = (m_refused_s σ x_3) := ⟨_, rfl⟩
    rw [← e_9] at hP hD
    have hR_10 : m_air σ gas = m_air_k18 σ gas x_3 s_8 := (Eq.trans hR_6 (by have q_ := e_9.symm; subst q_; unfold m_air_j15; rfl))
    have hR_11 : m_air_s σ gas = m_air_k18_s σ gas x_3 s_8 := (Eq.trans hR_7 (by have q_ := e_9.symm; subst q_; unfold m_air_j15_s; rfl))
    have J40_15 : ∀ (x_14 : Int64), x_14 = (if (m_refused σ x_3) = 0 then (if gas = 0 then (s_8.2 30) else (s_8.2 31)) else (0 : Int64)) → ∀ (H : Heap) (locs : List Loc), va_P G vwCl (wm cI cZ a s_8) H → va_D (mA a) (wm cI cZ a s_8) → va_S (mA a) s.heap H locs → ∀ (ls : Array Slot), lv_has ls 2 [(0, .ref (a 0)), (1, .int (gas))] → WW H locs 0 0 (F0 m 40 ls [.long (x_14)]) := by
      intro x_14 h_16 H locs hP hD hS ls hl
      refine (hWW _ _ _ _ _).mpr ?_
      have hR_17 : m_air σ gas = m_air_j40 σ gas x_3 s_8 x_14 := (Eq.trans hR_10 (by have q_ := h_16.symm; subst q_; unfold m_air_k18; rfl))
      have hR_18 : m_air_s σ gas = m_air_j40_s σ gas x_3 s_8 x_14 := (Eq.trans hR_11 (by have q_ := h_16.symm; subst q_; unfold m_air_k18_s; rfl))
      exact m_lret (v := x_14) hx hb hr hlocks hP hK hD hS dX6_air_40 (Eq.trans (by unfold m_air_j40; rfl) hR_17.symm) (Eq.trans (by unfold m_air_j40_s; rfl) hR_18.symm)
    refine lv_if_eq (x := (m_refused σ x_3)) (tgt := 25) hx hb dX6_air_18 (by decide) (fun c_12 => ?_) (fun c_12 => ?_)
    · refine lv_iload_n hx hb dX6_air_25 rfl (lv_at hl 1 rfl) ?_
      refine lv_if_ne (x := gas) (tgt := 36) hx hb dX6_air_26 (by decide) (fun c_19 => ?_) (fun c_19 => ?_)
      · refine lv_aload_n hx hb dX6_air_36 rfl (lv_at hl 0 rfl) ?_
        refine m_get (v := .long ((s_8.2 31))) hx hb hts hin hown hK hP 31 (by decide) rfl (index := 159) (List.mem_of_getElem? (i := 2) rfl) dX6_air_37 ?_
        exact (hWW _ _ _ _ _).mp (J40_15 _ (by simp only [if_pos c_12, if_neg c_19]) _ _ hP hD hS _ (lv_sub hl [0, 1] rfl))
      · refine lv_aload_n hx hb dX6_air_29 rfl (lv_at hl 0 rfl) ?_
        refine m_get (v := .long ((s_8.2 30))) hx hb hts hin hown hK hP 30 (by decide) rfl (index := 162) (List.mem_of_getElem? (i := 1) rfl) dX6_air_30 ?_
        refine lv_goto (tgt := 40) hx hb dX6_air_33 (by decide) ?_
        exact (hWW _ _ _ _ _).mp (J40_15 _ (by simp only [if_pos c_12, if_pos c_19]) _ _ hP hD hS _ (lv_sub hl [0, 1] rfl))
    · refine lv_lconst (v := 0) hx hb dX6_air_21 (by decide) ?_
      refine lv_goto (tgt := 40) hx hb dX6_air_22 (by decide) ?_
      exact (hWW _ _ _ _ _).mp (J40_15 _ (by simp only [if_neg c_12]) _ _ hP hD hS _ (lv_sub hl [0, 1] rfl))
  refine lv_if_eq (x := (m_within gas (nI (0)) (nI (1)))) (tgt := 14) hx hb dX6_air_7 (by decide) (fun c_1 => ?_) (fun c_1 => ?_)
  · refine lv_iconst (v := nI (1)) hx hb dX6_air_14 (by decide) ?_
    exact (hWW _ _ _ _ _).mp (J15_4 _ (by simp only [if_pos c_1]) _ _ hP hD hS _ (lv_sub hl [0, 1] rfl))
  · refine lv_iconst (v := nI (0)) hx hb dX6_air_10 (by decide) ?_
    refine lv_goto (tgt := 15) hx hb dX6_air_11 (by decide) ?_
    exact (hWW _ _ _ _ _).mp (J15_4 _ (by simp only [if_neg c_1]) _ _ hP hD hS _ (lv_sub hl [0, 1] rfl))
