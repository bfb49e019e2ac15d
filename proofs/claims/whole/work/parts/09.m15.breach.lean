def m_breach_k134 (σ : Sg) (cell : Int32) (x_3 : Int32) (s_8 : Sg) (s_13 : Sg) (z45 : Int32 × Sg) (s_20 : Sg) : Int32 := z45.1
def m_breach_k134_s (σ : Sg) (cell : Int32) (x_3 : Int32) (s_8 : Sg) (s_13 : Sg) (z45 : Int32 × Sg) (s_20 : Sg) : Sg := s_20
def m_breach_x45 (σ : Sg) (cell : Int32) (x_3 : Int32) (s_8 : Sg) (s_13 : Sg) (z45 : Int32 × Sg) : Int32 := (m_breach_k134 σ cell x_3 s_8 s_13 z45 (sl z45.2 29 (((z45.2.2 29)) + ((z45.1).toInt64))))
def m_breach_x45_s (σ : Sg) (cell : Int32) (x_3 : Int32) (s_8 : Sg) (s_13 : Sg) (z45 : Int32 × Sg) : Sg := (m_breach_k134_s σ cell x_3 s_8 s_13 z45 (sl z45.2 29 (((z45.2.2 29)) + ((z45.1).toInt64))))
def m_breach_k117 (cell : Int32) (i45 : Nat) (z45 : Int32 × Sg) (x_26 : Int32) (x_32 : Int32) (x_38 : Int32) (s_42 : Sg) : Int32 × Sg := ((z45.1) + (x_32), s_42)
def m_breach_j116 (cell : Int32) (i45 : Nat) (z45 : Int32 × Sg) (x_26 : Int32) (x_32 : Int32) (x_38 : Int32) : Int32 × Sg := (m_breach_k117 cell i45 z45 x_26 x_32 x_38 (si z45.2 3 (i45) (x_38)))
def m_breach_j92 (cell : Int32) (i45 : Nat) (z45 : Int32 × Sg) (x_26 : Int32) (x_32 : Int32) : Int32 × Sg := (m_breach_j116 cell i45 z45 x_26 x_32 (if x_26 = 0 then (z45.2.1 3 i45) else nI (0)))
def m_breach_j73 (cell : Int32) (i45 : Nat) (z45 : Int32 × Sg) (x_26 : Int32) : Int32 × Sg := (m_breach_j92 cell i45 z45 x_26 (if x_26 = 0 then nI (0) else (z45.2.1 3 i45)))
def m_breach_b45 (cell : Int32) (i45 : Nat) (z45 : Int32 × Sg) : Int32 × Sg := (m_breach_j73 cell i45 z45 (if (z45.2.1 7 i45) = (z45.2.1 7 ((cell).toNatClampNeg)) then nI (1) else nI (0)))
def m_breach_k40 (σ : Sg) (cell : Int32) (x_3 : Int32) (s_8 : Sg) (s_13 : Sg) : Int32 := (m_breach_x45 σ cell x_3 s_8 s_13 (lp (m_breach_b45 cell) 25 (nI (0), s_13)))
def m_breach_k40_s (σ : Sg) (cell : Int32) (x_3 : Int32) (s_8 : Sg) (s_13 : Sg) : Sg := (m_breach_x45_s σ cell x_3 s_8 s_13 (lp (m_breach_b45 cell) 25 (nI (0), s_13)))
def m_breach_k31 (σ : Sg) (cell : Int32) (x_3 : Int32) (s_8 : Sg) : Int32 := (if (m_refused σ x_3) = 0 then (m_breach_k40 σ cell x_3 s_8 (m_gather_s s_8)) else nI (0))
def m_breach_k31_s (σ : Sg) (cell : Int32) (x_3 : Int32) (s_8 : Sg) : Sg := (if (m_refused σ x_3) = 0 then (m_breach_k40_s σ cell x_3 s_8 (m_gather_s s_8)) else s_8)
def m_breach_j28 (σ : Sg) (cell : Int32) (x_3 : Int32) : Int32 := (m_breach_k31 σ cell x_3 (m_refused_s σ x_3))
def m_breach_j28_s (σ : Sg) (cell : Int32) (x_3 : Int32) : Sg := (m_breach_k31_s σ cell x_3 (m_refused_s σ x_3))
def m_breach (σ : Sg) (cell : Int32) : Int32 := (m_breach_j28 σ cell (if (m_isCell cell) = 0 then nI (1) else (if (σ.1 3 ((cell).toNatClampNeg)) = 0 then nI (2) else nI (0))))
def m_breach_s (σ : Sg) (cell : Int32) : Sg := (m_breach_j28_s σ cell (if (m_isCell cell) = 0 then nI (1) else (if (σ.1 3 ((cell).toNatClampNeg)) = 0 then nI (2) else nI (0))))
set_option maxHeartbeats 4000000 in
set_option maxRecDepth 100000 in
theorem cm_breach (l : Launch) (G : va_G) (cI cZ : ClassId) (a : Nat → Nat) (σ : Sg) (cell : Int32) : mI l yX6_breach wsX6_breach ({ frames := 2, cells := 0, slots := 0, locals := 45 } : Room) G cI cZ a σ [.int (cell)] (m_breach σ cell) (m_breach_s σ cell) := by
  unfold mI
  refine Met.ofW (cc := cX6_breach) (maxL := 6) (ret := (some .int)) (by decide) rfl ?_
  intro p e s m args below meth c s₁ B hml hv
  obtain ⟨rfl, hP, hK, hD⟩ := hv
  have hx := B.exec
  have hb := B.bytes
  have hr := B.returns
  have hts := atoms_spec (ws := wsX6_breach) B.pre
  have hown : s.vm.findClass RX6 = some m.cls := findClass_of_methodNamed B.named
  have hlocks := B.notSynchronized
  have hS : va_S (mA a) s.heap s.heap [] := va_S.rf
  have hin : ∀ w ∈ wsX60, w ∈ wsX6_breach := fun w h => List.mem_cons_of_mem _ (List.mem_append_right _ h)
  have hl := lv_entry ([.ref (a 0), .int (cell)]) (n := 6) (Nat.le_of_ble_eq_true rfl)
  rw [lg_entry_eq]
  generalize (lg_sl ([.ref (a 0), .int (cell)]) ++ List.replicate (6 - (lg_sl ([.ref (a 0), .int (cell)])).length) Slot.unset).toArray = ls at hl ⊢
  have hl : lv_has ls 6 [(0, .ref (a 0)), (1, .int (cell))] := hl
  refine w_named (fun WW hWW => ?_)
  have hP : va_P G vwCl (wm cI cZ a σ) s.heap := hP
  refine lv_iload_n hx hb dX6_breach_0 rfl (lv_at hl 1 rfl) ?_
  refine m_callS (As := [.int (cell)]) (rest := []) ⟨hx, hb, hml, hown, hts⟩ (cm_isCell l cell ) (va_cwS 1 hts gX6_breach_X6_isCell rfl rfl rfl (by decide +kernel) ⟨Nat.le_of_ble_eq_true rfl, Nat.le_of_ble_eq_true rfl⟩) hP hS rfl hl.1 rfl (Nat.le_of_ble_eq_true rfl) dX6_breach_1 ⟨Nat.zero_le _, Nat.zero_le _⟩ (fun H locs hP hS => ?_)
  refine lv_istore_n (lv' := [(2, .int ((m_isCell cell))), (0, .ref (a 0)), (1, .int (cell))]) hx hb dX6_breach_4 rfl hl (by decide) rfl (fun ls hl => ?_)
  refine lv_aload_n hx hb dX6_breach_5 rfl (lv_at hl 1 rfl) ?_
  refine lv_iload_n hx hb dX6_breach_6 rfl (lv_at hl 0 rfl) ?_
  have J28_4 : ∀ (x_3 : Int32), x_3 = (if (m_isCell cell) = 0 then nI (1) else (if (σ.1 3 ((cell).toNatClampNeg)) = 0 then nI (2) else nI (0))) → ∀ (H : Heap) (locs : List Loc), va_P G vwCl (wm cI cZ a σ) H → va_D (mA a) (wm cI cZ a σ) → va_S (mA a) s.heap H locs → ∀ (ls : Array Slot), lv_has ls 6 [(2, .int ((m_isCell cell))), (0, .ref (a 0)), (1, .int (cell))] → WW H locs 0 0 (F0 m 28 ls [.int (x_3), .ref (a 0)]) := by
    intro x_3 h_5 H locs hP hD hS ls hl
    refine (hWW _ _ _ _ _).mpr ?_
    have hR_6 : m_breach σ cell = m_breach_j28 σ cell x_3 := (by have q_ := h_5.symm; subst q_; unfold m_breach; rfl)
    have hR_7 : m_breach_s σ cell = m_breach_j28_s σ cell x_3 := (by have q_ := h_5.symm; subst q_; unfold m_breach_s; rfl)
    refine m_callI (As := [.int (x_3)]) (rest := []) (fun _ h => h) ⟨hx, hb, hml, hown, hts⟩ (cm_refused l G cI cZ a σ  x_3 ) (cwV 1 hts gX6_breach_X6_refused rfl rfl rfl (by decide +kernel) ⟨Nat.le_of_ble_eq_true rfl, Nat.le_of_ble_eq_true rfl⟩) hK hP hD hS rfl hl.1 rfl (Nat.le_of_ble_eq_true rfl) dX6_breach_28 ⟨Nat.zero_le _, Nat.zero_le _⟩ (fun H locs hP hD _ _ hS => ?_)
    obtain ⟨s_8, e_9⟩ : ∃ z : Sg, z = (m_refused_s σ x_3) := ⟨_, rfl⟩
    rw [← e_9] at hP hD
    have hR_10 : m_breach σ cell = m_breach_k31 σ cell x_3 s_8 := (Eq.trans hR_6 (by have q_ := e_9.symm; subst q_; unfold m_breach_j28; rfl))
    have hR_11 : m_breach_s σ cell = m_breach_k31_s σ cell x_3 s_8 := (Eq.trans hR_7 (by have q_ := e_9.symm; subst q_; unfold m_breach_j28_s; rfl))
    refine lv_if_eq (x := (m_refused σ x_3)) (tgt := 36) hx hb dX6_breach_31 (by decide) (fun c_12 => ?_) (fun c_12 => ?_)
    · have hq := w_isCell (ck_tri h_5 (m_refused_0 c_12)).1
      refine lv_aload_n hx hb dX6_breach_36 rfl (lv_at hl 1 rfl) ?_
      refine m_callV (As := []) (rest := []) (fun _ h => h) ⟨hx, hb, hml, hown, hts⟩ (cm_gather l G cI cZ a s_8   ) (cwV 0 hts gX6_breach_X6_gather rfl rfl rfl (by decide +kernel) ⟨Nat.le_of_ble_eq_true rfl, Nat.le_of_ble_eq_true rfl⟩) hK hP hD hS rfl hl.1 rfl (Nat.le_of_ble_eq_true rfl) dX6_breach_37 ⟨Nat.zero_le _, Nat.zero_le _⟩ (fun H locs hP hD _ _ hS => ?_)
      obtain ⟨s_13, e_14⟩ : ∃ z : Sg, z = (m_gather_s s_8) := ⟨_, rfl⟩
      rw [← e_14] at hP hD
      have hR_15 : m_breach σ cell = m_breach_k40 σ cell x_3 s_8 s_13 := (Eq.trans hR_10 (by have q_ := e_14.symm; subst q_; unfold m_breach_k31; simp only [if_pos c_12]))
      have hR_16 : m_breach_s σ cell = m_breach_k40_s σ cell x_3 s_8 s_13 := (Eq.trans hR_11 (by have q_ := e_14.symm; subst q_; unfold m_breach_k31_s; simp only [if_pos c_12]))
      refine lv_iconst (v := nI (0)) hx hb dX6_breach_40 (by decide) ?_
      refine lv_istore_n (lv' := [(3, .int (nI (0))), (2, .int ((m_isCell cell))), (0, .ref (a 0)), (1, .int (cell))]) hx hb dX6_breach_41 rfl hl (by decide) rfl (fun ls hl => ?_)
      refine lv_iconst (v := nI (0)) hx hb dX6_breach_42 (by decide) ?_
      refine lv_istore (lv' := [(4, .int (nI (0))), (3, .int (nI (0))), (2, .int ((m_isCell cell))), (0, .ref (a 0)), (1, .int (cell))]) hx hb dX6_breach_43 hl (by decide) rfl (fun ls hl => ?_)
      have L45 : ∀ (n45 i45 : Nat), i45 ≤ 25 → 25 + 1 ≤ i45 + n45 → ∀ (z45 : Int32 × Sg), z45 = lp (m_breach_b45 cell) i45 (nI (0), s_13) → ∀ (H : Heap) (locs : List Loc), va_P G vwCl (wm cI cZ a z45.2) H → va_D (mA a) (wm cI cZ a z45.2) → va_S (mA a) s.heap H locs → ∀ (ls : Array Slot), lv_has ls 6 [(4, .int (nI (i45))), (3, .int (z45.1)), (2, .int ((m_isCell cell))), (0, .ref (a 0)), (1, .int (cell))] → WW H locs 0 0 (F0 m 45 ls []) := by
        intro n45
        induction n45 with
        | zero => intro i45 h1 h2; exact absurd h2 (by omega)
        | succ n45 ih45 =>
          intro i45 hi45 hn45 z45 hz45  H locs hP hD hS ls hl
          refine (hWW _ _ _ _ _).mpr ?_
          refine lv_iload hx hb dX6_breach_45 (lv_at hl 0 rfl) ?_
          refine lv_bipush (v := nI (25)) hx hb dX6_breach_47 (by decide) ?_
          refine n_icmp_ge (x := i45) (y := 25) (tgt := 123) hx hb (by omega) (by omega) dX6_breach_49 (by decide) (fun c_17 => ?_) (fun c_17 => ?_)
          · have hiN : 25 = i45 := by omega
            subst hiN
            have hR_18 : m_breach σ cell = m_breach_x45 σ cell x_3 s_8 s_13 z45 := (Eq.trans hR_15 (by have q_ := hz45.symm; subst q_; unfold m_breach_k40; rfl))
            have hR_19 : m_breach_s σ cell = m_breach_x45_s σ cell x_3 s_8 s_13 z45 := (Eq.trans hR_16 (by have q_ := hz45.symm; subst q_; unfold m_breach_k40_s; rfl))
            refine lv_aload_n hx hb dX6_breach_123 rfl (lv_at hl 3 rfl) ?_
            refine lv_dup hx hb dX6_breach_124 rfl ?_
            refine m_get (v := .long ((z45.2.2 29))) hx hb hts hin hown hK hP 29 (by decide) rfl (index := 168) (List.mem_of_getElem? (i := 3) rfl) dX6_breach_125 ?_
            refine lv_iload_n hx hb dX6_breach_128 rfl (lv_at hl 1 rfl) ?_
            refine lv_i2l (v := (z45.1).toInt64) hx hb dX6_breach_129 rfl ?_
            refine lv_ladd hx hb dX6_breach_130 ?_
            refine m_putJ (v := ((z45.2.2 29)) + ((z45.1).toInt64)) hx hb hts hin hown hK hP hD hS 29 (by decide) rfl (by decide +kernel) rfl (index := 168) (List.mem_of_getElem? (i := 3) rfl) dX6_breach_131 (fun H locs hP hD hS => ?_)
            obtain ⟨s_20, e_21⟩ : ∃ z : Sg, z = (sl z45.2 29 (((z45.2.2 29)) + ((z45.1).toInt64))) := ⟨_, rfl⟩
            rw [← e_21] at hP hD
            have hR_22 : m_breach σ cell = m_breach_k134 σ cell x_3 s_8 s_13 z45 s_20 := (Eq.trans hR_18 (by have q_ := e_21.symm; subst q_; unfold m_breach_x45; rfl))
            have hR_23 : m_breach_s σ cell = m_breach_k134_s σ cell x_3 s_8 s_13 z45 s_20 := (Eq.trans hR_19 (by have q_ := e_21.symm; subst q_; unfold m_breach_x45_s; rfl))
            refine lv_iload_n hx hb dX6_breach_134 rfl (lv_at hl 1 rfl) ?_
            exact m_iret (v := z45.1) hx hb hr hlocks hP hK hD hS dX6_breach_135 (Eq.trans (by unfold m_breach_k134; rfl) hR_22.symm) (Eq.trans (by unfold m_breach_k134_s; rfl) hR_23.symm)
          · refine lv_aload_n hx hb dX6_breach_52 rfl (lv_at hl 3 rfl) ?_
            refine m_get (v := .ref (a 7)) hx hb hts hin hown hK hP 7 (by decide) rfl (index := 25) (List.mem_of_getElem? (i := 2) rfl) dX6_breach_53 ?_
            refine lv_iload hx hb dX6_breach_56 (lv_at hl 0 rfl) ?_
            refine m_ald (j := i45) hx hb hK hP 6 7 rfl (by decide) (by omega) dX6_breach_58 ?_
            refine W.eq (g2 := F0 m 59 ls [.int ((z45.2.1 7 i45))]) rfl ?_
            refine lv_aload_n hx hb dX6_breach_59 rfl (lv_at hl 3 rfl) ?_
            refine m_get (v := .ref (a 7)) hx hb hts hin hown hK hP 7 (by decide) rfl (index := 25) (List.mem_of_getElem? (i := 2) rfl) dX6_breach_60 ?_
            refine lv_iload_n hx hb dX6_breach_63 rfl (lv_at hl 4 rfl) ?_
            refine m_aldI (j := cell) hx hb hK hP 6 7 rfl (hq) dX6_breach_64 ?_
            refine W.eq (g2 := F0 m 65 ls [.int ((z45.2.1 7 ((cell).toNatClampNeg))), .int ((z45.2.1 7 i45))]) rfl ?_
            have J73_27 : ∀ (x_26 : Int32), x_26 = (if (z45.2.1 7 i45) = (z45.2.1 7 ((cell).toNatClampNeg)) then nI (1) else nI (0)) → ∀ (H : Heap) (locs : List Loc), va_P G vwCl (wm cI cZ a z45.2) H → va_D (mA a) (wm cI cZ a z45.2) → va_S (mA a) s.heap H locs → ∀ (ls : Array Slot), lv_has ls 6 [(4, .int (nI (i45))), (3, .int (z45.1)), (2, .int ((m_isCell cell))), (0, .ref (a 0)), (1, .int (cell))] → WW H locs 0 0 (F0 m 73 ls [.int (x_26)]) := by
              intro x_26 h_28 H locs hP hD hS ls hl
              refine (hWW _ _ _ _ _).mpr ?_
              have hR_29 : m_breach_b45 cell i45 z45 = m_breach_j73 cell i45 z45 x_26 := (by have q_ := h_28.symm; subst q_; unfold m_breach_b45; rfl)
              refine lv_istore (lv' := [(5, .int (x_26)), (4, .int (nI (i45))), (3, .int (z45.1)), (2, .int ((m_isCell cell))), (0, .ref (a 0)), (1, .int (cell))]) hx hb dX6_breach_73 hl (by decide) rfl (fun ls hl => ?_)
              refine lv_iload_n hx hb dX6_breach_75 rfl (lv_at hl 2 rfl) ?_
              refine lv_iload hx hb dX6_breach_76 (lv_at hl 0 rfl) ?_
              have J92_33 : ∀ (x_32 : Int32), x_32 = (if x_26 = 0 then nI (0) else (z45.2.1 3 i45)) → ∀ (H : Heap) (locs : List Loc), va_P G vwCl (wm cI cZ a z45.2) H → va_D (mA a) (wm cI cZ a z45.2) → va_S (mA a) s.heap H locs → ∀ (ls : Array Slot), lv_has ls 6 [(5, .int (x_26)), (4, .int (nI (i45))), (3, .int (z45.1)), (2, .int ((m_isCell cell))), (0, .ref (a 0)), (1, .int (cell))] → WW H locs 0 0 (F0 m 92 ls [.int (x_32), .int (z45.1)]) := by
                intro x_32 h_34 H locs hP hD hS ls hl
                refine (hWW _ _ _ _ _).mpr ?_
                have hR_35 : m_breach_b45 cell i45 z45 = m_breach_j92 cell i45 z45 x_26 x_32 := (Eq.trans hR_29 (by have q_ := h_34.symm; subst q_; unfold m_breach_j73; rfl))
                refine lv_iadd (x := z45.1) (y := x_32) hx hb dX6_breach_92 ?_
                refine lv_istore_n (lv' := [(3, .int ((z45.1) + (x_32))), (5, .int (x_26)), (4, .int (nI (i45))), (2, .int ((m_isCell cell))), (0, .ref (a 0)), (1, .int (cell))]) hx hb dX6_breach_93 rfl hl (by decide) rfl (fun ls hl => ?_)
                refine lv_aload_n hx hb dX6_breach_94 rfl (lv_at hl 4 rfl) ?_
                refine m_get (v := .ref (a 3)) hx hb hts hin hown hK hP 3 (by decide) rfl (index := 13) (List.mem_of_getElem? (i := 1) rfl) dX6_breach_95 ?_
                refine lv_iload hx hb dX6_breach_98 (lv_at hl 2 rfl) ?_
                refine lv_iload hx hb dX6_breach_100 (lv_at hl 1 rfl) ?_
                have J116_39 : ∀ (x_38 : Int32), x_38 = (if x_26 = 0 then (z45.2.1 3 i45) else nI (0)) → ∀ (H : Heap) (locs : List Loc), va_P G vwCl (wm cI cZ a z45.2) H → va_D (mA a) (wm cI cZ a z45.2) → va_S (mA a) s.heap H locs → ∀ (ls : Array Slot), lv_has ls 6 [(3, .int ((z45.1) + (x_32))), (5, .int (x_26)), (4, .int (nI (i45))), (2, .int ((m_isCell cell))), (0, .ref (a 0)), (1, .int (cell))] → WW H locs 0 0 (F0 m 116 ls [.int (x_38), .int (nI (i45)), .ref (a 3)]) := by
                  intro x_38 h_40 H locs hP hD hS ls hl
                  refine (hWW _ _ _ _ _).mpr ?_
                  have hR_41 : m_breach_b45 cell i45 z45 = m_breach_j116 cell i45 z45 x_26 x_32 x_38 := (Eq.trans hR_35 (by have q_ := h_40.symm; subst q_; unfold m_breach_j92; rfl))
                  refine m_ast (j := i45) (v := x_38) hx hb hK hP hD hS 2 3 rfl rfl (by decide) (by omega) dX6_breach_116 (fun H locs hP hD hS => ?_)
                  obtain ⟨s_42, e_43⟩ : ∃ z : Sg, z = (si z45.2 3 (i45) (x_38)) := ⟨_, rfl⟩
                  rw [← e_43] at hP hD
                  have hR_44 : m_breach_b45 cell i45 z45 = m_breach_k117 cell i45 z45 x_26 x_32 x_38 s_42 := (Eq.trans hR_41 (by have q_ := e_43.symm; subst q_; unfold m_breach_j116; rfl))
                  refine n_iinc (x := i45) (dN := 1) (k := 2) (lv' := [(4, .int (nI (i45 + 1))), (3, .int ((z45.1) + (x_32))), (5, .int (x_26)), (2, .int ((m_isCell cell))), (0, .ref (a 0)), (1, .int (cell))]) hx hb dX6_breach_117 hl rfl (by decide) rfl (fun ls hl => ?_)
                  refine lv_goto (tgt := 45) hx hb dX6_breach_120 (by decide) ?_
                  exact (hWW _ _ _ _ _).mp (ih45 (i45 + 1) (by omega) (by omega) (((z45.1) + (x_32), s_42)) (by show _ = m_breach_b45 cell i45 (lp (m_breach_b45 cell) i45 (nI (0), s_13)); rw [← hz45]; exact (Eq.trans (by unfold m_breach_k117; rfl) hR_44.symm))  _ _ hP hD hS _ (lv_sub hl [0, 1, 3, 4, 5] rfl))
                refine lv_if_eq (x := x_26) (tgt := 109) hx hb dX6_breach_102 (by decide) (fun c_36 => ?_) (fun c_36 => ?_)
                · refine lv_aload_n hx hb dX6_breach_109 rfl (lv_at hl 4 rfl) ?_
                  refine m_get (v := .ref (a 3)) hx hb hts hin hown hK hP 3 (by decide) rfl (index := 13) (List.mem_of_getElem? (i := 1) rfl) dX6_breach_110 ?_
                  refine lv_iload hx hb dX6_breach_113 (lv_at hl 2 rfl) ?_
                  refine m_ald (j := i45) hx hb hK hP 2 3 rfl (by decide) (by omega) dX6_breach_115 ?_
                  refine W.eq (g2 := F0 m 116 ls [.int ((z45.2.1 3 i45)), .int (nI (i45)), .ref (a 3)]) rfl ?_
                  exact (hWW _ _ _ _ _).mp (J116_39 _ (by simp only [if_pos c_36]) _ _ hP hD hS _ (lv_sub hl [0, 1, 2, 3, 4, 5] rfl))
                · refine lv_iconst (v := nI (0)) hx hb dX6_breach_105 (by decide) ?_
                  refine lv_goto (tgt := 116) hx hb dX6_breach_106 (by decide) ?_
                  exact (hWW _ _ _ _ _).mp (J116_39 _ (by simp only [if_neg c_36]) _ _ hP hD hS _ (lv_sub hl [0, 1, 2, 3, 4, 5] rfl))
              refine lv_if_eq (x := x_26) (tgt := 91) hx hb dX6_breach_78 (by decide) (fun c_30 => ?_) (fun c_30 => ?_)
              · refine lv_iconst (v := nI (0)) hx hb dX6_breach_91 (by decide) ?_
                exact (hWW _ _ _ _ _).mp (J92_33 _ (by simp only [if_pos c_30]) _ _ hP hD hS _ (lv_sub hl [0, 1, 2, 3, 4, 5] rfl))
              · refine lv_aload_n hx hb dX6_breach_81 rfl (lv_at hl 4 rfl) ?_
                refine m_get (v := .ref (a 3)) hx hb hts hin hown hK hP 3 (by decide) rfl (index := 13) (List.mem_of_getElem? (i := 1) rfl) dX6_breach_82 ?_
                refine lv_iload hx hb dX6_breach_85 (lv_at hl 1 rfl) ?_
                refine m_ald (j := i45) hx hb hK hP 2 3 rfl (by decide) (by omega) dX6_breach_87 ?_
                refine W.eq (g2 := F0 m 88 ls [.int ((z45.2.1 3 i45)), .int (z45.1)]) rfl ?_
                refine lv_goto (tgt := 92) hx hb dX6_breach_88 (by decide) ?_
                exact (hWW _ _ _ _ _).mp (J92_33 _ (by simp only [if_neg c_30]) _ _ hP hD hS _ (lv_sub hl [0, 1, 2, 3, 4, 5] rfl))
            refine lv_icmp_ne (x := (z45.2.1 7 i45)) (y := (z45.2.1 7 ((cell).toNatClampNeg))) (tgt := 72) hx hb dX6_breach_65 (by decide) (fun c_24 => ?_) (fun c_24 => ?_)
            · refine lv_iconst (v := nI (0)) hx hb dX6_breach_72 (by decide) ?_
              exact (hWW _ _ _ _ _).mp (J73_27 _ (by simp only [if_neg c_24]) _ _ hP hD hS _ (lv_sub hl [0, 1, 2, 3, 4] rfl))
            · refine lv_iconst (v := nI (1)) hx hb dX6_breach_68 (by decide) ?_
              refine lv_goto (tgt := 73) hx hb dX6_breach_69 (by decide) ?_
              exact (hWW _ _ _ _ _).mp (J73_27 _ (by simp only [if_pos c_24]) _ _ hP hD hS _ (lv_sub hl [0, 1, 2, 3, 4] rfl))
      exact (hWW _ _ _ _ _).mp (L45 (25 + 1) 0 (Nat.zero_le _) (by omega) (nI (0), s_13) rfl  _ _ hP hD hS _ (lv_sub hl [0, 1, 2, 3, 4] rfl))
    · refine lv_iconst (v := nI (0)) hx hb dX6_breach_34 (by decide) ?_
      exact m_iret (v := nI (0)) hx hb hr hlocks hP hK hD hS dX6_breach_35 (Eq.trans (by unfold m_breach_k31; simp only [if_neg c_12]) hR_10.symm) (Eq.trans (by unfold m_breach_k31_s; simp only [if_neg c_12]) hR_11.symm)
  refine lv_if_ne (x := (m_isCell cell)) (tgt := 14) hx hb dX6_breach_7 (by decide) (fun c_1 => ?_) (fun c_1 => ?_)
  · refine lv_aload_n hx hb dX6_breach_14 rfl (lv_at hl 1 rfl) ?_
    refine m_get (v := .ref (a 3)) hx hb hts hin hown hK hP 3 (by decide) rfl (index := 13) (List.mem_of_getElem? (i := 1) rfl) dX6_breach_15 ?_
    refine lv_iload_n hx hb dX6_breach_18 rfl (lv_at hl 2 rfl) ?_
    refine m_aldI (j := cell) hx hb hK hP 2 3 rfl (w_isCell c_1) dX6_breach_19 ?_
    refine W.eq (g2 := F0 m 20 ls [.int ((σ.1 3 ((cell).toNatClampNeg))), .ref (a 0)]) rfl ?_
    refine lv_if_ne (x := (σ.1 3 ((cell).toNatClampNeg))) (tgt := 27) hx hb dX6_breach_20 (by decide) (fun c_45 => ?_) (fun c_45 => ?_)
    · refine lv_iconst (v := nI (0)) hx hb dX6_breach_27 (by decide) ?_
      exact (hWW _ _ _ _ _).mp (J28_4 _ (by simp only [if_neg c_1, if_neg c_45]) _ _ hP hD hS _ (lv_sub hl [0, 1, 2] rfl))
    · refine lv_iconst (v := nI (2)) hx hb dX6_breach_23 (by decide) ?_
      refine lv_goto (tgt := 28) hx hb dX6_breach_24 (by decide) ?_
      exact (hWW _ _ _ _ _).mp (J28_4 _ (by simp only [if_neg c_1, if_pos c_45]) _ _ hP hD hS _ (lv_sub hl [0, 1, 2] rfl))
  · refine lv_iconst (v := nI (1)) hx hb dX6_breach_10 (by decide) ?_
    refine lv_goto (tgt := 28) hx hb dX6_breach_11 (by decide) ?_
    exact (hWW _ _ _ _ _).mp (J28_4 _ (by simp only [if_pos c_1]) _ _ hP hD hS _ (lv_sub hl [0, 1, 2] rfl))
