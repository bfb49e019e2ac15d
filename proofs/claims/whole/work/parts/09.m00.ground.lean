def m_ground_k216_s (σ : Sg) (cell : Int32) (layer : Int32) (p0 : Int32) (e0 : Int32) (g0 : Int32) (c0 : Int32) (x_3 : Int32) (x_9 : Int32) (x_15 : Int32) (s_19 : Sg) (s_23 : Sg) (s_26 : Sg) (s_29 : Sg) (s_32 : Sg) (s_35 : Sg) (s_38 : Sg) (s_41 : Sg) : Sg := s_41
def m_ground_k207_s (σ : Sg) (cell : Int32) (layer : Int32) (p0 : Int32) (e0 : Int32) (g0 : Int32) (c0 : Int32) (x_3 : Int32) (x_9 : Int32) (x_15 : Int32) (s_19 : Sg) (s_23 : Sg) (s_26 : Sg) (s_29 : Sg) (s_32 : Sg) (s_35 : Sg) (s_38 : Sg) : Sg := (m_ground_k216_s σ cell layer p0 e0 g0 c0 x_3 x_9 x_15 s_19 s_23 s_26 s_29 s_32 s_35 s_38 (si s_38 11 ((((nI (5)) * (cell)) + (layer)).toNatClampNeg) (c0)))
def m_ground_k198_s (σ : Sg) (cell : Int32) (layer : Int32) (p0 : Int32) (e0 : Int32) (g0 : Int32) (c0 : Int32) (x_3 : Int32) (x_9 : Int32) (x_15 : Int32) (s_19 : Sg) (s_23 : Sg) (s_26 : Sg) (s_29 : Sg) (s_32 : Sg) (s_35 : Sg) : Sg := (m_ground_k207_s σ cell layer p0 e0 g0 c0 x_3 x_9 x_15 s_19 s_23 s_26 s_29 s_32 s_35 (si s_35 10 ((((nI (5)) * (cell)) + (layer)).toNatClampNeg) (g0)))
def m_ground_k189_s (σ : Sg) (cell : Int32) (layer : Int32) (p0 : Int32) (e0 : Int32) (g0 : Int32) (c0 : Int32) (x_3 : Int32) (x_9 : Int32) (x_15 : Int32) (s_19 : Sg) (s_23 : Sg) (s_26 : Sg) (s_29 : Sg) (s_32 : Sg) : Sg := (m_ground_k198_s σ cell layer p0 e0 g0 c0 x_3 x_9 x_15 s_19 s_23 s_26 s_29 s_32 (si s_32 9 ((((nI (5)) * (cell)) + (layer)).toNatClampNeg) (e0)))
def m_ground_k181_s (σ : Sg) (cell : Int32) (layer : Int32) (p0 : Int32) (e0 : Int32) (g0 : Int32) (c0 : Int32) (x_3 : Int32) (x_9 : Int32) (x_15 : Int32) (s_19 : Sg) (s_23 : Sg) (s_26 : Sg) (s_29 : Sg) : Sg := (m_ground_k189_s σ cell layer p0 e0 g0 c0 x_3 x_9 x_15 s_19 s_23 s_26 s_29 (si s_29 8 ((((nI (5)) * (cell)) + (layer)).toNatClampNeg) (p0)))
def m_ground_k161_s (σ : Sg) (cell : Int32) (layer : Int32) (p0 : Int32) (e0 : Int32) (g0 : Int32) (c0 : Int32) (x_3 : Int32) (x_9 : Int32) (x_15 : Int32) (s_19 : Sg) (s_23 : Sg) (s_26 : Sg) : Sg := (m_ground_k181_s σ cell layer p0 e0 g0 c0 x_3 x_9 x_15 s_19 s_23 s_26 (sl s_26 28 (((s_26.2 28)) + (((c0) - ((s_26.1 11 ((((nI (5)) * (cell)) + (layer)).toNatClampNeg)))).toInt64))))
def m_ground_k131_s (σ : Sg) (cell : Int32) (layer : Int32) (p0 : Int32) (e0 : Int32) (g0 : Int32) (c0 : Int32) (x_3 : Int32) (x_9 : Int32) (x_15 : Int32) (s_19 : Sg) (s_23 : Sg) : Sg := (m_ground_k161_s σ cell layer p0 e0 g0 c0 x_3 x_9 x_15 s_19 s_23 (sl s_23 27 (((s_23.2 27)) + (((((p0) + (e0)) - ((s_23.1 8 ((((nI (5)) * (cell)) + (layer)).toNatClampNeg)))) - ((s_23.1 9 ((((nI (5)) * (cell)) + (layer)).toNatClampNeg)))).toInt64))))
def m_ground_k100_s (σ : Sg) (cell : Int32) (layer : Int32) (p0 : Int32) (e0 : Int32) (g0 : Int32) (c0 : Int32) (x_3 : Int32) (x_9 : Int32) (x_15 : Int32) (s_19 : Sg) : Sg := (if (m_refused σ x_15) = 0 then (m_ground_k131_s σ cell layer p0 e0 g0 c0 x_3 x_9 x_15 s_19 (sl s_19 26 (((s_19.2 26)) + (((g0) - ((s_19.1 10 ((((nI (5)) * (cell)) + (layer)).toNatClampNeg)))).toInt64)))) else s_19)
def m_ground_j97_s (σ : Sg) (cell : Int32) (layer : Int32) (p0 : Int32) (e0 : Int32) (g0 : Int32) (c0 : Int32) (x_3 : Int32) (x_9 : Int32) (x_15 : Int32) : Sg := (m_ground_k100_s σ cell layer p0 e0 g0 c0 x_3 x_9 x_15 (m_refused_s σ x_15))
def m_ground_j75_s (σ : Sg) (cell : Int32) (layer : Int32) (p0 : Int32) (e0 : Int32) (g0 : Int32) (c0 : Int32) (x_3 : Int32) (x_9 : Int32) : Sg := (m_ground_j97_s σ cell layer p0 e0 g0 c0 x_3 x_9 (if x_3 = 0 then nI (1) else (if x_9 = 0 then nI (2) else nI (0))))
def m_ground_j21_s (σ : Sg) (cell : Int32) (layer : Int32) (p0 : Int32) (e0 : Int32) (g0 : Int32) (c0 : Int32) (x_3 : Int32) : Sg := (m_ground_j75_s σ cell layer p0 e0 g0 c0 x_3 (if (m_within p0 (nI (0)) (nI (9))) = 0 then nI (0) else (if (m_within e0 (nI (0)) (nI (9))) = 0 then nI (0) else (if (m_within g0 (-5000) (nI (30000))) = 0 then nI (0) else (if (m_within c0 (nI (0)) (nI (1000))) = 0 then nI (0) else nI (1))))))
def m_ground_s (σ : Sg) (cell : Int32) (layer : Int32) (p0 : Int32) (e0 : Int32) (g0 : Int32) (c0 : Int32) : Sg := (m_ground_j21_s σ cell layer p0 e0 g0 c0 (if (m_isCell cell) = 0 then nI (0) else (if (m_within layer (nI (0)) (nI (4))) = 0 then nI (0) else nI (1))))
set_option maxHeartbeats 4000000 in
set_option maxRecDepth 100000 in
theorem cm_ground (l : Launch) (G : va_G) (cI cZ : ClassId) (a : Nat → Nat) (σ : Sg) (cell : Int32) (layer : Int32) (p0 : Int32) (e0 : Int32) (g0 : Int32) (c0 : Int32) : mV l yX6_ground wsX6_ground ({ frames := 2, cells := 0, slots := 0, locals := 42 } : Room) G cI cZ a σ [.int (cell), .int (layer), .int (p0), .int (e0), .int (g0), .int (c0)] (m_ground_s σ cell layer p0 e0 g0 c0) := by
  unfold mV
  refine Met.ofW (cc := cX6_ground) (maxL := 10) (ret := none) (by decide) rfl ?_
  intro p e s m args below meth c s₁ B hml hv
  obtain ⟨rfl, hP, hK, hD⟩ := hv
  have hx := B.exec
  have hb := B.bytes
  have hr := B.returns
  have hts := atoms_spec (ws := wsX6_ground) B.pre
  have hown : s.vm.findClass RX6 = some m.cls := findClass_of_methodNamed B.named
  have hlocks := B.notSynchronized
  have hS : va_S (mA a) s.heap s.heap [] := va_S.rf
  have hin : ∀ w ∈ wsX60, w ∈ wsX6_ground := fun w h => List.mem_cons_of_mem _ (List.mem_append_right _ h)
  have hl := lv_entry ([.ref (a 0), .int (cell), .int (layer), .int (p0), .int (e0), .int (g0), .int (c0)]) (n := 10) (Nat.le_of_ble_eq_true rfl)
  rw [lg_entry_eq]
  generalize (lg_sl ([.ref (a 0), .int (cell), .int (layer), .int (p0), .int (e0), .int (g0), .int (c0)]) ++ List.replicate (10 - (lg_sl ([.ref (a 0), .int (cell), .int (layer), .int (p0), .int (e0), .int (g0), .int (c0)])).length) Slot.unset).toArray = ls at hl ⊢
  have hl : lv_has ls 10 [(0, .ref (a 0)), (1, .int (cell)), (2, .int (layer)), (3, .int (p0)), (4, .int (e0)), (5, .int (g0)), (6, .int (c0))] := hl
  refine w_named (fun WW hWW => ?_)
  have hP : va_P G vwCl (wm cI cZ a σ) s.heap := hP
  refine lv_iload_n hx hb dX6_ground_0 rfl (lv_at hl 1 rfl) ?_
  refine m_callS (As := [.int (cell)]) (rest := []) ⟨hx, hb, hml, hown, hts⟩ (cm_isCell l cell ) (va_cwS 1 hts gX6_ground_X6_isCell rfl rfl rfl (by decide +kernel) ⟨Nat.le_of_ble_eq_true rfl, Nat.le_of_ble_eq_true rfl⟩) hP hS rfl hl.1 rfl (Nat.le_of_ble_eq_true rfl) dX6_ground_1 ⟨Nat.zero_le _, Nat.zero_le _⟩ (fun H locs hP hS => ?_)
  have J21_4 : ∀ (x_3 : Int32), x_3 = (if (m_isCell cell) = 0 then nI (0) else (if (m_within layer (nI (0)) (nI (4))) = 0 then nI (0) else nI (1))) → ∀ (H : Heap) (locs : List Loc), va_P G vwCl (wm cI cZ a σ) H → va_D (mA a) (wm cI cZ a σ) → va_S (mA a) s.heap H locs → ∀ (ls : Array Slot), lv_has ls 10 [(0, .ref (a 0)), (1, .int (cell)), (2, .int (layer)), (3, .int (p0)), (4, .int (e0)), (5, .int (g0)), (6, .int (c0))] → WW H locs 0 0 (F0 m 21 ls [.int (x_3)]) := by
    intro x_3 h_5 H locs hP hD hS ls hl
    refine (hWW _ _ _ _ _).mpr ?_
    have hR_6 : m_ground_s σ cell layer p0 e0 g0 c0 = m_ground_j21_s σ cell layer p0 e0 g0 c0 x_3 := (by have q_ := h_5.symm; subst q_; unfold m_ground_s; rfl)
    refine lv_istore (lv' := [(7, .int (x_3)), (0, .ref (a 0)), (1, .int (cell)), (2, .int (layer)), (3, .int (p0)), (4, .int (e0)), (5, .int (g0)), (6, .int (c0))]) hx hb dX6_ground_21 hl (by decide) rfl (fun ls hl => ?_)
    refine lv_iload_n hx hb dX6_ground_23 rfl (lv_at hl 4 rfl) ?_
    refine lv_iconst (v := nI (0)) hx hb dX6_ground_24 (by decide) ?_
    refine lv_bipush (v := nI (9)) hx hb dX6_ground_25 (by decide) ?_
    refine m_callS (As := [.int (p0), .int (nI (0)), .int (nI (9))]) (rest := []) ⟨hx, hb, hml, hown, hts⟩ (cm_within l p0 (nI (0)) (nI (9)) ) (va_cwS 3 hts gX6_ground_X6_within rfl rfl rfl (by decide +kernel) ⟨Nat.le_of_ble_eq_true rfl, Nat.le_of_ble_eq_true rfl⟩) hP hS rfl hl.1 rfl (Nat.le_of_ble_eq_true rfl) dX6_ground_27 ⟨Nat.zero_le _, Nat.zero_le _⟩ (fun H locs hP hS => ?_)
    have J75_10 : ∀ (x_9 : Int32), x_9 = (if (m_within p0 (nI (0)) (nI (9))) = 0 then nI (0) else (if (m_within e0 (nI (0)) (nI (9))) = 0 then nI (0) else (if (m_within g0 (-5000) (nI (30000))) = 0 then nI (0) else (if (m_within c0 (nI (0)) (nI (1000))) = 0 then nI (0) else nI (1))))) → ∀ (H : Heap) (locs : List Loc), va_P G vwCl (wm cI cZ a σ) H → va_D (mA a) (wm cI cZ a σ) → va_S (mA a) s.heap H locs → ∀ (ls : Array Slot), lv_has ls 10 [(7, .int (x_3)), (0, .ref (a 0)), (1, .int (cell)), (2, .int (layer)), (3, .int (p0)), (4, .int (e0)), (5, .int (g0)), (6, .int (c0))] → WW H locs 0 0 (F0 m 75 ls [.int (x_9)]) := by
      intro x_9 h_11 H locs hP hD hS ls hl
      refine (hWW _ _ _ _ _).mpr ?_
      have hR_12 : m_ground_s σ cell layer p0 e0 g0 c0 = m_ground_j75_s σ cell layer p0 e0 g0 c0 x_3 x_9 := (Eq.trans hR_6 (by have q_ := h_11.symm; subst q_; unfold m_ground_j21_s; rfl))
      refine lv_istore (lv' := [(8, .int (x_9)), (7, .int (x_3)), (0, .ref (a 0)), (1, .int (cell)), (2, .int (layer)), (3, .int (p0)), (4, .int (e0)), (5, .int (g0)), (6, .int (c0))]) hx hb dX6_ground_75 hl (by decide) rfl (fun ls hl => ?_)
      refine lv_aload_n hx hb dX6_ground_77 rfl (lv_at hl 2 rfl) ?_
      refine lv_iload hx hb dX6_ground_78 (lv_at hl 1 rfl) ?_
      have J97_16 : ∀ (x_15 : Int32), x_15 = (if x_3 = 0 then nI (1) else (if x_9 = 0 then nI (2) else nI (0))) → ∀ (H : Heap) (locs : List Loc), va_P G vwCl (wm cI cZ a σ) H → va_D (mA a) (wm cI cZ a σ) → va_S (mA a) s.heap H locs → ∀ (ls : Array Slot), lv_has ls 10 [(8, .int (x_9)), (7, .int (x_3)), (0, .ref (a 0)), (1, .int (cell)), (2, .int (layer)), (3, .int (p0)), (4, .int (e0)), (5, .int (g0)), (6, .int (c0))] → WW H locs 0 0 (F0 m 97 ls [.int (x_15), .ref (a 0)]) := by
        intro x_15 h_17 H locs hP hD hS ls hl
        refine (hWW _ _ _ _ _).mpr ?_
        have hR_18 : m_ground_s σ cell layer p0 e0 g0 c0 = m_ground_j97_s σ cell layer p0 e0 g0 c0 x_3 x_9 x_15 := (Eq.trans hR_12 (by have q_ := h_17.symm; subst q_; unfold m_ground_j75_s; rfl))
        refine m_callI (As := [.int (x_15)]) (rest := []) (fun _ h => h) ⟨hx, hb, hml, hown, hts⟩ (cm_refused l G cI cZ a σ  x_15 ) (cwV 1 hts gX6_ground_X6_refused rfl rfl rfl (by decide +kernel) ⟨Nat.le_of_ble_eq_true rfl, Nat.le_of_ble_eq_true rfl⟩) hK hP hD hS rfl hl.1 rfl (Nat.le_of_ble_eq_true rfl) dX6_ground_97 ⟨Nat.zero_le _, Nat.zero_le _⟩ (fun H locs hP hD _ _ hS => ?_)
        obtain ⟨s_19, e_20⟩ : ∃ z : Sg, z = (m_refused_s σ x_15) := ⟨_, rfl⟩
        rw [← e_20] at hP hD
        have hR_21 : m_ground_s σ cell layer p0 e0 g0 c0 = m_ground_k100_s σ cell layer p0 e0 g0 c0 x_3 x_9 x_15 s_19 := (Eq.trans hR_18 (by have q_ := e_20.symm; subst q_; unfold m_ground_j97_s; rfl))
        refine lv_if_eq (x := (m_refused σ x_15)) (tgt := 104) hx hb dX6_ground_100 (by decide) (fun c_22 => ?_) (fun c_22 => ?_)
        · have q0 := ck_tri h_17 (m_refused_0 c_22)
          have q1 := ck_two h_5 q0.1
          have hq : vp_in (nI (5) * (cell) + (layer)) 125 := vp_5l (w_isCell q1.1) (w_in (n := 4) q1.2 (by decide))
          refine lv_iconst (v := nI (5)) hx hb dX6_ground_104 (by decide) ?_
          refine lv_iload_n hx hb dX6_ground_105 rfl (lv_at hl 3 rfl) ?_
          refine lv_imul (x := nI (5)) (y := cell) hx hb dX6_ground_106 ?_
          refine lv_iload_n hx hb dX6_ground_107 rfl (lv_at hl 4 rfl) ?_
          refine lv_iadd (x := (nI (5)) * (cell)) (y := layer) hx hb dX6_ground_108 ?_
          refine lv_istore (lv' := [(9, .int (((nI (5)) * (cell)) + (layer))), (8, .int (x_9)), (7, .int (x_3)), (0, .ref (a 0)), (1, .int (cell)), (2, .int (layer)), (3, .int (p0)), (4, .int (e0)), (5, .int (g0)), (6, .int (c0))]) hx hb dX6_ground_109 hl (by decide) rfl (fun ls hl => ?_)
          refine lv_aload_n hx hb dX6_ground_111 rfl (lv_at hl 3 rfl) ?_
          refine lv_dup hx hb dX6_ground_112 rfl ?_
          refine m_get (v := .long ((s_19.2 26))) hx hb hts hin hown hK hP 26 (by decide) rfl (index := 76) (List.mem_of_getElem? (i := 1) rfl) dX6_ground_113 ?_
          refine lv_iload hx hb dX6_ground_116 (lv_at hl 8 rfl) ?_
          refine lv_aload_n hx hb dX6_ground_118 rfl (lv_at hl 3 rfl) ?_
          refine m_get (v := .ref (a 10)) hx hb hts hin hown hK hP 10 (by decide) rfl (index := 34) (List.mem_of_getElem? (i := 2) rfl) dX6_ground_119 ?_
          refine lv_iload hx hb dX6_ground_122 (lv_at hl 0 rfl) ?_
          refine m_aldI (j := ((nI (5)) * (cell)) + (layer)) hx hb hK hP 9 10 rfl (hq) dX6_ground_124 ?_
          refine W.eq (g2 := F0 m 125 ls [.int ((s_19.1 10 ((((nI (5)) * (cell)) + (layer)).toNatClampNeg))), .int (g0), .long ((s_19.2 26)), .ref (a 0)]) rfl ?_
          refine lv_isub (x := g0) (y := (s_19.1 10 ((((nI (5)) * (cell)) + (layer)).toNatClampNeg))) hx hb dX6_ground_125 ?_
          refine lv_i2l (v := ((g0) - ((s_19.1 10 ((((nI (5)) * (cell)) + (layer)).toNatClampNeg)))).toInt64) hx hb dX6_ground_126 rfl ?_
          refine lv_ladd hx hb dX6_ground_127 ?_
          refine m_putJ (v := ((s_19.2 26)) + (((g0) - ((s_19.1 10 ((((nI (5)) * (cell)) + (layer)).toNatClampNeg)))).toInt64)) hx hb hts hin hown hK hP hD hS 26 (by decide) rfl (by decide +kernel) rfl (index := 76) (List.mem_of_getElem? (i := 1) rfl) dX6_ground_128 (fun H locs hP hD hS => ?_)
          obtain ⟨s_23, e_24⟩ : ∃ z : Sg, z = (sl s_19 26 (((s_19.2 26)) + (((g0) - ((s_19.1 10 ((((nI (5)) * (cell)) + (layer)).toNatClampNeg)))).toInt64))) := ⟨_, rfl⟩
          rw [← e_24] at hP hD
          have hR_25 : m_ground_s σ cell layer p0 e0 g0 c0 = m_ground_k131_s σ cell layer p0 e0 g0 c0 x_3 x_9 x_15 s_19 s_23 := (Eq.trans hR_21 (by have q_ := e_24.symm; subst q_; unfold m_ground_k100_s; simp only [if_pos c_22]))
          refine lv_aload_n hx hb dX6_ground_131 rfl (lv_at hl 3 rfl) ?_
          refine lv_dup hx hb dX6_ground_132 rfl ?_
          refine m_get (v := .long ((s_23.2 27))) hx hb hts hin hown hK hP 27 (by decide) rfl (index := 82) (List.mem_of_getElem? (i := 3) rfl) dX6_ground_133 ?_
          refine lv_iload_n hx hb dX6_ground_136 rfl (lv_at hl 6 rfl) ?_
          refine lv_iload hx hb dX6_ground_137 (lv_at hl 7 rfl) ?_
          refine lv_iadd (x := p0) (y := e0) hx hb dX6_ground_139 ?_
          refine lv_aload_n hx hb dX6_ground_140 rfl (lv_at hl 3 rfl) ?_
          refine m_get (v := .ref (a 8)) hx hb hts hin hown hK hP 8 (by decide) rfl (index := 28) (List.mem_of_getElem? (i := 4) rfl) dX6_ground_141 ?_
          refine lv_iload hx hb dX6_ground_144 (lv_at hl 0 rfl) ?_
          refine m_aldI (j := ((nI (5)) * (cell)) + (layer)) hx hb hK hP 7 8 rfl (hq) dX6_ground_146 ?_
          refine W.eq (g2 := F0 m 147 ls [.int ((s_23.1 8 ((((nI (5)) * (cell)) + (layer)).toNatClampNeg))), .int ((p0) + (e0)), .long ((s_23.2 27)), .ref (a 0)]) rfl ?_
          refine lv_isub (x := (p0) + (e0)) (y := (s_23.1 8 ((((nI (5)) * (cell)) + (layer)).toNatClampNeg))) hx hb dX6_ground_147 ?_
          refine lv_aload_n hx hb dX6_ground_148 rfl (lv_at hl 3 rfl) ?_
          refine m_get (v := .ref (a 9)) hx hb hts hin hown hK hP 9 (by decide) rfl (index := 31) (List.mem_of_getElem? (i := 5) rfl) dX6_ground_149 ?_
          refine lv_iload hx hb dX6_ground_152 (lv_at hl 0 rfl) ?_
          refine m_aldI (j := ((nI (5)) * (cell)) + (layer)) hx hb hK hP 8 9 rfl (hq) dX6_ground_154 ?_
          refine W.eq (g2 := F0 m 155 ls [.int ((s_23.1 9 ((((nI (5)) * (cell)) + (layer)).toNatClampNeg))), .int (((p0) + (e0)) - ((s_23.1 8 ((((nI (5)) * (cell)) + (layer)).toNatClampNeg)))), .long ((s_23.2 27)), .ref (a 0)]) rfl ?_
          refine lv_isub (x := ((p0) + (e0)) - ((s_23.1 8 ((((nI (5)) * (cell)) + (layer)).toNatClampNeg)))) (y := (s_23.1 9 ((((nI (5)) * (cell)) + (layer)).toNatClampNeg))) hx hb dX6_ground_155 ?_
          refine lv_i2l (v := ((((p0) + (e0)) - ((s_23.1 8 ((((nI (5)) * (cell)) + (layer)).toNatClampNeg)))) - ((s_23.1 9 ((((nI (5)) * (cell)) + (layer)).toNatClampNeg)))).toInt64) hx hb dX6_ground_156 rfl ?_
          refine lv_ladd hx hb dX6_ground_157 ?_
          refine m_putJ (v := ((s_23.2 27)) + (((((p0) + (e0)) - ((s_23.1 8 ((((nI (5)) * (cell)) + (layer)).toNatClampNeg)))) - ((s_23.1 9 ((((nI (5)) * (cell)) + (layer)).toNatClampNeg)))).toInt64)) hx hb hts hin hown hK hP hD hS 27 (by decide) rfl (by decide +kernel) rfl (index := 82) (List.mem_of_getElem? (i := 3) rfl) dX6_ground_158 (fun H locs hP hD hS => ?_)
          obtain ⟨s_26, e_27⟩ : ∃ z : Sg, z = (sl s_23 27 (((s_23.2 27)) + (((((p0) + (e0)) - ((s_23.1 8 ((((nI (5)) * (cell)) + (layer)).toNatClampNeg)))) - ((s_23.1 9 ((((nI (5)) * (cell)) + (layer)).toNatClampNeg)))).toInt64))) := ⟨_, rfl⟩
          rw [← e_27] at hP hD
          have hR_28 : m_ground_s σ cell layer p0 e0 g0 c0 = m_ground_k161_s σ cell layer p0 e0 g0 c0 x_3 x_9 x_15 s_19 s_23 s_26 := (Eq.trans hR_25 (by have q_ := e_27.symm; subst q_; unfold m_ground_k131_s; rfl))
          refine lv_aload_n hx hb dX6_ground_161 rfl (lv_at hl 3 rfl) ?_
          refine lv_dup hx hb dX6_ground_162 rfl ?_
          refine m_get (v := .long ((s_26.2 28))) hx hb hts hin hown hK hP 28 (by decide) rfl (index := 87) (List.mem_of_getElem? (i := 6) rfl) dX6_ground_163 ?_
          refine lv_iload hx hb dX6_ground_166 (lv_at hl 9 rfl) ?_
          refine lv_aload_n hx hb dX6_ground_168 rfl (lv_at hl 3 rfl) ?_
          refine m_get (v := .ref (a 11)) hx hb hts hin hown hK hP 11 (by decide) rfl (index := 37) (List.mem_of_getElem? (i := 7) rfl) dX6_ground_169 ?_
          refine lv_iload hx hb dX6_ground_172 (lv_at hl 0 rfl) ?_
          refine m_aldI (j := ((nI (5)) * (cell)) + (layer)) hx hb hK hP 10 11 rfl (hq) dX6_ground_174 ?_
          refine W.eq (g2 := F0 m 175 ls [.int ((s_26.1 11 ((((nI (5)) * (cell)) + (layer)).toNatClampNeg))), .int (c0), .long ((s_26.2 28)), .ref (a 0)]) rfl ?_
          refine lv_isub (x := c0) (y := (s_26.1 11 ((((nI (5)) * (cell)) + (layer)).toNatClampNeg))) hx hb dX6_ground_175 ?_
          refine lv_i2l (v := ((c0) - ((s_26.1 11 ((((nI (5)) * (cell)) + (layer)).toNatClampNeg)))).toInt64) hx hb dX6_ground_176 rfl ?_
          refine lv_ladd hx hb dX6_ground_177 ?_
          refine m_putJ (v := ((s_26.2 28)) + (((c0) - ((s_26.1 11 ((((nI (5)) * (cell)) + (layer)).toNatClampNeg)))).toInt64)) hx hb hts hin hown hK hP hD hS 28 (by decide) rfl (by decide +kernel) rfl (index := 87) (List.mem_of_getElem? (i := 6) rfl) dX6_ground_178 (fun H locs hP hD hS => ?_)
          obtain ⟨s_29, e_30⟩ : ∃ z : Sg, z = (sl s_26 28 (((s_26.2 28)) + (((c0) - ((s_26.1 11 ((((nI (5)) * (cell)) + (layer)).toNatClampNeg)))).toInt64))) := ⟨_, rfl⟩
          rw [← e_30] at hP hD
          have hR_31 : m_ground_s σ cell layer p0 e0 g0 c0 = m_ground_k181_s σ cell layer p0 e0 g0 c0 x_3 x_9 x_15 s_19 s_23 s_26 s_29 := (Eq.trans hR_28 (by have q_ := e_30.symm; subst q_; unfold m_ground_k161_s; rfl))
          refine lv_aload_n hx hb dX6_ground_181 rfl (lv_at hl 3 rfl) ?_
          refine m_get (v := .ref (a 8)) hx hb hts hin hown hK hP 8 (by decide) rfl (index := 28) (List.mem_of_getElem? (i := 4) rfl) dX6_ground_182 ?_
          refine lv_iload hx hb dX6_ground_185 (lv_at hl 0 rfl) ?_
          refine lv_iload_n hx hb dX6_ground_187 rfl (lv_at hl 6 rfl) ?_
          refine m_astI (j := ((nI (5)) * (cell)) + (layer)) (v := p0) hx hb hK hP hD hS 7 8 rfl rfl (hq) dX6_ground_188 (fun H locs hP hD hS => ?_)
          obtain ⟨s_32, e_33⟩ : ∃ z : Sg, z = (si s_29 8 ((((nI (5)) * (cell)) + (layer)).toNatClampNeg) (p0)) := ⟨_, rfl⟩
          rw [← e_33] at hP hD
          have hR_34 : m_ground_s σ cell layer p0 e0 g0 c0 = m_ground_k189_s σ cell layer p0 e0 g0 c0 x_3 x_9 x_15 s_19 s_23 s_26 s_29 s_32 := (Eq.trans hR_31 (by have q_ := e_33.symm; subst q_; unfold m_ground_k181_s; rfl))
          refine lv_aload_n hx hb dX6_ground_189 rfl (lv_at hl 3 rfl) ?_
          refine m_get (v := .ref (a 9)) hx hb hts hin hown hK hP 9 (by decide) rfl (index := 31) (List.mem_of_getElem? (i := 5) rfl) dX6_ground_190 ?_
          refine lv_iload hx hb dX6_ground_193 (lv_at hl 0 rfl) ?_
          refine lv_iload hx hb dX6_ground_195 (lv_at hl 7 rfl) ?_
          refine m_astI (j := ((nI (5)) * (cell)) + (layer)) (v := e0) hx hb hK hP hD hS 8 9 rfl rfl (hq) dX6_ground_197 (fun H locs hP hD hS => ?_)
          obtain ⟨s_35, e_36⟩ : ∃ z : Sg, z = (si s_32 9 ((((nI (5)) * (cell)) + (layer)).toNatClampNeg) (e0)) := ⟨_, rfl⟩
          rw [← e_36] at hP hD
          have hR_37 : m_ground_s σ cell layer p0 e0 g0 c0 = m_ground_k198_s σ cell layer p0 e0 g0 c0 x_3 x_9 x_15 s_19 s_23 s_26 s_29 s_32 s_35 := (Eq.trans hR_34 (by have q_ := e_36.symm; subst q_; unfold m_ground_k189_s; rfl))
          refine lv_aload_n hx hb dX6_ground_198 rfl (lv_at hl 3 rfl) ?_
          refine m_get (v := .ref (a 10)) hx hb hts hin hown hK hP 10 (by decide) rfl (index := 34) (List.mem_of_getElem? (i := 2) rfl) dX6_ground_199 ?_
          refine lv_iload hx hb dX6_ground_202 (lv_at hl 0 rfl) ?_
          refine lv_iload hx hb dX6_ground_204 (lv_at hl 8 rfl) ?_
          refine m_astI (j := ((nI (5)) * (cell)) + (layer)) (v := g0) hx hb hK hP hD hS 9 10 rfl rfl (hq) dX6_ground_206 (fun H locs hP hD hS => ?_)
          obtain ⟨s_38, e_39⟩ : ∃ z : Sg, z = (si s_35 10 ((((nI (5)) * (cell)) + (layer)).toNatClampNeg) (g0)) := ⟨_, rfl⟩
          rw [← e_39] at hP hD
          have hR_40 : m_ground_s σ cell layer p0 e0 g0 c0 = m_ground_k207_s σ cell layer p0 e0 g0 c0 x_3 x_9 x_15 s_19 s_23 s_26 s_29 s_32 s_35 s_38 := (Eq.trans hR_37 (by have q_ := e_39.symm; subst q_; unfold m_ground_k198_s; rfl))
          refine lv_aload_n hx hb dX6_ground_207 rfl (lv_at hl 3 rfl) ?_
          refine m_get (v := .ref (a 11)) hx hb hts hin hown hK hP 11 (by decide) rfl (index := 37) (List.mem_of_getElem? (i := 7) rfl) dX6_ground_208 ?_
          refine lv_iload hx hb dX6_ground_211 (lv_at hl 0 rfl) ?_
          refine lv_iload hx hb dX6_ground_213 (lv_at hl 9 rfl) ?_
          refine m_astI (j := ((nI (5)) * (cell)) + (layer)) (v := c0) hx hb hK hP hD hS 10 11 rfl rfl (hq) dX6_ground_215 (fun H locs hP hD hS => ?_)
          obtain ⟨s_41, e_42⟩ : ∃ z : Sg, z = (si s_38 11 ((((nI (5)) * (cell)) + (layer)).toNatClampNeg) (c0)) := ⟨_, rfl⟩
          rw [← e_42] at hP hD
          have hR_43 : m_ground_s σ cell layer p0 e0 g0 c0 = m_ground_k216_s σ cell layer p0 e0 g0 c0 x_3 x_9 x_15 s_19 s_23 s_26 s_29 s_32 s_35 s_38 s_41 := (Eq.trans hR_40 (by have q_ := e_42.symm; subst q_; unfold m_ground_k207_s; rfl))
          exact m_vret hx hb hr hlocks hP hK hD hS dX6_ground_216 (Eq.trans (by unfold m_ground_k216_s; rfl) hR_43.symm)
        · exact m_vret hx hb hr hlocks hP hK hD hS dX6_ground_103 (Eq.trans (by unfold m_ground_k100_s; simp only [if_neg c_22]) hR_21.symm)
      refine lv_if_ne (x := x_3) (tgt := 87) hx hb dX6_ground_80 (by decide) (fun c_13 => ?_) (fun c_13 => ?_)
      · refine lv_iload hx hb dX6_ground_87 (lv_at hl 0 rfl) ?_
        refine lv_if_ne (x := x_9) (tgt := 96) hx hb dX6_ground_89 (by decide) (fun c_44 => ?_) (fun c_44 => ?_)
        · refine lv_iconst (v := nI (0)) hx hb dX6_ground_96 (by decide) ?_
          exact (hWW _ _ _ _ _).mp (J97_16 _ (by simp only [if_neg c_13, if_neg c_44]) _ _ hP hD hS _ (lv_sub hl [0, 1, 2, 3, 4, 5, 6, 7, 8] rfl))
        · refine lv_iconst (v := nI (2)) hx hb dX6_ground_92 (by decide) ?_
          refine lv_goto (tgt := 97) hx hb dX6_ground_93 (by decide) ?_
          exact (hWW _ _ _ _ _).mp (J97_16 _ (by simp only [if_neg c_13, if_pos c_44]) _ _ hP hD hS _ (lv_sub hl [0, 1, 2, 3, 4, 5, 6, 7, 8] rfl))
      · refine lv_iconst (v := nI (1)) hx hb dX6_ground_83 (by decide) ?_
        refine lv_goto (tgt := 97) hx hb dX6_ground_84 (by decide) ?_
        exact (hWW _ _ _ _ _).mp (J97_16 _ (by simp only [if_pos c_13]) _ _ hP hD hS _ (lv_sub hl [0, 1, 2, 3, 4, 5, 6, 7, 8] rfl))
    refine lv_if_eq (x := (m_within p0 (nI (0)) (nI (9)))) (tgt := 74) hx hb dX6_ground_30 (by decide) (fun c_7 => ?_) (fun c_7 => ?_)
    · refine lv_iconst (v := nI (0)) hx hb dX6_ground_74 (by decide) ?_
      exact (hWW _ _ _ _ _).mp (J75_10 _ (by simp only [if_pos c_7]) _ _ hP hD hS _ (lv_sub hl [0, 1, 2, 3, 4, 5, 6, 7] rfl))
    · refine lv_iload hx hb dX6_ground_33 (lv_at hl 5 rfl) ?_
      refine lv_iconst (v := nI (0)) hx hb dX6_ground_35 (by decide) ?_
      refine lv_bipush (v := nI (9)) hx hb dX6_ground_36 (by decide) ?_
      refine m_callS (As := [.int (e0), .int (nI (0)), .int (nI (9))]) (rest := []) ⟨hx, hb, hml, hown, hts⟩ (cm_within l e0 (nI (0)) (nI (9)) ) (va_cwS 3 hts gX6_ground_X6_within rfl rfl rfl (by decide +kernel) ⟨Nat.le_of_ble_eq_true rfl, Nat.le_of_ble_eq_true rfl⟩) hP hS rfl hl.1 rfl (Nat.le_of_ble_eq_true rfl) dX6_ground_38 ⟨Nat.zero_le _, Nat.zero_le _⟩ (fun H locs hP hS => ?_)
      refine lv_if_eq (x := (m_within e0 (nI (0)) (nI (9)))) (tgt := 74) hx hb dX6_ground_41 (by decide) (fun c_45 => ?_) (fun c_45 => ?_)
      · refine lv_iconst (v := nI (0)) hx hb dX6_ground_74 (by decide) ?_
        exact (hWW _ _ _ _ _).mp (J75_10 _ (by simp only [if_neg c_7, if_pos c_45]) _ _ hP hD hS _ (lv_sub hl [0, 1, 2, 3, 4, 5, 6, 7] rfl))
      · refine lv_iload hx hb dX6_ground_44 (lv_at hl 6 rfl) ?_
        refine lv_sipush (v := (-5000)) hx hb dX6_ground_46 (by decide) ?_
        refine lv_sipush (v := nI (30000)) hx hb dX6_ground_49 (by decide) ?_
        refine m_callS (As := [.int (g0), .int ((-5000)), .int (nI (30000))]) (rest := []) ⟨hx, hb, hml, hown, hts⟩ (cm_within l g0 (-5000) (nI (30000)) ) (va_cwS 3 hts gX6_ground_X6_within rfl rfl rfl (by decide +kernel) ⟨Nat.le_of_ble_eq_true rfl, Nat.le_of_ble_eq_true rfl⟩) hP hS rfl hl.1 rfl (Nat.le_of_ble_eq_true rfl) dX6_ground_52 ⟨Nat.zero_le _, Nat.zero_le _⟩ (fun H locs hP hS => ?_)
        refine lv_if_eq (x := (m_within g0 (-5000) (nI (30000)))) (tgt := 74) hx hb dX6_ground_55 (by decide) (fun c_46 => ?_) (fun c_46 => ?_)
        · refine lv_iconst (v := nI (0)) hx hb dX6_ground_74 (by decide) ?_
          exact (hWW _ _ _ _ _).mp (J75_10 _ (by simp only [if_neg c_7, if_neg c_45, if_pos c_46]) _ _ hP hD hS _ (lv_sub hl [0, 1, 2, 3, 4, 5, 6, 7] rfl))
        · refine lv_iload hx hb dX6_ground_58 (lv_at hl 7 rfl) ?_
          refine lv_iconst (v := nI (0)) hx hb dX6_ground_60 (by decide) ?_
          refine lv_sipush (v := nI (1000)) hx hb dX6_ground_61 (by decide) ?_
          refine m_callS (As := [.int (c0), .int (nI (0)), .int (nI (1000))]) (rest := []) ⟨hx, hb, hml, hown, hts⟩ (cm_within l c0 (nI (0)) (nI (1000)) ) (va_cwS 3 hts gX6_ground_X6_within rfl rfl rfl (by decide +kernel) ⟨Nat.le_of_ble_eq_true rfl, Nat.le_of_ble_eq_true rfl⟩) hP hS rfl hl.1 rfl (Nat.le_of_ble_eq_true rfl) dX6_ground_64 ⟨Nat.zero_le _, Nat.zero_le _⟩ (fun H locs hP hS => ?_)
          refine lv_if_eq (x := (m_within c0 (nI (0)) (nI (1000)))) (tgt := 74) hx hb dX6_ground_67 (by decide) (fun c_47 => ?_) (fun c_47 => ?_)
          · refine lv_iconst (v := nI (0)) hx hb dX6_ground_74 (by decide) ?_
            exact (hWW _ _ _ _ _).mp (J75_10 _ (by simp only [if_neg c_7, if_neg c_45, if_neg c_46, if_pos c_47]) _ _ hP hD hS _ (lv_sub hl [0, 1, 2, 3, 4, 5, 6, 7] rfl))
          · refine lv_iconst (v := nI (1)) hx hb dX6_ground_70 (by decide) ?_
            refine lv_goto (tgt := 75) hx hb dX6_ground_71 (by decide) ?_
            exact (hWW _ _ _ _ _).mp (J75_10 _ (by simp only [if_neg c_7, if_neg c_45, if_neg c_46, if_neg c_47]) _ _ hP hD hS _ (lv_sub hl [0, 1, 2, 3, 4, 5, 6, 7] rfl))
  refine lv_if_eq (x := (m_isCell cell)) (tgt := 20) hx hb dX6_ground_4 (by decide) (fun c_1 => ?_) (fun c_1 => ?_)
  · refine lv_iconst (v := nI (0)) hx hb dX6_ground_20 (by decide) ?_
    exact (hWW _ _ _ _ _).mp (J21_4 _ (by simp only [if_pos c_1]) _ _ hP hD hS _ (lv_sub hl [0, 1, 2, 3, 4, 5, 6] rfl))
  · refine lv_iload_n hx hb dX6_ground_7 rfl (lv_at hl 2 rfl) ?_
    refine lv_iconst (v := nI (0)) hx hb dX6_ground_8 (by decide) ?_
    refine lv_iconst (v := nI (4)) hx hb dX6_ground_9 (by decide) ?_
    refine m_callS (As := [.int (layer), .int (nI (0)), .int (nI (4))]) (rest := []) ⟨hx, hb, hml, hown, hts⟩ (cm_within l layer (nI (0)) (nI (4)) ) (va_cwS 3 hts gX6_ground_X6_within rfl rfl rfl (by decide +kernel) ⟨Nat.le_of_ble_eq_true rfl, Nat.le_of_ble_eq_true rfl⟩) hP hS rfl hl.1 rfl (Nat.le_of_ble_eq_true rfl) dX6_ground_10 ⟨Nat.zero_le _, Nat.zero_le _⟩ (fun H locs hP hS => ?_)
    refine lv_if_eq (x := (m_within layer (nI (0)) (nI (4)))) (tgt := 20) hx hb dX6_ground_13 (by decide) (fun c_48 => ?_) (fun c_48 => ?_)
    · refine lv_iconst (v := nI (0)) hx hb dX6_ground_20 (by decide) ?_
      exact (hWW _ _ _ _ _).mp (J21_4 _ (by simp only [if_neg c_1, if_pos c_48]) _ _ hP hD hS _ (lv_sub hl [0, 1, 2, 3, 4, 5, 6] rfl))
    · refine lv_iconst (v := nI (1)) hx hb dX6_ground_16 (by decide) ?_
      refine lv_goto (tgt := 21) hx hb dX6_ground_17 (by decide) ?_
      exact (hWW _ _ _ _ _).mp (J21_4 _ (by simp only [if_neg c_1, if_neg c_48]) _ _ hP hD hS _ (lv_sub hl [0, 1, 2, 3, 4, 5, 6] rfl))
