def m_ground_k216_s (σ : Sg) (cell : Int32) (layer : Int32) (p0 : Int32) (e0 : Int32) (g0 : Int32) (c0 : Int32) (x_3 : Int32) (x_9 : Int32) (x_15 : Int32) (s_20 : Sg) (s_23 : Sg) (s_26 : Sg) : Sg := s_26
def m_ground_k189_s (σ : Sg) (cell : Int32) (layer : Int32) (p0 : Int32) (e0 : Int32) (g0 : Int32) (c0 : Int32) (x_3 : Int32) (x_9 : Int32) (x_15 : Int32) (s_20 : Sg) (s_23 : Sg) : Sg := (m_ground_k216_s σ cell layer p0 e0 g0 c0 x_3 x_9 x_15 s_20 s_23 (si (si (si s_23 9 ((((nI (5)) * (cell)) + (layer)).toNatClampNeg) (e0)) 10 ((((nI (5)) * (cell)) + (layer)).toNatClampNeg) (g0)) 11 ((((nI (5)) * (cell)) + (layer)).toNatClampNeg) (c0)))
def m_ground_k161_s (σ : Sg) (cell : Int32) (layer : Int32) (p0 : Int32) (e0 : Int32) (g0 : Int32) (c0 : Int32) (x_3 : Int32) (x_9 : Int32) (x_15 : Int32) (s_20 : Sg) : Sg := (m_ground_k189_s σ cell layer p0 e0 g0 c0 x_3 x_9 x_15 s_20 (si (sl s_20 28 (((s_20.2 28)) + (((c0) - ((s_20.1 11 ((((nI (5)) * (cell)) + (layer)).toNatClampNeg)))).toInt64))) 8 ((((nI (5)) * (cell)) + (layer)).toNatClampNeg) (p0)))
def m_ground_j97_s (σ : Sg) (cell : Int32) (layer : Int32) (p0 : Int32) (e0 : Int32) (g0 : Int32) (c0 : Int32) (x_3 : Int32) (x_9 : Int32) (x_15 : Int32) : Sg := (if (m_refused σ x_15) = 0 then (m_ground_k161_s σ cell layer p0 e0 g0 c0 x_3 x_9 x_15 (sl (sl (m_refused_s σ x_15) 26 ((((m_refused_s σ x_15).2 26)) + (((g0) - (((m_refused_s σ x_15).1 10 ((((nI (5)) * (cell)) + (layer)).toNatClampNeg)))).toInt64))) 27 ((((m_refused_s σ x_15).2 27)) + (((((p0) + (e0)) - (((m_refused_s σ x_15).1 8 ((((nI (5)) * (cell)) + (layer)).toNatClampNeg)))) - (((m_refused_s σ x_15).1 9 ((((nI (5)) * (cell)) + (layer)).toNatClampNeg)))).toInt64)))) else (m_refused_s σ x_15))
def m_ground_j75_s (σ : Sg) (cell : Int32) (layer : Int32) (p0 : Int32) (e0 : Int32) (g0 : Int32) (c0 : Int32) (x_3 : Int32) (x_9 : Int32) : Sg := (m_ground_j97_s σ cell layer p0 e0 g0 c0 x_3 x_9 (if x_3 = 0 then nI (1) else (if x_9 = 0 then nI (2) else nI (0))))
def m_ground_j21_s (σ : Sg) (cell : Int32) (layer : Int32) (p0 : Int32) (e0 : Int32) (g0 : Int32) (c0 : Int32) (x_3 : Int32) : Sg := (m_ground_j75_s σ cell layer p0 e0 g0 c0 x_3 (if (m_within p0 (nI (0)) (nI (9))) = 0 then nI (0) else (if (m_within e0 (nI (0)) (nI (9))) = 0 then nI (0) else (if (m_within g0 (-5000) (nI (30000))) = 0 then nI (0) else (if (m_within c0 (nI (0)) (nI (1000))) = 0 then nI (0) else nI (1))))))
def m_ground_s (σ : Sg) (cell : Int32) (layer : Int32) (p0 : Int32) (e0 : Int32) (g0 : Int32) (c0 : Int32) : Sg := (m_ground_j21_s σ cell layer p0 e0 g0 c0 (if (m_isCell cell) = 0 then nI (0) else (if (m_within layer (nI (0)) (nI (4))) = 0 then nI (0) else nI (1))))
set_option maxHeartbeats 4000000 in
set_option maxRecDepth 100000 in
theorem cm_ground (l : Launch) (G : va_G) (cI cZ : ClassId) (a : Nat → Nat) (σ : Sg) (cell : Int32) (layer : Int32) (p0 : Int32) (e0 : Int32) (g0 : Int32) (c0 : Int32) : mV l yX6_ground wsX6_ground ({ frames := 2, cells := 0, slots := 0, locals := 42 } : Room) G cI cZ a σ [.int (cell), .int (layer), .int (p0), .int (e0), .int (g0), .int (c0)] (m_ground_s σ cell layer p0 e0 g0 c0) := by
  unfold mV
  refine Met.ofW (cc := cX6_ground) (maxL := 10) (ret := none) (by decide) rfl ?_
  intro p e s m args below meth c s₁ B hml hv
  obtain ⟨rfl, hP, hK, hD⟩ := hv
  have hx := B.exec
  have hb := B.bytes
  have hr := B.returns
  have hts := atoms_spec (ws := wsX6_ground) B.pre
  have hown : s.vm.findClass RX6 = some m.cls := findClass_of_methodNamed B.named
  have hlocks := B.notSynchronized
  have hS : va_S (mA a) s.heap s.heap [] := va_S.rf
  have hin : ∀ w ∈ wsX60, w ∈ wsX6_ground := fun w h => List.mem_cons_of_mem _ (List.mem_append_right _ h)
  have hl := lv_entry ([.ref (a 0), .int (cell), .int (layer), .int (p0), .int (e0), .int (g0), .int (c0)]) (n := 10) (Nat.le_of_ble_eq_true rfl)
  rw [lg_entry_eq]
  generalize (lg_sl ([.ref (a 0), .int (cell), .int (layer), .int (p0), .int (e0), .int (g0), .int (c0)]) ++ List.replicate (10 - (lg_sl ([.ref (a 0), .int (cell), .int (layer), .int (p0), .int (e0), .int (g0), .int (c0)])).length) Slot.unset).toArray = ls at hl ⊢
  have hl : lv_has ls 10 [(0, .ref (a 0)), (1, .int (cell)), (2, .int (layer)), (3, .int (p0)), (4, .int (e0)), (5, .int (g0)), (6, .int (c0))] := hl
  refine w_named (fun WW hWW => ?_)
  have hP : va_P G vwCl (wm cI cZ a σ) s.heap := hP
  refine lv_iload_n hx hb dX6_ground_0 rfl (lv_at hl 1 rfl) ?_
  refine m_callS (As := [.int (cell)]) (rest := []) ⟨hx, hb, hml, hown, hts⟩ (cm_isCell l cell ) (va_cwS 1 hts gX6_ground_X6_isCell rfl rfl rfl (by decide +kernel) ⟨Nat.le_of_ble_eq_true rfl, Nat.le_of_ble_eq_true rfl⟩) hP hS rfl hl.1 rfl (Nat.le_of_ble_eq_true rfl) dX6_ground_1 ⟨Nat.zero_le _, Nat.zero_le _⟩ (fun H locs hP hS => ?_)
  have J21_4 : ∀ (x_3 : Int32), x_3 = (if (m_isCell cell) = 0 then nI (0) else (if (m_within layer (nI (0)) (nI (4))) = 0 then nI (0) else nI (1))) → ∀ (H : Heap) (locs : List Loc), va_P G vwCl (wm cI cZ a σ) H → va_D (mA a) (wm cI cZ a σ) → va_S (mA a) s.heap H locs → ∀ (ls : Array Slot), lv_has ls 10 [(0, .ref (a 0)), (1, .int (cell)), (2, .int (layer)), (3, .int (p0)), (4, .int (e0)), (5, .int (g0)), (6, .int (c0))] → WW H locs 0 0 (F0 m 21 ls [.int (x_3)]) := by
    intro x_3 h_5 H locs hP hD hS ls hl
    refine (hWW _ _ _ _ _).mpr ?_
    have hR_6 : m_ground_s σ cell layer p0 e0 g0 c0 = m_ground_j21_s σ cell layer p0 e0 g0 c0 x_3 := (by subst h_5; unfold m_ground_s; rfl)
    refine lv_istore (lv' := [(7, .int (x_3)), (0, .ref (a 0)), (1, .int (cell)), (2, .int (layer)), (3, .int (p0)), (4, .int (e0)), (5, .int (g0)), (6, .int (c0))]) hx hb dX6_ground_21 hl (by decide) rfl (fun ls hl => ?_)
    refine lv_iload_n hx hb dX6_ground_23 rfl (lv_at hl 4 rfl) ?_
    refine lv_iconst (v := nI (0)) hx hb dX6_ground_24 (by decide) ?_
    refine lv_bipush (v := nI (9)) hx hb dX6_ground_25 (by decide) ?_
    refine m_callS (As := [.int (p0), .int (nI (0)), .int (nI (9))]) (rest := []) ⟨hx, hb, hml, hown, hts⟩ (cm_within l p0 (nI (0)) (nI (9)) ) (va_cwS 3 hts gX6_ground_X6_within rfl rfl rfl (by decide +kernel) ⟨Nat.le_of_ble_eq_true rfl, Nat.le_of_ble_eq_true rfl⟩) hP hS rfl hl.1 rfl (Nat.le_of_ble_eq_true rfl) dX6_ground_27 ⟨Nat.zero_le _, Nat.zero_le _⟩ (fun H locs hP hS => ?_)
    have J75_10 : ∀ (x_9 : Int32), x_9 = (if (m_within p0 (nI (0)) (nI (9))) = 0 then nI (0) else (if (m_within e0 (nI (0)) (nI (9))) = 0 then nI (0) else (if (m_within g0 (-5000) (nI (30000))) = 0 then nI (0) else (if (m_within c0 (nI (0)) (nI (1000))) = 0 then nI (0) else nI (1))))) → ∀ (H : Heap) (locs : List Loc), va_P G vwCl (wm cI cZ a σ) H → va_D (mA a) (wm cI cZ a σ) → va_S (mA a) s.heap H locs → ∀ (ls : Array Slot), lv_has ls 10 [(7, .int (x_3)), (0, .ref (a 0)), (1, .int (cell)), (2, .int (layer)), (3, .int (p0)), (4, .int (e0)), (5, .int (g0)), (6, .int (c0))] → WW H locs 0 0 (F0 m 75 ls [.int (x_9)]) := by
      intro x_9 h_11 H locs hP hD hS ls hl
      refine (hWW _ _ _ _ _).mpr ?_
      have hR_12 : m_ground_s σ cell layer p0 e0 g0 c0 = m_ground_j75_s σ cell layer p0 e0 g0 c0 x_3 x_9 := (Eq.trans hR_6 (by subst h_11; unfold m_ground_j21_s; rfl))
      refine lv_istore (lv' := [(8, .int (x_9)), (7, .int (x_3)), (0, .ref (a 0)), (1, .int (cell)), (2, .int (layer)), (3, .int (p0)), (4, .int (e0)), (5, .int (g0)), (6, .int (c0))]) hx hb dX6_ground_75 hl (by decide) rfl (fun ls hl => ?_)
      refine lv_aload_n hx hb dX6_ground_77 rfl (lv_at hl 2 rfl) ?_
      refine lv_iload hx hb dX6_ground_78 (lv_at hl 1 rfl) ?_
      have J97_16 : ∀ (x_15 : Int32), x_15 = (if x_3 = 0 then nI (1) else (if x_9 = 0 then nI (2) else nI (0))) → ∀ (H : Heap) (locs : List Loc), va_P G vwCl (wm cI cZ a σ) H → va_D (mA a) (wm cI cZ a σ) → va_S (mA a) s.heap H locs → ∀ (ls : Array Slot), lv_has ls 10 [(8, .int (x_9)), (7, .int (x_3)), (0, .ref (a 0)), (1, .int (cell)), (2, .int (layer)), (3, .int (p0)), (4, .int (e0)), (5, .int (g0)), (6, .int (c0))] → WW H locs 0 0 (F0 m 97 ls [.int (x_15), .ref (a 0)]) := by
        intro x_15 h_17 H locs hP hD hS ls hl
        refine (hWW _ _ _ _ _).mpr ?_
        have hR_18 : m_ground_s σ cell layer p0 e0 g0 c0 = m_ground_j97_s σ cell layer p0 e0 g0 c0 x_3 x_9 x_15 := (Eq.trans hR_12 (by subst h_17; unfold m_ground_j75_s; rfl))
        refine m_callI (As := [.int (x_15)]) (rest := []) (fun _ h => h) ⟨hx, hb, hml, hown, hts⟩ (cm_refused l G cI cZ a σ  x_15 ) (cwV 1 hts gX6_ground_X6_refused rfl rfl rfl (by decide +kernel) ⟨Nat.le_of_ble_eq_true rfl, Nat.le_of_ble_eq_true rfl⟩) hK hP hD hS rfl hl.1 rfl (Nat.le_of_ble_eq_true rfl) dX6_ground_97 ⟨Nat.zero_le _, Nat.zero_le _⟩ (fun H locs hP hD _ _ hS => ?_)
        refine lv_if_eq (x := (m_refused σ x_15)) (tgt := 104) hx hb dX6_ground_100 (by decide) (fun c_19 => ?_) (fun c_19 => ?_)
        · have q0 := ck_tri h_17 (m_refused_0 c_19)
          have q1 := ck_two h_5 q0.1
          have hq : vp_in (nI (5) * (cell) + (layer)) 125 := vp_5l (w_isCell q1.1) (w_in (n := 4) q1.2 (by decide))
          refine lv_iconst (v := nI (5)) hx hb dX6_ground_104 (by decide) ?_
          refine lv_iload_n hx hb dX6_ground_105 rfl (lv_at hl 3 rfl) ?_
          refine lv_imul (x := nI (5)) (y := cell) hx hb dX6_ground_106 ?_
          refine lv_iload_n hx hb dX6_ground_107 rfl (lv_at hl 4 rfl) ?_
          refine lv_iadd (x := (nI (5)) * (cell)) (y := layer) hx hb dX6_ground_108 ?_
          refine lv_istore (lv' := [(9, .int (((nI (5)) * (cell)) + (layer))), (8, .int (x_9)), (7, .int (x_3)), (0, .ref (a 0)), (1, .int (cell)), (2, .int (layer)), (3, .int (p0)), (4, .int (e0)), (5, .int (g0)), (6, .int (c0))]) hx hb dX6_ground_109 hl (by decide) rfl (fun ls hl => ?_)
          refine lv_aload_n hx hb dX6_ground_111 rfl (lv_at hl 3 rfl) ?_
          refine lv_dup hx hb dX6_ground_112 rfl ?_
          refine m_get (v := .long (((m_refused_s σ x_15).2 26))) hx hb hts hin hown hK hP 26 (by decide) rfl (index := 76) (List.mem_of_getElem? (i := 1) rfl) dX6_ground_113 ?_
          refine lv_iload hx hb dX6_ground_116 (lv_at hl 8 rfl) ?_
          refine lv_aload_n hx hb dX6_ground_118 rfl (lv_at hl 3 rfl) ?_
          refine m_get (v := .ref (a 10)) hx hb hts hin hown hK hP 10 (by decide) rfl (index := 34) (List.mem_of_getElem? (i := 2) rfl) dX6_ground_119 ?_
          refine lv_iload hx hb dX6_ground_122 (lv_at hl 0 rfl) ?_
          refine m_aldI (j := ((nI (5)) * (cell)) + (layer)) hx hb hK hP 9 10 rfl (hq) dX6_ground_124 ?_
          refine W.eq (g2 := F0 m 125 ls [.int (((m_refused_s σ x_15).1 10 ((((nI (5)) * (cell)) + (layer)).toNatClampNeg))), .int (g0), .long (((m_refused_s σ x_15).2 26)), .ref (a 0)]) rfl ?_
          refine lv_isub (x := g0) (y := ((m_refused_s σ x_15).1 10 ((((nI (5)) * (cell)) + (layer)).toNatClampNeg))) hx hb dX6_ground_125 ?_
          refine lv_i2l (v := ((g0) - (((m_refused_s σ x_15).1 10 ((((nI (5)) * (cell)) + (layer)).toNatClampNeg)))).toInt64) hx hb dX6_ground_126 rfl ?_
          refine lv_ladd hx hb dX6_ground_127 ?_
          refine m_putJ (v := (((m_refused_s σ x_15).2 26)) + (((g0) - (((m_refused_s σ x_15).1 10 ((((nI (5)) * (cell)) + (layer)).toNatClampNeg)))).toInt64)) hx hb hts hin hown hK hP hD hS 26 (by decide) rfl (by decide +kernel) rfl (index := 76) (List.mem_of_getElem? (i := 1) rfl) dX6_ground_128 (fun H locs hP hD hS => ?_)
          refine lv_aload_n hx hb dX6_ground_131 rfl (lv_at hl 3 rfl) ?_
          refine lv_dup hx hb dX6_ground_132 rfl ?_
          refine m_get (v := .long (((m_refused_s σ x_15).2 27))) hx hb hts hin hown hK hP 27 (by decide) rfl (index := 82) (List.mem_of_getElem? (i := 3) rfl) dX6_ground_133 ?_
          refine lv_iload_n hx hb dX6_ground_136 rfl (lv_at hl 6 rfl) ?_
          refine lv_iload hx hb dX6_ground_137 (lv_at hl 7 rfl) ?_
          refine lv_iadd (x := p0) (y := e0) hx hb dX6_ground_139 ?_
          refine lv_aload_n hx hb dX6_ground_140 rfl (lv_at hl 3 rfl) ?_
          refine m_get (v := .ref (a 8)) hx hb hts hin hown hK hP 8 (by decide) rfl (index := 28) (List.mem_of_getElem? (i := 4) rfl) dX6_ground_141 ?_
          refine lv_iload hx hb dX6_ground_144 (lv_at hl 0 rfl) ?_
          refine m_aldI (j := ((nI (5)) * (cell)) + (layer)) hx hb hK hP 7 8 rfl (hq) dX6_ground_146 ?_
          refine W.eq (g2 := F0 m 147 ls [.int (((m_refused_s σ x_15).1 8 ((((nI (5)) * (cell)) + (layer)).toNatClampNeg))), .int ((p0) + (e0)), .long (((m_refused_s σ x_15).2 27)), .ref (a 0)]) rfl ?_
          refine lv_isub (x := (p0) + (e0)) (y := ((m_refused_s σ x_15).1 8 ((((nI (5)) * (cell)) + (layer)).toNatClampNeg))) hx hb dX6_ground_147 ?_
          refine lv_aload_n hx hb dX6_ground_148 rfl (lv_at hl 3 rfl) ?_
          refine m_get (v := .ref (a 9)) hx hb hts hin hown hK hP 9 (by decide) rfl (index := 31) (List.mem_of_getElem? (i := 5) rfl) dX6_ground_149 ?_
          refine lv_iload hx hb dX6_ground_152 (lv_at hl 0 rfl) ?_
          refine m_aldI (j := ((nI (5)) * (cell)) + (layer)) hx hb hK hP 8 9 rfl (hq) dX6_ground_154 ?_
          refine W.eq (g2 := F0 m 155 ls [.int (((m_refused_s σ x_15).1 9 ((((nI (5)) * (cell)) + (layer)).toNatClampNeg))), .int (((p0) + (e0)) - (((m_refused_s σ x_15).1 8 ((((nI (5)) * (cell)) + (layer)).toNatClampNeg)))), .long (((m_refused_s σ x_15).2 27)), .ref (a 0)]) rfl ?_
          refine lv_isub (x := ((p0) + (e0)) - (((m_refused_s σ x_15).1 8 ((((nI (5)) * (cell)) + (layer)).toNatClampNeg)))) (y := ((m_refused_s σ x_15).1 9 ((((nI (5)) * (cell)) + (layer)).toNatClampNeg))) hx hb dX6_ground_155 ?_
          refine lv_i2l (v := ((((p0) + (e0)) - (((m_refused_s σ x_15).1 8 ((((nI (5)) * (cell)) + (layer)).toNatClampNeg)))) - (((m_refused_s σ x_15).1 9 ((((nI (5)) * (cell)) + (layer)).toNatClampNeg)))).toInt64) hx hb dX6_ground_156 rfl ?_
          refine lv_ladd hx hb dX6_ground_157 ?_
          refine m_putJ (v := (((m_refused_s σ x_15).2 27)) + (((((p0) + (e0)) - (((m_refused_s σ x_15).1 8 ((((nI (5)) * (cell)) + (layer)).toNatClampNeg)))) - (((m_refused_s σ x_15).1 9 ((((nI (5)) * (cell)) + (layer)).toNatClampNeg)))).toInt64)) hx hb hts hin hown hK hP hD hS 27 (by decide) rfl (by decide +kernel) rfl (index := 82) (List.mem_of_getElem? (i := 3) rfl) dX6_ground_158 (fun H locs hP hD hS => ?_)
          obtain ⟨s_20, e_21⟩ : ∃ z : Sg, z = (sl (sl (m_refused_s σ x_15) 26 ((((m_refused_s σ x_15).2 26)) + (((g0) - (((m_refused_s σ x_15).1 10 ((((nI (5)) * (cell)) + (layer)).toNatClampNeg)))).toInt64))) 27 ((((m_refused_s σ x_15).2 27)) + (((((p0) + (e0)) - (((m_refused_s σ x_15).1 8 ((((nI (5)) * (cell)) + (layer)).toNatClampNeg)))) - (((m_refused_s σ x_15).1 9 ((((nI (5)) * (cell)) + (layer)).toNatClampNeg)))).toInt64))) := ⟨_, rfl⟩
          rw [← e_21] at hP hD
          have hR_22 : m_ground_s σ cell layer p0 e0 g0 c0 = m_ground_k161_s σ cell layer p0 e0 g0 c0 x_3 x_9 x_15 s_20 := (Eq.trans hR_18 (by subst e_21; unfold m_ground_j97_s; simp only [if_pos c_19]))
          refine lv_aload_n hx hb dX6_ground_161 rfl (lv_at hl 3 rfl) ?_
          refine lv_dup hx hb dX6_ground_162 rfl ?_
          refine m_get (v := .long ((s_20.2 28))) hx hb hts hin hown hK hP 28 (by decide) rfl (index := 87) (List.mem_of_getElem? (i := 6) rfl) dX6_ground_163 ?_
          refine lv_iload hx hb dX6_ground_166 (lv_at hl 9 rfl) ?_
          refine lv_aload_n hx hb dX6_ground_168 rfl (lv_at hl 3 rfl) ?_
          refine m_get (v := .ref (a 11)) hx hb hts hin hown hK hP 11 (by decide) rfl (index := 37) (List.mem_of_getElem? (i := 7) rfl) dX6_ground_169 ?_
          refine lv_iload hx hb dX6_ground_172 (lv_at hl 0 rfl) ?_
          refine m_aldI (j := ((nI (5)) * (cell)) + (layer)) hx hb hK hP 10 11 rfl (hq) dX6_ground_174 ?_
          refine W.eq (g2 := F0 m 175 ls [.int ((s_20.1 11 ((((nI (5)) * (cell)) + (layer)).toNatClampNeg))), .int (c0), .long ((s_20.2 28)), .ref (a 0)]) rfl ?_
          refine lv_isub (x := c0) (y := (s_20.1 11 ((((nI (5)) * (cell)) + (layer)).toNatClampNeg))) hx hb dX6_ground_175 ?_
          refine lv_i2l (v := ((c0) - ((s_20.1 11 ((((nI (5)) * (cell)) + (layer)).toNatClampNeg)))).toInt64) hx hb dX6_ground_176 rfl ?_
          refine lv_ladd hx hb dX6_ground_177 ?_
          refine m_putJ (v := ((s_20.2 28)) + (((c0) - ((s_20.1 11 ((((nI (5)) * (cell)) + (layer)).toNatClampNeg)))).toInt64)) hx hb hts hin hown hK hP hD hS 28 (by decide) rfl (by decide +kernel) rfl (index := 87) (List.mem_of_getElem? (i := 6) rfl) dX6_ground_178 (fun H locs hP hD hS => ?_)
          refine lv_aload_n hx hb dX6_ground_181 rfl (lv_at hl 3 rfl) ?_
          refine m_get (v := .ref (a 8)) hx hb hts hin hown hK hP 8 (by decide) rfl (index := 28) (List.mem_of_getElem? (i := 4) rfl) dX6_ground_182 ?_
          refine lv_iload hx hb dX6_ground_185 (lv_at hl 0 rfl) ?_
          refine lv_iload_n hx hb dX6_ground_187 rfl (lv_at hl 6 rfl) ?_
          refine m_astI (j := ((nI (5)) * (cell)) + (layer)) (v := p0) hx hb hK hP hD hS 7 8 rfl rfl (hq) dX6_ground_188 (fun H locs hP hD hS => ?_)
          obtain ⟨s_23, e_24⟩ : ∃ z : Sg, z = (si (sl s_20 28 (((s_20.2 28)) + (((c0) - ((s_20.1 11 ((((nI (5)) * (cell)) + (layer)).toNatClampNeg)))).toInt64))) 8 ((((nI (5)) * (cell)) + (layer)).toNatClampNeg) (p0)) := ⟨_, rfl⟩
          rw [← e_24] at hP hD
          have hR_25 : m_ground_s σ cell layer p0 e0 g0 c0 = m_ground_k189_s σ cell layer p0 e0 g0 c0 x_3 x_9 x_15 s_20 s_23 := (Eq.trans hR_22 (by subst e_24; unfold m_ground_k161_s; rfl))
          refine lv_aload_n hx hb dX6_ground_189 rfl (lv_at hl 3 rfl) ?_
          refine m_get (v := .ref (a 9)) hx hb hts hin hown hK hP 9 (by decide) rfl (index := 31) (List.mem_of_getElem? (i := 5) rfl) dX6_ground_190 ?_
          refine lv_iload hx hb dX6_ground_193 (lv_at hl 0 rfl) ?_
          refine lv_iload hx hb dX6_ground_195 (lv_at hl 7 rfl) ?_
          refine m_astI (j := ((nI (5)) * (cell)) + (layer)) (v := e0) hx hb hK hP hD hS 8 9 rfl rfl (hq) dX6_ground_197 (fun H locs hP hD hS => ?_)
          refine lv_aload_n hx hb dX6_ground_198 rfl (lv_at hl 3 rfl) ?_
          refine m_get (v := .ref (a 10)) hx hb hts hin hown hK hP 10 (by decide) rfl (index := 34) (List.mem_of_getElem? (i := 2) rfl) dX6_ground_199 ?_
          refine lv_iload hx hb dX6_ground_202 (lv_at hl 0 rfl) ?_
          refine lv_iload hx hb dX6_ground_204 (lv_at hl 8 rfl) ?_
          refine m_astI (j := ((nI (5)) * (cell)) + (layer)) (v := g0) hx hb hK hP hD hS 9 10 rfl rfl (hq) dX6_ground_206 (fun H locs hP hD hS => ?_)
          refine lv_aload_n hx hb dX6_ground_207 rfl (lv_at hl 3 rfl) ?_
          refine m_get (v := .ref (a 11)) hx hb hts hin hown hK hP 11 (by decide) rfl (index := 37) (List.mem_of_getElem? (i := 7) rfl) dX6_ground_208 ?_
          refine lv_iload hx hb dX6_ground_211 (lv_at hl 0 rfl) ?_
          refine lv_iload hx hb dX6_ground_213 (lv_at hl 9 rfl) ?_
          refine m_astI (j := ((nI (5)) * (cell)) + (layer)) (v := c0) hx hb hK hP hD hS 10 11 rfl rfl (hq) dX6_ground_215 (fun H locs hP hD hS => ?_)
          obtain ⟨s_26, e_27⟩ : ∃ z : Sg, z = (si (si (si s_23 9 ((((nI (5)) * (cell)) + (layer)).toNatClampNeg) (e0)) 10 ((((nI (5)) * (cell)) + (layer)).toNatClampNeg) (g0)) 11 ((((nI (5)) * (cell)) + (layer)).toNatClampNeg) (c0)) := ⟨_, rfl⟩
          rw [← e_27] at hP hD
          have hR_28 : m_ground_s σ cell layer p0 e0 g0 c0 = m_ground_k216_s σ cell layer p0 e0 g0 c0 x_3 x_9 x_15 s_20 s_23 s_26 := (Eq.trans hR_25 (by subst e_27; unfold m_ground_k189_s; rfl))
          exact m_vret hx hb hr hlocks hP hK hD hS dX6_ground_216 (Eq.trans (by unfold m_ground_k216_s; rfl) hR_28.symm)
        · exact m_vret hx hb hr hlocks hP hK hD hS dX6_ground_103 (Eq.trans (by unfold m_ground_j97_s; simp only [if_neg c_19]) hR_18.symm)
      refine lv_if_ne (x := x_3) (tgt := 87) hx hb dX6_ground_80 (by decide) (fun c_13 => ?_) (fun c_13 => ?_)
      · refine lv_iload hx hb dX6_ground_87 (lv_at hl 0 rfl) ?_
        refine lv_if_ne (x := x_9) (tgt := 96) hx hb dX6_ground_89 (by decide) (fun c_29 => ?_) (fun c_29 => ?_)
        · refine lv_iconst (v := nI (0)) hx hb dX6_ground_96 (by decide) ?_
          exact (hWW _ _ _ _ _).mp (J97_16 _ (by simp only [if_neg c_13, if_neg c_29]) _ _ hP hD hS _ (lv_sub hl [0, 1, 2, 3, 4, 5, 6, 7, 8] rfl))
        · refine lv_iconst (v := nI (2)) hx hb dX6_ground_92 (by decide) ?_
          refine lv_goto (tgt := 97) hx hb dX6_ground_93 (by decide) ?_
          exact (hWW _ _ _ _ _).mp (J97_16 _ (by simp only [if_neg c_13, if_pos c_29]) _ _ hP hD hS _ (lv_sub hl [0, 1, 2, 3, 4, 5, 6, 7, 8] rfl))
      · refine lv_iconst (v := nI (1)) hx hb dX6_ground_83 (by decide) ?_
        refine lv_goto (tgt := 97) hx hb dX6_ground_84 (by decide) ?_
        exact (hWW _ _ _ _ _).mp (J97_16 _ (by simp only [if_pos c_13]) _ _ hP hD hS _ (lv_sub hl [0, 1, 2, 3, 4, 5, 6, 7, 8] rfl))
    refine lv_if_eq (x := (m_within p0 (nI (0)) (nI (9)))) (tgt := 74) hx hb dX6_ground_30 (by decide) (fun c_7 => ?_) (fun c_7 => ?_)
    · refine lv_iconst (v := nI (0)) hx hb dX6_ground_74 (by decide) ?_
      exact (hWW _ _ _ _ _).mp (J75_10 _ (by simp only [if_pos c_7]) _ _ hP hD hS _ (lv_sub hl [0, 1, 2, 3, 4, 5, 6, 7] rfl))
    · refine lv_iload hx hb dX6_ground_33 (lv_at hl 5 rfl) ?_
      refine lv_iconst (v := nI (0)) hx hb dX6_ground_35 (by decide) ?_
      refine lv_bipush (v := nI (9)) hx hb dX6_ground_36 (by decide) ?_
      refine m_callS (As := [.int (e0), .int (nI (0)), .int (nI (9))]) (rest := []) ⟨hx, hb, hml, hown, hts⟩ (cm_within l e0 (nI (0)) (nI (9)) ) (va_cwS 3 hts gX6_ground_X6_within rfl rfl rfl (by decide +kernel) ⟨Nat.le_of_ble_eq_true rfl, Nat.le_of_ble_eq_true rfl⟩) hP hS rfl hl.1 rfl (Nat.le_of_ble_eq_true rfl) dX6_ground_38 ⟨Nat.zero_le _, Nat.zero_le _⟩ (fun H locs hP hS => ?_)
      refine lv_if_eq (x := (m_within e0 (nI (0)) (nI (9)))) (tgt := 74) hx hb dX6_ground_41 (by decide) (fun c_30 => ?_) (fun c_30 => ?_)
      · refine lv_iconst (v := nI (0)) hx hb dX6_ground_74 (by decide) ?_
        exact (hWW _ _ _ _ _).mp (J75_10 _ (by simp only [if_neg c_7, if_pos c_30]) _ _ hP hD hS _ (lv_sub hl [0, 1, 2, 3, 4, 5, 6, 7] rfl))
      · refine lv_iload hx hb dX6_ground_44 (lv_at hl 6 rfl) ?_
        refine lv_sipush (v := (-5000)) hx hb dX6_ground_46 (by decide) ?_
        refine lv_sipush (v := nI (30000)) hx hb dX6_ground_49 (by decide) ?_
        refine m_callS (As := [.int (g0), .int ((-5000)), .int (nI (30000))]) (rest := []) ⟨hx, hb, hml, hown, hts⟩ (cm_within l g0 (-5000) (nI (30000)) ) (va_cwS 3 hts gX6_ground_X6_within rfl rfl rfl (by decide +kernel) ⟨Nat.le_of_ble_eq_true rfl, Nat.le_of_ble_eq_true rfl⟩) hP hS rfl hl.1 rfl (Nat.le_of_ble_eq_true rfl) dX6_ground_52 ⟨Nat.zero_le _, Nat.zero_le _⟩ (fun H locs hP hS => ?_)
        refine lv_if_eq (x := (m_within g0 (-5000) (nI (30000)))) (tgt := 74) hx hb dX6_ground_55 (by decide) (fun c_31 => ?_) (fun c_31 => ?_)
        · refine lv_iconst (v := nI (0)) hx hb dX6_ground_74 (by decide) ?_
          exact (hWW _ _ _ _ _).mp (J75_10 _ (by simp only [if_neg c_7, if_neg c_30, if_pos c_31]) _ _ hP hD hS _ (lv_sub hl [0, 1, 2, 3, 4, 5, 6, 7] rfl))
        · refine lv_iload hx hb dX6_ground_58 (lv_at hl 7 rfl) ?_
          refine lv_iconst (v := nI (0)) hx hb dX6_ground_60 (by decide) ?_
          refine lv_sipush (v := nI (1000)) hx hb dX6_ground_61 (by decide) ?_
          refine m_callS (As := [.int (c0), .int (nI (0)), .int (nI (1000))]) (rest := []) ⟨hx, hb, hml, hown, hts⟩ (cm_within l c0 (nI (0)) (nI (1000)) ) (va_cwS 3 hts gX6_ground_X6_within rfl rfl rfl (by decide +kernel) ⟨Nat.le_of_ble_eq_true rfl, Nat.le_of_ble_eq_true rfl⟩) hP hS rfl hl.1 rfl (Nat.le_of_ble_eq_true rfl) dX6_ground_64 ⟨Nat.zero_le _, Nat.zero_le _⟩ (fun H locs hP hS => ?_)
          refine lv_if_eq (x := (m_within c0 (nI (0)) (nI (1000)))) (tgt := 74) hx hb dX6_ground_67 (by decide) (fun c_32 => ?_) (fun c_32 => ?_)
          · refine lv_iconst (v := nI (0)) hx hb dX6_ground_74 (by decide) ?_
            exact (hWW _ _ _ _ _).mp (J75_10 _ (by simp only [if_neg c_7, if_neg c_30, if_neg c_31, if_pos c_32]) _ _ hP hD hS _ (lv_sub hl [0, 1, 2, 3, 4, 5, 6, 7] rfl))
          · refine lv_iconst (v := nI (1)) hx hb dX6_ground_70 (by decide) ?_
            refine lv_goto (tgt := 75) hx hb dX6_ground_71 (by decide) ?_
            exact (hWW _ _ _ _ _).mp (J75_10 _ (by simp only [if_neg c_7, if_neg c_30, if_neg c_31, if_neg c_32]) _ _ hP hD hS _ (lv_sub hl [0, 1, 2, 3, 4, 5, 6, 7] rfl))
  refine lv_if_eq (x := (m_isCell cell)) (tgt := 20) hx hb dX6_ground_4 (by decide) (fun c_1 => ?_) (fun c_1 => ?_)
  · refine lv_iconst (v := nI (0)) hx hb dX6_ground_20 (by decide) ?_
    exact (hWW _ _ _ _ _).mp (J21_4 _ (by simp only [if_pos c_1]) _ _ hP hD hS _ (lv_sub hl [0, 1, 2, 3, 4, 5, 6] rfl))
  · refine lv_iload_n hx hb dX6_ground_7 rfl (lv_at hl 2 rfl) ?_
    refine lv_iconst (v := nI (0)) hx hb dX6_ground_8 (by decide) ?_
    refine lv_iconst (v := nI (4)) hx hb dX6_ground_9 (by decide) ?_
    refine m_callS (As := [.int (layer), .int (nI (0)), .int (nI (4))]) (rest := []) ⟨hx, hb, hml, hown, hts⟩ (cm_within l layer (nI (0)) (nI (4)) ) (va_cwS 3 hts gX6_ground_X6_within rfl rfl rfl (by decide +kernel) ⟨Nat.le_of_ble_eq_true rfl, Nat.le_of_ble_eq_true rfl⟩) hP hS rfl hl.1 rfl (Nat.le_of_ble_eq_true rfl) dX6_ground_10 ⟨Nat.zero_le _, Nat.zero_le _⟩ (fun H locs hP hS => ?_)
    refine lv_if_eq (x := (m_within layer (nI (0)) (nI (4)))) (tgt := 20) hx hb dX6_ground_13 (by decide) (fun c_33 => ?_) (fun c_33 => ?_)
    · refine lv_iconst (v := nI (0)) hx hb dX6_ground_20 (by decide) ?_
      exact (hWW _ _ _ _ _).mp (J21_4 _ (by simp only [if_neg c_1, if_pos c_33]) _ _ hP hD hS _ (lv_sub hl [0, 1, 2, 3, 4, 5, 6] rfl))
    · refine lv_iconst (v := nI (1)) hx hb dX6_ground_16 (by decide) ?_
      refine lv_goto (tgt := 21) hx hb dX6_ground_17 (by decide) ?_
      exact (hWW _ _ _ _ _).mp (J21_4 _ (by simp only [if_neg c_1, if_neg c_33]) _ _ hP hD hS _ (lv_sub hl [0, 1, 2, 3, 4, 5, 6] rfl))

def m_moss_j26 (σ : Sg) (cell : Int32) (moss : Int32) (x_3 : Int32) : Int32 := (if (m_refused σ x_3) = 0 then ((m_refused_s σ x_3).1 5 ((cell).toNatClampNeg)) else nI (0))
def m_moss_j26_s (σ : Sg) (cell : Int32) (moss : Int32) (x_3 : Int32) : Sg := (if (m_refused σ x_3) = 0 then (si (m_refused_s σ x_3) 5 ((cell).toNatClampNeg) (moss)) else (m_refused_s σ x_3))
def m_moss (σ : Sg) (cell : Int32) (moss : Int32) : Int32 := (m_moss_j26 σ cell moss (if (m_isCell cell) = 0 then nI (1) else (if (m_within moss (nI (0)) (nI (3))) = 0 then nI (2) else nI (0))))
def m_moss_s (σ : Sg) (cell : Int32) (moss : Int32) : Sg := (m_moss_j26_s σ cell moss (if (m_isCell cell) = 0 then nI (1) else (if (m_within moss (nI (0)) (nI (3))) = 0 then nI (2) else nI (0))))
set_option maxHeartbeats 4000000 in
set_option maxRecDepth 100000 in
theorem cm_moss (l : Launch) (G : va_G) (cI cZ : ClassId) (a : Nat → Nat) (σ : Sg) (cell : Int32) (moss : Int32) : mI l yX6_moss wsX6_moss ({ frames := 2, cells := 0, slots := 0, locals := 42 } : Room) G cI cZ a σ [.int (cell), .int (moss)] (m_moss σ cell moss) (m_moss_s σ cell moss) := by
  unfold mI
  refine Met.ofW (cc := cX6_moss) (maxL := 4) (ret := (some .int)) (by decide) rfl ?_
  intro p e s m args below meth c s₁ B hml hv
  obtain ⟨rfl, hP, hK, hD⟩ := hv
  have hx := B.exec
  have hb := B.bytes
  have hr := B.returns
  have hts := atoms_spec (ws := wsX6_moss) B.pre
  have hown : s.vm.findClass RX6 = some m.cls := findClass_of_methodNamed B.named
  have hlocks := B.notSynchronized
  have hS : va_S (mA a) s.heap s.heap [] := va_S.rf
  have hin : ∀ w ∈ wsX60, w ∈ wsX6_moss := fun w h => List.mem_cons_of_mem _ (List.mem_append_right _ h)
  have hl := lv_entry ([.ref (a 0), .int (cell), .int (moss)]) (n := 4) (Nat.le_of_ble_eq_true rfl)
  rw [lg_entry_eq]
  generalize (lg_sl ([.ref (a 0), .int (cell), .int (moss)]) ++ List.replicate (4 - (lg_sl ([.ref (a 0), .int (cell), .int (moss)])).length) Slot.unset).toArray = ls at hl ⊢
  have hl : lv_has ls 4 [(0, .ref (a 0)), (1, .int (cell)), (2, .int (moss))] := hl
  refine w_named (fun WW hWW => ?_)
  have hP : va_P G vwCl (wm cI cZ a σ) s.heap := hP
  refine lv_aload_n hx hb dX6_moss_0 rfl (lv_at hl 0 rfl) ?_
  refine lv_iload_n hx hb dX6_moss_1 rfl (lv_at hl 1 rfl) ?_
  refine m_callS (As := [.int (cell)]) (rest := [.ref (a 0)]) ⟨hx, hb, hml, hown, hts⟩ (cm_isCell l cell ) (va_cwS 1 hts gX6_moss_X6_isCell rfl rfl rfl (by decide +kernel) ⟨Nat.le_of_ble_eq_true rfl, Nat.le_of_ble_eq_true rfl⟩) hP hS rfl hl.1 rfl (Nat.le_of_ble_eq_true rfl) dX6_moss_2 ⟨Nat.zero_le _, Nat.zero_le _⟩ (fun H locs hP hS => ?_)
  have J26_4 : ∀ (x_3 : Int32), x_3 = (if (m_isCell cell) = 0 then nI (1) else (if (m_within moss (nI (0)) (nI (3))) = 0 then nI (2) else nI (0))) → ∀ (H : Heap) (locs : List Loc), va_P G vwCl (wm cI cZ a σ) H → va_D (mA a) (wm cI cZ a σ) → va_S (mA a) s.heap H locs → ∀ (ls : Array Slot), lv_has ls 4 [(0, .ref (a 0)), (1, .int (cell)), (2, .int (moss))] → WW H locs 0 0 (F0 m 26 ls [.int (x_3), .ref (a 0)]) := by
    intro x_3 h_5 H locs hP hD hS ls hl
    refine (hWW _ _ _ _ _).mpr ?_
    have hR_6 : m_moss σ cell moss = m_moss_j26 σ cell moss x_3 := (by subst h_5; unfold m_moss; rfl)
    have hR_7 : m_moss_s σ cell moss = m_moss_j26_s σ cell moss x_3 := (by subst h_5; unfold m_moss_s; rfl)
    refine m_callI (As := [.int (x_3)]) (rest := []) (fun _ h => h) ⟨hx, hb, hml, hown, hts⟩ (cm_refused l G cI cZ a σ  x_3 ) (cwV 1 hts gX6_moss_X6_refused rfl rfl rfl (by decide +kernel) ⟨Nat.le_of_ble_eq_true rfl, Nat.le_of_ble_eq_true rfl⟩) hK hP hD hS rfl hl.1 rfl (Nat.le_of_ble_eq_true rfl) dX6_moss_26 ⟨Nat.zero_le _, Nat.zero_le _⟩ (fun H locs hP hD _ _ hS => ?_)
    refine lv_if_eq (x := (m_refused σ x_3)) (tgt := 34) hx hb dX6_moss_29 (by decide) (fun c_8 => ?_) (fun c_8 => ?_)
    · have hq := w_isCell (ck_tri h_5 (m_refused_0 c_8)).1
      refine lv_aload_n hx hb dX6_moss_34 rfl (lv_at hl 0 rfl) ?_
      refine m_get (v := .ref (a 5)) hx hb hts hin hown hK hP 5 (by decide) rfl (index := 19) (List.mem_of_getElem? (i := 1) rfl) dX6_moss_35 ?_
      refine lv_iload_n hx hb dX6_moss_38 rfl (lv_at hl 1 rfl) ?_
      refine m_aldI (j := cell) hx hb hK hP 4 5 rfl (hq) dX6_moss_39 ?_
      refine W.eq (g2 := F0 m 40 ls [.int (((m_refused_s σ x_3).1 5 ((cell).toNatClampNeg)))]) rfl ?_
      refine lv_istore_n (lv' := [(3, .int (((m_refused_s σ x_3).1 5 ((cell).toNatClampNeg)))), (0, .ref (a 0)), (1, .int (cell)), (2, .int (moss))]) hx hb dX6_moss_40 rfl hl (by decide) rfl (fun ls hl => ?_)
      refine lv_aload_n hx hb dX6_moss_41 rfl (lv_at hl 1 rfl) ?_
      refine m_get (v := .ref (a 5)) hx hb hts hin hown hK hP 5 (by decide) rfl (index := 19) (List.mem_of_getElem? (i := 1) rfl) dX6_moss_42 ?_
      refine lv_iload_n hx hb dX6_moss_45 rfl (lv_at hl 2 rfl) ?_
      refine lv_iload_n hx hb dX6_moss_46 rfl (lv_at hl 3 rfl) ?_
      refine m_astI (j := cell) (v := moss) hx hb hK hP hD hS 4 5 rfl rfl (hq) dX6_moss_47 (fun H locs hP hD hS => ?_)
      refine lv_iload_n hx hb dX6_moss_48 rfl (lv_at hl 0 rfl) ?_
      exact m_iret (v := ((m_refused_s σ x_3).1 5 ((cell).toNatClampNeg))) hx hb hr hlocks hP hK hD hS dX6_moss_49 (Eq.trans (by unfold m_moss_j26; simp only [if_pos c_8]) hR_6.symm) (Eq.trans (by unfold m_moss_j26_s; simp only [if_pos c_8]) hR_7.symm)
    · refine lv_iconst (v := nI (0)) hx hb dX6_moss_32 (by decide) ?_
      exact m_iret (v := nI (0)) hx hb hr hlocks hP hK hD hS dX6_moss_33 (Eq.trans (by unfold m_moss_j26; simp only [if_neg c_8]) hR_6.symm) (Eq.trans (by unfold m_moss_j26_s; simp only [if_neg c_8]) hR_7.symm)
  refine lv_if_ne (x := (m_isCell cell)) (tgt := 12) hx hb dX6_moss_5 (by decide) (fun c_1 => ?_) (fun c_1 => ?_)
  · refine lv_iload_n hx hb dX6_moss_12 rfl (lv_at hl 2 rfl) ?_
    refine lv_iconst (v := nI (0)) hx hb dX6_moss_13 (by decide) ?_
    refine lv_iconst (v := nI (3)) hx hb dX6_moss_14 (by decide) ?_
    refine m_callS (As := [.int (moss), .int (nI (0)), .int (nI (3))]) (rest := [.ref (a 0)]) ⟨hx, hb, hml, hown, hts⟩ (cm_within l moss (nI (0)) (nI (3)) ) (va_cwS 3 hts gX6_moss_X6_within rfl rfl rfl (by decide +kernel) ⟨Nat.le_of_ble_eq_true rfl, Nat.le_of_ble_eq_true rfl⟩) hP hS rfl hl.1 rfl (Nat.le_of_ble_eq_true rfl) dX6_moss_15 ⟨Nat.zero_le _, Nat.zero_le _⟩ (fun H locs hP hS => ?_)
    refine lv_if_ne (x := (m_within moss (nI (0)) (nI (3)))) (tgt := 25) hx hb dX6_moss_18 (by decide) (fun c_9 => ?_) (fun c_9 => ?_)
    · refine lv_iconst (v := nI (0)) hx hb dX6_moss_25 (by decide) ?_
      exact (hWW _ _ _ _ _).mp (J26_4 _ (by simp only [if_neg c_1, if_neg c_9]) _ _ hP hD hS _ (lv_sub hl [0, 1, 2] rfl))
    · refine lv_iconst (v := nI (2)) hx hb dX6_moss_21 (by decide) ?_
      refine lv_goto (tgt := 26) hx hb dX6_moss_22 (by decide) ?_
      exact (hWW _ _ _ _ _).mp (J26_4 _ (by simp only [if_neg c_1, if_pos c_9]) _ _ hP hD hS _ (lv_sub hl [0, 1, 2] rfl))
  · refine lv_iconst (v := nI (1)) hx hb dX6_moss_8 (by decide) ?_
    refine lv_goto (tgt := 26) hx hb dX6_moss_9 (by decide) ?_
    exact (hWW _ _ _ _ _).mp (J26_4 _ (by simp only [if_pos c_1]) _ _ hP hD hS _ (lv_sub hl [0, 1, 2] rfl))

def m_heat_x194_s (σ : Sg) (air : Int32) (z2 : Sg) (z27 : Sg) (z194 : Sg) : Sg := z194
def m_heat_j231 (air : Int32) (i194 : Nat) (z194 : Sg) (x_9 : Int32) : Sg := (m_bring_s z194 ((nI (5)) * ((z194.1 14 i194))) x_9)
def m_heat_b194 (air : Int32) (i194 : Nat) (z194 : Sg) : Sg := (m_heat_j231 air i194 z194 (if (z194.1 16 i194) = 0 then nI (300) else (if 0 ≤ air then nI (300) else nI (0))))
def m_heat_x27_s (σ : Sg) (air : Int32) (z2 : Sg) (z27 : Sg) : Sg := (m_heat_x194_s σ air z2 z27 (lp (m_heat_b194 air) ((σ.1 13 0).toNatClampNeg) z27))
def m_heat_x111 (air : Int32) (i27 : Nat) (z27 : Sg) (x_16 : Int32) (x_22 : Int32) (z111 : Sg) : Sg := (m_bring_s z111 (nI ((5 * i27) + 4)) (nI (10)))
def m_heat_k169 (i27 : Nat) (i111 : Nat) (z111 : Sg) (s_28 : Sg) : Sg := s_28
def m_heat_b111 (i27 : Nat) (i111 : Nat) (z111 : Sg) : Sg := (m_heat_k169 i27 i111 z111 (si (si z111 10 (5 * i27 + i111) (((z111.1 10 (5 * i27 + i111))) - ((nI (20)) * (((z111.1 12 (5 * i27 + i111))) - ((z111.1 12 ((5 * i27 + i111) + 1))))))) 10 ((5 * i27 + i111) + 1) ((((si z111 10 (5 * i27 + i111) (((z111.1 10 (5 * i27 + i111))) - ((nI (20)) * (((z111.1 12 (5 * i27 + i111))) - ((z111.1 12 ((5 * i27 + i111) + 1))))))).1 10 ((5 * i27 + i111) + 1))) + ((nI (20)) * (((z111.1 12 (5 * i27 + i111))) - ((z111.1 12 ((5 * i27 + i111) + 1))))))))
def m_heat_j84 (air : Int32) (i27 : Nat) (z27 : Sg) (x_16 : Int32) (x_22 : Int32) : Sg := (m_heat_x111 air i27 z27 x_16 x_22 (lp (m_heat_b111 i27) 4 (m_bring_s z27 (nI (5 * i27)) ((x_16) * ((x_22) - ((z27.1 12 (5 * i27))))))))
def m_heat_j66 (air : Int32) (i27 : Nat) (z27 : Sg) (x_16 : Int32) : Sg := (m_heat_j84 air i27 z27 x_16 (if (m_isLake z27 (nI (i27))) = 0 then air else (m_greater (nI (0)) air)))
def m_heat_b27 (air : Int32) (i27 : Nat) (z27 : Sg) : Sg := (m_heat_j66 air i27 z27 (if (m_isLake z27 (nI (i27))) = 0 then (nI (60)) / (((nI (2)) + ((z27.1 4 i27))) + ((nI (2)) * ((z27.1 5 i27)))) else nI (30)))
def m_heat_x2_s (σ : Sg) (air : Int32) (z2 : Sg) : Sg := (m_heat_x27_s σ air z2 (lp (m_heat_b27 air) 25 z2))
def m_heat_b2  (i2 : Nat) (z2 : Sg) : Sg := (si z2 12 (i2) ((m_degreesOf z2 (nI (i2)))))
def m_heat_s (σ : Sg) (air : Int32) : Sg := (m_heat_x2_s σ air (lp (m_heat_b2) 125 σ))
theorem m_bring_k {σ : Sg} {x v : Int32} {k : Nat} (hk : k ≠ 10) : (m_bring_s σ x v).1 k = σ.1 k := by simp [m_bring_s, si, sl, hk]
theorem m_heat_k2 (k : Nat) (hk : k ≠ 12) (n : Nat) (z : Sg) : (lp (m_heat_b2) n z).1 k = z.1 k := lp_kp (fun i z => by simp [m_heat_b2, si, hk]) n z
theorem m_heat_k111 (k : Nat) (hk : k ≠ 10) (c n : Nat) (z : Sg) : (lp (m_heat_b111 c) n z).1 k = z.1 k := lp_kp (fun i z => by simp [m_heat_b111, m_heat_k169, si, hk]) n z
theorem m_heat_k27 (k : Nat) (hk : k ≠ 10) {air : Int32} (n : Nat) (z : Sg) : (lp (m_heat_b27 air) n z).1 k = z.1 k := lp_kp (fun i z => by unfold m_heat_b27 m_heat_j66 m_heat_j84 m_heat_x111; rw [m_bring_k hk, m_heat_k111 k hk, m_bring_k hk]) n z
theorem m_heat_k194 (k : Nat) (hk : k ≠ 10) {air : Int32} (n : Nat) (z : Sg) : (lp (m_heat_b194 air) n z).1 k = z.1 k := lp_kp (fun i z => by unfold m_heat_b194 m_heat_j231; rw [m_bring_k hk]) n z
set_option maxHeartbeats 4000000 in
set_option maxRecDepth 100000 in
theorem cm_heat (l : Launch) (G : va_G) (cI cZ : ClassId) (a : Nat → Nat) (σ : Sg) (air : Int32) (hO : mOK σ) : mV l yX6_heat wsX6_heat ({ frames := 1, cells := 0, slots := 0, locals := 22 } : Room) G cI cZ a σ [.int (air)] (m_heat_s σ air) := by
  unfold mV
  refine Met.ofW (cc := cX6_heat) (maxL := 7) (ret := none) (by decide) rfl ?_
  intro p e s m args below meth c s₁ B hml hv
  obtain ⟨rfl, hP, hK, hD⟩ := hv
  have hx := B.exec
  have hb := B.bytes
  have hr := B.returns
  have hts := atoms_spec (ws := wsX6_heat) B.pre
  have hown : s.vm.findClass RX6 = some m.cls := findClass_of_methodNamed B.named
  have hlocks := B.notSynchronized
  have hS : va_S (mA a) s.heap s.heap [] := va_S.rf
  have hin : ∀ w ∈ wsX60, w ∈ wsX6_heat := fun w h => List.mem_cons_of_mem _ (List.mem_append_right _ h)
  have hl := lv_entry ([.ref (a 0), .int (air)]) (n := 7) (Nat.le_of_ble_eq_true rfl)
  rw [lg_entry_eq]
  generalize (lg_sl ([.ref (a 0), .int (air)]) ++ List.replicate (7 - (lg_sl ([.ref (a 0), .int (air)])).length) Slot.unset).toArray = ls at hl ⊢
  have hl : lv_has ls 7 [(0, .ref (a 0)), (1, .int (air))] := hl
  refine w_named (fun WW hWW => ?_)
  have hP : va_P G vwCl (wm cI cZ a σ) s.heap := hP
  have h13 := vp_lt hO.1
  have e13 := vp_self hO.1
  refine lv_iconst (v := nI (0)) hx hb dX6_heat_0 (by decide) ?_
  refine lv_istore_n (lv' := [(2, .int (nI (0))), (0, .ref (a 0)), (1, .int (air))]) hx hb dX6_heat_1 rfl hl (by decide) rfl (fun ls hl => ?_)
  have L2 : ∀ (n2 i2 : Nat), i2 ≤ 125 → 125 + 1 ≤ i2 + n2 → ∀ (z2 : Sg), z2 = lp (m_heat_b2) i2 σ → ∀ (H : Heap) (locs : List Loc), va_P G vwCl (wm cI cZ a z2) H → va_D (mA a) (wm cI cZ a z2) → va_S (mA a) s.heap H locs → ∀ (ls : Array Slot), lv_has ls 7 [(2, .int (nI (i2))), (0, .ref (a 0)), (1, .int (air))] → WW H locs 0 0 (F0 m 2 ls []) := by
    intro n2
    induction n2 with
    | zero => intro i2 h1 h2; exact absurd h2 (by omega)
    | succ n2 ih2 =>
      intro i2 hi2 hn2 z2 hz2  H locs hP hD hS ls hl
      refine (hWW _ _ _ _ _).mpr ?_
      refine lv_iload_n hx hb dX6_heat_2 rfl (lv_at hl 0 rfl) ?_
      refine lv_bipush (v := nI (125)) hx hb dX6_heat_3 (by decide) ?_
      refine n_icmp_ge (x := i2) (y := 125) (tgt := 25) hx hb (by omega) (by omega) dX6_heat_5 (by decide) (fun c_1 => ?_) (fun c_1 => ?_)
      · have hiN : 125 = i2 := by omega
        subst hiN
        have hR_2 : m_heat_s σ air = m_heat_x2_s σ air z2 := (by subst hz2; unfold m_heat_s; rfl)
        refine lv_iconst (v := nI (0)) hx hb dX6_heat_25 (by decide) ?_
        refine lv_istore_n (lv' := [(2, .int (nI (0))), (0, .ref (a 0)), (1, .int (air))]) hx hb dX6_heat_26 rfl hl (by decide) rfl (fun ls hl => ?_)
        have L27 : ∀ (n27 i27 : Nat), i27 ≤ 25 → 25 + 1 ≤ i27 + n27 → ∀ (z27 : Sg), z27 = lp (m_heat_b27 air) i27 z2 → ∀ (H : Heap) (locs : List Loc), va_P G vwCl (wm cI cZ a z27) H → va_D (mA a) (wm cI cZ a z27) → va_S (mA a) s.heap H locs → ∀ (ls : Array Slot), lv_has ls 7 [(2, .int (nI (i27))), (0, .ref (a 0)), (1, .int (air))] → WW H locs 0 0 (F0 m 27 ls []) := by
          intro n27
          induction n27 with
          | zero => intro i27 h1 h2; exact absurd h2 (by omega)
          | succ n27 ih27 =>
            intro i27 hi27 hn27 z27 hz27  H locs hP hD hS ls hl
            refine (hWW _ _ _ _ _).mpr ?_
            have k4 : ∀ k, (k = 4 ∨ k = 5) → z27.1 k = σ.1 k := fun k hk => by rw [hz27, m_heat_k27 k (by omega), hz2]; exact m_heat_k2 k (by omega) _ _
            refine lv_iload_n hx hb dX6_heat_27 rfl (lv_at hl 0 rfl) ?_
            refine lv_bipush (v := nI (25)) hx hb dX6_heat_28 (by decide) ?_
            refine n_icmp_ge (x := i27) (y := 25) (tgt := 192) hx hb (by omega) (by omega) dX6_heat_30 (by decide) (fun c_3 => ?_) (fun c_3 => ?_)
            · have hiN : 25 = i27 := by omega
              subst hiN
              have hR_4 : m_heat_s σ air = m_heat_x27_s σ air z2 z27 := (Eq.trans hR_2 (by subst hz27; unfold m_heat_x2_s; rfl))
              refine lv_iconst (v := nI (0)) hx hb dX6_heat_192 (by decide) ?_
              refine lv_istore_n (lv' := [(2, .int (nI (0))), (0, .ref (a 0)), (1, .int (air))]) hx hb dX6_heat_193 rfl hl (by decide) rfl (fun ls hl => ?_)
              have L194 : ∀ (n194 i194 : Nat), i194 ≤ (σ.1 13 0).toNatClampNeg → ((σ.1 13 0).toNatClampNeg) + 1 ≤ i194 + n194 → ∀ (z194 : Sg), z194 = lp (m_heat_b194 air) i194 z27 → ∀ (H : Heap) (locs : List Loc), va_P G vwCl (wm cI cZ a z194) H → va_D (mA a) (wm cI cZ a z194) → va_S (mA a) s.heap H locs → ∀ (ls : Array Slot), lv_has ls 7 [(2, .int (nI (i194))), (0, .ref (a 0)), (1, .int (air))] → WW H locs 0 0 (F0 m 194 ls []) := by
                intro n194
                induction n194 with
                | zero => intro i194 h1 h2; exact absurd h2 (by omega)
                | succ n194 ih194 =>
                  intro i194 hi194 hn194 z194 hz194  H locs hP hD hS ls hl
                  refine (hWW _ _ _ _ _).mpr ?_
                  have k13 : ∀ k, (k = 13 ∨ k = 14) → z194.1 k = σ.1 k := fun k hk => by rw [hz194, m_heat_k194 k (by omega), hz27, m_heat_k27 k (by omega), hz2]; exact m_heat_k2 k (by omega) _ _
                  refine lv_iload_n hx hb dX6_heat_194 rfl (lv_at hl 0 rfl) ?_
                  refine lv_aload_n hx hb dX6_heat_195 rfl (lv_at hl 1 rfl) ?_
                  refine m_get (v := .int ((z194.1 13 0))) hx hb hts hin hown hK hP 13 (by decide) rfl (index := 132) (List.mem_of_getElem? (i := 5) rfl) dX6_heat_196 ?_
                  refine W.eq (g2 := F0 m 199 ls (.int (nI ((σ.1 13 0).toNatClampNeg)) :: .int (nI (i194)) :: [])) (congrArg (fun v => F0 m 199 ls (Value.int v :: .int (nI (i194)) :: [])) ((by rw [k13 13 (by omega)]; exact e13))) ?_
                  refine n_icmp_ge (x := i194) (y := (σ.1 13 0).toNatClampNeg) (tgt := 240) hx hb (by omega) (by omega) dX6_heat_199 (by decide) (fun c_5 => ?_) (fun c_5 => ?_)
                  · have hiN : (σ.1 13 0).toNatClampNeg = i194 := by omega
                    subst hiN
                    have hR_6 : m_heat_s σ air = m_heat_x194_s σ air z2 z27 z194 := (Eq.trans hR_4 (by subst hz194; unfold m_heat_x27_s; rfl))
                    exact m_vret hx hb hr hlocks hP hK hD hS dX6_heat_240 (Eq.trans (by unfold m_heat_x194_s; rfl) hR_6.symm)
                  · refine lv_aload_n hx hb dX6_heat_202 rfl (lv_at hl 1 rfl) ?_
                    refine lv_iconst (v := nI (5)) hx hb dX6_heat_203 (by decide) ?_
                    refine lv_aload_n hx hb dX6_heat_204 rfl (lv_at hl 1 rfl) ?_
                    refine m_get (v := .ref (a 14)) hx hb hts hin hown hK hP 14 (by decide) rfl (index := 43) (List.mem_of_getElem? (i := 6) rfl) dX6_heat_205 ?_
                    refine lv_iload_n hx hb dX6_heat_208 rfl (lv_at hl 0 rfl) ?_
                    refine m_ald (j := i194) hx hb hK hP 12 14 rfl (by decide) (by omega) dX6_heat_209 ?_
                    refine W.eq (g2 := F0 m 210 ls [.int ((z194.1 14 i194)), .int (nI (5)), .ref (a 0)]) rfl ?_
                    refine lv_imul (x := nI (5)) (y := (z194.1 14 i194)) hx hb dX6_heat_210 ?_
                    refine lv_aload_n hx hb dX6_heat_211 rfl (lv_at hl 1 rfl) ?_
                    refine m_get (v := .ref (a 16)) hx hb hts hin hown hK hP 16 (by decide) rfl (index := 49) (List.mem_of_getElem? (i := 7) rfl) dX6_heat_212 ?_
                    refine lv_iload_n hx hb dX6_heat_215 rfl (lv_at hl 0 rfl) ?_
                    refine m_zald (j := i194) hx hb hK hP 14 16 rfl (by decide) (by omega) dX6_heat_216 ?_
                    refine W.eq (g2 := F0 m 217 ls [.int ((z194.1 16 i194)), .int ((nI (5)) * ((z194.1 14 i194))), .ref (a 0)]) rfl ?_
                    have J231_10 : ∀ (x_9 : Int32), x_9 = (if (z194.1 16 i194) = 0 then nI (300) else (if 0 ≤ air then nI (300) else nI (0))) → ∀ (H : Heap) (locs : List Loc), va_P G vwCl (wm cI cZ a z194) H → va_D (mA a) (wm cI cZ a z194) → va_S (mA a) s.heap H locs → ∀ (ls : Array Slot), lv_has ls 7 [(2, .int (nI (i194))), (0, .ref (a 0)), (1, .int (air))] → WW H locs 0 0 (F0 m 231 ls [.int (x_9), .int ((nI (5)) * ((z194.1 14 i194))), .ref (a 0)]) := by
                      intro x_9 h_11 H locs hP hD hS ls hl
                      refine (hWW _ _ _ _ _).mpr ?_
                      have hR_12 : m_heat_b194 air i194 z194 = m_heat_j231 air i194 z194 x_9 := (by subst h_11; unfold m_heat_b194; rfl)
                      refine m_callV (As := [.int ((nI (5)) * ((z194.1 14 i194))), .int (x_9)]) (rest := []) (fun _ h => h) ⟨hx, hb, hml, hown, hts⟩ (cm_bring l G cI cZ a z194  ((nI (5)) * ((z194.1 14 i194))) x_9 (by rw [k13 14 (by omega)]; exact vp_5 (hO.2.2.2.2.1 i194 (by omega)).1)) (cwV 2 hts gX6_heat_X6_bring rfl rfl rfl (by decide +kernel) ⟨Nat.le_of_ble_eq_true rfl, Nat.le_of_ble_eq_true rfl⟩) hK hP hD hS rfl hl.1 rfl (Nat.le_of_ble_eq_true rfl) dX6_heat_231 ⟨Nat.zero_le _, Nat.zero_le _⟩ (fun H locs hP hD _ _ hS => ?_)
                      refine n_iinc (x := i194) (dN := 1) (k := 0) (lv' := [(2, .int (nI (i194 + 1))), (0, .ref (a 0)), (1, .int (air))]) hx hb dX6_heat_234 hl rfl (by decide) rfl (fun ls hl => ?_)
                      refine lv_goto (tgt := 194) hx hb dX6_heat_237 (by decide) ?_
                      exact (hWW _ _ _ _ _).mp (ih194 (i194 + 1) (by omega) (by omega) ((m_bring_s z194 ((nI (5)) * ((z194.1 14 i194))) x_9)) (by show _ = m_heat_b194 air i194 (lp (m_heat_b194 air) i194 z27); rw [← hz194]; exact (Eq.trans (by unfold m_heat_j231; rfl) hR_12.symm))  _ _ hP hD hS _ (lv_sub hl [0, 1, 2] rfl))
                    refine lv_if_eq (x := (z194.1 16 i194)) (tgt := 228) hx hb dX6_heat_217 (by decide) (fun c_7 => ?_) (fun c_7 => ?_)
                    · refine lv_sipush (v := nI (300)) hx hb dX6_heat_228 (by decide) ?_
                      exact (hWW _ _ _ _ _).mp (J231_10 _ (by simp only [if_pos c_7]) _ _ hP hD hS _ (lv_sub hl [0, 1, 2] rfl))
                    · refine lv_iload_n hx hb dX6_heat_220 rfl (lv_at hl 2 rfl) ?_
                      refine lv_if_ge (x := air) (tgt := 228) hx hb dX6_heat_221 (by decide) (fun c_13 => ?_) (fun c_13 => ?_)
                      · refine lv_sipush (v := nI (300)) hx hb dX6_heat_228 (by decide) ?_
                        exact (hWW _ _ _ _ _).mp (J231_10 _ (by simp only [if_neg c_7, if_pos c_13]) _ _ hP hD hS _ (lv_sub hl [0, 1, 2] rfl))
                      · refine lv_iconst (v := nI (0)) hx hb dX6_heat_224 (by decide) ?_
                        refine lv_goto (tgt := 231) hx hb dX6_heat_225 (by decide) ?_
                        exact (hWW _ _ _ _ _).mp (J231_10 _ (by simp only [if_neg c_7, if_neg c_13]) _ _ hP hD hS _ (lv_sub hl [0, 1, 2] rfl))
              exact (hWW _ _ _ _ _).mp (L194 ((σ.1 13 0).toNatClampNeg + 1) 0 (Nat.zero_le _) (by omega) z27 rfl  _ _ hP hD hS _ (lv_sub hl [0, 1, 2] rfl))
            · refine lv_aload_n hx hb dX6_heat_33 rfl (lv_at hl 1 rfl) ?_
              refine lv_iload_n hx hb dX6_heat_34 rfl (lv_at hl 0 rfl) ?_
              refine m_callI (As := [.int (nI (i27))]) (rest := []) (fun _ h => h) ⟨hx, hb, hml, hown, hts⟩ (cm_isLake l G cI cZ a z27  (nI (i27)) (vp_in_nI (by omega) (by decide))) (cwV 1 hts gX6_heat_X6_isLake rfl rfl rfl (by decide +kernel) ⟨Nat.le_of_ble_eq_true rfl, Nat.le_of_ble_eq_true rfl⟩) hK hP hD hS rfl hl.1 rfl (Nat.le_of_ble_eq_true rfl) dX6_heat_35 ⟨Nat.zero_le _, Nat.zero_le _⟩ (fun H locs hP hD _ _ hS => ?_)
              have J66_17 : ∀ (x_16 : Int32), x_16 = (if (m_isLake z27 (nI (i27))) = 0 then (nI (60)) / (((nI (2)) + ((z27.1 4 i27))) + ((nI (2)) * ((z27.1 5 i27)))) else nI (30)) → ∀ (H : Heap) (locs : List Loc), va_P G vwCl (wm cI cZ a z27) H → va_D (mA a) (wm cI cZ a z27) → va_S (mA a) s.heap H locs → ∀ (ls : Array Slot), lv_has ls 7 [(2, .int (nI (i27))), (0, .ref (a 0)), (1, .int (air))] → WW H locs 0 0 (F0 m 66 ls [.int (x_16)]) := by
                intro x_16 h_18 H locs hP hD hS ls hl
                refine (hWW _ _ _ _ _).mpr ?_
                have hR_19 : m_heat_b27 air i27 z27 = m_heat_j66 air i27 z27 x_16 := (by subst h_18; unfold m_heat_b27; rfl)
                refine lv_istore_n (lv' := [(3, .int (x_16)), (2, .int (nI (i27))), (0, .ref (a 0)), (1, .int (air))]) hx hb dX6_heat_66 rfl hl (by decide) rfl (fun ls hl => ?_)
                refine lv_aload_n hx hb dX6_heat_67 rfl (lv_at hl 2 rfl) ?_
                refine lv_iload_n hx hb dX6_heat_68 rfl (lv_at hl 1 rfl) ?_
                refine m_callI (As := [.int (nI (i27))]) (rest := []) (fun _ h => h) ⟨hx, hb, hml, hown, hts⟩ (cm_isLake l G cI cZ a z27  (nI (i27)) (vp_in_nI (by omega) (by decide))) (cwV 1 hts gX6_heat_X6_isLake rfl rfl rfl (by decide +kernel) ⟨Nat.le_of_ble_eq_true rfl, Nat.le_of_ble_eq_true rfl⟩) hK hP hD hS rfl hl.1 rfl (Nat.le_of_ble_eq_true rfl) dX6_heat_69 ⟨Nat.zero_le _, Nat.zero_le _⟩ (fun H locs hP hD _ _ hS => ?_)
                have J84_23 : ∀ (x_22 : Int32), x_22 = (if (m_isLake z27 (nI (i27))) = 0 then air else (m_greater (nI (0)) air)) → ∀ (H : Heap) (locs : List Loc), va_P G vwCl (wm cI cZ a z27) H → va_D (mA a) (wm cI cZ a z27) → va_S (mA a) s.heap H locs → ∀ (ls : Array Slot), lv_has ls 7 [(3, .int (x_16)), (2, .int (nI (i27))), (0, .ref (a 0)), (1, .int (air))] → WW H locs 0 0 (F0 m 84 ls [.int (x_22)]) := by
                  intro x_22 h_24 H locs hP hD hS ls hl
                  refine (hWW _ _ _ _ _).mpr ?_
                  have hR_25 : m_heat_b27 air i27 z27 = m_heat_j84 air i27 z27 x_16 x_22 := (Eq.trans hR_19 (by subst h_24; unfold m_heat_j66; rfl))
                  refine lv_istore (lv' := [(4, .int (x_22)), (3, .int (x_16)), (2, .int (nI (i27))), (0, .ref (a 0)), (1, .int (air))]) hx hb dX6_heat_84 hl (by decide) rfl (fun ls hl => ?_)
                  refine lv_aload_n hx hb dX6_heat_86 rfl (lv_at hl 3 rfl) ?_
                  refine lv_iconst (v := nI (5)) hx hb dX6_heat_87 (by decide) ?_
                  refine lv_iload_n hx hb dX6_heat_88 rfl (lv_at hl 2 rfl) ?_
                  refine n_mul (x := 5) (y := i27) hx hb dX6_heat_89 ?_
                  refine lv_iload_n hx hb dX6_heat_90 rfl (lv_at hl 1 rfl) ?_
                  refine lv_iload hx hb dX6_heat_91 (lv_at hl 0 rfl) ?_
                  refine lv_aload_n hx hb dX6_heat_93 rfl (lv_at hl 3 rfl) ?_
                  refine m_get (v := .ref (a 12)) hx hb hts hin hown hK hP 12 (by decide) rfl (index := 40) (List.mem_of_getElem? (i := 1) rfl) dX6_heat_94 ?_
                  refine lv_iconst (v := nI (5)) hx hb dX6_heat_97 (by decide) ?_
                  refine lv_iload_n hx hb dX6_heat_98 rfl (lv_at hl 2 rfl) ?_
                  refine n_mul (x := 5) (y := i27) hx hb dX6_heat_99 ?_
                  refine m_ald (j := 5 * i27) hx hb hK hP 11 12 rfl (by decide) (by omega) dX6_heat_100 ?_
                  refine W.eq (g2 := F0 m 101 ls [.int ((z27.1 12 (5 * i27))), .int (x_22), .int (x_16), .int (nI (5 * i27)), .ref (a 0)]) rfl ?_
                  refine lv_isub (x := x_22) (y := (z27.1 12 (5 * i27))) hx hb dX6_heat_101 ?_
                  refine lv_imul (x := x_16) (y := (x_22) - ((z27.1 12 (5 * i27)))) hx hb dX6_heat_102 ?_
                  refine m_callV (As := [.int (nI (5 * i27)), .int ((x_16) * ((x_22) - ((z27.1 12 (5 * i27)))))]) (rest := []) (fun _ h => h) ⟨hx, hb, hml, hown, hts⟩ (cm_bring l G cI cZ a z27  (nI (5 * i27)) ((x_16) * ((x_22) - ((z27.1 12 (5 * i27))))) (vp_in_nI (by omega) (by decide))) (cwV 2 hts gX6_heat_X6_bring rfl rfl rfl (by decide +kernel) ⟨Nat.le_of_ble_eq_true rfl, Nat.le_of_ble_eq_true rfl⟩) hK hP hD hS rfl hl.1 rfl (Nat.le_of_ble_eq_true rfl) dX6_heat_103 ⟨Nat.zero_le _, Nat.zero_le _⟩ (fun H locs hP hD _ _ hS => ?_)
                  refine lv_iconst (v := nI (5)) hx hb dX6_heat_106 (by decide) ?_
                  refine lv_iload_n hx hb dX6_heat_107 rfl (lv_at hl 2 rfl) ?_
                  refine n_mul (x := 5) (y := i27) hx hb dX6_heat_108 ?_
                  refine lv_istore (lv' := [(5, .int (nI (5 * i27))), (4, .int (x_22)), (3, .int (x_16)), (2, .int (nI (i27))), (0, .ref (a 0)), (1, .int (air))]) hx hb dX6_heat_109 hl (by decide) rfl (fun ls hl => ?_)
                  have L111 : ∀ (n111 i111 : Nat), i111 ≤ 4 → 4 + 1 ≤ i111 + n111 → ∀ (z111 : Sg), z111 = lp (m_heat_b111 i27) i111 (m_bring_s z27 (nI (5 * i27)) ((x_16) * ((x_22) - ((z27.1 12 (5 * i27)))))) → ∀ (H : Heap) (locs : List Loc), va_P G vwCl (wm cI cZ a z111) H → va_D (mA a) (wm cI cZ a z111) → va_S (mA a) s.heap H locs → ∀ (ls : Array Slot), lv_has ls 7 [(5, .int (nI (5 * i27 + i111))), (4, .int (x_22)), (3, .int (x_16)), (2, .int (nI (i27))), (0, .ref (a 0)), (1, .int (air))] → WW H locs 0 0 (F0 m 111 ls []) := by
                    intro n111
                    induction n111 with
                    | zero => intro i111 h1 h2; exact absurd h2 (by omega)
                    | succ n111 ih111 =>
                      intro i111 hi111 hn111 z111 hz111  H locs hP hD hS ls hl
                      refine (hWW _ _ _ _ _).mpr ?_
                      refine lv_iload hx hb dX6_heat_111 (lv_at hl 0 rfl) ?_
                      refine lv_iconst (v := nI (5)) hx hb dX6_heat_113 (by decide) ?_
                      refine lv_iload_n hx hb dX6_heat_114 rfl (lv_at hl 3 rfl) ?_
                      refine n_mul (x := 5) (y := i27) hx hb dX6_heat_115 ?_
                      refine lv_iconst (v := nI (4)) hx hb dX6_heat_116 (by decide) ?_
                      refine n_add (x := 5 * i27) (y := 4) hx hb dX6_heat_117 ?_
                      refine n_icmp_ge (x := 5 * i27 + i111) (y := (5 * i27) + 4) (tgt := 175) hx hb (by omega) (by omega) dX6_heat_118 (by decide) (fun c_26 => ?_) (fun c_26 => ?_)
                      · have hiN : 4 = i111 := by omega
                        subst hiN
                        have hR_27 : m_heat_b27 air i27 z27 = m_heat_x111 air i27 z27 x_16 x_22 z111 := (Eq.trans hR_25 (by subst hz111; unfold m_heat_j84; rfl))
                        refine lv_aload_n hx hb dX6_heat_175 rfl (lv_at hl 4 rfl) ?_
                        refine lv_iconst (v := nI (5)) hx hb dX6_heat_176 (by decide) ?_
                        refine lv_iload_n hx hb dX6_heat_177 rfl (lv_at hl 3 rfl) ?_
                        refine n_mul (x := 5) (y := i27) hx hb dX6_heat_178 ?_
                        refine lv_iconst (v := nI (4)) hx hb dX6_heat_179 (by decide) ?_
                        refine n_add (x := 5 * i27) (y := 4) hx hb dX6_heat_180 ?_
                        refine lv_bipush (v := nI (10)) hx hb dX6_heat_181 (by decide) ?_
                        refine m_callV (As := [.int (nI ((5 * i27) + 4)), .int (nI (10))]) (rest := []) (fun _ h => h) ⟨hx, hb, hml, hown, hts⟩ (cm_bring l G cI cZ a z111  (nI ((5 * i27) + 4)) (nI (10)) (vp_in_nI (by omega) (by decide))) (cwV 2 hts gX6_heat_X6_bring rfl rfl rfl (by decide +kernel) ⟨Nat.le_of_ble_eq_true rfl, Nat.le_of_ble_eq_true rfl⟩) hK hP hD hS rfl hl.1 rfl (Nat.le_of_ble_eq_true rfl) dX6_heat_183 ⟨Nat.zero_le _, Nat.zero_le _⟩ (fun H locs hP hD _ _ hS => ?_)
                        refine n_iinc (x := i27) (dN := 1) (k := 3) (lv' := [(2, .int (nI (i27 + 1))), (5, .int (nI (5 * i27 + 4))), (4, .int (x_22)), (3, .int (x_16)), (0, .ref (a 0)), (1, .int (air))]) hx hb dX6_heat_186 hl rfl (by decide) rfl (fun ls hl => ?_)
                        refine lv_goto (tgt := 27) hx hb dX6_heat_189 (by decide) ?_
                        exact (hWW _ _ _ _ _).mp (ih27 (i27 + 1) (by omega) (by omega) ((m_bring_s z111 (nI ((5 * i27) + 4)) (nI (10)))) (by show _ = m_heat_b27 air i27 (lp (m_heat_b27 air) i27 z2); rw [← hz27]; exact (Eq.trans (by unfold m_heat_x111; rfl) hR_27.symm))  _ _ hP hD hS _ (lv_sub hl [0, 4, 5] rfl))
                      · refine lv_bipush (v := nI (20)) hx hb dX6_heat_121 (by decide) ?_
                        refine lv_aload_n hx hb dX6_heat_123 rfl (lv_at hl 4 rfl) ?_
                        refine m_get (v := .ref (a 12)) hx hb hts hin hown hK hP 12 (by decide) rfl (index := 40) (List.mem_of_getElem? (i := 1) rfl) dX6_heat_124 ?_
                        refine lv_iload hx hb dX6_heat_127 (lv_at hl 0 rfl) ?_
                        refine m_ald (j := 5 * i27 + i111) hx hb hK hP 11 12 rfl (by decide) (by omega) dX6_heat_129 ?_
                        refine W.eq (g2 := F0 m 130 ls [.int ((z111.1 12 (5 * i27 + i111))), .int (nI (20))]) rfl ?_
                        refine lv_aload_n hx hb dX6_heat_130 rfl (lv_at hl 4 rfl) ?_
                        refine m_get (v := .ref (a 12)) hx hb hts hin hown hK hP 12 (by decide) rfl (index := 40) (List.mem_of_getElem? (i := 1) rfl) dX6_heat_131 ?_
                        refine lv_iload hx hb dX6_heat_134 (lv_at hl 0 rfl) ?_
                        refine lv_iconst (v := nI (1)) hx hb dX6_heat_136 (by decide) ?_
                        refine n_add (x := 5 * i27 + i111) (y := 1) hx hb dX6_heat_137 ?_
                        refine m_ald (j := (5 * i27 + i111) + 1) hx hb hK hP 11 12 rfl (by decide) (by omega) dX6_heat_138 ?_
                        refine W.eq (g2 := F0 m 139 ls [.int ((z111.1 12 ((5 * i27 + i111) + 1))), .int ((z111.1 12 (5 * i27 + i111))), .int (nI (20))]) rfl ?_
                        refine lv_isub (x := (z111.1 12 (5 * i27 + i111))) (y := (z111.1 12 ((5 * i27 + i111) + 1))) hx hb dX6_heat_139 ?_
                        refine lv_imul (x := nI (20)) (y := ((z111.1 12 (5 * i27 + i111))) - ((z111.1 12 ((5 * i27 + i111) + 1)))) hx hb dX6_heat_140 ?_
                        refine lv_istore (lv' := [(6, .int ((nI (20)) * (((z111.1 12 (5 * i27 + i111))) - ((z111.1 12 ((5 * i27 + i111) + 1)))))), (5, .int (nI (5 * i27 + i111))), (4, .int (x_22)), (3, .int (x_16)), (2, .int (nI (i27))), (0, .ref (a 0)), (1, .int (air))]) hx hb dX6_heat_141 hl (by decide) rfl (fun ls hl => ?_)
                        refine lv_aload_n hx hb dX6_heat_143 rfl (lv_at hl 5 rfl) ?_
                        refine m_get (v := .ref (a 10)) hx hb hts hin hown hK hP 10 (by decide) rfl (index := 34) (List.mem_of_getElem? (i := 4) rfl) dX6_heat_144 ?_
                        refine lv_iload hx hb dX6_heat_147 (lv_at hl 1 rfl) ?_
                        refine lv_dup2_11 hx hb dX6_heat_149 rfl rfl ?_
                        refine m_ald (j := 5 * i27 + i111) hx hb hK hP 9 10 rfl (by decide) (by omega) dX6_heat_150 ?_
                        refine W.eq (g2 := F0 m 151 ls [.int ((z111.1 10 (5 * i27 + i111))), .int (nI (5 * i27 + i111)), .ref (a 10)]) rfl ?_
                        refine lv_iload hx hb dX6_heat_151 (lv_at hl 0 rfl) ?_
                        refine lv_isub (x := (z111.1 10 (5 * i27 + i111))) (y := (nI (20)) * (((z111.1 12 (5 * i27 + i111))) - ((z111.1 12 ((5 * i27 + i111) + 1))))) hx hb dX6_heat_153 ?_
                        refine m_ast (j := 5 * i27 + i111) (v := ((z111.1 10 (5 * i27 + i111))) - ((nI (20)) * (((z111.1 12 (5 * i27 + i111))) - ((z111.1 12 ((5 * i27 + i111) + 1)))))) hx hb hK hP hD hS 9 10 rfl rfl (by decide) (by omega) dX6_heat_154 (fun H locs hP hD hS => ?_)
                        refine lv_aload_n hx hb dX6_heat_155 rfl (lv_at hl 5 rfl) ?_
                        refine m_get (v := .ref (a 10)) hx hb hts hin hown hK hP 10 (by decide) rfl (index := 34) (List.mem_of_getElem? (i := 4) rfl) dX6_heat_156 ?_
                        refine lv_iload hx hb dX6_heat_159 (lv_at hl 1 rfl) ?_
                        refine lv_iconst (v := nI (1)) hx hb dX6_heat_161 (by decide) ?_
                        refine n_add (x := 5 * i27 + i111) (y := 1) hx hb dX6_heat_162 ?_
                        refine lv_dup2_11 hx hb dX6_heat_163 rfl rfl ?_
                        refine m_ald (j := (5 * i27 + i111) + 1) hx hb hK hP 9 10 rfl (by decide) (by omega) dX6_heat_164 ?_
                        refine W.eq (g2 := F0 m 165 ls [.int (((si z111 10 (5 * i27 + i111) (((z111.1 10 (5 * i27 + i111))) - ((nI (20)) * (((z111.1 12 (5 * i27 + i111))) - ((z111.1 12 ((5 * i27 + i111) + 1))))))).1 10 ((5 * i27 + i111) + 1))), .int (nI ((5 * i27 + i111) + 1)), .ref (a 10)]) rfl ?_
                        refine lv_iload hx hb dX6_heat_165 (lv_at hl 0 rfl) ?_
                        refine lv_iadd (x := ((si z111 10 (5 * i27 + i111) (((z111.1 10 (5 * i27 + i111))) - ((nI (20)) * (((z111.1 12 (5 * i27 + i111))) - ((z111.1 12 ((5 * i27 + i111) + 1))))))).1 10 ((5 * i27 + i111) + 1))) (y := (nI (20)) * (((z111.1 12 (5 * i27 + i111))) - ((z111.1 12 ((5 * i27 + i111) + 1))))) hx hb dX6_heat_167 ?_
                        refine m_ast (j := (5 * i27 + i111) + 1) (v := (((si z111 10 (5 * i27 + i111) (((z111.1 10 (5 * i27 + i111))) - ((nI (20)) * (((z111.1 12 (5 * i27 + i111))) - ((z111.1 12 ((5 * i27 + i111) + 1))))))).1 10 ((5 * i27 + i111) + 1))) + ((nI (20)) * (((z111.1 12 (5 * i27 + i111))) - ((z111.1 12 ((5 * i27 + i111) + 1)))))) hx hb hK hP hD hS 9 10 rfl rfl (by decide) (by omega) dX6_heat_168 (fun H locs hP hD hS => ?_)
                        obtain ⟨s_28, e_29⟩ : ∃ z : Sg, z = (si (si z111 10 (5 * i27 + i111) (((z111.1 10 (5 * i27 + i111))) - ((nI (20)) * (((z111.1 12 (5 * i27 + i111))) - ((z111.1 12 ((5 * i27 + i111) + 1))))))) 10 ((5 * i27 + i111) + 1) ((((si z111 10 (5 * i27 + i111) (((z111.1 10 (5 * i27 + i111))) - ((nI (20)) * (((z111.1 12 (5 * i27 + i111))) - ((z111.1 12 ((5 * i27 + i111) + 1))))))).1 10 ((5 * i27 + i111) + 1))) + ((nI (20)) * (((z111.1 12 (5 * i27 + i111))) - ((z111.1 12 ((5 * i27 + i111) + 1))))))) := ⟨_, rfl⟩
                        rw [← e_29] at hP hD
                        have hR_30 : m_heat_b111 i27 i111 z111 = m_heat_k169 i27 i111 z111 s_28 := (by subst e_29; unfold m_heat_b111; rfl)
                        refine n_iinc (x := 5 * i27 + i111) (dN := 1) (k := 1) (lv' := [(5, .int (nI (5 * i27 + i111 + 1))), (6, .int ((nI (20)) * (((z111.1 12 (5 * i27 + i111))) - ((z111.1 12 ((5 * i27 + i111) + 1)))))), (4, .int (x_22)), (3, .int (x_16)), (2, .int (nI (i27))), (0, .ref (a 0)), (1, .int (air))]) hx hb dX6_heat_169 hl rfl (by decide) rfl (fun ls hl => ?_)
                        refine lv_goto (tgt := 111) hx hb dX6_heat_172 (by decide) ?_
                        exact (hWW _ _ _ _ _).mp (ih111 (i111 + 1) (by omega) (by omega) (s_28) (by show _ = m_heat_b111 i27 i111 (lp (m_heat_b111 i27) i111 (m_bring_s z27 (nI (5 * i27)) ((x_16) * ((x_22) - ((z27.1 12 (5 * i27))))))); rw [← hz111]; exact (Eq.trans (by unfold m_heat_k169; rfl) hR_30.symm))  _ _ hP hD hS _ (lv_sub hl [0, 2, 3, 4, 5, 6] rfl))
                  exact (hWW _ _ _ _ _).mp (L111 (4 + 1) 0 (Nat.zero_le _) (by omega) (m_bring_s z27 (nI (5 * i27)) ((x_16) * ((x_22) - ((z27.1 12 (5 * i27)))))) rfl  _ _ hP hD hS _ (lv_sub hl [0, 1, 2, 3, 4, 5] rfl))
                refine lv_if_eq (x := (m_isLake z27 (nI (i27)))) (tgt := 83) hx hb dX6_heat_72 (by decide) (fun c_20 => ?_) (fun c_20 => ?_)
                · refine lv_iload_n hx hb dX6_heat_83 rfl (lv_at hl 3 rfl) ?_
                  exact (hWW _ _ _ _ _).mp (J84_23 _ (by simp only [if_pos c_20]) _ _ hP hD hS _ (lv_sub hl [0, 1, 2, 3] rfl))
                · refine lv_iconst (v := nI (0)) hx hb dX6_heat_75 (by decide) ?_
                  refine lv_iload_n hx hb dX6_heat_76 rfl (lv_at hl 3 rfl) ?_
                  refine m_callS (As := [.int (nI (0)), .int (air)]) (rest := []) ⟨hx, hb, hml, hown, hts⟩ (cm_greater l (nI (0)) air ) (va_cwS 2 hts gX6_heat_X6_greater rfl rfl rfl (by decide +kernel) ⟨Nat.le_of_ble_eq_true rfl, Nat.le_of_ble_eq_true rfl⟩) hP hS rfl hl.1 rfl (Nat.le_of_ble_eq_true rfl) dX6_heat_77 ⟨Nat.zero_le _, Nat.zero_le _⟩ (fun H locs hP hS => ?_)
                  refine lv_goto (tgt := 84) hx hb dX6_heat_80 (by decide) ?_
                  exact (hWW _ _ _ _ _).mp (J84_23 _ (by simp only [if_neg c_20]) _ _ hP hD hS _ (lv_sub hl [0, 1, 2, 3] rfl))
              refine lv_if_eq (x := (m_isLake z27 (nI (i27)))) (tgt := 46) hx hb dX6_heat_38 (by decide) (fun c_14 => ?_) (fun c_14 => ?_)
              · refine lv_bipush (v := nI (60)) hx hb dX6_heat_46 (by decide) ?_
                refine lv_iconst (v := nI (2)) hx hb dX6_heat_48 (by decide) ?_
                refine lv_aload_n hx hb dX6_heat_49 rfl (lv_at hl 1 rfl) ?_
                refine m_get (v := .ref (a 4)) hx hb hts hin hown hK hP 4 (by decide) rfl (index := 16) (List.mem_of_getElem? (i := 2) rfl) dX6_heat_50 ?_
                refine lv_iload_n hx hb dX6_heat_53 rfl (lv_at hl 0 rfl) ?_
                refine m_ald (j := i27) hx hb hK hP 3 4 rfl (by decide) (by omega) dX6_heat_54 ?_
                refine W.eq (g2 := F0 m 55 ls [.int ((z27.1 4 i27)), .int (nI (2)), .int (nI (60))]) rfl ?_
                refine lv_iadd (x := nI (2)) (y := (z27.1 4 i27)) hx hb dX6_heat_55 ?_
                refine lv_iconst (v := nI (2)) hx hb dX6_heat_56 (by decide) ?_
                refine lv_aload_n hx hb dX6_heat_57 rfl (lv_at hl 1 rfl) ?_
                refine m_get (v := .ref (a 5)) hx hb hts hin hown hK hP 5 (by decide) rfl (index := 19) (List.mem_of_getElem? (i := 3) rfl) dX6_heat_58 ?_
                refine lv_iload_n hx hb dX6_heat_61 rfl (lv_at hl 0 rfl) ?_
                refine m_ald (j := i27) hx hb hK hP 4 5 rfl (by decide) (by omega) dX6_heat_62 ?_
                refine W.eq (g2 := F0 m 63 ls [.int ((z27.1 5 i27)), .int (nI (2)), .int ((nI (2)) + ((z27.1 4 i27))), .int (nI (60))]) rfl ?_
                refine lv_imul (x := nI (2)) (y := (z27.1 5 i27)) hx hb dX6_heat_63 ?_
                refine lv_iadd (x := (nI (2)) + ((z27.1 4 i27))) (y := (nI (2)) * ((z27.1 5 i27))) hx hb dX6_heat_64 ?_
                refine lv_idiv (x := nI (60)) (y := ((nI (2)) + ((z27.1 4 i27))) + ((nI (2)) * ((z27.1 5 i27)))) hx hb dX6_heat_65 (by rw [k4 4 (Or.inl rfl), k4 5 (Or.inr rfl)]; exact div_ne (hO.2.2.2.2.2.2 i27 (by omega)).1 (hO.2.2.2.2.2.2 i27 (by omega)).2) ?_
                exact (hWW _ _ _ _ _).mp (J66_17 _ (by simp only [if_pos c_14]) _ _ hP hD hS _ (lv_sub hl [0, 1, 2] rfl))
              · refine lv_bipush (v := nI (30)) hx hb dX6_heat_41 (by decide) ?_
                refine lv_goto (tgt := 66) hx hb dX6_heat_43 (by decide) ?_
                exact (hWW _ _ _ _ _).mp (J66_17 _ (by simp only [if_neg c_14]) _ _ hP hD hS _ (lv_sub hl [0, 1, 2] rfl))
        exact (hWW _ _ _ _ _).mp (L27 (25 + 1) 0 (Nat.zero_le _) (by omega) z2 rfl  _ _ hP hD hS _ (lv_sub hl [0, 1, 2] rfl))
      · refine lv_aload_n hx hb dX6_heat_8 rfl (lv_at hl 1 rfl) ?_
        refine m_get (v := .ref (a 12)) hx hb hts hin hown hK hP 12 (by decide) rfl (index := 40) (List.mem_of_getElem? (i := 1) rfl) dX6_heat_9 ?_
        refine lv_iload_n hx hb dX6_heat_12 rfl (lv_at hl 0 rfl) ?_
        refine lv_aload_n hx hb dX6_heat_13 rfl (lv_at hl 1 rfl) ?_
        refine lv_iload_n hx hb dX6_heat_14 rfl (lv_at hl 0 rfl) ?_
        refine m_callI (As := [.int (nI (i2))]) (rest := [.int (nI (i2)), .ref (a 12)]) (fun _ h => h) ⟨hx, hb, hml, hown, hts⟩ (cm_degreesOf l G cI cZ a z2  (nI (i2)) (vp_in_nI (by omega) (by decide))) (cwV 1 hts gX6_heat_X6_degreesOf rfl rfl rfl (by decide +kernel) ⟨Nat.le_of_ble_eq_true rfl, Nat.le_of_ble_eq_true rfl⟩) hK hP hD hS rfl hl.1 rfl (Nat.le_of_ble_eq_true rfl) dX6_heat_15 ⟨Nat.zero_le _, Nat.zero_le _⟩ (fun H locs hP hD _ _ hS => ?_)
        refine m_ast (j := i2) (v := (m_degreesOf z2 (nI (i2)))) hx hb hK hP hD hS 11 12 rfl rfl (by decide) (by omega) dX6_heat_18 (fun H locs hP hD hS => ?_)
        refine n_iinc (x := i2) (dN := 1) (k := 0) (lv' := [(2, .int (nI (i2 + 1))), (0, .ref (a 0)), (1, .int (air))]) hx hb dX6_heat_19 hl rfl (by decide) rfl (fun ls hl => ?_)
        refine lv_goto (tgt := 2) hx hb dX6_heat_22 (by decide) ?_
        exact (hWW _ _ _ _ _).mp (ih2 (i2 + 1) (by omega) (by omega) ((si z2 12 (i2) ((m_degreesOf z2 (nI (i2)))))) (by show _ = m_heat_b2 i2 (lp (m_heat_b2) i2 σ); rw [← hz2]; exact (by unfold m_heat_b2; rfl))  _ _ hP hD hS _ (lv_sub hl [0, 1, 2] rfl))
  exact (hWW _ _ _ _ _).mp (L2 (125 + 1) 0 (Nat.zero_le _) (by omega) σ rfl  _ _ hP hD hS _ (lv_sub hl [0, 1, 2] rfl))

def m_flow_j152_s (σ : Sg) (k : Nat) (z4 : Int32) (τ_5 : Sg) : Sg := τ_5
def m_flow_x4_s (σ : Sg) (k : Nat) (z4 : Int32) : Sg := (m_flow_j152_s σ k z4 (if ((((σ.1 2 k)) + ((σ.1 3 k))) - ((σ.1 2 ((z4).toNatClampNeg)))) - ((σ.1 3 ((z4).toNatClampNeg))) ≤ nI (1) then σ else (si (si σ 3 (k) (((σ.1 3 k)) - ((m_lesser (σ.1 3 k) ((((((σ.1 2 k)) + ((σ.1 3 k))) - ((σ.1 2 ((z4).toNatClampNeg)))) - ((σ.1 3 ((z4).toNatClampNeg)))) / (nI (2))))))) 3 ((z4).toNatClampNeg) ((((si σ 3 (k) (((σ.1 3 k)) - ((m_lesser (σ.1 3 k) ((((((σ.1 2 k)) + ((σ.1 3 k))) - ((σ.1 2 ((z4).toNatClampNeg)))) - ((σ.1 3 ((z4).toNatClampNeg)))) / (nI (2))))))).1 3 ((z4).toNatClampNeg))) + ((m_lesser (σ.1 3 k) ((((((σ.1 2 k)) + ((σ.1 3 k))) - ((σ.1 2 ((z4).toNatClampNeg)))) - ((σ.1 3 ((z4).toNatClampNeg)))) / (nI (2)))))))))
def m_flow_j76 (σ : Sg) (k : Nat) (i4 : Nat) (z4 : Int32) (x_11 : Int32) (x_17 : Int32) : Int32 := x_17
def m_flow_j63 (σ : Sg) (k : Nat) (i4 : Nat) (z4 : Int32) (x_11 : Int32) : Int32 := (m_flow_j76 σ k i4 z4 x_11 (if x_11 = 0 then z4 else (m_beside (nI (k)) (nI (i4)))))
def m_flow_b4 (σ : Sg) (k : Nat) (i4 : Nat) (z4 : Int32) : Int32 := (m_flow_j63 σ k i4 z4 (if (m_beside (nI (k)) (nI (i4))) = (-1) then nI (0) else (if z4 = (-1) then nI (1) else (if ((σ.1 2 ((z4).toNatClampNeg))) + ((σ.1 3 ((z4).toNatClampNeg))) ≤ ((σ.1 2 (((m_beside (nI (k)) (nI (i4)))).toNatClampNeg))) + ((σ.1 3 (((m_beside (nI (k)) (nI (i4)))).toNatClampNeg))) then nI (0) else nI (1)))))
def m_flow_s (σ : Sg) (k : Nat) : Sg := (m_flow_x4_s σ k (lp (m_flow_b4 σ k) 4 (-1)))
theorem m_flow_inv (σ : Sg) {k : Nat} (hk : k < 25) (i : Nat) (hi : i ≤ 4) : (∀ w, w < i → lp (m_flow_b4 σ k) i (-1) = -1 → m_beside (nI k) (nI w) = -1) ∧ (¬ lp (m_flow_b4 σ k) i (-1) = -1 → vp_in (lp (m_flow_b4 σ k) i (-1)) 25) := by
  refine lp_invB (P := fun i z => (∀ w, w < i → z = -1 → m_beside (nI k) (nI w) = -1) ∧ (¬ z = -1 → vp_in z 25)) (N := 4) ⟨fun w hw => absurd hw (by omega), fun h => absurd rfl h⟩ ?_ i hi
  intro i z hi ⟨h1, h2⟩
  unfold m_flow_b4 m_flow_j63 m_flow_j76
  by_cases hb : m_beside (nI k) (nI i) = -1
  · rw [if_pos hb, if_pos n0_eq]
    exact ⟨fun w hw hz => (Nat.lt_succ_iff_lt_or_eq.mp hw).elim (fun h => h1 w h hz) (fun h => h ▸ hb), h2⟩
  · rw [if_neg hb]
    have hin := m_beside_tab k hk i hi hb
    by_cases hz : z = -1
    · rw [if_pos hz, if_neg n1_ne]
      exact ⟨fun w _ h => absurd h hb, fun _ => hin⟩
    · rw [if_neg hz]
      by_cases hle : ((σ.1 2 (z).toNatClampNeg) + (σ.1 3 (z).toNatClampNeg)) ≤ ((σ.1 2 (m_beside (nI k) (nI i)).toNatClampNeg) + (σ.1 3 (m_beside (nI k) (nI i)).toNatClampNeg))
      · rw [if_pos hle, if_pos n0_eq]
        exact ⟨fun w _ h => absurd h hz, h2⟩
      · rw [if_neg hle, if_neg n1_ne]
        exact ⟨fun w _ h => absurd h hb, fun _ => hin⟩
theorem m_flow_end {k : Nat} {z : Int32} (hk : k < 25) (h : (∀ w, w < 4 → z = -1 → m_beside (nI k) (nI w) = -1) ∧ (¬ z = -1 → vp_in z 25)) : vp_in z 25 := by
  refine h.2 (fun hz => ?_)
  obtain ⟨w, hw, hn⟩ := m_beside_some k hk
  exact hn (h.1 w hw hz)
set_option maxHeartbeats 4000000 in
set_option maxRecDepth 100000 in
theorem cm_flow (l : Launch) (G : va_G) (cI cZ : ClassId) (a : Nat → Nat) (σ : Sg) (k : Nat) (hk : k < 25) : mV l yX6_flow wsX6_flow ({ frames := 1, cells := 0, slots := 0, locals := 21 } : Room) G cI cZ a σ [.int (nI (k))] (m_flow_s σ k) := by
  unfold mV
  refine Met.ofW (cc := cX6_flow) (maxL := 6) (ret := none) (by decide) rfl ?_
  intro p e s m args below meth c s₁ B hml hv
  obtain ⟨rfl, hP, hK, hD⟩ := hv
  have hx := B.exec
  have hb := B.bytes
  have hr := B.returns
  have hts := atoms_spec (ws := wsX6_flow) B.pre
  have hown : s.vm.findClass RX6 = some m.cls := findClass_of_methodNamed B.named
  have hlocks := B.notSynchronized
  have hS : va_S (mA a) s.heap s.heap [] := va_S.rf
  have hin : ∀ w ∈ wsX60, w ∈ wsX6_flow := fun w h => List.mem_cons_of_mem _ (List.mem_append_right _ h)
  have hl := lv_entry ([.ref (a 0), .int (nI (k))]) (n := 6) (Nat.le_of_ble_eq_true rfl)
  rw [lg_entry_eq]
  generalize (lg_sl ([.ref (a 0), .int (nI (k))]) ++ List.replicate (6 - (lg_sl ([.ref (a 0), .int (nI (k))])).length) Slot.unset).toArray = ls at hl ⊢
  have hl : lv_has ls 6 [(0, .ref (a 0)), (1, .int (nI (k)))] := hl
  refine w_named (fun WW hWW => ?_)
  have hP : va_P G vwCl (wm cI cZ a σ) s.heap := hP
  refine lv_iconst (v := (-1)) hx hb dX6_flow_0 (by decide) ?_
  refine lv_istore_n (lv' := [(2, .int ((-1))), (0, .ref (a 0)), (1, .int (nI (k)))]) hx hb dX6_flow_1 rfl hl (by decide) rfl (fun ls hl => ?_)
  refine lv_iconst (v := nI (0)) hx hb dX6_flow_2 (by decide) ?_
  refine lv_istore_n (lv' := [(3, .int (nI (0))), (2, .int ((-1))), (0, .ref (a 0)), (1, .int (nI (k)))]) hx hb dX6_flow_3 rfl hl (by decide) rfl (fun ls hl => ?_)
  have L4 : ∀ (n4 i4 : Nat), i4 ≤ 4 → 4 + 1 ≤ i4 + n4 → ∀ (z4 : Int32), z4 = lp (m_flow_b4 σ k) i4 (-1) → ∀ (H : Heap) (locs : List Loc), va_P G vwCl (wm cI cZ a σ) H → va_D (mA a) (wm cI cZ a σ) → va_S (mA a) s.heap H locs → ∀ (ls : Array Slot), lv_has ls 6 [(3, .int (nI (i4))), (2, .int (z4)), (0, .ref (a 0)), (1, .int (nI (k)))] → WW H locs 0 0 (F0 m 4 ls []) := by
    intro n4
    induction n4 with
    | zero => intro i4 h1 h2; exact absurd h2 (by omega)
    | succ n4 ih4 =>
      intro i4 hi4 hn4 z4 hz4  H locs hP hD hS ls hl
      refine (hWW _ _ _ _ _).mpr ?_
      have hv := m_flow_inv σ hk i4 hi4; rw [← hz4] at hv
      refine lv_iload_n hx hb dX6_flow_4 rfl (lv_at hl 0 rfl) ?_
      refine lv_iconst (v := nI (4)) hx hb dX6_flow_5 (by decide) ?_
      refine n_icmp_ge (x := i4) (y := 4) (tgt := 83) hx hb (by omega) (by omega) dX6_flow_6 (by decide) (fun c_1 => ?_) (fun c_1 => ?_)
      · have hiN : 4 = i4 := by omega
        subst hiN
        have hR_2 : m_flow_s σ k = m_flow_x4_s σ k z4 := (by subst hz4; unfold m_flow_s; rfl)
        have hq : vp_in z4 25 := m_flow_end hk hv
        refine lv_aload_n hx hb dX6_flow_83 rfl (lv_at hl 2 rfl) ?_
        refine m_get (v := .ref (a 2)) hx hb hts hin hown hK hP 2 (by decide) rfl (index := 7) (List.mem_of_getElem? (i := 1) rfl) dX6_flow_84 ?_
        refine lv_iload_n hx hb dX6_flow_87 rfl (lv_at hl 3 rfl) ?_
        refine m_ald (j := k) hx hb hK hP 1 2 rfl (by decide) (by omega) dX6_flow_88 ?_
        refine W.eq (g2 := F0 m 89 ls [.int ((σ.1 2 k))]) rfl ?_
        refine lv_aload_n hx hb dX6_flow_89 rfl (lv_at hl 2 rfl) ?_
        refine m_get (v := .ref (a 3)) hx hb hts hin hown hK hP 3 (by decide) rfl (index := 13) (List.mem_of_getElem? (i := 2) rfl) dX6_flow_90 ?_
        refine lv_iload_n hx hb dX6_flow_93 rfl (lv_at hl 3 rfl) ?_
        refine m_ald (j := k) hx hb hK hP 2 3 rfl (by decide) (by omega) dX6_flow_94 ?_
        refine W.eq (g2 := F0 m 95 ls [.int ((σ.1 3 k)), .int ((σ.1 2 k))]) rfl ?_
        refine lv_iadd (x := (σ.1 2 k)) (y := (σ.1 3 k)) hx hb dX6_flow_95 ?_
        refine lv_aload_n hx hb dX6_flow_96 rfl (lv_at hl 2 rfl) ?_
        refine m_get (v := .ref (a 2)) hx hb hts hin hown hK hP 2 (by decide) rfl (index := 7) (List.mem_of_getElem? (i := 1) rfl) dX6_flow_97 ?_
        refine lv_iload_n hx hb dX6_flow_100 rfl (lv_at hl 1 rfl) ?_
        refine m_aldI (j := z4) hx hb hK hP 1 2 rfl (hq) dX6_flow_101 ?_
        refine W.eq (g2 := F0 m 102 ls [.int ((σ.1 2 ((z4).toNatClampNeg))), .int (((σ.1 2 k)) + ((σ.1 3 k)))]) rfl ?_
        refine lv_isub (x := ((σ.1 2 k)) + ((σ.1 3 k))) (y := (σ.1 2 ((z4).toNatClampNeg))) hx hb dX6_flow_102 ?_
        refine lv_aload_n hx hb dX6_flow_103 rfl (lv_at hl 2 rfl) ?_
        refine m_get (v := .ref (a 3)) hx hb hts hin hown hK hP 3 (by decide) rfl (index := 13) (List.mem_of_getElem? (i := 2) rfl) dX6_flow_104 ?_
        refine lv_iload_n hx hb dX6_flow_107 rfl (lv_at hl 1 rfl) ?_
        refine m_aldI (j := z4) hx hb hK hP 2 3 rfl (hq) dX6_flow_108 ?_
        refine W.eq (g2 := F0 m 109 ls [.int ((σ.1 3 ((z4).toNatClampNeg))), .int ((((σ.1 2 k)) + ((σ.1 3 k))) - ((σ.1 2 ((z4).toNatClampNeg))))]) rfl ?_
        refine lv_isub (x := (((σ.1 2 k)) + ((σ.1 3 k))) - ((σ.1 2 ((z4).toNatClampNeg)))) (y := (σ.1 3 ((z4).toNatClampNeg))) hx hb dX6_flow_109 ?_
        refine lv_istore_n (lv' := [(3, .int (((((σ.1 2 k)) + ((σ.1 3 k))) - ((σ.1 2 ((z4).toNatClampNeg)))) - ((σ.1 3 ((z4).toNatClampNeg))))), (2, .int (z4)), (0, .ref (a 0)), (1, .int (nI (k)))]) hx hb dX6_flow_110 rfl hl (by decide) rfl (fun ls hl => ?_)
        refine lv_iload_n hx hb dX6_flow_111 rfl (lv_at hl 0 rfl) ?_
        refine lv_iconst (v := nI (1)) hx hb dX6_flow_112 (by decide) ?_
        have J152_6 : ∀ (τ_5 : Sg), τ_5 = (if ((((σ.1 2 k)) + ((σ.1 3 k))) - ((σ.1 2 ((z4).toNatClampNeg)))) - ((σ.1 3 ((z4).toNatClampNeg))) ≤ nI (1) then σ else (si (si σ 3 (k) (((σ.1 3 k)) - ((m_lesser (σ.1 3 k) ((((((σ.1 2 k)) + ((σ.1 3 k))) - ((σ.1 2 ((z4).toNatClampNeg)))) - ((σ.1 3 ((z4).toNatClampNeg)))) / (nI (2))))))) 3 ((z4).toNatClampNeg) ((((si σ 3 (k) (((σ.1 3 k)) - ((m_lesser (σ.1 3 k) ((((((σ.1 2 k)) + ((σ.1 3 k))) - ((σ.1 2 ((z4).toNatClampNeg)))) - ((σ.1 3 ((z4).toNatClampNeg)))) / (nI (2))))))).1 3 ((z4).toNatClampNeg))) + ((m_lesser (σ.1 3 k) ((((((σ.1 2 k)) + ((σ.1 3 k))) - ((σ.1 2 ((z4).toNatClampNeg)))) - ((σ.1 3 ((z4).toNatClampNeg)))) / (nI (2)))))))) → ∀ (H : Heap) (locs : List Loc), va_P G vwCl (wm cI cZ a τ_5) H → va_D (mA a) (wm cI cZ a τ_5) → va_S (mA a) s.heap H locs → ∀ (ls : Array Slot), lv_has ls 6 [(3, .int (((((σ.1 2 k)) + ((σ.1 3 k))) - ((σ.1 2 ((z4).toNatClampNeg)))) - ((σ.1 3 ((z4).toNatClampNeg))))), (2, .int (z4)), (0, .ref (a 0)), (1, .int (nI (k)))] → WW H locs 0 0 (F0 m 152 ls []) := by
          intro τ_5 h_7 H locs hP hD hS ls hl
          refine (hWW _ _ _ _ _).mpr ?_
          have hR_8 : m_flow_s σ k = m_flow_j152_s σ k z4 τ_5 := (Eq.trans hR_2 (by subst h_7; unfold m_flow_x4_s; rfl))
          exact m_vret hx hb hr hlocks hP hK hD hS dX6_flow_152 (Eq.trans (by unfold m_flow_j152_s; rfl) hR_8.symm)
        refine lv_icmp_le (x := ((((σ.1 2 k)) + ((σ.1 3 k))) - ((σ.1 2 ((z4).toNatClampNeg)))) - ((σ.1 3 ((z4).toNatClampNeg)))) (y := nI (1)) (tgt := 152) hx hb dX6_flow_113 (by decide) (fun c_3 => ?_) (fun c_3 => ?_)
        · exact (hWW _ _ _ _ _).mp (J152_6 _ (by simp only [if_pos c_3]) _ _ hP hD hS _ (lv_sub hl [0, 1, 2, 3] rfl))
        · refine lv_aload_n hx hb dX6_flow_116 rfl (lv_at hl 2 rfl) ?_
          refine m_get (v := .ref (a 3)) hx hb hts hin hown hK hP 3 (by decide) rfl (index := 13) (List.mem_of_getElem? (i := 2) rfl) dX6_flow_117 ?_
          refine lv_iload_n hx hb dX6_flow_120 rfl (lv_at hl 3 rfl) ?_
          refine m_ald (j := k) hx hb hK hP 2 3 rfl (by decide) (by omega) dX6_flow_121 ?_
          refine W.eq (g2 := F0 m 122 ls [.int ((σ.1 3 k))]) rfl ?_
          refine lv_iload_n hx hb dX6_flow_122 rfl (lv_at hl 0 rfl) ?_
          refine lv_iconst (v := nI (2)) hx hb dX6_flow_123 (by decide) ?_
          refine lv_idiv (x := ((((σ.1 2 k)) + ((σ.1 3 k))) - ((σ.1 2 ((z4).toNatClampNeg)))) - ((σ.1 3 ((z4).toNatClampNeg)))) (y := nI (2)) hx hb dX6_flow_124 (by decide) ?_
          refine m_callS (As := [.int ((σ.1 3 k)), .int ((((((σ.1 2 k)) + ((σ.1 3 k))) - ((σ.1 2 ((z4).toNatClampNeg)))) - ((σ.1 3 ((z4).toNatClampNeg)))) / (nI (2)))]) (rest := []) ⟨hx, hb, hml, hown, hts⟩ (cm_lesser l (σ.1 3 k) ((((((σ.1 2 k)) + ((σ.1 3 k))) - ((σ.1 2 ((z4).toNatClampNeg)))) - ((σ.1 3 ((z4).toNatClampNeg)))) / (nI (2))) ) (va_cwS 2 hts gX6_flow_X6_lesser rfl rfl rfl (by decide +kernel) ⟨Nat.le_of_ble_eq_true rfl, Nat.le_of_ble_eq_true rfl⟩) hP hS rfl hl.1 rfl (Nat.le_of_ble_eq_true rfl) dX6_flow_125 ⟨Nat.zero_le _, Nat.zero_le _⟩ (fun H locs hP hS => ?_)
          refine lv_istore (lv' := [(4, .int ((m_lesser (σ.1 3 k) ((((((σ.1 2 k)) + ((σ.1 3 k))) - ((σ.1 2 ((z4).toNatClampNeg)))) - ((σ.1 3 ((z4).toNatClampNeg)))) / (nI (2)))))), (3, .int (((((σ.1 2 k)) + ((σ.1 3 k))) - ((σ.1 2 ((z4).toNatClampNeg)))) - ((σ.1 3 ((z4).toNatClampNeg))))), (2, .int (z4)), (0, .ref (a 0)), (1, .int (nI (k)))]) hx hb dX6_flow_128 hl (by decide) rfl (fun ls hl => ?_)
          refine lv_aload_n hx hb dX6_flow_130 rfl (lv_at hl 3 rfl) ?_
          refine m_get (v := .ref (a 3)) hx hb hts hin hown hK hP 3 (by decide) rfl (index := 13) (List.mem_of_getElem? (i := 2) rfl) dX6_flow_131 ?_
          refine lv_iload_n hx hb dX6_flow_134 rfl (lv_at hl 4 rfl) ?_
          refine lv_dup2_11 hx hb dX6_flow_135 rfl rfl ?_
          refine m_ald (j := k) hx hb hK hP 2 3 rfl (by decide) (by omega) dX6_flow_136 ?_
          refine W.eq (g2 := F0 m 137 ls [.int ((σ.1 3 k)), .int (nI (k)), .ref (a 3)]) rfl ?_
          refine lv_iload hx hb dX6_flow_137 (lv_at hl 0 rfl) ?_
          refine lv_isub (x := (σ.1 3 k)) (y := (m_lesser (σ.1 3 k) ((((((σ.1 2 k)) + ((σ.1 3 k))) - ((σ.1 2 ((z4).toNatClampNeg)))) - ((σ.1 3 ((z4).toNatClampNeg)))) / (nI (2))))) hx hb dX6_flow_139 ?_
          refine m_ast (j := k) (v := ((σ.1 3 k)) - ((m_lesser (σ.1 3 k) ((((((σ.1 2 k)) + ((σ.1 3 k))) - ((σ.1 2 ((z4).toNatClampNeg)))) - ((σ.1 3 ((z4).toNatClampNeg)))) / (nI (2)))))) hx hb hK hP hD hS 2 3 rfl rfl (by decide) (by omega) dX6_flow_140 (fun H locs hP hD hS => ?_)
          refine lv_aload_n hx hb dX6_flow_141 rfl (lv_at hl 3 rfl) ?_
          refine m_get (v := .ref (a 3)) hx hb hts hin hown hK hP 3 (by decide) rfl (index := 13) (List.mem_of_getElem? (i := 2) rfl) dX6_flow_142 ?_
          refine lv_iload_n hx hb dX6_flow_145 rfl (lv_at hl 2 rfl) ?_
          refine lv_dup2_11 hx hb dX6_flow_146 rfl rfl ?_
          refine m_aldI (j := z4) hx hb hK hP 2 3 rfl (hq) dX6_flow_147 ?_
          refine W.eq (g2 := F0 m 148 ls [.int (((si σ 3 (k) (((σ.1 3 k)) - ((m_lesser (σ.1 3 k) ((((((σ.1 2 k)) + ((σ.1 3 k))) - ((σ.1 2 ((z4).toNatClampNeg)))) - ((σ.1 3 ((z4).toNatClampNeg)))) / (nI (2))))))).1 3 ((z4).toNatClampNeg))), .int (z4), .ref (a 3)]) rfl ?_
          refine lv_iload hx hb dX6_flow_148 (lv_at hl 0 rfl) ?_
          refine lv_iadd (x := ((si σ 3 (k) (((σ.1 3 k)) - ((m_lesser (σ.1 3 k) ((((((σ.1 2 k)) + ((σ.1 3 k))) - ((σ.1 2 ((z4).toNatClampNeg)))) - ((σ.1 3 ((z4).toNatClampNeg)))) / (nI (2))))))).1 3 ((z4).toNatClampNeg))) (y := (m_lesser (σ.1 3 k) ((((((σ.1 2 k)) + ((σ.1 3 k))) - ((σ.1 2 ((z4).toNatClampNeg)))) - ((σ.1 3 ((z4).toNatClampNeg)))) / (nI (2))))) hx hb dX6_flow_150 ?_
          refine m_astI (j := z4) (v := (((si σ 3 (k) (((σ.1 3 k)) - ((m_lesser (σ.1 3 k) ((((((σ.1 2 k)) + ((σ.1 3 k))) - ((σ.1 2 ((z4).toNatClampNeg)))) - ((σ.1 3 ((z4).toNatClampNeg)))) / (nI (2))))))).1 3 ((z4).toNatClampNeg))) + ((m_lesser (σ.1 3 k) ((((((σ.1 2 k)) + ((σ.1 3 k))) - ((σ.1 2 ((z4).toNatClampNeg)))) - ((σ.1 3 ((z4).toNatClampNeg)))) / (nI (2)))))) hx hb hK hP hD hS 2 3 rfl rfl (hq) dX6_flow_151 (fun H locs hP hD hS => ?_)
          exact (hWW _ _ _ _ _).mp (J152_6 _ (by simp only [if_neg c_3]) _ _ hP hD hS _ (lv_sub hl [1, 2, 3, 4] rfl))
      · refine lv_iload_n hx hb dX6_flow_9 rfl (lv_at hl 3 rfl) ?_
        refine lv_iload_n hx hb dX6_flow_10 rfl (lv_at hl 0 rfl) ?_
        refine m_callS (As := [.int (nI (k)), .int (nI (i4))]) (rest := []) ⟨hx, hb, hml, hown, hts⟩ (cm_beside l (nI (k)) (nI (i4)) ) (va_cwS 2 hts gX6_flow_X6_beside rfl rfl rfl (by decide +kernel) ⟨Nat.le_of_ble_eq_true rfl, Nat.le_of_ble_eq_true rfl⟩) hP hS rfl hl.1 rfl (Nat.le_of_ble_eq_true rfl) dX6_flow_11 ⟨Nat.zero_le _, Nat.zero_le _⟩ (fun H locs hP hS => ?_)
        refine lv_istore (lv' := [(4, .int ((m_beside (nI (k)) (nI (i4))))), (3, .int (nI (i4))), (2, .int (z4)), (0, .ref (a 0)), (1, .int (nI (k)))]) hx hb dX6_flow_14 hl (by decide) rfl (fun ls hl => ?_)
        refine lv_iload hx hb dX6_flow_16 (lv_at hl 0 rfl) ?_
        refine lv_iconst (v := (-1)) hx hb dX6_flow_18 (by decide) ?_
        have J63_12 : ∀ (x_11 : Int32), x_11 = (if (m_beside (nI (k)) (nI (i4))) = (-1) then nI (0) else (if z4 = (-1) then nI (1) else (if ((σ.1 2 ((z4).toNatClampNeg))) + ((σ.1 3 ((z4).toNatClampNeg))) ≤ ((σ.1 2 (((m_beside (nI (k)) (nI (i4)))).toNatClampNeg))) + ((σ.1 3 (((m_beside (nI (k)) (nI (i4)))).toNatClampNeg))) then nI (0) else nI (1)))) → ∀ (H : Heap) (locs : List Loc), va_P G vwCl (wm cI cZ a σ) H → va_D (mA a) (wm cI cZ a σ) → va_S (mA a) s.heap H locs → ∀ (ls : Array Slot), lv_has ls 6 [(4, .int ((m_beside (nI (k)) (nI (i4))))), (3, .int (nI (i4))), (2, .int (z4)), (0, .ref (a 0)), (1, .int (nI (k)))] → WW H locs 0 0 (F0 m 63 ls [.int (x_11)]) := by
          intro x_11 h_13 H locs hP hD hS ls hl
          refine (hWW _ _ _ _ _).mpr ?_
          have hR_14 : m_flow_b4 σ k i4 z4 = m_flow_j63 σ k i4 z4 x_11 := (by subst h_13; unfold m_flow_b4; rfl)
          refine lv_istore (lv' := [(5, .int (x_11)), (4, .int ((m_beside (nI (k)) (nI (i4))))), (3, .int (nI (i4))), (2, .int (z4)), (0, .ref (a 0)), (1, .int (nI (k)))]) hx hb dX6_flow_63 hl (by decide) rfl (fun ls hl => ?_)
          refine lv_iload hx hb dX6_flow_65 (lv_at hl 0 rfl) ?_
          have J76_18 : ∀ (x_17 : Int32), x_17 = (if x_11 = 0 then z4 else (m_beside (nI (k)) (nI (i4)))) → ∀ (H : Heap) (locs : List Loc), va_P G vwCl (wm cI cZ a σ) H → va_D (mA a) (wm cI cZ a σ) → va_S (mA a) s.heap H locs → ∀ (ls : Array Slot), lv_has ls 6 [(5, .int (x_11)), (4, .int ((m_beside (nI (k)) (nI (i4))))), (3, .int (nI (i4))), (2, .int (z4)), (0, .ref (a 0)), (1, .int (nI (k)))] → WW H locs 0 0 (F0 m 76 ls [.int (x_17)]) := by
            intro x_17 h_19 H locs hP hD hS ls hl
            refine (hWW _ _ _ _ _).mpr ?_
            have hR_20 : m_flow_b4 σ k i4 z4 = m_flow_j76 σ k i4 z4 x_11 x_17 := (Eq.trans hR_14 (by subst h_19; unfold m_flow_j63; rfl))
            refine lv_istore_n (lv' := [(2, .int (x_17)), (5, .int (x_11)), (4, .int ((m_beside (nI (k)) (nI (i4))))), (3, .int (nI (i4))), (0, .ref (a 0)), (1, .int (nI (k)))]) hx hb dX6_flow_76 rfl hl (by decide) rfl (fun ls hl => ?_)
            refine n_iinc (x := i4) (dN := 1) (k := 3) (lv' := [(3, .int (nI (i4 + 1))), (2, .int (x_17)), (5, .int (x_11)), (4, .int ((m_beside (nI (k)) (nI (i4))))), (0, .ref (a 0)), (1, .int (nI (k)))]) hx hb dX6_flow_77 hl rfl (by decide) rfl (fun ls hl => ?_)
            refine lv_goto (tgt := 4) hx hb dX6_flow_80 (by decide) ?_
            exact (hWW _ _ _ _ _).mp (ih4 (i4 + 1) (by omega) (by omega) (x_17) (by show _ = m_flow_b4 σ k i4 (lp (m_flow_b4 σ k) i4 (-1)); rw [← hz4]; exact (Eq.trans (by unfold m_flow_j76; rfl) hR_20.symm))  _ _ hP hD hS _ (lv_sub hl [0, 1, 4, 5] rfl))
          refine lv_if_eq (x := x_11) (tgt := 75) hx hb dX6_flow_67 (by decide) (fun c_15 => ?_) (fun c_15 => ?_)
          · refine lv_iload_n hx hb dX6_flow_75 rfl (lv_at hl 3 rfl) ?_
            exact (hWW _ _ _ _ _).mp (J76_18 _ (by simp only [if_pos c_15]) _ _ hP hD hS _ (lv_sub hl [0, 1, 2, 3, 4, 5] rfl))
          · refine lv_iload hx hb dX6_flow_70 (lv_at hl 1 rfl) ?_
            refine lv_goto (tgt := 76) hx hb dX6_flow_72 (by decide) ?_
            exact (hWW _ _ _ _ _).mp (J76_18 _ (by simp only [if_neg c_15]) _ _ hP hD hS _ (lv_sub hl [0, 1, 2, 3, 4, 5] rfl))
        refine lv_icmp_eq (x := (m_beside (nI (k)) (nI (i4)))) (y := (-1)) (tgt := 62) hx hb dX6_flow_19 (by decide) (fun c_9 => ?_) (fun c_9 => ?_)
        · refine lv_iconst (v := nI (0)) hx hb dX6_flow_62 (by decide) ?_
          exact (hWW _ _ _ _ _).mp (J63_12 _ (by simp only [if_pos c_9]) _ _ hP hD hS _ (lv_sub hl [0, 1, 2, 3, 4] rfl))
        · refine lv_iload_n hx hb dX6_flow_22 rfl (lv_at hl 2 rfl) ?_
          refine lv_iconst (v := (-1)) hx hb dX6_flow_23 (by decide) ?_
          refine lv_icmp_eq (x := z4) (y := (-1)) (tgt := 58) hx hb dX6_flow_24 (by decide) (fun c_21 => ?_) (fun c_21 => ?_)
          · refine lv_iconst (v := nI (1)) hx hb dX6_flow_58 (by decide) ?_
            refine lv_goto (tgt := 63) hx hb dX6_flow_59 (by decide) ?_
            exact (hWW _ _ _ _ _).mp (J63_12 _ (by simp only [if_neg c_9, if_pos c_21]) _ _ hP hD hS _ (lv_sub hl [0, 1, 2, 3, 4] rfl))
          · refine lv_aload_n hx hb dX6_flow_27 rfl (lv_at hl 3 rfl) ?_
            refine m_get (v := .ref (a 2)) hx hb hts hin hown hK hP 2 (by decide) rfl (index := 7) (List.mem_of_getElem? (i := 1) rfl) dX6_flow_28 ?_
            refine lv_iload hx hb dX6_flow_31 (lv_at hl 0 rfl) ?_
            refine m_aldI (j := (m_beside (nI (k)) (nI (i4)))) hx hb hK hP 1 2 rfl (m_beside_tab k hk i4 (by omega) c_9) dX6_flow_33 ?_
            refine W.eq (g2 := F0 m 34 ls [.int ((σ.1 2 (((m_beside (nI (k)) (nI (i4)))).toNatClampNeg)))]) rfl ?_
            refine lv_aload_n hx hb dX6_flow_34 rfl (lv_at hl 3 rfl) ?_
            refine m_get (v := .ref (a 3)) hx hb hts hin hown hK hP 3 (by decide) rfl (index := 13) (List.mem_of_getElem? (i := 2) rfl) dX6_flow_35 ?_
            refine lv_iload hx hb dX6_flow_38 (lv_at hl 0 rfl) ?_
            refine m_aldI (j := (m_beside (nI (k)) (nI (i4)))) hx hb hK hP 2 3 rfl (m_beside_tab k hk i4 (by omega) c_9) dX6_flow_40 ?_
            refine W.eq (g2 := F0 m 41 ls [.int ((σ.1 3 (((m_beside (nI (k)) (nI (i4)))).toNatClampNeg))), .int ((σ.1 2 (((m_beside (nI (k)) (nI (i4)))).toNatClampNeg)))]) rfl ?_
            refine lv_iadd (x := (σ.1 2 (((m_beside (nI (k)) (nI (i4)))).toNatClampNeg))) (y := (σ.1 3 (((m_beside (nI (k)) (nI (i4)))).toNatClampNeg))) hx hb dX6_flow_41 ?_
            refine lv_aload_n hx hb dX6_flow_42 rfl (lv_at hl 3 rfl) ?_
            refine m_get (v := .ref (a 2)) hx hb hts hin hown hK hP 2 (by decide) rfl (index := 7) (List.mem_of_getElem? (i := 1) rfl) dX6_flow_43 ?_
            refine lv_iload_n hx hb dX6_flow_46 rfl (lv_at hl 2 rfl) ?_
            refine m_aldI (j := z4) hx hb hK hP 1 2 rfl (hv.2 c_21) dX6_flow_47 ?_
            refine W.eq (g2 := F0 m 48 ls [.int ((σ.1 2 ((z4).toNatClampNeg))), .int (((σ.1 2 (((m_beside (nI (k)) (nI (i4)))).toNatClampNeg))) + ((σ.1 3 (((m_beside (nI (k)) (nI (i4)))).toNatClampNeg))))]) rfl ?_
            refine lv_aload_n hx hb dX6_flow_48 rfl (lv_at hl 3 rfl) ?_
            refine m_get (v := .ref (a 3)) hx hb hts hin hown hK hP 3 (by decide) rfl (index := 13) (List.mem_of_getElem? (i := 2) rfl) dX6_flow_49 ?_
            refine lv_iload_n hx hb dX6_flow_52 rfl (lv_at hl 2 rfl) ?_
            refine m_aldI (j := z4) hx hb hK hP 2 3 rfl (hv.2 c_21) dX6_flow_53 ?_
            refine W.eq (g2 := F0 m 54 ls [.int ((σ.1 3 ((z4).toNatClampNeg))), .int ((σ.1 2 ((z4).toNatClampNeg))), .int (((σ.1 2 (((m_beside (nI (k)) (nI (i4)))).toNatClampNeg))) + ((σ.1 3 (((m_beside (nI (k)) (nI (i4)))).toNatClampNeg))))]) rfl ?_
            refine lv_iadd (x := (σ.1 2 ((z4).toNatClampNeg))) (y := (σ.1 3 ((z4).toNatClampNeg))) hx hb dX6_flow_54 ?_
            refine lv_icmp_ge (x := ((σ.1 2 (((m_beside (nI (k)) (nI (i4)))).toNatClampNeg))) + ((σ.1 3 (((m_beside (nI (k)) (nI (i4)))).toNatClampNeg)))) (y := ((σ.1 2 ((z4).toNatClampNeg))) + ((σ.1 3 ((z4).toNatClampNeg)))) (tgt := 62) hx hb dX6_flow_55 (by decide) (fun c_22 => ?_) (fun c_22 => ?_)
            · refine lv_iconst (v := nI (0)) hx hb dX6_flow_62 (by decide) ?_
              exact (hWW _ _ _ _ _).mp (J63_12 _ (by simp only [if_neg c_9, if_neg c_21, if_pos c_22]) _ _ hP hD hS _ (lv_sub hl [0, 1, 2, 3, 4] rfl))
            · refine lv_iconst (v := nI (1)) hx hb dX6_flow_58 (by decide) ?_
              refine lv_goto (tgt := 63) hx hb dX6_flow_59 (by decide) ?_
              exact (hWW _ _ _ _ _).mp (J63_12 _ (by simp only [if_neg c_9, if_neg c_21, if_neg c_22]) _ _ hP hD hS _ (lv_sub hl [0, 1, 2, 3, 4] rfl))
  exact (hWW _ _ _ _ _).mp (L4 (4 + 1) 0 (Nat.zero_le _) (by omega) (-1) rfl  _ _ hP hD hS _ (lv_sub hl [0, 1, 2, 3] rfl))

def m_crack_j132_s (σ : Sg) (z4 : Int32) (τ_6 : Sg) : Sg := τ_6
def m_crack_x4_s (σ : Sg) (z4 : Int32) : Sg := (if (m_degreesOf σ (((nI (5)) * (z4)) + (nI (1)))) ≤ (-10) then (m_crack_j132_s σ z4 (if (σ.1 3 ((z4).toNatClampNeg)) ≤ 0 then (si σ 6 ((z4).toNatClampNeg) (((σ.1 6 ((z4).toNatClampNeg))) + (nI (1)))) else (if nI (9) ≤ (σ.1 9 ((((nI (5)) * (z4)) + (nI (1))).toNatClampNeg)) then (si σ 6 ((z4).toNatClampNeg) (((σ.1 6 ((z4).toNatClampNeg))) + (nI (1)))) else (si (si (si (si (si σ 6 ((z4).toNatClampNeg) (((σ.1 6 ((z4).toNatClampNeg))) + (nI (1)))) 3 ((z4).toNatClampNeg) (((σ.1 3 ((z4).toNatClampNeg))) - (nI (1)))) 9 ((((nI (5)) * (z4)) + (nI (1))).toNatClampNeg) (((σ.1 9 ((((nI (5)) * (z4)) + (nI (1))).toNatClampNeg))) + (nI (1)))) 2 ((z4).toNatClampNeg) (((σ.1 2 ((z4).toNatClampNeg))) + (nI (1)))) 10 ((((nI (5)) * (z4)) + (nI (1))).toNatClampNeg) (((σ.1 10 ((((nI (5)) * (z4)) + (nI (1))).toNatClampNeg))) + (nI (1000))))))) else σ)
def m_crack_j36 (σ : Sg) (i4 : Nat) (z4 : Int32) (x_13 : Int32) : Int32 := x_13
def m_crack_b4 (σ : Sg) (i4 : Nat) (z4 : Int32) : Int32 := (m_crack_j36 σ i4 z4 (if (m_degreesOf σ (((nI (5)) * (z4)) + (nI (1)))) ≤ (m_degreesOf σ (nI ((5 * (1 + i4)) + 1))) then z4 else nI (1 + i4)))
def m_crack_s (σ : Sg) : Sg := (m_crack_x4_s σ (lp (m_crack_b4 σ) 24 (nI (0))))
theorem m_crack_inv (σ : Sg) (i : Nat) (hi : i ≤ 24) : vp_in (lp (m_crack_b4 σ) i (nI 0)) 25 := by
  refine lp_invB (P := fun _ z => vp_in z 25) (N := 24) (vp_in_nI (by decide) (by decide)) ?_ i hi
  intro i z hi hz
  unfold m_crack_b4 m_crack_j36
  split
  · exact hz
  · exact vp_in_nI (by omega) (by decide)
set_option maxHeartbeats 4000000 in
set_option maxRecDepth 100000 in
theorem cm_crack (l : Launch) (G : va_G) (cI cZ : ClassId) (a : Nat → Nat) (σ : Sg)  : mV l yX6_crack wsX6_crack ({ frames := 1, cells := 0, slots := 0, locals := 22 } : Room) G cI cZ a σ [] (m_crack_s σ) := by
  unfold mV
  refine Met.ofW (cc := cX6_crack) (maxL := 3) (ret := none) (by decide) rfl ?_
  intro p e s m args below meth c s₁ B hml hv
  obtain ⟨rfl, hP, hK, hD⟩ := hv
  have hx := B.exec
  have hb := B.bytes
  have hr := B.returns
  have hts := atoms_spec (ws := wsX6_crack) B.pre
  have hown : s.vm.findClass RX6 = some m.cls := findClass_of_methodNamed B.named
  have hlocks := B.notSynchronized
  have hS : va_S (mA a) s.heap s.heap [] := va_S.rf
  have hin : ∀ w ∈ wsX60, w ∈ wsX6_crack := fun w h => List.mem_cons_of_mem _ (List.mem_append_right _ h)
  have hl := lv_entry ([.ref (a 0)]) (n := 3) (Nat.le_of_ble_eq_true rfl)
  rw [lg_entry_eq]
  generalize (lg_sl ([.ref (a 0)]) ++ List.replicate (3 - (lg_sl ([.ref (a 0)])).length) Slot.unset).toArray = ls at hl ⊢
  have hl : lv_has ls 3 [(0, .ref (a 0))] := hl
  refine w_named (fun WW hWW => ?_)
  have hP : va_P G vwCl (wm cI cZ a σ) s.heap := hP
  refine lv_iconst (v := nI (0)) hx hb dX6_crack_0 (by decide) ?_
  refine lv_istore_n (lv' := [(1, .int (nI (0))), (0, .ref (a 0))]) hx hb dX6_crack_1 rfl hl (by decide) rfl (fun ls hl => ?_)
  refine lv_iconst (v := nI (1)) hx hb dX6_crack_2 (by decide) ?_
  refine lv_istore_n (lv' := [(2, .int (nI (1))), (1, .int (nI (0))), (0, .ref (a 0))]) hx hb dX6_crack_3 rfl hl (by decide) rfl (fun ls hl => ?_)
  have L4 : ∀ (n4 i4 : Nat), i4 ≤ 24 → 24 + 1 ≤ i4 + n4 → ∀ (z4 : Int32), z4 = lp (m_crack_b4 σ) i4 (nI (0)) → ∀ (H : Heap) (locs : List Loc), va_P G vwCl (wm cI cZ a σ) H → va_D (mA a) (wm cI cZ a σ) → va_S (mA a) s.heap H locs → ∀ (ls : Array Slot), lv_has ls 3 [(2, .int (nI (1 + i4))), (1, .int (z4)), (0, .ref (a 0))] → WW H locs 0 0 (F0 m 4 ls []) := by
    intro n4
    induction n4 with
    | zero => intro i4 h1 h2; exact absurd h2 (by omega)
    | succ n4 ih4 =>
      intro i4 hi4 hn4 z4 hz4  H locs hP hD hS ls hl
      refine (hWW _ _ _ _ _).mpr ?_
      have hv := m_crack_inv σ i4 hi4; rw [← hz4] at hv
      refine lv_iload_n hx hb dX6_crack_4 rfl (lv_at hl 0 rfl) ?_
      refine lv_bipush (v := nI (25)) hx hb dX6_crack_5 (by decide) ?_
      refine n_icmp_ge (x := 1 + i4) (y := 25) (tgt := 43) hx hb (by omega) (by omega) dX6_crack_7 (by decide) (fun c_1 => ?_) (fun c_1 => ?_)
      · have hiN : 24 = i4 := by omega
        subst hiN
        have hR_2 : m_crack_s σ = m_crack_x4_s σ z4 := (by subst hz4; unfold m_crack_s; rfl)
        have hq : vp_in z4 25 := hv
        have hq5 : vp_in (nI (5) * z4 + nI (1)) 125 := vp_5l hv (vp_in_nI (by decide) (by decide))
        refine lv_iconst (v := nI (5)) hx hb dX6_crack_43 (by decide) ?_
        refine lv_iload_n hx hb dX6_crack_44 rfl (lv_at hl 1 rfl) ?_
        refine lv_imul (x := nI (5)) (y := z4) hx hb dX6_crack_45 ?_
        refine lv_iconst (v := nI (1)) hx hb dX6_crack_46 (by decide) ?_
        refine lv_iadd (x := (nI (5)) * (z4)) (y := nI (1)) hx hb dX6_crack_47 ?_
        refine lv_istore_n (lv' := [(2, .int (((nI (5)) * (z4)) + (nI (1)))), (1, .int (z4)), (0, .ref (a 0))]) hx hb dX6_crack_48 rfl hl (by decide) rfl (fun ls hl => ?_)
        refine lv_aload_n hx hb dX6_crack_49 rfl (lv_at hl 2 rfl) ?_
        refine lv_iload_n hx hb dX6_crack_50 rfl (lv_at hl 0 rfl) ?_
        refine m_callI (As := [.int (((nI (5)) * (z4)) + (nI (1)))]) (rest := []) (fun _ h => h) ⟨hx, hb, hml, hown, hts⟩ (cm_degreesOf l G cI cZ a σ  (((nI (5)) * (z4)) + (nI (1))) hq5) (cwV 1 hts gX6_crack_X6_degreesOf rfl rfl rfl (by decide +kernel) ⟨Nat.le_of_ble_eq_true rfl, Nat.le_of_ble_eq_true rfl⟩) hK hP hD hS rfl hl.1 rfl (Nat.le_of_ble_eq_true rfl) dX6_crack_51 ⟨Nat.zero_le _, Nat.zero_le _⟩ (fun H locs hP hD _ _ hS => ?_)
        refine lv_bipush (v := (-10)) hx hb dX6_crack_54 (by decide) ?_
        refine lv_icmp_le (x := (m_degreesOf σ (((nI (5)) * (z4)) + (nI (1))))) (y := (-10)) (tgt := 60) hx hb dX6_crack_56 (by decide) (fun c_3 => ?_) (fun c_3 => ?_)
        · refine lv_aload_n hx hb dX6_crack_60 rfl (lv_at hl 2 rfl) ?_
          refine m_get (v := .ref (a 6)) hx hb hts hin hown hK hP 6 (by decide) rfl (index := 22) (List.mem_of_getElem? (i := 1) rfl) dX6_crack_61 ?_
          refine lv_iload_n hx hb dX6_crack_64 rfl (lv_at hl 1 rfl) ?_
          refine lv_dup2_11 hx hb dX6_crack_65 rfl rfl ?_
          refine m_aldI (j := z4) hx hb hK hP 5 6 rfl (hq) dX6_crack_66 ?_
          refine W.eq (g2 := F0 m 67 ls [.int ((σ.1 6 ((z4).toNatClampNeg))), .int (z4), .ref (a 6)]) rfl ?_
          refine lv_iconst (v := nI (1)) hx hb dX6_crack_67 (by decide) ?_
          refine lv_iadd (x := (σ.1 6 ((z4).toNatClampNeg))) (y := nI (1)) hx hb dX6_crack_68 ?_
          refine m_astI (j := z4) (v := ((σ.1 6 ((z4).toNatClampNeg))) + (nI (1))) hx hb hK hP hD hS 5 6 rfl rfl (hq) dX6_crack_69 (fun H locs hP hD hS => ?_)
          refine lv_aload_n hx hb dX6_crack_70 rfl (lv_at hl 2 rfl) ?_
          refine m_get (v := .ref (a 3)) hx hb hts hin hown hK hP 3 (by decide) rfl (index := 13) (List.mem_of_getElem? (i := 2) rfl) dX6_crack_71 ?_
          refine lv_iload_n hx hb dX6_crack_74 rfl (lv_at hl 1 rfl) ?_
          refine m_aldI (j := z4) hx hb hK hP 2 3 rfl (hq) dX6_crack_75 ?_
          refine W.eq (g2 := F0 m 76 ls [.int ((σ.1 3 ((z4).toNatClampNeg)))]) rfl ?_
          have J132_7 : ∀ (τ_6 : Sg), τ_6 = (if (σ.1 3 ((z4).toNatClampNeg)) ≤ 0 then (si σ 6 ((z4).toNatClampNeg) (((σ.1 6 ((z4).toNatClampNeg))) + (nI (1)))) else (if nI (9) ≤ (σ.1 9 ((((nI (5)) * (z4)) + (nI (1))).toNatClampNeg)) then (si σ 6 ((z4).toNatClampNeg) (((σ.1 6 ((z4).toNatClampNeg))) + (nI (1)))) else (si (si (si (si (si σ 6 ((z4).toNatClampNeg) (((σ.1 6 ((z4).toNatClampNeg))) + (nI (1)))) 3 ((z4).toNatClampNeg) (((σ.1 3 ((z4).toNatClampNeg))) - (nI (1)))) 9 ((((nI (5)) * (z4)) + (nI (1))).toNatClampNeg) (((σ.1 9 ((((nI (5)) * (z4)) + (nI (1))).toNatClampNeg))) + (nI (1)))) 2 ((z4).toNatClampNeg) (((σ.1 2 ((z4).toNatClampNeg))) + (nI (1)))) 10 ((((nI (5)) * (z4)) + (nI (1))).toNatClampNeg) (((σ.1 10 ((((nI (5)) * (z4)) + (nI (1))).toNatClampNeg))) + (nI (1000)))))) → ∀ (H : Heap) (locs : List Loc), va_P G vwCl (wm cI cZ a τ_6) H → va_D (mA a) (wm cI cZ a τ_6) → va_S (mA a) s.heap H locs → ∀ (ls : Array Slot), lv_has ls 3 [(2, .int (((nI (5)) * (z4)) + (nI (1)))), (1, .int (z4)), (0, .ref (a 0))] → WW H locs 0 0 (F0 m 132 ls []) := by
            intro τ_6 h_8 H locs hP hD hS ls hl
            refine (hWW _ _ _ _ _).mpr ?_
            have hR_9 : m_crack_s σ = m_crack_j132_s σ z4 τ_6 := (Eq.trans hR_2 (by subst h_8; unfold m_crack_x4_s; simp only [if_pos c_3]))
            exact m_vret hx hb hr hlocks hP hK hD hS dX6_crack_132 (Eq.trans (by unfold m_crack_j132_s; rfl) hR_9.symm)
          refine lv_if_le (x := (σ.1 3 ((z4).toNatClampNeg))) (tgt := 132) hx hb dX6_crack_76 (by decide) (fun c_4 => ?_) (fun c_4 => ?_)
          · exact (hWW _ _ _ _ _).mp (J132_7 _ (by simp only [if_pos c_4]) _ _ hP hD hS _ (lv_sub hl [0, 1, 2] rfl))
          · refine lv_aload_n hx hb dX6_crack_79 rfl (lv_at hl 2 rfl) ?_
            refine m_get (v := .ref (a 9)) hx hb hts hin hown hK hP 9 (by decide) rfl (index := 31) (List.mem_of_getElem? (i := 3) rfl) dX6_crack_80 ?_
            refine lv_iload_n hx hb dX6_crack_83 rfl (lv_at hl 0 rfl) ?_
            refine m_aldI (j := ((nI (5)) * (z4)) + (nI (1))) hx hb hK hP 8 9 rfl (hq5) dX6_crack_84 ?_
            refine W.eq (g2 := F0 m 85 ls [.int ((σ.1 9 ((((nI (5)) * (z4)) + (nI (1))).toNatClampNeg)))]) rfl ?_
            refine lv_bipush (v := nI (9)) hx hb dX6_crack_85 (by decide) ?_
            refine lv_icmp_ge (x := (σ.1 9 ((((nI (5)) * (z4)) + (nI (1))).toNatClampNeg))) (y := nI (9)) (tgt := 132) hx hb dX6_crack_87 (by decide) (fun c_10 => ?_) (fun c_10 => ?_)
            · exact (hWW _ _ _ _ _).mp (J132_7 _ (by simp only [if_neg c_4, if_pos c_10]) _ _ hP hD hS _ (lv_sub hl [0, 1, 2] rfl))
            · refine lv_aload_n hx hb dX6_crack_90 rfl (lv_at hl 2 rfl) ?_
              refine m_get (v := .ref (a 3)) hx hb hts hin hown hK hP 3 (by decide) rfl (index := 13) (List.mem_of_getElem? (i := 2) rfl) dX6_crack_91 ?_
              refine lv_iload_n hx hb dX6_crack_94 rfl (lv_at hl 1 rfl) ?_
              refine lv_dup2_11 hx hb dX6_crack_95 rfl rfl ?_
              refine m_aldI (j := z4) hx hb hK hP 2 3 rfl (hq) dX6_crack_96 ?_
              refine W.eq (g2 := F0 m 97 ls [.int ((σ.1 3 ((z4).toNatClampNeg))), .int (z4), .ref (a 3)]) rfl ?_
              refine lv_iconst (v := nI (1)) hx hb dX6_crack_97 (by decide) ?_
              refine lv_isub (x := (σ.1 3 ((z4).toNatClampNeg))) (y := nI (1)) hx hb dX6_crack_98 ?_
              refine m_astI (j := z4) (v := ((σ.1 3 ((z4).toNatClampNeg))) - (nI (1))) hx hb hK hP hD hS 2 3 rfl rfl (hq) dX6_crack_99 (fun H locs hP hD hS => ?_)
              refine lv_aload_n hx hb dX6_crack_100 rfl (lv_at hl 2 rfl) ?_
              refine m_get (v := .ref (a 9)) hx hb hts hin hown hK hP 9 (by decide) rfl (index := 31) (List.mem_of_getElem? (i := 3) rfl) dX6_crack_101 ?_
              refine lv_iload_n hx hb dX6_crack_104 rfl (lv_at hl 0 rfl) ?_
              refine lv_dup2_11 hx hb dX6_crack_105 rfl rfl ?_
              refine m_aldI (j := ((nI (5)) * (z4)) + (nI (1))) hx hb hK hP 8 9 rfl (hq5) dX6_crack_106 ?_
              refine W.eq (g2 := F0 m 107 ls [.int ((σ.1 9 ((((nI (5)) * (z4)) + (nI (1))).toNatClampNeg))), .int (((nI (5)) * (z4)) + (nI (1))), .ref (a 9)]) rfl ?_
              refine lv_iconst (v := nI (1)) hx hb dX6_crack_107 (by decide) ?_
              refine lv_iadd (x := (σ.1 9 ((((nI (5)) * (z4)) + (nI (1))).toNatClampNeg))) (y := nI (1)) hx hb dX6_crack_108 ?_
              refine m_astI (j := ((nI (5)) * (z4)) + (nI (1))) (v := ((σ.1 9 ((((nI (5)) * (z4)) + (nI (1))).toNatClampNeg))) + (nI (1))) hx hb hK hP hD hS 8 9 rfl rfl (hq5) dX6_crack_109 (fun H locs hP hD hS => ?_)
              refine lv_aload_n hx hb dX6_crack_110 rfl (lv_at hl 2 rfl) ?_
              refine m_get (v := .ref (a 2)) hx hb hts hin hown hK hP 2 (by decide) rfl (index := 7) (List.mem_of_getElem? (i := 4) rfl) dX6_crack_111 ?_
              refine lv_iload_n hx hb dX6_crack_114 rfl (lv_at hl 1 rfl) ?_
              refine lv_dup2_11 hx hb dX6_crack_115 rfl rfl ?_
              refine m_aldI (j := z4) hx hb hK hP 1 2 rfl (hq) dX6_crack_116 ?_
              refine W.eq (g2 := F0 m 117 ls [.int ((σ.1 2 ((z4).toNatClampNeg))), .int (z4), .ref (a 2)]) rfl ?_
              refine lv_iconst (v := nI (1)) hx hb dX6_crack_117 (by decide) ?_
              refine lv_iadd (x := (σ.1 2 ((z4).toNatClampNeg))) (y := nI (1)) hx hb dX6_crack_118 ?_
              refine m_astI (j := z4) (v := ((σ.1 2 ((z4).toNatClampNeg))) + (nI (1))) hx hb hK hP hD hS 1 2 rfl rfl (hq) dX6_crack_119 (fun H locs hP hD hS => ?_)
              refine lv_aload_n hx hb dX6_crack_120 rfl (lv_at hl 2 rfl) ?_
              refine m_get (v := .ref (a 10)) hx hb hts hin hown hK hP 10 (by decide) rfl (index := 34) (List.mem_of_getElem? (i := 5) rfl) dX6_crack_121 ?_
              refine lv_iload_n hx hb dX6_crack_124 rfl (lv_at hl 0 rfl) ?_
              refine lv_dup2_11 hx hb dX6_crack_125 rfl rfl ?_
              refine m_aldI (j := ((nI (5)) * (z4)) + (nI (1))) hx hb hK hP 9 10 rfl (hq5) dX6_crack_126 ?_
              refine W.eq (g2 := F0 m 127 ls [.int ((σ.1 10 ((((nI (5)) * (z4)) + (nI (1))).toNatClampNeg))), .int (((nI (5)) * (z4)) + (nI (1))), .ref (a 10)]) rfl ?_
              refine lv_sipush (v := nI (1000)) hx hb dX6_crack_127 (by decide) ?_
              refine lv_iadd (x := (σ.1 10 ((((nI (5)) * (z4)) + (nI (1))).toNatClampNeg))) (y := nI (1000)) hx hb dX6_crack_130 ?_
              refine m_astI (j := ((nI (5)) * (z4)) + (nI (1))) (v := ((σ.1 10 ((((nI (5)) * (z4)) + (nI (1))).toNatClampNeg))) + (nI (1000))) hx hb hK hP hD hS 9 10 rfl rfl (hq5) dX6_crack_131 (fun H locs hP hD hS => ?_)
              exact (hWW _ _ _ _ _).mp (J132_7 _ (by simp only [if_neg c_4, if_neg c_10]) _ _ hP hD hS _ (lv_sub hl [0, 1, 2] rfl))
        · exact m_vret hx hb hr hlocks hP hK hD hS dX6_crack_59 (Eq.trans (by unfold m_crack_x4_s; simp only [if_neg c_3]) hR_2.symm)
      · refine lv_aload_n hx hb dX6_crack_10 rfl (lv_at hl 2 rfl) ?_
        refine lv_iconst (v := nI (5)) hx hb dX6_crack_11 (by decide) ?_
        refine lv_iload_n hx hb dX6_crack_12 rfl (lv_at hl 0 rfl) ?_
        refine n_mul (x := 5) (y := 1 + i4) hx hb dX6_crack_13 ?_
        refine lv_iconst (v := nI (1)) hx hb dX6_crack_14 (by decide) ?_
        refine n_add (x := 5 * (1 + i4)) (y := 1) hx hb dX6_crack_15 ?_
        refine m_callI (As := [.int (nI ((5 * (1 + i4)) + 1))]) (rest := []) (fun _ h => h) ⟨hx, hb, hml, hown, hts⟩ (cm_degreesOf l G cI cZ a σ  (nI ((5 * (1 + i4)) + 1)) (vp_in_nI (by omega) (by decide))) (cwV 1 hts gX6_crack_X6_degreesOf rfl rfl rfl (by decide +kernel) ⟨Nat.le_of_ble_eq_true rfl, Nat.le_of_ble_eq_true rfl⟩) hK hP hD hS rfl hl.1 rfl (Nat.le_of_ble_eq_true rfl) dX6_crack_16 ⟨Nat.zero_le _, Nat.zero_le _⟩ (fun H locs hP hD _ _ hS => ?_)
        refine lv_aload_n hx hb dX6_crack_19 rfl (lv_at hl 2 rfl) ?_
        refine lv_iconst (v := nI (5)) hx hb dX6_crack_20 (by decide) ?_
        refine lv_iload_n hx hb dX6_crack_21 rfl (lv_at hl 1 rfl) ?_
        refine lv_imul (x := nI (5)) (y := z4) hx hb dX6_crack_22 ?_
        refine lv_iconst (v := nI (1)) hx hb dX6_crack_23 (by decide) ?_
        refine lv_iadd (x := (nI (5)) * (z4)) (y := nI (1)) hx hb dX6_crack_24 ?_
        refine m_callI (As := [.int (((nI (5)) * (z4)) + (nI (1)))]) (rest := [.int ((m_degreesOf σ (nI ((5 * (1 + i4)) + 1))))]) (fun _ h => h) ⟨hx, hb, hml, hown, hts⟩ (cm_degreesOf l G cI cZ a σ  (((nI (5)) * (z4)) + (nI (1))) (vp_5l hv (vp_in_nI (by decide) (by decide)))) (cwV 1 hts gX6_crack_X6_degreesOf rfl rfl rfl (by decide +kernel) ⟨Nat.le_of_ble_eq_true rfl, Nat.le_of_ble_eq_true rfl⟩) hK hP hD hS rfl hl.1 rfl (Nat.le_of_ble_eq_true rfl) dX6_crack_25 ⟨Nat.zero_le _, Nat.zero_le _⟩ (fun H locs hP hD _ _ hS => ?_)
        have J36_14 : ∀ (x_13 : Int32), x_13 = (if (m_degreesOf σ (((nI (5)) * (z4)) + (nI (1)))) ≤ (m_degreesOf σ (nI ((5 * (1 + i4)) + 1))) then z4 else nI (1 + i4)) → ∀ (H : Heap) (locs : List Loc), va_P G vwCl (wm cI cZ a σ) H → va_D (mA a) (wm cI cZ a σ) → va_S (mA a) s.heap H locs → ∀ (ls : Array Slot), lv_has ls 3 [(2, .int (nI (1 + i4))), (1, .int (z4)), (0, .ref (a 0))] → WW H locs 0 0 (F0 m 36 ls [.int (x_13)]) := by
          intro x_13 h_15 H locs hP hD hS ls hl
          refine (hWW _ _ _ _ _).mpr ?_
          have hR_16 : m_crack_b4 σ i4 z4 = m_crack_j36 σ i4 z4 x_13 := (by subst h_15; unfold m_crack_b4; rfl)
          refine lv_istore_n (lv' := [(1, .int (x_13)), (2, .int (nI (1 + i4))), (0, .ref (a 0))]) hx hb dX6_crack_36 rfl hl (by decide) rfl (fun ls hl => ?_)
          refine n_iinc (x := 1 + i4) (dN := 1) (k := 1) (lv' := [(2, .int (nI (1 + i4 + 1))), (1, .int (x_13)), (0, .ref (a 0))]) hx hb dX6_crack_37 hl rfl (by decide) rfl (fun ls hl => ?_)
          refine lv_goto (tgt := 4) hx hb dX6_crack_40 (by decide) ?_
          exact (hWW _ _ _ _ _).mp (ih4 (i4 + 1) (by omega) (by omega) (x_13) (by show _ = m_crack_b4 σ i4 (lp (m_crack_b4 σ) i4 (nI (0))); rw [← hz4]; exact (Eq.trans (by unfold m_crack_j36; rfl) hR_16.symm))  _ _ hP hD hS _ (lv_sub hl [0, 1, 2] rfl))
        refine lv_icmp_ge (x := (m_degreesOf σ (nI ((5 * (1 + i4)) + 1)))) (y := (m_degreesOf σ (((nI (5)) * (z4)) + (nI (1))))) (tgt := 35) hx hb dX6_crack_28 (by decide) (fun c_11 => ?_) (fun c_11 => ?_)
        · refine lv_iload_n hx hb dX6_crack_35 rfl (lv_at hl 1 rfl) ?_
          exact (hWW _ _ _ _ _).mp (J36_14 _ (by simp only [if_pos c_11]) _ _ hP hD hS _ (lv_sub hl [0, 1, 2] rfl))
        · refine lv_iload_n hx hb dX6_crack_31 rfl (lv_at hl 0 rfl) ?_
          refine lv_goto (tgt := 36) hx hb dX6_crack_32 (by decide) ?_
          exact (hWW _ _ _ _ _).mp (J36_14 _ (by simp only [if_neg c_11]) _ _ hP hD hS _ (lv_sub hl [0, 1, 2] rfl))
  exact (hWW _ _ _ _ _).mp (L4 (24 + 1) 0 (Nat.zero_le _) (by omega) (nI (0)) rfl  _ _ hP hD hS _ (lv_sub hl [0, 1, 2] rfl))

def m_wake_j166_s (σ : Sg) (k : Nat) (air : Int32) (z4 : Sg) (τ_5 : Sg) : Sg := τ_5
def m_wake_x4_s (σ : Sg) (k : Nat) (air : Int32) (z4 : Sg) : Sg := (m_wake_j166_s σ k air z4 (if air ≤ 0 then z4 else (if (m_isLake z4 (nI (k))) = 0 then (si (sl z4 30 (((z4.2 30)) - (((z4.1 5 k)).toInt64))) 11 (5 * k) (((z4.1 11 (5 * k))) + ((z4.1 5 k)))) else z4)))
def m_wake_j115 (k : Nat) (i4 : Nat) (z4 : Sg) (τ_12 : Sg) : Sg := τ_12
def m_wake_b4 (k : Nat) (i4 : Nat) (z4 : Sg) : Sg := (m_wake_j115 k i4 z4 (if (m_degreesOf z4 (nI (5 * k + i4))) ≤ 0 then z4 else (sl (sl (si z4 11 (5 * k + i4) (((z4.1 11 (5 * k + i4))) - ((m_lesser ((((((m_degreesOf z4 (nI (5 * k + i4)))).toInt64) * (((z4.1 11 (5 * k + i4))).toInt64)) / ((1000 : Int64))).toInt32) (z4.1 11 (5 * k + i4)))))) 31 (((z4.2 31)) + ((if (m_isLake (si z4 11 (5 * k + i4) (((z4.1 11 (5 * k + i4))) - ((m_lesser ((((((m_degreesOf z4 (nI (5 * k + i4)))).toInt64) * (((z4.1 11 (5 * k + i4))).toInt64)) / ((1000 : Int64))).toInt32) (z4.1 11 (5 * k + i4)))))) (nI (k))) = 0 then (0 : Int64) else ((m_lesser ((((((m_degreesOf z4 (nI (5 * k + i4)))).toInt64) * (((z4.1 11 (5 * k + i4))).toInt64)) / ((1000 : Int64))).toInt32) (z4.1 11 (5 * k + i4)))).toInt64)))) 30 (((z4.2 30)) + ((if (m_isLake (sl (si z4 11 (5 * k + i4) (((z4.1 11 (5 * k + i4))) - ((m_lesser ((((((m_degreesOf z4 (nI (5 * k + i4)))).toInt64) * (((z4.1 11 (5 * k + i4))).toInt64)) / ((1000 : Int64))).toInt32) (z4.1 11 (5 * k + i4)))))) 31 (((z4.2 31)) + ((if (m_isLake (si z4 11 (5 * k + i4) (((z4.1 11 (5 * k + i4))) - ((m_lesser ((((((m_degreesOf z4 (nI (5 * k + i4)))).toInt64) * (((z4.1 11 (5 * k + i4))).toInt64)) / ((1000 : Int64))).toInt32) (z4.1 11 (5 * k + i4)))))) (nI (k))) = 0 then (0 : Int64) else ((m_lesser ((((((m_degreesOf z4 (nI (5 * k + i4)))).toInt64) * (((z4.1 11 (5 * k + i4))).toInt64)) / ((1000 : Int64))).toInt32) (z4.1 11 (5 * k + i4)))).toInt64)))) (nI (k))) = 0 then ((m_lesser ((((((m_degreesOf z4 (nI (5 * k + i4)))).toInt64) * (((z4.1 11 (5 * k + i4))).toInt64)) / ((1000 : Int64))).toInt32) (z4.1 11 (5 * k + i4)))).toInt64 else (0 : Int64)))))))
def m_wake_s (σ : Sg) (k : Nat) (air : Int32) : Sg := (m_wake_x4_s σ k air (lp (m_wake_b4 k) 5 σ))
set_option maxHeartbeats 4000000 in
set_option maxRecDepth 100000 in
theorem cm_wake (l : Launch) (G : va_G) (cI cZ : ClassId) (a : Nat → Nat) (σ : Sg) (k : Nat) (air : Int32) (hk : k < 25) : mV l yX6_wake wsX6_wake ({ frames := 1, cells := 0, slots := 0, locals := 22 } : Room) G cI cZ a σ [.int (nI (k)), .int (air)] (m_wake_s σ k air) := by
  unfold mV
  refine Met.ofW (cc := cX6_wake) (maxL := 6) (ret := none) (by decide) rfl ?_
  intro p e s m args below meth c s₁ B hml hv
  obtain ⟨rfl, hP, hK, hD⟩ := hv
  have hx := B.exec
  have hb := B.bytes
  have hr := B.returns
  have hts := atoms_spec (ws := wsX6_wake) B.pre
  have hown : s.vm.findClass RX6 = some m.cls := findClass_of_methodNamed B.named
  have hlocks := B.notSynchronized
  have hS : va_S (mA a) s.heap s.heap [] := va_S.rf
  have hin : ∀ w ∈ wsX60, w ∈ wsX6_wake := fun w h => List.mem_cons_of_mem _ (List.mem_append_right _ h)
  have hl := lv_entry ([.ref (a 0), .int (nI (k)), .int (air)]) (n := 6) (Nat.le_of_ble_eq_true rfl)
  rw [lg_entry_eq]
  generalize (lg_sl ([.ref (a 0), .int (nI (k)), .int (air)]) ++ List.replicate (6 - (lg_sl ([.ref (a 0), .int (nI (k)), .int (air)])).length) Slot.unset).toArray = ls at hl ⊢
  have hl : lv_has ls 6 [(0, .ref (a 0)), (1, .int (nI (k))), (2, .int (air))] := hl
  refine w_named (fun WW hWW => ?_)
  have hP : va_P G vwCl (wm cI cZ a σ) s.heap := hP
  refine lv_iconst (v := nI (5)) hx hb dX6_wake_0 (by decide) ?_
  refine lv_iload_n hx hb dX6_wake_1 rfl (lv_at hl 1 rfl) ?_
  refine n_mul (x := 5) (y := k) hx hb dX6_wake_2 ?_
  refine lv_istore_n (lv' := [(3, .int (nI (5 * k))), (0, .ref (a 0)), (1, .int (nI (k))), (2, .int (air))]) hx hb dX6_wake_3 rfl hl (by decide) rfl (fun ls hl => ?_)
  have L4 : ∀ (n4 i4 : Nat), i4 ≤ 5 → 5 + 1 ≤ i4 + n4 → ∀ (z4 : Sg), z4 = lp (m_wake_b4 k) i4 σ → ∀ (H : Heap) (locs : List Loc), va_P G vwCl (wm cI cZ a z4) H → va_D (mA a) (wm cI cZ a z4) → va_S (mA a) s.heap H locs → ∀ (ls : Array Slot), lv_has ls 6 [(3, .int (nI (5 * k + i4))), (0, .ref (a 0)), (1, .int (nI (k))), (2, .int (air))] → WW H locs 0 0 (F0 m 4 ls []) := by
    intro n4
    induction n4 with
    | zero => intro i4 h1 h2; exact absurd h2 (by omega)
    | succ n4 ih4 =>
      intro i4 hi4 hn4 z4 hz4  H locs hP hD hS ls hl
      refine (hWW _ _ _ _ _).mpr ?_
      refine lv_iload_n hx hb dX6_wake_4 rfl (lv_at hl 0 rfl) ?_
      refine lv_iconst (v := nI (5)) hx hb dX6_wake_5 (by decide) ?_
      refine lv_iload_n hx hb dX6_wake_6 rfl (lv_at hl 2 rfl) ?_
      refine n_mul (x := 5) (y := k) hx hb dX6_wake_7 ?_
      refine lv_iconst (v := nI (5)) hx hb dX6_wake_8 (by decide) ?_
      refine n_add (x := 5 * k) (y := 5) hx hb dX6_wake_9 ?_
      refine n_icmp_ge (x := 5 * k + i4) (y := (5 * k) + 5) (tgt := 121) hx hb (by omega) (by omega) dX6_wake_10 (by decide) (fun c_1 => ?_) (fun c_1 => ?_)
      · have hiN : 5 = i4 := by omega
        subst hiN
        have hR_2 : m_wake_s σ k air = m_wake_x4_s σ k air z4 := (by subst hz4; unfold m_wake_s; rfl)
        refine lv_iload_n hx hb dX6_wake_121 rfl (lv_at hl 3 rfl) ?_
        have J166_6 : ∀ (τ_5 : Sg), τ_5 = (if air ≤ 0 then z4 else (if (m_isLake z4 (nI (k))) = 0 then (si (sl z4 30 (((z4.2 30)) - (((z4.1 5 k)).toInt64))) 11 (5 * k) (((z4.1 11 (5 * k))) + ((z4.1 5 k)))) else z4)) → ∀ (H : Heap) (locs : List Loc), va_P G vwCl (wm cI cZ a τ_5) H → va_D (mA a) (wm cI cZ a τ_5) → va_S (mA a) s.heap H locs → ∀ (ls : Array Slot), lv_has ls 6 [(3, .int (nI (5 * k + 5))), (0, .ref (a 0)), (1, .int (nI (k))), (2, .int (air))] → WW H locs 0 0 (F0 m 166 ls []) := by
          intro τ_5 h_7 H locs hP hD hS ls hl
          refine (hWW _ _ _ _ _).mpr ?_
          have hR_8 : m_wake_s σ k air = m_wake_j166_s σ k air z4 τ_5 := (Eq.trans hR_2 (by subst h_7; unfold m_wake_x4_s; rfl))
          exact m_vret hx hb hr hlocks hP hK hD hS dX6_wake_166 (Eq.trans (by unfold m_wake_j166_s; rfl) hR_8.symm)
        refine lv_if_le (x := air) (tgt := 166) hx hb dX6_wake_122 (by decide) (fun c_3 => ?_) (fun c_3 => ?_)
        · exact (hWW _ _ _ _ _).mp (J166_6 _ (by simp only [if_pos c_3]) _ _ hP hD hS _ (lv_sub hl [0, 1, 2, 3] rfl))
        · refine lv_aload_n hx hb dX6_wake_125 rfl (lv_at hl 1 rfl) ?_
          refine lv_iload_n hx hb dX6_wake_126 rfl (lv_at hl 2 rfl) ?_
          refine m_callI (As := [.int (nI (k))]) (rest := []) (fun _ h => h) ⟨hx, hb, hml, hown, hts⟩ (cm_isLake l G cI cZ a z4  (nI (k)) (vp_in_nI (by omega) (by decide))) (cwV 1 hts gX6_wake_X6_isLake rfl rfl rfl (by decide +kernel) ⟨Nat.le_of_ble_eq_true rfl, Nat.le_of_ble_eq_true rfl⟩) hK hP hD hS rfl hl.1 rfl (Nat.le_of_ble_eq_true rfl) dX6_wake_127 ⟨Nat.zero_le _, Nat.zero_le _⟩ (fun H locs hP hD _ _ hS => ?_)
          refine lv_if_ne (x := (m_isLake z4 (nI (k)))) (tgt := 166) hx hb dX6_wake_130 (by decide) (fun c_9 => ?_) (fun c_9 => ?_)
          · exact (hWW _ _ _ _ _).mp (J166_6 _ (by simp only [if_neg c_3, if_neg c_9]) _ _ hP hD hS _ (lv_sub hl [0, 1, 2, 3] rfl))
          · refine lv_aload_n hx hb dX6_wake_133 rfl (lv_at hl 1 rfl) ?_
            refine lv_dup hx hb dX6_wake_134 rfl ?_
            refine m_get (v := .long ((z4.2 30))) hx hb hts hin hown hK hP 30 (by decide) rfl (index := 162) (List.mem_of_getElem? (i := 4) rfl) dX6_wake_135 ?_
            refine lv_aload_n hx hb dX6_wake_138 rfl (lv_at hl 1 rfl) ?_
            refine m_get (v := .ref (a 5)) hx hb hts hin hown hK hP 5 (by decide) rfl (index := 19) (List.mem_of_getElem? (i := 5) rfl) dX6_wake_139 ?_
            refine lv_iload_n hx hb dX6_wake_142 rfl (lv_at hl 2 rfl) ?_
            refine m_ald (j := k) hx hb hK hP 4 5 rfl (by decide) (by omega) dX6_wake_143 ?_
            refine W.eq (g2 := F0 m 144 ls [.int ((z4.1 5 k)), .long ((z4.2 30)), .ref (a 0)]) rfl ?_
            refine lv_i2l (v := ((z4.1 5 k)).toInt64) hx hb dX6_wake_144 rfl ?_
            refine lv_lsub hx hb dX6_wake_145 ?_
            refine m_putJ (v := ((z4.2 30)) - (((z4.1 5 k)).toInt64)) hx hb hts hin hown hK hP hD hS 30 (by decide) rfl (by decide +kernel) rfl (index := 162) (List.mem_of_getElem? (i := 4) rfl) dX6_wake_146 (fun H locs hP hD hS => ?_)
            refine lv_aload_n hx hb dX6_wake_149 rfl (lv_at hl 1 rfl) ?_
            refine m_get (v := .ref (a 11)) hx hb hts hin hown hK hP 11 (by decide) rfl (index := 37) (List.mem_of_getElem? (i := 1) rfl) dX6_wake_150 ?_
            refine lv_iconst (v := nI (5)) hx hb dX6_wake_153 (by decide) ?_
            refine lv_iload_n hx hb dX6_wake_154 rfl (lv_at hl 2 rfl) ?_
            refine n_mul (x := 5) (y := k) hx hb dX6_wake_155 ?_
            refine lv_dup2_11 hx hb dX6_wake_156 rfl rfl ?_
            refine m_ald (j := 5 * k) hx hb hK hP 10 11 rfl (by decide) (by omega) dX6_wake_157 ?_
            refine W.eq (g2 := F0 m 158 ls [.int ((z4.1 11 (5 * k))), .int (nI (5 * k)), .ref (a 11)]) rfl ?_
            refine lv_aload_n hx hb dX6_wake_158 rfl (lv_at hl 1 rfl) ?_
            refine m_get (v := .ref (a 5)) hx hb hts hin hown hK hP 5 (by decide) rfl (index := 19) (List.mem_of_getElem? (i := 5) rfl) dX6_wake_159 ?_
            refine lv_iload_n hx hb dX6_wake_162 rfl (lv_at hl 2 rfl) ?_
            refine m_ald (j := k) hx hb hK hP 4 5 rfl (by decide) (by omega) dX6_wake_163 ?_
            refine W.eq (g2 := F0 m 164 ls [.int ((z4.1 5 k)), .int ((z4.1 11 (5 * k))), .int (nI (5 * k)), .ref (a 11)]) rfl ?_
            refine lv_iadd (x := (z4.1 11 (5 * k))) (y := (z4.1 5 k)) hx hb dX6_wake_164 ?_
            refine m_ast (j := 5 * k) (v := ((z4.1 11 (5 * k))) + ((z4.1 5 k))) hx hb hK hP hD hS 10 11 rfl rfl (by decide) (by omega) dX6_wake_165 (fun H locs hP hD hS => ?_)
            exact (hWW _ _ _ _ _).mp (J166_6 _ (by simp only [if_neg c_3, if_pos c_9]) _ _ hP hD hS _ (lv_sub hl [0, 1, 2, 3] rfl))
      · refine lv_aload_n hx hb dX6_wake_13 rfl (lv_at hl 1 rfl) ?_
        refine lv_iload_n hx hb dX6_wake_14 rfl (lv_at hl 0 rfl) ?_
        refine m_callI (As := [.int (nI (5 * k + i4))]) (rest := []) (fun _ h => h) ⟨hx, hb, hml, hown, hts⟩ (cm_degreesOf l G cI cZ a z4  (nI (5 * k + i4)) (vp_in_nI (by omega) (by decide))) (cwV 1 hts gX6_wake_X6_degreesOf rfl rfl rfl (by decide +kernel) ⟨Nat.le_of_ble_eq_true rfl, Nat.le_of_ble_eq_true rfl⟩) hK hP hD hS rfl hl.1 rfl (Nat.le_of_ble_eq_true rfl) dX6_wake_15 ⟨Nat.zero_le _, Nat.zero_le _⟩ (fun H locs hP hD _ _ hS => ?_)
        refine lv_istore (lv' := [(4, .int ((m_degreesOf z4 (nI (5 * k + i4))))), (3, .int (nI (5 * k + i4))), (0, .ref (a 0)), (1, .int (nI (k))), (2, .int (air))]) hx hb dX6_wake_18 hl (by decide) rfl (fun ls hl => ?_)
        refine lv_iload hx hb dX6_wake_20 (lv_at hl 0 rfl) ?_
        have J115_13 : ∀ (τ_12 : Sg), τ_12 = (if (m_degreesOf z4 (nI (5 * k + i4))) ≤ 0 then z4 else (sl (sl (si z4 11 (5 * k + i4) (((z4.1 11 (5 * k + i4))) - ((m_lesser ((((((m_degreesOf z4 (nI (5 * k + i4)))).toInt64) * (((z4.1 11 (5 * k + i4))).toInt64)) / ((1000 : Int64))).toInt32) (z4.1 11 (5 * k + i4)))))) 31 (((z4.2 31)) + ((if (m_isLake (si z4 11 (5 * k + i4) (((z4.1 11 (5 * k + i4))) - ((m_lesser ((((((m_degreesOf z4 (nI (5 * k + i4)))).toInt64) * (((z4.1 11 (5 * k + i4))).toInt64)) / ((1000 : Int64))).toInt32) (z4.1 11 (5 * k + i4)))))) (nI (k))) = 0 then (0 : Int64) else ((m_lesser ((((((m_degreesOf z4 (nI (5 * k + i4)))).toInt64) * (((z4.1 11 (5 * k + i4))).toInt64)) / ((1000 : Int64))).toInt32) (z4.1 11 (5 * k + i4)))).toInt64)))) 30 (((z4.2 30)) + ((if (m_isLake (sl (si z4 11 (5 * k + i4) (((z4.1 11 (5 * k + i4))) - ((m_lesser ((((((m_degreesOf z4 (nI (5 * k + i4)))).toInt64) * (((z4.1 11 (5 * k + i4))).toInt64)) / ((1000 : Int64))).toInt32) (z4.1 11 (5 * k + i4)))))) 31 (((z4.2 31)) + ((if (m_isLake (si z4 11 (5 * k + i4) (((z4.1 11 (5 * k + i4))) - ((m_lesser ((((((m_degreesOf z4 (nI (5 * k + i4)))).toInt64) * (((z4.1 11 (5 * k + i4))).toInt64)) / ((1000 : Int64))).toInt32) (z4.1 11 (5 * k + i4)))))) (nI (k))) = 0 then (0 : Int64) else ((m_lesser ((((((m_degreesOf z4 (nI (5 * k + i4)))).toInt64) * (((z4.1 11 (5 * k + i4))).toInt64)) / ((1000 : Int64))).toInt32) (z4.1 11 (5 * k + i4)))).toInt64)))) (nI (k))) = 0 then ((m_lesser ((((((m_degreesOf z4 (nI (5 * k + i4)))).toInt64) * (((z4.1 11 (5 * k + i4))).toInt64)) / ((1000 : Int64))).toInt32) (z4.1 11 (5 * k + i4)))).toInt64 else (0 : Int64)))))) → ∀ (H : Heap) (locs : List Loc), va_P G vwCl (wm cI cZ a τ_12) H → va_D (mA a) (wm cI cZ a τ_12) → va_S (mA a) s.heap H locs → ∀ (ls : Array Slot), lv_has ls 6 [(4, .int ((m_degreesOf z4 (nI (5 * k + i4))))), (3, .int (nI (5 * k + i4))), (0, .ref (a 0)), (1, .int (nI (k))), (2, .int (air))] → WW H locs 0 0 (F0 m 115 ls []) := by
          intro τ_12 h_14 H locs hP hD hS ls hl
          refine (hWW _ _ _ _ _).mpr ?_
          have hR_15 : m_wake_b4 k i4 z4 = m_wake_j115 k i4 z4 τ_12 := (by subst h_14; unfold m_wake_b4; rfl)
          refine n_iinc (x := 5 * k + i4) (dN := 1) (k := 1) (lv' := [(3, .int (nI (5 * k + i4 + 1))), (4, .int ((m_degreesOf z4 (nI (5 * k + i4))))), (0, .ref (a 0)), (1, .int (nI (k))), (2, .int (air))]) hx hb dX6_wake_115 hl rfl (by decide) rfl (fun ls hl => ?_)
          refine lv_goto (tgt := 4) hx hb dX6_wake_118 (by decide) ?_
          exact (hWW _ _ _ _ _).mp (ih4 (i4 + 1) (by omega) (by omega) (τ_12) (by show _ = m_wake_b4 k i4 (lp (m_wake_b4 k) i4 σ); rw [← hz4]; exact (Eq.trans (by unfold m_wake_j115; rfl) hR_15.symm))  _ _ hP hD hS _ (lv_sub hl [0, 2, 3, 4] rfl))
        refine lv_if_le (x := (m_degreesOf z4 (nI (5 * k + i4)))) (tgt := 115) hx hb dX6_wake_22 (by decide) (fun c_10 => ?_) (fun c_10 => ?_)
        · exact (hWW _ _ _ _ _).mp (J115_13 _ (by simp only [if_pos c_10]) _ _ hP hD hS _ (lv_sub hl [0, 1, 2, 3, 4] rfl))
        · refine lv_iload hx hb dX6_wake_25 (lv_at hl 0 rfl) ?_
          refine lv_i2l (v := ((m_degreesOf z4 (nI (5 * k + i4)))).toInt64) hx hb dX6_wake_27 rfl ?_
          refine lv_aload_n hx hb dX6_wake_28 rfl (lv_at hl 2 rfl) ?_
          refine m_get (v := .ref (a 11)) hx hb hts hin hown hK hP 11 (by decide) rfl (index := 37) (List.mem_of_getElem? (i := 1) rfl) dX6_wake_29 ?_
          refine lv_iload_n hx hb dX6_wake_32 rfl (lv_at hl 1 rfl) ?_
          refine m_ald (j := 5 * k + i4) hx hb hK hP 10 11 rfl (by decide) (by omega) dX6_wake_33 ?_
          refine W.eq (g2 := F0 m 34 ls [.int ((z4.1 11 (5 * k + i4))), .long (((m_degreesOf z4 (nI (5 * k + i4)))).toInt64)]) rfl ?_
          refine lv_i2l (v := ((z4.1 11 (5 * k + i4))).toInt64) hx hb dX6_wake_34 rfl ?_
          refine lv_lmul hx hb dX6_wake_35 ?_
          refine lv_ldc2 (own := RX6) (v := 1000) hx hb hown (hts _ (List.mem_of_getElem? (i := 2) rfl)) dX6_wake_36 ?_
          refine lv_ldiv hx hb dX6_wake_39 (by decide) ?_
          refine lv_l2i (v := (((((m_degreesOf z4 (nI (5 * k + i4)))).toInt64) * (((z4.1 11 (5 * k + i4))).toInt64)) / ((1000 : Int64))).toInt32) hx hb dX6_wake_40 rfl ?_
          refine lv_istore (lv' := [(5, .int ((((((m_degreesOf z4 (nI (5 * k + i4)))).toInt64) * (((z4.1 11 (5 * k + i4))).toInt64)) / ((1000 : Int64))).toInt32)), (4, .int ((m_degreesOf z4 (nI (5 * k + i4))))), (3, .int (nI (5 * k + i4))), (0, .ref (a 0)), (1, .int (nI (k))), (2, .int (air))]) hx hb dX6_wake_41 hl (by decide) rfl (fun ls hl => ?_)
          refine lv_iload hx hb dX6_wake_43 (lv_at hl 0 rfl) ?_
          refine lv_aload_n hx hb dX6_wake_45 rfl (lv_at hl 3 rfl) ?_
          refine m_get (v := .ref (a 11)) hx hb hts hin hown hK hP 11 (by decide) rfl (index := 37) (List.mem_of_getElem? (i := 1) rfl) dX6_wake_46 ?_
          refine lv_iload_n hx hb dX6_wake_49 rfl (lv_at hl 2 rfl) ?_
          refine m_ald (j := 5 * k + i4) hx hb hK hP 10 11 rfl (by decide) (by omega) dX6_wake_50 ?_
          refine W.eq (g2 := F0 m 51 ls [.int ((z4.1 11 (5 * k + i4))), .int ((((((m_degreesOf z4 (nI (5 * k + i4)))).toInt64) * (((z4.1 11 (5 * k + i4))).toInt64)) / ((1000 : Int64))).toInt32)]) rfl ?_
          refine m_callS (As := [.int ((((((m_degreesOf z4 (nI (5 * k + i4)))).toInt64) * (((z4.1 11 (5 * k + i4))).toInt64)) / ((1000 : Int64))).toInt32), .int ((z4.1 11 (5 * k + i4)))]) (rest := []) ⟨hx, hb, hml, hown, hts⟩ (cm_lesser l ((((((m_degreesOf z4 (nI (5 * k + i4)))).toInt64) * (((z4.1 11 (5 * k + i4))).toInt64)) / ((1000 : Int64))).toInt32) (z4.1 11 (5 * k + i4)) ) (va_cwS 2 hts gX6_wake_X6_lesser rfl rfl rfl (by decide +kernel) ⟨Nat.le_of_ble_eq_true rfl, Nat.le_of_ble_eq_true rfl⟩) hP hS rfl hl.1 rfl (Nat.le_of_ble_eq_true rfl) dX6_wake_51 ⟨Nat.zero_le _, Nat.zero_le _⟩ (fun H locs hP hS => ?_)
          refine lv_istore (lv' := [(5, .int ((m_lesser ((((((m_degreesOf z4 (nI (5 * k + i4)))).toInt64) * (((z4.1 11 (5 * k + i4))).toInt64)) / ((1000 : Int64))).toInt32) (z4.1 11 (5 * k + i4))))), (4, .int ((m_degreesOf z4 (nI (5 * k + i4))))), (3, .int (nI (5 * k + i4))), (0, .ref (a 0)), (1, .int (nI (k))), (2, .int (air))]) hx hb dX6_wake_54 hl (by decide) rfl (fun ls hl => ?_)
          refine lv_aload_n hx hb dX6_wake_56 rfl (lv_at hl 3 rfl) ?_
          refine m_get (v := .ref (a 11)) hx hb hts hin hown hK hP 11 (by decide) rfl (index := 37) (List.mem_of_getElem? (i := 1) rfl) dX6_wake_57 ?_
          refine lv_iload_n hx hb dX6_wake_60 rfl (lv_at hl 2 rfl) ?_
          refine lv_dup2_11 hx hb dX6_wake_61 rfl rfl ?_
          refine m_ald (j := 5 * k + i4) hx hb hK hP 10 11 rfl (by decide) (by omega) dX6_wake_62 ?_
          refine W.eq (g2 := F0 m 63 ls [.int ((z4.1 11 (5 * k + i4))), .int (nI (5 * k + i4)), .ref (a 11)]) rfl ?_
          refine lv_iload hx hb dX6_wake_63 (lv_at hl 0 rfl) ?_
          refine lv_isub (x := (z4.1 11 (5 * k + i4))) (y := (m_lesser ((((((m_degreesOf z4 (nI (5 * k + i4)))).toInt64) * (((z4.1 11 (5 * k + i4))).toInt64)) / ((1000 : Int64))).toInt32) (z4.1 11 (5 * k + i4)))) hx hb dX6_wake_65 ?_
          refine m_ast (j := 5 * k + i4) (v := ((z4.1 11 (5 * k + i4))) - ((m_lesser ((((((m_degreesOf z4 (nI (5 * k + i4)))).toInt64) * (((z4.1 11 (5 * k + i4))).toInt64)) / ((1000 : Int64))).toInt32) (z4.1 11 (5 * k + i4))))) hx hb hK hP hD hS 10 11 rfl rfl (by decide) (by omega) dX6_wake_66 (fun H locs hP hD hS => ?_)
          refine lv_aload_n hx hb dX6_wake_67 rfl (lv_at hl 3 rfl) ?_
          refine lv_dup hx hb dX6_wake_68 rfl ?_
          refine m_get (v := .long ((z4.2 31))) hx hb hts hin hown hK hP 31 (by decide) rfl (index := 159) (List.mem_of_getElem? (i := 3) rfl) dX6_wake_69 ?_
          refine lv_aload_n hx hb dX6_wake_72 rfl (lv_at hl 3 rfl) ?_
          refine lv_iload_n hx hb dX6_wake_73 rfl (lv_at hl 4 rfl) ?_
          refine m_callI (As := [.int (nI (k))]) (rest := [.long ((z4.2 31)), .ref (a 0)]) (fun _ h => h) ⟨hx, hb, hml, hown, hts⟩ (cm_isLake l G cI cZ a (si z4 11 (5 * k + i4) (((z4.1 11 (5 * k + i4))) - ((m_lesser ((((((m_degreesOf z4 (nI (5 * k + i4)))).toInt64) * (((z4.1 11 (5 * k + i4))).toInt64)) / ((1000 : Int64))).toInt32) (z4.1 11 (5 * k + i4))))))  (nI (k)) (vp_in_nI (by omega) (by decide))) (cwV 1 hts gX6_wake_X6_isLake rfl rfl rfl (by decide +kernel) ⟨Nat.le_of_ble_eq_true rfl, Nat.le_of_ble_eq_true rfl⟩) hK hP hD hS rfl hl.1 rfl (Nat.le_of_ble_eq_true rfl) dX6_wake_74 ⟨Nat.zero_le _, Nat.zero_le _⟩ (fun H locs hP hD _ _ hS => ?_)
          have J87_19 : ∀ (x_18 : Int64), x_18 = (if (m_isLake (si z4 11 (5 * k + i4) (((z4.1 11 (5 * k + i4))) - ((m_lesser ((((((m_degreesOf z4 (nI (5 * k + i4)))).toInt64) * (((z4.1 11 (5 * k + i4))).toInt64)) / ((1000 : Int64))).toInt32) (z4.1 11 (5 * k + i4)))))) (nI (k))) = 0 then (0 : Int64) else ((m_lesser ((((((m_degreesOf z4 (nI (5 * k + i4)))).toInt64) * (((z4.1 11 (5 * k + i4))).toInt64)) / ((1000 : Int64))).toInt32) (z4.1 11 (5 * k + i4)))).toInt64) → ∀ (H : Heap) (locs : List Loc), va_P G vwCl (wm cI cZ a (si z4 11 (5 * k + i4) (((z4.1 11 (5 * k + i4))) - ((m_lesser ((((((m_degreesOf z4 (nI (5 * k + i4)))).toInt64) * (((z4.1 11 (5 * k + i4))).toInt64)) / ((1000 : Int64))).toInt32) (z4.1 11 (5 * k + i4))))))) H → va_D (mA a) (wm cI cZ a (si z4 11 (5 * k + i4) (((z4.1 11 (5 * k + i4))) - ((m_lesser ((((((m_degreesOf z4 (nI (5 * k + i4)))).toInt64) * (((z4.1 11 (5 * k + i4))).toInt64)) / ((1000 : Int64))).toInt32) (z4.1 11 (5 * k + i4))))))) → va_S (mA a) s.heap H locs → ∀ (ls : Array Slot), lv_has ls 6 [(5, .int ((m_lesser ((((((m_degreesOf z4 (nI (5 * k + i4)))).toInt64) * (((z4.1 11 (5 * k + i4))).toInt64)) / ((1000 : Int64))).toInt32) (z4.1 11 (5 * k + i4))))), (4, .int ((m_degreesOf z4 (nI (5 * k + i4))))), (3, .int (nI (5 * k + i4))), (0, .ref (a 0)), (1, .int (nI (k))), (2, .int (air))] → WW H locs 0 0 (F0 m 87 ls [.long (x_18), .long ((z4.2 31)), .ref (a 0)]) := by
            intro x_18 h_20 H locs hP hD hS ls hl
            refine (hWW _ _ _ _ _).mpr ?_
            refine lv_ladd hx hb dX6_wake_87 ?_
            refine m_putJ (v := ((z4.2 31)) + (x_18)) hx hb hts hin hown hK hP hD hS 31 (by decide) rfl (by decide +kernel) rfl (index := 159) (List.mem_of_getElem? (i := 3) rfl) dX6_wake_88 (fun H locs hP hD hS => ?_)
            refine lv_aload_n hx hb dX6_wake_91 rfl (lv_at hl 3 rfl) ?_
            refine lv_dup hx hb dX6_wake_92 rfl ?_
            refine m_get (v := .long ((z4.2 30))) hx hb hts hin hown hK hP 30 (by decide) rfl (index := 162) (List.mem_of_getElem? (i := 4) rfl) dX6_wake_93 ?_
            refine lv_aload_n hx hb dX6_wake_96 rfl (lv_at hl 3 rfl) ?_
            refine lv_iload_n hx hb dX6_wake_97 rfl (lv_at hl 4 rfl) ?_
            refine m_callI (As := [.int (nI (k))]) (rest := [.long ((z4.2 30)), .ref (a 0)]) (fun _ h => h) ⟨hx, hb, hml, hown, hts⟩ (cm_isLake l G cI cZ a (sl (si z4 11 (5 * k + i4) (((z4.1 11 (5 * k + i4))) - ((m_lesser ((((((m_degreesOf z4 (nI (5 * k + i4)))).toInt64) * (((z4.1 11 (5 * k + i4))).toInt64)) / ((1000 : Int64))).toInt32) (z4.1 11 (5 * k + i4)))))) 31 (((z4.2 31)) + (x_18)))  (nI (k)) (vp_in_nI (by omega) (by decide))) (cwV 1 hts gX6_wake_X6_isLake rfl rfl rfl (by decide +kernel) ⟨Nat.le_of_ble_eq_true rfl, Nat.le_of_ble_eq_true rfl⟩) hK hP hD hS rfl hl.1 rfl (Nat.le_of_ble_eq_true rfl) dX6_wake_98 ⟨Nat.zero_le _, Nat.zero_le _⟩ (fun H locs hP hD _ _ hS => ?_)
            have J111_24 : ∀ (x_23 : Int64), x_23 = (if (m_isLake (sl (si z4 11 (5 * k + i4) (((z4.1 11 (5 * k + i4))) - ((m_lesser ((((((m_degreesOf z4 (nI (5 * k + i4)))).toInt64) * (((z4.1 11 (5 * k + i4))).toInt64)) / ((1000 : Int64))).toInt32) (z4.1 11 (5 * k + i4)))))) 31 (((z4.2 31)) + (x_18))) (nI (k))) = 0 then ((m_lesser ((((((m_degreesOf z4 (nI (5 * k + i4)))).toInt64) * (((z4.1 11 (5 * k + i4))).toInt64)) / ((1000 : Int64))).toInt32) (z4.1 11 (5 * k + i4)))).toInt64 else (0 : Int64)) → ∀ (H : Heap) (locs : List Loc), va_P G vwCl (wm cI cZ a (sl (si z4 11 (5 * k + i4) (((z4.1 11 (5 * k + i4))) - ((m_lesser ((((((m_degreesOf z4 (nI (5 * k + i4)))).toInt64) * (((z4.1 11 (5 * k + i4))).toInt64)) / ((1000 : Int64))).toInt32) (z4.1 11 (5 * k + i4)))))) 31 (((z4.2 31)) + (x_18)))) H → va_D (mA a) (wm cI cZ a (sl (si z4 11 (5 * k + i4) (((z4.1 11 (5 * k + i4))) - ((m_lesser ((((((m_degreesOf z4 (nI (5 * k + i4)))).toInt64) * (((z4.1 11 (5 * k + i4))).toInt64)) / ((1000 : Int64))).toInt32) (z4.1 11 (5 * k + i4)))))) 31 (((z4.2 31)) + (x_18)))) → va_S (mA a) s.heap H locs → ∀ (ls : Array Slot), lv_has ls 6 [(5, .int ((m_lesser ((((((m_degreesOf z4 (nI (5 * k + i4)))).toInt64) * (((z4.1 11 (5 * k + i4))).toInt64)) / ((1000 : Int64))).toInt32) (z4.1 11 (5 * k + i4))))), (4, .int ((m_degreesOf z4 (nI (5 * k + i4))))), (3, .int (nI (5 * k + i4))), (0, .ref (a 0)), (1, .int (nI (k))), (2, .int (air))] → WW H locs 0 0 (F0 m 111 ls [.long (x_23), .long ((z4.2 30)), .ref (a 0)]) := by
              intro x_23 h_25 H locs hP hD hS ls hl
              refine (hWW _ _ _ _ _).mpr ?_
              refine lv_ladd hx hb dX6_wake_111 ?_
              refine m_putJ (v := ((z4.2 30)) + (x_23)) hx hb hts hin hown hK hP hD hS 30 (by decide) rfl (by decide +kernel) rfl (index := 162) (List.mem_of_getElem? (i := 4) rfl) dX6_wake_112 (fun H locs hP hD hS => ?_)
              exact (hWW _ _ _ _ _).mp (J115_13 _ (by subst h_25; subst h_20; simp only [if_neg c_10]) _ _ hP hD hS _ (lv_sub hl [1, 2, 3, 4, 5] rfl))
            refine lv_if_eq (x := (m_isLake (sl (si z4 11 (5 * k + i4) (((z4.1 11 (5 * k + i4))) - ((m_lesser ((((((m_degreesOf z4 (nI (5 * k + i4)))).toInt64) * (((z4.1 11 (5 * k + i4))).toInt64)) / ((1000 : Int64))).toInt32) (z4.1 11 (5 * k + i4)))))) 31 (((z4.2 31)) + (x_18))) (nI (k)))) (tgt := 108) hx hb dX6_wake_101 (by decide) (fun c_21 => ?_) (fun c_21 => ?_)
            · refine lv_iload hx hb dX6_wake_108 (lv_at hl 0 rfl) ?_
              refine lv_i2l (v := ((m_lesser ((((((m_degreesOf z4 (nI (5 * k + i4)))).toInt64) * (((z4.1 11 (5 * k + i4))).toInt64)) / ((1000 : Int64))).toInt32) (z4.1 11 (5 * k + i4)))).toInt64) hx hb dX6_wake_110 rfl ?_
              exact (hWW _ _ _ _ _).mp (J111_24 _ (by simp only [if_pos c_21]) _ _ hP hD hS _ (lv_sub hl [0, 1, 2, 3, 4, 5] rfl))
            · refine lv_lconst (v := 0) hx hb dX6_wake_104 (by decide) ?_
              refine lv_goto (tgt := 111) hx hb dX6_wake_105 (by decide) ?_
              exact (hWW _ _ _ _ _).mp (J111_24 _ (by simp only [if_neg c_21]) _ _ hP hD hS _ (lv_sub hl [0, 1, 2, 3, 4, 5] rfl))
          refine lv_if_eq (x := (m_isLake (si z4 11 (5 * k + i4) (((z4.1 11 (5 * k + i4))) - ((m_lesser ((((((m_degreesOf z4 (nI (5 * k + i4)))).toInt64) * (((z4.1 11 (5 * k + i4))).toInt64)) / ((1000 : Int64))).toInt32) (z4.1 11 (5 * k + i4)))))) (nI (k)))) (tgt := 86) hx hb dX6_wake_77 (by decide) (fun c_16 => ?_) (fun c_16 => ?_)
          · refine lv_lconst (v := 0) hx hb dX6_wake_86 (by decide) ?_
            exact (hWW _ _ _ _ _).mp (J87_19 _ (by simp only [if_pos c_16]) _ _ hP hD hS _ (lv_sub hl [0, 1, 2, 3, 4, 5] rfl))
          · refine lv_iload hx hb dX6_wake_80 (lv_at hl 0 rfl) ?_
            refine lv_i2l (v := ((m_lesser ((((((m_degreesOf z4 (nI (5 * k + i4)))).toInt64) * (((z4.1 11 (5 * k + i4))).toInt64)) / ((1000 : Int64))).toInt32) (z4.1 11 (5 * k + i4)))).toInt64) hx hb dX6_wake_82 rfl ?_
            refine lv_goto (tgt := 87) hx hb dX6_wake_83 (by decide) ?_
            exact (hWW _ _ _ _ _).mp (J87_19 _ (by simp only [if_neg c_16]) _ _ hP hD hS _ (lv_sub hl [0, 1, 2, 3, 4, 5] rfl))
  exact (hWW _ _ _ _ _).mp (L4 (5 + 1) 0 (Nat.zero_le _) (by omega) σ rfl  _ _ hP hD hS _ (lv_sub hl [0, 1, 2, 3] rfl))

def m_fire_k74 (σ : Sg) (cell : Int32) (x_3 : Int32) (s_9 : Sg) : Int32 := (((m_refused_s σ x_3).1 11 (((nI (5)) * (cell)).toNatClampNeg))) / (nI (2))
def m_fire_k74_s (σ : Sg) (cell : Int32) (x_3 : Int32) (s_9 : Sg) : Sg := (sl s_9 30 (((s_9.2 30)) + (((((m_refused_s σ x_3).1 11 (((nI (5)) * (cell)).toNatClampNeg))) / (nI (2))).toInt64)))
def m_fire_j36 (σ : Sg) (cell : Int32) (x_3 : Int32) : Int32 := (if (m_refused σ x_3) = 0 then (m_fire_k74 σ cell x_3 (si (si (m_refused_s σ x_3) 5 ((cell).toNatClampNeg) (nI (0))) 11 (((nI (5)) * (cell)).toNatClampNeg) ((((m_refused_s σ x_3).1 11 (((nI (5)) * (cell)).toNatClampNeg))) - ((((m_refused_s σ x_3).1 11 (((nI (5)) * (cell)).toNatClampNeg))) / (nI (2)))))) else nI (0))
def m_fire_j36_s (σ : Sg) (cell : Int32) (x_3 : Int32) : Sg := (if (m_refused σ x_3) = 0 then (m_fire_k74_s σ cell x_3 (si (si (m_refused_s σ x_3) 5 ((cell).toNatClampNeg) (nI (0))) 11 (((nI (5)) * (cell)).toNatClampNeg) ((((m_refused_s σ x_3).1 11 (((nI (5)) * (cell)).toNatClampNeg))) - ((((m_refused_s σ x_3).1 11 (((nI (5)) * (cell)).toNatClampNeg))) / (nI (2)))))) else (m_refused_s σ x_3))
def m_fire (σ : Sg) (cell : Int32) : Int32 := (m_fire_j36 σ cell (if (m_isCell cell) = 0 then nI (1) else (if (m_isLake σ cell) = 0 then (if (σ.1 4 ((cell).toNatClampNeg)) ≤ 0 then nI (0) else nI (2)) else nI (2))))
def m_fire_s (σ : Sg) (cell : Int32) : Sg := (m_fire_j36_s σ cell (if (m_isCell cell) = 0 then nI (1) else (if (m_isLake σ cell) = 0 then (if (σ.1 4 ((cell).toNatClampNeg)) ≤ 0 then nI (0) else nI (2)) else nI (2))))
set_option maxHeartbeats 4000000 in
set_option maxRecDepth 100000 in
theorem cm_fire (l : Launch) (G : va_G) (cI cZ : ClassId) (a : Nat → Nat) (σ : Sg) (cell : Int32) : mI l yX6_fire wsX6_fire ({ frames := 2, cells := 0, slots := 0, locals := 42 } : Room) G cI cZ a σ [.int (cell)] (m_fire σ cell) (m_fire_s σ cell) := by
  unfold mI
  refine Met.ofW (cc := cX6_fire) (maxL := 4) (ret := (some .int)) (by decide) rfl ?_
  intro p e s m args below meth c s₁ B hml hv
  obtain ⟨rfl, hP, hK, hD⟩ := hv
  have hx := B.exec
  have hb := B.bytes
  have hr := B.returns
  have hts := atoms_spec (ws := wsX6_fire) B.pre
  have hown : s.vm.findClass RX6 = some m.cls := findClass_of_methodNamed B.named
  have hlocks := B.notSynchronized
  have hS : va_S (mA a) s.heap s.heap [] := va_S.rf
  have hin : ∀ w ∈ wsX60, w ∈ wsX6_fire := fun w h => List.mem_cons_of_mem _ (List.mem_append_right _ h)
  have hl := lv_entry ([.ref (a 0), .int (cell)]) (n := 4) (Nat.le_of_ble_eq_true rfl)
  rw [lg_entry_eq]
  generalize (lg_sl ([.ref (a 0), .int (cell)]) ++ List.replicate (4 - (lg_sl ([.ref (a 0), .int (cell)])).length) Slot.unset).toArray = ls at hl ⊢
  have hl : lv_has ls 4 [(0, .ref (a 0)), (1, .int (cell))] := hl
  refine w_named (fun WW hWW => ?_)
  have hP : va_P G vwCl (wm cI cZ a σ) s.heap := hP
  refine lv_iload_n hx hb dX6_fire_0 rfl (lv_at hl 1 rfl) ?_
  refine m_callS (As := [.int (cell)]) (rest := []) ⟨hx, hb, hml, hown, hts⟩ (cm_isCell l cell ) (va_cwS 1 hts gX6_fire_X6_isCell rfl rfl rfl (by decide +kernel) ⟨Nat.le_of_ble_eq_true rfl, Nat.le_of_ble_eq_true rfl⟩) hP hS rfl hl.1 rfl (Nat.le_of_ble_eq_true rfl) dX6_fire_1 ⟨Nat.zero_le _, Nat.zero_le _⟩ (fun H locs hP hS => ?_)
  refine lv_istore_n (lv' := [(2, .int ((m_isCell cell))), (0, .ref (a 0)), (1, .int (cell))]) hx hb dX6_fire_4 rfl hl (by decide) rfl (fun ls hl => ?_)
  refine lv_aload_n hx hb dX6_fire_5 rfl (lv_at hl 1 rfl) ?_
  refine lv_iload_n hx hb dX6_fire_6 rfl (lv_at hl 0 rfl) ?_
  have J36_4 : ∀ (x_3 : Int32), x_3 = (if (m_isCell cell) = 0 then nI (1) else (if (m_isLake σ cell) = 0 then (if (σ.1 4 ((cell).toNatClampNeg)) ≤ 0 then nI (0) else nI (2)) else nI (2))) → ∀ (H : Heap) (locs : List Loc), va_P G vwCl (wm cI cZ a σ) H → va_D (mA a) (wm cI cZ a σ) → va_S (mA a) s.heap H locs → ∀ (ls : Array Slot), lv_has ls 4 [(2, .int ((m_isCell cell))), (0, .ref (a 0)), (1, .int (cell))] → WW H locs 0 0 (F0 m 36 ls [.int (x_3), .ref (a 0)]) := by
    intro x_3 h_5 H locs hP hD hS ls hl
    refine (hWW _ _ _ _ _).mpr ?_
    have hR_6 : m_fire σ cell = m_fire_j36 σ cell x_3 := (by subst h_5; unfold m_fire; rfl)
    have hR_7 : m_fire_s σ cell = m_fire_j36_s σ cell x_3 := (by subst h_5; unfold m_fire_s; rfl)
    refine m_callI (As := [.int (x_3)]) (rest := []) (fun _ h => h) ⟨hx, hb, hml, hown, hts⟩ (cm_refused l G cI cZ a σ  x_3 ) (cwV 1 hts gX6_fire_X6_refused rfl rfl rfl (by decide +kernel) ⟨Nat.le_of_ble_eq_true rfl, Nat.le_of_ble_eq_true rfl⟩) hK hP hD hS rfl hl.1 rfl (Nat.le_of_ble_eq_true rfl) dX6_fire_36 ⟨Nat.zero_le _, Nat.zero_le _⟩ (fun H locs hP hD _ _ hS => ?_)
    refine lv_if_eq (x := (m_refused σ x_3)) (tgt := 44) hx hb dX6_fire_39 (by decide) (fun c_8 => ?_) (fun c_8 => ?_)
    · have hq := w_isCell (ck_one h_5 (m_refused_0 c_8))
      have hq5 := vp_5 hq
      refine lv_aload_n hx hb dX6_fire_44 rfl (lv_at hl 1 rfl) ?_
      refine m_get (v := .ref (a 11)) hx hb hts hin hown hK hP 11 (by decide) rfl (index := 37) (List.mem_of_getElem? (i := 2) rfl) dX6_fire_45 ?_
      refine lv_iconst (v := nI (5)) hx hb dX6_fire_48 (by decide) ?_
      refine lv_iload_n hx hb dX6_fire_49 rfl (lv_at hl 2 rfl) ?_
      refine lv_imul (x := nI (5)) (y := cell) hx hb dX6_fire_50 ?_
      refine m_aldI (j := (nI (5)) * (cell)) hx hb hK hP 10 11 rfl (hq5) dX6_fire_51 ?_
      refine W.eq (g2 := F0 m 52 ls [.int (((m_refused_s σ x_3).1 11 (((nI (5)) * (cell)).toNatClampNeg)))]) rfl ?_
      refine lv_iconst (v := nI (2)) hx hb dX6_fire_52 (by decide) ?_
      refine lv_idiv (x := ((m_refused_s σ x_3).1 11 (((nI (5)) * (cell)).toNatClampNeg))) (y := nI (2)) hx hb dX6_fire_53 (by decide) ?_
      refine lv_istore_n (lv' := [(3, .int ((((m_refused_s σ x_3).1 11 (((nI (5)) * (cell)).toNatClampNeg))) / (nI (2)))), (2, .int ((m_isCell cell))), (0, .ref (a 0)), (1, .int (cell))]) hx hb dX6_fire_54 rfl hl (by decide) rfl (fun ls hl => ?_)
      refine lv_aload_n hx hb dX6_fire_55 rfl (lv_at hl 2 rfl) ?_
      refine m_get (v := .ref (a 5)) hx hb hts hin hown hK hP 5 (by decide) rfl (index := 19) (List.mem_of_getElem? (i := 3) rfl) dX6_fire_56 ?_
      refine lv_iload_n hx hb dX6_fire_59 rfl (lv_at hl 3 rfl) ?_
      refine lv_iconst (v := nI (0)) hx hb dX6_fire_60 (by decide) ?_
      refine m_astI (j := cell) (v := nI (0)) hx hb hK hP hD hS 4 5 rfl rfl (hq) dX6_fire_61 (fun H locs hP hD hS => ?_)
      refine lv_aload_n hx hb dX6_fire_62 rfl (lv_at hl 2 rfl) ?_
      refine m_get (v := .ref (a 11)) hx hb hts hin hown hK hP 11 (by decide) rfl (index := 37) (List.mem_of_getElem? (i := 2) rfl) dX6_fire_63 ?_
      refine lv_iconst (v := nI (5)) hx hb dX6_fire_66 (by decide) ?_
      refine lv_iload_n hx hb dX6_fire_67 rfl (lv_at hl 3 rfl) ?_
      refine lv_imul (x := nI (5)) (y := cell) hx hb dX6_fire_68 ?_
      refine lv_dup2_11 hx hb dX6_fire_69 rfl rfl ?_
      refine m_aldI (j := (nI (5)) * (cell)) hx hb hK hP 10 11 rfl (hq5) dX6_fire_70 ?_
      refine W.eq (g2 := F0 m 71 ls [.int (((m_refused_s σ x_3).1 11 (((nI (5)) * (cell)).toNatClampNeg))), .int ((nI (5)) * (cell)), .ref (a 11)]) rfl ?_
      refine lv_iload_n hx hb dX6_fire_71 rfl (lv_at hl 0 rfl) ?_
      refine lv_isub (x := ((m_refused_s σ x_3).1 11 (((nI (5)) * (cell)).toNatClampNeg))) (y := (((m_refused_s σ x_3).1 11 (((nI (5)) * (cell)).toNatClampNeg))) / (nI (2))) hx hb dX6_fire_72 ?_
      refine m_astI (j := (nI (5)) * (cell)) (v := (((m_refused_s σ x_3).1 11 (((nI (5)) * (cell)).toNatClampNeg))) - ((((m_refused_s σ x_3).1 11 (((nI (5)) * (cell)).toNatClampNeg))) / (nI (2)))) hx hb hK hP hD hS 10 11 rfl rfl (hq5) dX6_fire_73 (fun H locs hP hD hS => ?_)
      obtain ⟨s_9, e_10⟩ : ∃ z : Sg, z = (si (si (m_refused_s σ x_3) 5 ((cell).toNatClampNeg) (nI (0))) 11 (((nI (5)) * (cell)).toNatClampNeg) ((((m_refused_s σ x_3).1 11 (((nI (5)) * (cell)).toNatClampNeg))) - ((((m_refused_s σ x_3).1 11 (((nI (5)) * (cell)).toNatClampNeg))) / (nI (2))))) := ⟨_, rfl⟩
      rw [← e_10] at hP hD
      have hR_11 : m_fire σ cell = m_fire_k74 σ cell x_3 s_9 := (Eq.trans hR_6 (by subst e_10; unfold m_fire_j36; simp only [if_pos c_8]))
      have hR_12 : m_fire_s σ cell = m_fire_k74_s σ cell x_3 s_9 := (Eq.trans hR_7 (by subst e_10; unfold m_fire_j36_s; simp only [if_pos c_8]))
      refine lv_aload_n hx hb dX6_fire_74 rfl (lv_at hl 2 rfl) ?_
      refine lv_dup hx hb dX6_fire_75 rfl ?_
      refine m_get (v := .long ((s_9.2 30))) hx hb hts hin hown hK hP 30 (by decide) rfl (index := 162) (List.mem_of_getElem? (i := 4) rfl) dX6_fire_76 ?_
      refine lv_iload_n hx hb dX6_fire_79 rfl (lv_at hl 0 rfl) ?_
      refine lv_i2l (v := ((((m_refused_s σ x_3).1 11 (((nI (5)) * (cell)).toNatClampNeg))) / (nI (2))).toInt64) hx hb dX6_fire_80 rfl ?_
      refine lv_ladd hx hb dX6_fire_81 ?_
      refine m_putJ (v := ((s_9.2 30)) + (((((m_refused_s σ x_3).1 11 (((nI (5)) * (cell)).toNatClampNeg))) / (nI (2))).toInt64)) hx hb hts hin hown hK hP hD hS 30 (by decide) rfl (by decide +kernel) rfl (index := 162) (List.mem_of_getElem? (i := 4) rfl) dX6_fire_82 (fun H locs hP hD hS => ?_)
      refine lv_iload_n hx hb dX6_fire_85 rfl (lv_at hl 0 rfl) ?_
      exact m_iret (v := (((m_refused_s σ x_3).1 11 (((nI (5)) * (cell)).toNatClampNeg))) / (nI (2))) hx hb hr hlocks hP hK hD hS dX6_fire_86 (Eq.trans (by unfold m_fire_k74; rfl) hR_11.symm) (Eq.trans (by unfold m_fire_k74_s; rfl) hR_12.symm)
    · refine lv_iconst (v := nI (0)) hx hb dX6_fire_42 (by decide) ?_
      exact m_iret (v := nI (0)) hx hb hr hlocks hP hK hD hS dX6_fire_43 (Eq.trans (by unfold m_fire_j36; simp only [if_neg c_8]) hR_6.symm) (Eq.trans (by unfold m_fire_j36_s; simp only [if_neg c_8]) hR_7.symm)
  refine lv_if_ne (x := (m_isCell cell)) (tgt := 14) hx hb dX6_fire_7 (by decide) (fun c_1 => ?_) (fun c_1 => ?_)
  · refine lv_aload_n hx hb dX6_fire_14 rfl (lv_at hl 1 rfl) ?_
    refine lv_iload_n hx hb dX6_fire_15 rfl (lv_at hl 2 rfl) ?_
    refine m_callI (As := [.int (cell)]) (rest := [.ref (a 0)]) (fun _ h => h) ⟨hx, hb, hml, hown, hts⟩ (cm_isLake l G cI cZ a σ  cell (w_isCell c_1)) (cwV 1 hts gX6_fire_X6_isLake rfl rfl rfl (by decide +kernel) ⟨Nat.le_of_ble_eq_true rfl, Nat.le_of_ble_eq_true rfl⟩) hK hP hD hS rfl hl.1 rfl (Nat.le_of_ble_eq_true rfl) dX6_fire_16 ⟨Nat.zero_le _, Nat.zero_le _⟩ (fun H locs hP hD _ _ hS => ?_)
    refine lv_if_ne (x := (m_isLake σ cell)) (tgt := 31) hx hb dX6_fire_19 (by decide) (fun c_13 => ?_) (fun c_13 => ?_)
    · refine lv_iconst (v := nI (2)) hx hb dX6_fire_31 (by decide) ?_
      refine lv_goto (tgt := 36) hx hb dX6_fire_32 (by decide) ?_
      exact (hWW _ _ _ _ _).mp (J36_4 _ (by simp only [if_neg c_1, if_neg c_13]) _ _ hP hD hS _ (lv_sub hl [0, 1, 2] rfl))
    · refine lv_aload_n hx hb dX6_fire_22 rfl (lv_at hl 1 rfl) ?_
      refine m_get (v := .ref (a 4)) hx hb hts hin hown hK hP 4 (by decide) rfl (index := 16) (List.mem_of_getElem? (i := 1) rfl) dX6_fire_23 ?_
      refine lv_iload_n hx hb dX6_fire_26 rfl (lv_at hl 2 rfl) ?_
      refine m_aldI (j := cell) hx hb hK hP 3 4 rfl (w_isCell c_1) dX6_fire_27 ?_
      refine W.eq (g2 := F0 m 28 ls [.int ((σ.1 4 ((cell).toNatClampNeg))), .ref (a 0)]) rfl ?_
      refine lv_if_le (x := (σ.1 4 ((cell).toNatClampNeg))) (tgt := 35) hx hb dX6_fire_28 (by decide) (fun c_14 => ?_) (fun c_14 => ?_)
      · refine lv_iconst (v := nI (0)) hx hb dX6_fire_35 (by decide) ?_
        exact (hWW _ _ _ _ _).mp (J36_4 _ (by simp only [if_neg c_1, if_pos c_13, if_pos c_14]) _ _ hP hD hS _ (lv_sub hl [0, 1, 2] rfl))
      · refine lv_iconst (v := nI (2)) hx hb dX6_fire_31 (by decide) ?_
        refine lv_goto (tgt := 36) hx hb dX6_fire_32 (by decide) ?_
        exact (hWW _ _ _ _ _).mp (J36_4 _ (by simp only [if_neg c_1, if_pos c_13, if_neg c_14]) _ _ hP hD hS _ (lv_sub hl [0, 1, 2] rfl))
  · refine lv_iconst (v := nI (1)) hx hb dX6_fire_10 (by decide) ?_
    refine lv_goto (tgt := 36) hx hb dX6_fire_11 (by decide) ?_
    exact (hWW _ _ _ _ _).mp (J36_4 _ (by simp only [if_pos c_1]) _ _ hP hD hS _ (lv_sub hl [0, 1, 2] rfl))

def m_houseIn_x4 (σ : Sg) (cell : Int32) (z4 : Int32) : Int32 := z4
def m_houseIn_j27 (σ : Sg) (cell : Int32) (i4 : Nat) (z4 : Int32) (x_5 : Int32) : Int32 := x_5
def m_houseIn_b4 (σ : Sg) (cell : Int32) (i4 : Nat) (z4 : Int32) : Int32 := (m_houseIn_j27 σ cell i4 z4 (if (σ.1 14 i4) = cell then nI (i4) else z4))
def m_houseIn (σ : Sg) (cell : Int32) : Int32 := (m_houseIn_x4 σ cell (lp (m_houseIn_b4 σ cell) ((σ.1 13 0).toNatClampNeg) (-1)))
set_option maxHeartbeats 4000000 in
set_option maxRecDepth 100000 in
theorem cm_houseIn (l : Launch) (G : va_G) (cI cZ : ClassId) (a : Nat → Nat) (σ : Sg) (cell : Int32) (hO : mOK σ) : mI l yX6_houseIn wsX6_houseIn ({ frames := 0, cells := 0, slots := 0, locals := 0 } : Room) G cI cZ a σ [.int (cell)] (m_houseIn σ cell) σ := by
  unfold mI
  refine Met.ofW (cc := cX6_houseIn) (maxL := 4) (ret := (some .int)) (by decide) rfl ?_
  intro p e s m args below meth c s₁ B hml hv
  obtain ⟨rfl, hP, hK, hD⟩ := hv
  have hx := B.exec
  have hb := B.bytes
  have hr := B.returns
  have hts := atoms_spec (ws := wsX6_houseIn) B.pre
  have hown : s.vm.findClass RX6 = some m.cls := findClass_of_methodNamed B.named
  have hlocks := B.notSynchronized
  have hS : va_S (mA a) s.heap s.heap [] := va_S.rf
  have hin : ∀ w ∈ wsX60, w ∈ wsX6_houseIn := fun w h => List.mem_cons_of_mem _ (List.mem_append_right _ h)
  have hl := lv_entry ([.ref (a 0), .int (cell)]) (n := 4) (Nat.le_of_ble_eq_true rfl)
  rw [lg_entry_eq]
  generalize (lg_sl ([.ref (a 0), .int (cell)]) ++ List.replicate (4 - (lg_sl ([.ref (a 0), .int (cell)])).length) Slot.unset).toArray = ls at hl ⊢
  have hl : lv_has ls 4 [(0, .ref (a 0)), (1, .int (cell))] := hl
  refine w_named (fun WW hWW => ?_)
  have hP : va_P G vwCl (wm cI cZ a σ) s.heap := hP
  have h13 := vp_lt hO.1
  have e13 := vp_self hO.1
  refine lv_iconst (v := (-1)) hx hb dX6_houseIn_0 (by decide) ?_
  refine lv_istore_n (lv' := [(2, .int ((-1))), (0, .ref (a 0)), (1, .int (cell))]) hx hb dX6_houseIn_1 rfl hl (by decide) rfl (fun ls hl => ?_)
  refine lv_iconst (v := nI (0)) hx hb dX6_houseIn_2 (by decide) ?_
  refine lv_istore_n (lv' := [(3, .int (nI (0))), (2, .int ((-1))), (0, .ref (a 0)), (1, .int (cell))]) hx hb dX6_houseIn_3 rfl hl (by decide) rfl (fun ls hl => ?_)
  have L4 : ∀ (n4 i4 : Nat), i4 ≤ (σ.1 13 0).toNatClampNeg → ((σ.1 13 0).toNatClampNeg) + 1 ≤ i4 + n4 → ∀ (z4 : Int32), z4 = lp (m_houseIn_b4 σ cell) i4 (-1) → ∀ (H : Heap) (locs : List Loc), va_P G vwCl (wm cI cZ a σ) H → va_D (mA a) (wm cI cZ a σ) → va_S (mA a) s.heap H locs → ∀ (ls : Array Slot), lv_has ls 4 [(3, .int (nI (i4))), (2, .int (z4)), (0, .ref (a 0)), (1, .int (cell))] → WW H locs 0 0 (F0 m 4 ls []) := by
    intro n4
    induction n4 with
    | zero => intro i4 h1 h2; exact absurd h2 (by omega)
    | succ n4 ih4 =>
      intro i4 hi4 hn4 z4 hz4  H locs hP hD hS ls hl
      refine (hWW _ _ _ _ _).mpr ?_
      refine lv_iload_n hx hb dX6_houseIn_4 rfl (lv_at hl 0 rfl) ?_
      refine lv_aload_n hx hb dX6_houseIn_5 rfl (lv_at hl 2 rfl) ?_
      refine m_get (v := .int ((σ.1 13 0))) hx hb hts hin hown hK hP 13 (by decide) rfl (index := 132) (List.mem_of_getElem? (i := 1) rfl) dX6_houseIn_6 ?_
      refine W.eq (g2 := F0 m 9 ls (.int (nI ((σ.1 13 0).toNatClampNeg)) :: .int (nI (i4)) :: [])) (congrArg (fun v => F0 m 9 ls (Value.int v :: .int (nI (i4)) :: [])) (e13)) ?_
      refine n_icmp_ge (x := i4) (y := (σ.1 13 0).toNatClampNeg) (tgt := 34) hx hb (by omega) (by omega) dX6_houseIn_9 (by decide) (fun c_1 => ?_) (fun c_1 => ?_)
      · have hiN : (σ.1 13 0).toNatClampNeg = i4 := by omega
        subst hiN
        have hR_2 : m_houseIn σ cell = m_houseIn_x4 σ cell z4 := (by subst hz4; unfold m_houseIn; rfl)
        refine lv_iload_n hx hb dX6_houseIn_34 rfl (lv_at hl 1 rfl) ?_
        exact m_iret (v := z4) hx hb hr hlocks hP hK hD hS dX6_houseIn_35 (Eq.trans (by unfold m_houseIn_x4; rfl) hR_2.symm) (Eq.refl _)
      · refine lv_aload_n hx hb dX6_houseIn_12 rfl (lv_at hl 2 rfl) ?_
        refine m_get (v := .ref (a 14)) hx hb hts hin hown hK hP 14 (by decide) rfl (index := 43) (List.mem_of_getElem? (i := 2) rfl) dX6_houseIn_13 ?_
        refine lv_iload_n hx hb dX6_houseIn_16 rfl (lv_at hl 0 rfl) ?_
        refine m_ald (j := i4) hx hb hK hP 12 14 rfl (by decide) (by omega) dX6_houseIn_17 ?_
        refine W.eq (g2 := F0 m 18 ls [.int ((σ.1 14 i4))]) rfl ?_
        refine lv_iload_n hx hb dX6_houseIn_18 rfl (lv_at hl 3 rfl) ?_
        have J27_6 : ∀ (x_5 : Int32), x_5 = (if (σ.1 14 i4) = cell then nI (i4) else z4) → ∀ (H : Heap) (locs : List Loc), va_P G vwCl (wm cI cZ a σ) H → va_D (mA a) (wm cI cZ a σ) → va_S (mA a) s.heap H locs → ∀ (ls : Array Slot), lv_has ls 4 [(3, .int (nI (i4))), (2, .int (z4)), (0, .ref (a 0)), (1, .int (cell))] → WW H locs 0 0 (F0 m 27 ls [.int (x_5)]) := by
          intro x_5 h_7 H locs hP hD hS ls hl
          refine (hWW _ _ _ _ _).mpr ?_
          have hR_8 : m_houseIn_b4 σ cell i4 z4 = m_houseIn_j27 σ cell i4 z4 x_5 := (by subst h_7; unfold m_houseIn_b4; rfl)
          refine lv_istore_n (lv' := [(2, .int (x_5)), (3, .int (nI (i4))), (0, .ref (a 0)), (1, .int (cell))]) hx hb dX6_houseIn_27 rfl hl (by decide) rfl (fun ls hl => ?_)
          refine n_iinc (x := i4) (dN := 1) (k := 1) (lv' := [(3, .int (nI (i4 + 1))), (2, .int (x_5)), (0, .ref (a 0)), (1, .int (cell))]) hx hb dX6_houseIn_28 hl rfl (by decide) rfl (fun ls hl => ?_)
          refine lv_goto (tgt := 4) hx hb dX6_houseIn_31 (by decide) ?_
          exact (hWW _ _ _ _ _).mp (ih4 (i4 + 1) (by omega) (by omega) (x_5) (by show _ = m_houseIn_b4 σ cell i4 (lp (m_houseIn_b4 σ cell) i4 (-1)); rw [← hz4]; exact (Eq.trans (by unfold m_houseIn_j27; rfl) hR_8.symm))  _ _ hP hD hS _ (lv_sub hl [0, 1, 2, 3] rfl))
        refine lv_icmp_ne (x := (σ.1 14 i4)) (y := cell) (tgt := 26) hx hb dX6_houseIn_19 (by decide) (fun c_3 => ?_) (fun c_3 => ?_)
        · refine lv_iload_n hx hb dX6_houseIn_26 rfl (lv_at hl 1 rfl) ?_
          exact (hWW _ _ _ _ _).mp (J27_6 _ (by simp only [if_neg c_3]) _ _ hP hD hS _ (lv_sub hl [0, 1, 2, 3] rfl))
        · refine lv_iload_n hx hb dX6_houseIn_22 rfl (lv_at hl 0 rfl) ?_
          refine lv_goto (tgt := 27) hx hb dX6_houseIn_23 (by decide) ?_
          exact (hWW _ _ _ _ _).mp (J27_6 _ (by simp only [if_pos c_3]) _ _ hP hD hS _ (lv_sub hl [0, 1, 2, 3] rfl))
  exact (hWW _ _ _ _ _).mp (L4 ((σ.1 13 0).toNatClampNeg + 1) 0 (Nat.zero_le _) (by omega) (-1) rfl  _ _ hP hD hS _ (lv_sub hl [0, 1, 2, 3] rfl))

def m_house_k102 (σ : Sg) (cell : Int32) (pile : Int32) (co : Int32) (x_3 : Int32) (x_10 : Int32) (s_16 : Sg) : Int32 := (((si (si s_16 18 (((s_16.1 13 0)).toNatClampNeg) ((s_16.1 1 0))) 13 (0) (((s_16.1 13 0)) + (nI (1)))).1 13 0)) - (nI (1))
def m_house_k102_s (σ : Sg) (cell : Int32) (pile : Int32) (co : Int32) (x_3 : Int32) (x_10 : Int32) (s_16 : Sg) : Sg := (si (si s_16 18 (((s_16.1 13 0)).toNatClampNeg) ((s_16.1 1 0))) 13 (0) (((s_16.1 13 0)) + (nI (1))))
def m_house_j64 (σ : Sg) (cell : Int32) (pile : Int32) (co : Int32) (x_3 : Int32) (x_10 : Int32) : Int32 := (if (m_refused σ x_10) = 0 then (m_house_k102 σ cell pile co x_3 x_10 (si (si (si (m_refused_s σ x_10) 14 ((((m_refused_s σ x_10).1 13 0)).toNatClampNeg) (cell)) 15 ((((m_refused_s σ x_10).1 13 0)).toNatClampNeg) (pile)) 16 ((((m_refused_s σ x_10).1 13 0)).toNatClampNeg) (vp_nar .boolean (co)))) else nI (0))
def m_house_j64_s (σ : Sg) (cell : Int32) (pile : Int32) (co : Int32) (x_3 : Int32) (x_10 : Int32) : Sg := (if (m_refused σ x_10) = 0 then (m_house_k102_s σ cell pile co x_3 x_10 (si (si (si (m_refused_s σ x_10) 14 ((((m_refused_s σ x_10).1 13 0)).toNatClampNeg) (cell)) 15 ((((m_refused_s σ x_10).1 13 0)).toNatClampNeg) (pile)) 16 ((((m_refused_s σ x_10).1 13 0)).toNatClampNeg) (vp_nar .boolean (co)))) else (m_refused_s σ x_10))
def m_house_j21 (σ : Sg) (cell : Int32) (pile : Int32) (co : Int32) (x_3 : Int32) : Int32 := (m_house_j64 σ cell pile co x_3 (if x_3 = 0 then nI (1) else (if (m_houseIn σ cell) = (-1) then (if (m_isLake σ cell) = 0 then (if (σ.1 13 0) = nI (10) then nI (2) else nI (0)) else nI (2)) else nI (2))))
def m_house_j21_s (σ : Sg) (cell : Int32) (pile : Int32) (co : Int32) (x_3 : Int32) : Sg := (m_house_j64_s σ cell pile co x_3 (if x_3 = 0 then nI (1) else (if (m_houseIn σ cell) = (-1) then (if (m_isLake σ cell) = 0 then (if (σ.1 13 0) = nI (10) then nI (2) else nI (0)) else nI (2)) else nI (2))))
def m_house (σ : Sg) (cell : Int32) (pile : Int32) (co : Int32) : Int32 := (m_house_j21 σ cell pile co (if (m_isCell cell) = 0 then nI (0) else (if (m_within pile (nI (1)) (nI (4))) = 0 then nI (0) else nI (1))))
def m_house_s (σ : Sg) (cell : Int32) (pile : Int32) (co : Int32) : Sg := (m_house_j21_s σ cell pile co (if (m_isCell cell) = 0 then nI (0) else (if (m_within pile (nI (1)) (nI (4))) = 0 then nI (0) else nI (1))))
set_option maxHeartbeats 4000000 in
set_option maxRecDepth 100000 in
theorem cm_house (l : Launch) (G : va_G) (cI cZ : ClassId) (a : Nat → Nat) (σ : Sg) (cell : Int32) (pile : Int32) (co : Int32) (hO : mOK σ) : mI l yX6_house wsX6_house ({ frames := 2, cells := 0, slots := 0, locals := 42 } : Room) G cI cZ a σ [.int (cell), .int (pile), .int (co)] (m_house σ cell pile co) (m_house_s σ cell pile co) := by
  unfold mI
  refine Met.ofW (cc := cX6_house) (maxL := 5) (ret := (some .int)) (by decide) rfl ?_
  intro p e s m args below meth c s₁ B hml hv
  obtain ⟨rfl, hP, hK, hD⟩ := hv
  have hx := B.exec
  have hb := B.bytes
  have hr := B.returns
  have hts := atoms_spec (ws := wsX6_house) B.pre
  have hown : s.vm.findClass RX6 = some m.cls := findClass_of_methodNamed B.named
  have hlocks := B.notSynchronized
  have hS : va_S (mA a) s.heap s.heap [] := va_S.rf
  have hin : ∀ w ∈ wsX60, w ∈ wsX6_house := fun w h => List.mem_cons_of_mem _ (List.mem_append_right _ h)
  have hl := lv_entry ([.ref (a 0), .int (cell), .int (pile), .int (co)]) (n := 5) (Nat.le_of_ble_eq_true rfl)
  rw [lg_entry_eq]
  generalize (lg_sl ([.ref (a 0), .int (cell), .int (pile), .int (co)]) ++ List.replicate (5 - (lg_sl ([.ref (a 0), .int (cell), .int (pile), .int (co)])).length) Slot.unset).toArray = ls at hl ⊢
  have hl : lv_has ls 5 [(0, .ref (a 0)), (1, .int (cell)), (2, .int (pile)), (3, .int (co))] := hl
  refine w_named (fun WW hWW => ?_)
  have hP : va_P G vwCl (wm cI cZ a σ) s.heap := hP
  refine lv_iload_n hx hb dX6_house_0 rfl (lv_at hl 1 rfl) ?_
  refine m_callS (As := [.int (cell)]) (rest := []) ⟨hx, hb, hml, hown, hts⟩ (cm_isCell l cell ) (va_cwS 1 hts gX6_house_X6_isCell rfl rfl rfl (by decide +kernel) ⟨Nat.le_of_ble_eq_true rfl, Nat.le_of_ble_eq_true rfl⟩) hP hS rfl hl.1 rfl (Nat.le_of_ble_eq_true rfl) dX6_house_1 ⟨Nat.zero_le _, Nat.zero_le _⟩ (fun H locs hP hS => ?_)
  have J21_4 : ∀ (x_3 : Int32), x_3 = (if (m_isCell cell) = 0 then nI (0) else (if (m_within pile (nI (1)) (nI (4))) = 0 then nI (0) else nI (1))) → ∀ (H : Heap) (locs : List Loc), va_P G vwCl (wm cI cZ a σ) H → va_D (mA a) (wm cI cZ a σ) → va_S (mA a) s.heap H locs → ∀ (ls : Array Slot), lv_has ls 5 [(0, .ref (a 0)), (1, .int (cell)), (2, .int (pile)), (3, .int (co))] → WW H locs 0 0 (F0 m 21 ls [.int (x_3)]) := by
    intro x_3 h_5 H locs hP hD hS ls hl
    refine (hWW _ _ _ _ _).mpr ?_
    have hR_6 : m_house σ cell pile co = m_house_j21 σ cell pile co x_3 := (by subst h_5; unfold m_house; rfl)
    have hR_7 : m_house_s σ cell pile co = m_house_j21_s σ cell pile co x_3 := (by subst h_5; unfold m_house_s; rfl)
    refine lv_istore (lv' := [(4, .int (x_3)), (0, .ref (a 0)), (1, .int (cell)), (2, .int (pile)), (3, .int (co))]) hx hb dX6_house_21 hl (by decide) rfl (fun ls hl => ?_)
    refine lv_aload_n hx hb dX6_house_23 rfl (lv_at hl 1 rfl) ?_
    refine lv_iload hx hb dX6_house_24 (lv_at hl 0 rfl) ?_
    have J64_11 : ∀ (x_10 : Int32), x_10 = (if x_3 = 0 then nI (1) else (if (m_houseIn σ cell) = (-1) then (if (m_isLake σ cell) = 0 then (if (σ.1 13 0) = nI (10) then nI (2) else nI (0)) else nI (2)) else nI (2))) → ∀ (H : Heap) (locs : List Loc), va_P G vwCl (wm cI cZ a σ) H → va_D (mA a) (wm cI cZ a σ) → va_S (mA a) s.heap H locs → ∀ (ls : Array Slot), lv_has ls 5 [(4, .int (x_3)), (0, .ref (a 0)), (1, .int (cell)), (2, .int (pile)), (3, .int (co))] → WW H locs 0 0 (F0 m 64 ls [.int (x_10), .ref (a 0)]) := by
      intro x_10 h_12 H locs hP hD hS ls hl
      refine (hWW _ _ _ _ _).mpr ?_
      have hR_13 : m_house σ cell pile co = m_house_j64 σ cell pile co x_3 x_10 := (Eq.trans hR_6 (by subst h_12; unfold m_house_j21; rfl))
      have hR_14 : m_house_s σ cell pile co = m_house_j64_s σ cell pile co x_3 x_10 := (Eq.trans hR_7 (by subst h_12; unfold m_house_j21_s; rfl))
      refine m_callI (As := [.int (x_10)]) (rest := []) (fun _ h => h) ⟨hx, hb, hml, hown, hts⟩ (cm_refused l G cI cZ a σ  x_10 ) (cwV 1 hts gX6_house_X6_refused rfl rfl rfl (by decide +kernel) ⟨Nat.le_of_ble_eq_true rfl, Nat.le_of_ble_eq_true rfl⟩) hK hP hD hS rfl hl.1 rfl (Nat.le_of_ble_eq_true rfl) dX6_house_64 ⟨Nat.zero_le _, Nat.zero_le _⟩ (fun H locs hP hD _ _ hS => ?_)
      refine lv_if_eq (x := (m_refused σ x_10)) (tgt := 72) hx hb dX6_house_67 (by decide) (fun c_15 => ?_) (fun c_15 => ?_)
      · have q0 := ck_house h_12 (m_refused_0 c_15)
        have q1 := ck_two h_5 q0.1
        have hq : vp_in (σ.1 13 0) 10 := vp_ne hO.1 q0.2.2.2
        refine lv_aload_n hx hb dX6_house_72 rfl (lv_at hl 1 rfl) ?_
        refine m_get (v := .ref (a 14)) hx hb hts hin hown hK hP 14 (by decide) rfl (index := 43) (List.mem_of_getElem? (i := 2) rfl) dX6_house_73 ?_
        refine lv_aload_n hx hb dX6_house_76 rfl (lv_at hl 1 rfl) ?_
        refine m_get (v := .int (((m_refused_s σ x_10).1 13 0))) hx hb hts hin hown hK hP 13 (by decide) rfl (index := 132) (List.mem_of_getElem? (i := 1) rfl) dX6_house_77 ?_
        refine lv_iload_n hx hb dX6_house_80 rfl (lv_at hl 2 rfl) ?_
        refine m_astI (j := ((m_refused_s σ x_10).1 13 0)) (v := cell) hx hb hK hP hD hS 12 14 rfl rfl (hq) dX6_house_81 (fun H locs hP hD hS => ?_)
        refine lv_aload_n hx hb dX6_house_82 rfl (lv_at hl 1 rfl) ?_
        refine m_get (v := .ref (a 15)) hx hb hts hin hown hK hP 15 (by decide) rfl (index := 46) (List.mem_of_getElem? (i := 3) rfl) dX6_house_83 ?_
        refine lv_aload_n hx hb dX6_house_86 rfl (lv_at hl 1 rfl) ?_
        refine m_get (v := .int (((m_refused_s σ x_10).1 13 0))) hx hb hts hin hown hK hP 13 (by decide) rfl (index := 132) (List.mem_of_getElem? (i := 1) rfl) dX6_house_87 ?_
        refine lv_iload_n hx hb dX6_house_90 rfl (lv_at hl 3 rfl) ?_
        refine m_astI (j := ((m_refused_s σ x_10).1 13 0)) (v := pile) hx hb hK hP hD hS 13 15 rfl rfl (hq) dX6_house_91 (fun H locs hP hD hS => ?_)
        refine lv_aload_n hx hb dX6_house_92 rfl (lv_at hl 1 rfl) ?_
        refine m_get (v := .ref (a 16)) hx hb hts hin hown hK hP 16 (by decide) rfl (index := 49) (List.mem_of_getElem? (i := 4) rfl) dX6_house_93 ?_
        refine lv_aload_n hx hb dX6_house_96 rfl (lv_at hl 1 rfl) ?_
        refine m_get (v := .int (((m_refused_s σ x_10).1 13 0))) hx hb hts hin hown hK hP 13 (by decide) rfl (index := 132) (List.mem_of_getElem? (i := 1) rfl) dX6_house_97 ?_
        refine lv_iload_n hx hb dX6_house_100 rfl (lv_at hl 4 rfl) ?_
        refine m_zastI (j := ((m_refused_s σ x_10).1 13 0)) (v := co) hx hb hK hP hD hS 14 16 rfl rfl (hq) dX6_house_101 (fun H locs hP hD hS => ?_)
        obtain ⟨s_16, e_17⟩ : ∃ z : Sg, z = (si (si (si (m_refused_s σ x_10) 14 ((((m_refused_s σ x_10).1 13 0)).toNatClampNeg) (cell)) 15 ((((m_refused_s σ x_10).1 13 0)).toNatClampNeg) (pile)) 16 ((((m_refused_s σ x_10).1 13 0)).toNatClampNeg) (vp_nar .boolean (co))) := ⟨_, rfl⟩
        rw [← e_17] at hP hD
        have hR_18 : m_house σ cell pile co = m_house_k102 σ cell pile co x_3 x_10 s_16 := (Eq.trans hR_13 (by subst e_17; unfold m_house_j64; simp only [if_pos c_15]))
        have hR_19 : m_house_s σ cell pile co = m_house_k102_s σ cell pile co x_3 x_10 s_16 := (Eq.trans hR_14 (by subst e_17; unfold m_house_j64_s; simp only [if_pos c_15]))
        refine lv_aload_n hx hb dX6_house_102 rfl (lv_at hl 1 rfl) ?_
        refine m_get (v := .ref (a 18)) hx hb hts hin hown hK hP 18 (by decide) rfl (index := 56) (List.mem_of_getElem? (i := 5) rfl) dX6_house_103 ?_
        refine lv_aload_n hx hb dX6_house_106 rfl (lv_at hl 1 rfl) ?_
        refine m_get (v := .int ((s_16.1 13 0))) hx hb hts hin hown hK hP 13 (by decide) rfl (index := 132) (List.mem_of_getElem? (i := 1) rfl) dX6_house_107 ?_
        refine lv_aload_n hx hb dX6_house_110 rfl (lv_at hl 1 rfl) ?_
        refine m_get (v := .int ((s_16.1 1 0))) hx hb hts hin hown hK hP 1 (by decide) rfl (index := 109) (List.mem_of_getElem? (i := 6) rfl) dX6_house_111 ?_
        refine m_astI (j := (s_16.1 13 0)) (v := (s_16.1 1 0)) hx hb hK hP hD hS 16 18 rfl rfl (hq) dX6_house_114 (fun H locs hP hD hS => ?_)
        refine lv_aload_n hx hb dX6_house_115 rfl (lv_at hl 1 rfl) ?_
        refine lv_dup hx hb dX6_house_116 rfl ?_
        refine m_get (v := .int ((s_16.1 13 0))) hx hb hts hin hown hK hP 13 (by decide) rfl (index := 132) (List.mem_of_getElem? (i := 1) rfl) dX6_house_117 ?_
        refine lv_iconst (v := nI (1)) hx hb dX6_house_120 (by decide) ?_
        refine lv_iadd (x := (s_16.1 13 0)) (y := nI (1)) hx hb dX6_house_121 ?_
        refine m_putI (v := ((s_16.1 13 0)) + (nI (1))) hx hb hts hin hown hK hP hD hS 13 (by decide) rfl (by decide +kernel) rfl (index := 132) (List.mem_of_getElem? (i := 1) rfl) dX6_house_122 (fun H locs hP hD hS => ?_)
        refine lv_aload_n hx hb dX6_house_125 rfl (lv_at hl 1 rfl) ?_
        refine m_get (v := .int (((si (si s_16 18 (((s_16.1 13 0)).toNatClampNeg) ((s_16.1 1 0))) 13 (0) (((s_16.1 13 0)) + (nI (1)))).1 13 0))) hx hb hts hin hown hK hP 13 (by decide) rfl (index := 132) (List.mem_of_getElem? (i := 1) rfl) dX6_house_126 ?_
        refine lv_iconst (v := nI (1)) hx hb dX6_house_129 (by decide) ?_
        refine lv_isub (x := ((si (si s_16 18 (((s_16.1 13 0)).toNatClampNeg) ((s_16.1 1 0))) 13 (0) (((s_16.1 13 0)) + (nI (1)))).1 13 0)) (y := nI (1)) hx hb dX6_house_130 ?_
        exact m_iret (v := (((si (si s_16 18 (((s_16.1 13 0)).toNatClampNeg) ((s_16.1 1 0))) 13 (0) (((s_16.1 13 0)) + (nI (1)))).1 13 0)) - (nI (1))) hx hb hr hlocks hP hK hD hS dX6_house_131 (Eq.trans (by unfold m_house_k102; rfl) hR_18.symm) (Eq.trans (by unfold m_house_k102_s; rfl) hR_19.symm)
      · refine lv_iconst (v := nI (0)) hx hb dX6_house_70 (by decide) ?_
        exact m_iret (v := nI (0)) hx hb hr hlocks hP hK hD hS dX6_house_71 (Eq.trans (by unfold m_house_j64; simp only [if_neg c_15]) hR_13.symm) (Eq.trans (by unfold m_house_j64_s; simp only [if_neg c_15]) hR_14.symm)
    refine lv_if_ne (x := x_3) (tgt := 33) hx hb dX6_house_26 (by decide) (fun c_8 => ?_) (fun c_8 => ?_)
    · refine lv_aload_n hx hb dX6_house_33 rfl (lv_at hl 1 rfl) ?_
      refine lv_iload_n hx hb dX6_house_34 rfl (lv_at hl 2 rfl) ?_
      refine m_callI (As := [.int (cell)]) (rest := [.ref (a 0)]) (fun _ h => h) ⟨hx, hb, hml, hown, hts⟩ (cm_houseIn l G cI cZ a σ  cell hO) (cwV 1 hts gX6_house_X6_houseIn rfl rfl rfl (by decide +kernel) ⟨Nat.le_of_ble_eq_true rfl, Nat.le_of_ble_eq_true rfl⟩) hK hP hD hS rfl hl.1 rfl (Nat.le_of_ble_eq_true rfl) dX6_house_35 ⟨Nat.zero_le _, Nat.zero_le _⟩ (fun H locs hP hD _ _ hS => ?_)
      refine lv_iconst (v := (-1)) hx hb dX6_house_38 (by decide) ?_
      refine lv_icmp_ne (x := (m_houseIn σ cell)) (y := (-1)) (tgt := 59) hx hb dX6_house_39 (by decide) (fun c_20 => ?_) (fun c_20 => ?_)
      · refine lv_iconst (v := nI (2)) hx hb dX6_house_59 (by decide) ?_
        refine lv_goto (tgt := 64) hx hb dX6_house_60 (by decide) ?_
        exact (hWW _ _ _ _ _).mp (J64_11 _ (by simp only [if_neg c_8, if_neg c_20]) _ _ hP hD hS _ (lv_sub hl [0, 1, 2, 3, 4] rfl))
      · refine lv_aload_n hx hb dX6_house_42 rfl (lv_at hl 1 rfl) ?_
        refine lv_iload_n hx hb dX6_house_43 rfl (lv_at hl 2 rfl) ?_
        refine m_callI (As := [.int (cell)]) (rest := [.ref (a 0)]) (fun _ h => h) ⟨hx, hb, hml, hown, hts⟩ (cm_isLake l G cI cZ a σ  cell (w_isCell (ck_two h_5 c_8).1)) (cwV 1 hts gX6_house_X6_isLake rfl rfl rfl (by decide +kernel) ⟨Nat.le_of_ble_eq_true rfl, Nat.le_of_ble_eq_true rfl⟩) hK hP hD hS rfl hl.1 rfl (Nat.le_of_ble_eq_true rfl) dX6_house_44 ⟨Nat.zero_le _, Nat.zero_le _⟩ (fun H locs hP hD _ _ hS => ?_)
        refine lv_if_ne (x := (m_isLake σ cell)) (tgt := 59) hx hb dX6_house_47 (by decide) (fun c_21 => ?_) (fun c_21 => ?_)
        · refine lv_iconst (v := nI (2)) hx hb dX6_house_59 (by decide) ?_
          refine lv_goto (tgt := 64) hx hb dX6_house_60 (by decide) ?_
          exact (hWW _ _ _ _ _).mp (J64_11 _ (by simp only [if_neg c_8, if_pos c_20, if_neg c_21]) _ _ hP hD hS _ (lv_sub hl [0, 1, 2, 3, 4] rfl))
        · refine lv_aload_n hx hb dX6_house_50 rfl (lv_at hl 1 rfl) ?_
          refine m_get (v := .int ((σ.1 13 0))) hx hb hts hin hown hK hP 13 (by decide) rfl (index := 132) (List.mem_of_getElem? (i := 1) rfl) dX6_house_51 ?_
          refine lv_bipush (v := nI (10)) hx hb dX6_house_54 (by decide) ?_
          refine lv_icmp_ne (x := (σ.1 13 0)) (y := nI (10)) (tgt := 63) hx hb dX6_house_56 (by decide) (fun c_22 => ?_) (fun c_22 => ?_)
          · refine lv_iconst (v := nI (0)) hx hb dX6_house_63 (by decide) ?_
            exact (hWW _ _ _ _ _).mp (J64_11 _ (by simp only [if_neg c_8, if_pos c_20, if_pos c_21, if_neg c_22]) _ _ hP hD hS _ (lv_sub hl [0, 1, 2, 3, 4] rfl))
          · refine lv_iconst (v := nI (2)) hx hb dX6_house_59 (by decide) ?_
            refine lv_goto (tgt := 64) hx hb dX6_house_60 (by decide) ?_
            exact (hWW _ _ _ _ _).mp (J64_11 _ (by simp only [if_neg c_8, if_pos c_20, if_pos c_21, if_pos c_22]) _ _ hP hD hS _ (lv_sub hl [0, 1, 2, 3, 4] rfl))
    · refine lv_iconst (v := nI (1)) hx hb dX6_house_29 (by decide) ?_
      refine lv_goto (tgt := 64) hx hb dX6_house_30 (by decide) ?_
      exact (hWW _ _ _ _ _).mp (J64_11 _ (by simp only [if_pos c_8]) _ _ hP hD hS _ (lv_sub hl [0, 1, 2, 3, 4] rfl))
  refine lv_if_eq (x := (m_isCell cell)) (tgt := 20) hx hb dX6_house_4 (by decide) (fun c_1 => ?_) (fun c_1 => ?_)
  · refine lv_iconst (v := nI (0)) hx hb dX6_house_20 (by decide) ?_
    exact (hWW _ _ _ _ _).mp (J21_4 _ (by simp only [if_pos c_1]) _ _ hP hD hS _ (lv_sub hl [0, 1, 2, 3] rfl))
  · refine lv_iload_n hx hb dX6_house_7 rfl (lv_at hl 2 rfl) ?_
    refine lv_iconst (v := nI (1)) hx hb dX6_house_8 (by decide) ?_
    refine lv_iconst (v := nI (4)) hx hb dX6_house_9 (by decide) ?_
    refine m_callS (As := [.int (pile), .int (nI (1)), .int (nI (4))]) (rest := []) ⟨hx, hb, hml, hown, hts⟩ (cm_within l pile (nI (1)) (nI (4)) ) (va_cwS 3 hts gX6_house_X6_within rfl rfl rfl (by decide +kernel) ⟨Nat.le_of_ble_eq_true rfl, Nat.le_of_ble_eq_true rfl⟩) hP hS rfl hl.1 rfl (Nat.le_of_ble_eq_true rfl) dX6_house_10 ⟨Nat.zero_le _, Nat.zero_le _⟩ (fun H locs hP hS => ?_)
    refine lv_if_eq (x := (m_within pile (nI (1)) (nI (4)))) (tgt := 20) hx hb dX6_house_13 (by decide) (fun c_23 => ?_) (fun c_23 => ?_)
    · refine lv_iconst (v := nI (0)) hx hb dX6_house_20 (by decide) ?_
      exact (hWW _ _ _ _ _).mp (J21_4 _ (by simp only [if_neg c_1, if_pos c_23]) _ _ hP hD hS _ (lv_sub hl [0, 1, 2, 3] rfl))
    · refine lv_iconst (v := nI (1)) hx hb dX6_house_16 (by decide) ?_
      refine lv_goto (tgt := 21) hx hb dX6_house_17 (by decide) ?_
      exact (hWW _ _ _ _ _).mp (J21_4 _ (by simp only [if_neg c_1, if_neg c_23]) _ _ hP hD hS _ (lv_sub hl [0, 1, 2, 3] rfl))

def m_borehole_k82 (σ : Sg) (cell : Int32) (dr : Int32) (x_3 : Int32) (s_9 : Sg) : Int32 := (((si s_9 19 (0) (((s_9.1 19 0)) + (nI (1)))).1 19 0)) - (nI (1))
def m_borehole_k82_s (σ : Sg) (cell : Int32) (dr : Int32) (x_3 : Int32) (s_9 : Sg) : Sg := (si s_9 19 (0) (((s_9.1 19 0)) + (nI (1))))
def m_borehole_j41 (σ : Sg) (cell : Int32) (dr : Int32) (x_3 : Int32) : Int32 := (if (m_refused σ x_3) = 0 then (m_borehole_k82 σ cell dr x_3 (si (si (si (m_refused_s σ x_3) 20 ((((m_refused_s σ x_3).1 19 0)).toNatClampNeg) (cell)) 21 ((((m_refused_s σ x_3).1 19 0)).toNatClampNeg) (dr)) 22 ((((m_refused_s σ x_3).1 19 0)).toNatClampNeg) (((m_refused_s σ x_3).1 1 0)))) else nI (0))
def m_borehole_j41_s (σ : Sg) (cell : Int32) (dr : Int32) (x_3 : Int32) : Sg := (if (m_refused σ x_3) = 0 then (m_borehole_k82_s σ cell dr x_3 (si (si (si (m_refused_s σ x_3) 20 ((((m_refused_s σ x_3).1 19 0)).toNatClampNeg) (cell)) 21 ((((m_refused_s σ x_3).1 19 0)).toNatClampNeg) (dr)) 22 ((((m_refused_s σ x_3).1 19 0)).toNatClampNeg) (((m_refused_s σ x_3).1 1 0)))) else (m_refused_s σ x_3))
def m_borehole (σ : Sg) (cell : Int32) (dr : Int32) : Int32 := (m_borehole_j41 σ cell dr (if (m_isCell cell) = 0 then nI (1) else (if (m_within dr (-12) (nI (12))) = 0 then nI (2) else (if (σ.1 19 0) = nI (10) then nI (3) else nI (0)))))
def m_borehole_s (σ : Sg) (cell : Int32) (dr : Int32) : Sg := (m_borehole_j41_s σ cell dr (if (m_isCell cell) = 0 then nI (1) else (if (m_within dr (-12) (nI (12))) = 0 then nI (2) else (if (σ.1 19 0) = nI (10) then nI (3) else nI (0)))))
set_option maxHeartbeats 4000000 in
set_option maxRecDepth 100000 in
theorem cm_borehole (l : Launch) (G : va_G) (cI cZ : ClassId) (a : Nat → Nat) (σ : Sg) (cell : Int32) (dr : Int32) (hO : mOK σ) : mI l yX6_borehole wsX6_borehole ({ frames := 2, cells := 0, slots := 0, locals := 42 } : Room) G cI cZ a σ [.int (cell), .int (dr)] (m_borehole σ cell dr) (m_borehole_s σ cell dr) := by
  unfold mI
  refine Met.ofW (cc := cX6_borehole) (maxL := 3) (ret := (some .int)) (by decide) rfl ?_
  intro p e s m args below meth c s₁ B hml hv
  obtain ⟨rfl, hP, hK, hD⟩ := hv
  have hx := B.exec
  have hb := B.bytes
  have hr := B.returns
  have hts := atoms_spec (ws := wsX6_borehole) B.pre
  have hown : s.vm.findClass RX6 = some m.cls := findClass_of_methodNamed B.named
  have hlocks := B.notSynchronized
  have hS : va_S (mA a) s.heap s.heap [] := va_S.rf
  have hin : ∀ w ∈ wsX60, w ∈ wsX6_borehole := fun w h => List.mem_cons_of_mem _ (List.mem_append_right _ h)
  have hl := lv_entry ([.ref (a 0), .int (cell), .int (dr)]) (n := 3) (Nat.le_of_ble_eq_true rfl)
  rw [lg_entry_eq]
  generalize (lg_sl ([.ref (a 0), .int (cell), .int (dr)]) ++ List.replicate (3 - (lg_sl ([.ref (a 0), .int (cell), .int (dr)])).length) Slot.unset).toArray = ls at hl ⊢
  have hl : lv_has ls 3 [(0, .ref (a 0)), (1, .int (cell)), (2, .int (dr))] := hl
  refine w_named (fun WW hWW => ?_)
  have hP : va_P G vwCl (wm cI cZ a σ) s.heap := hP
  refine lv_aload_n hx hb dX6_borehole_0 rfl (lv_at hl 0 rfl) ?_
  refine lv_iload_n hx hb dX6_borehole_1 rfl (lv_at hl 1 rfl) ?_
  refine m_callS (As := [.int (cell)]) (rest := [.ref (a 0)]) ⟨hx, hb, hml, hown, hts⟩ (cm_isCell l cell ) (va_cwS 1 hts gX6_borehole_X6_isCell rfl rfl rfl (by decide +kernel) ⟨Nat.le_of_ble_eq_true rfl, Nat.le_of_ble_eq_true rfl⟩) hP hS rfl hl.1 rfl (Nat.le_of_ble_eq_true rfl) dX6_borehole_2 ⟨Nat.zero_le _, Nat.zero_le _⟩ (fun H locs hP hS => ?_)
  have J41_4 : ∀ (x_3 : Int32), x_3 = (if (m_isCell cell) = 0 then nI (1) else (if (m_within dr (-12) (nI (12))) = 0 then nI (2) else (if (σ.1 19 0) = nI (10) then nI (3) else nI (0)))) → ∀ (H : Heap) (locs : List Loc), va_P G vwCl (wm cI cZ a σ) H → va_D (mA a) (wm cI cZ a σ) → va_S (mA a) s.heap H locs → ∀ (ls : Array Slot), lv_has ls 3 [(0, .ref (a 0)), (1, .int (cell)), (2, .int (dr))] → WW H locs 0 0 (F0 m 41 ls [.int (x_3), .ref (a 0)]) := by
    intro x_3 h_5 H locs hP hD hS ls hl
    refine (hWW _ _ _ _ _).mpr ?_
    have hR_6 : m_borehole σ cell dr = m_borehole_j41 σ cell dr x_3 := (by subst h_5; unfold m_borehole; rfl)
    have hR_7 : m_borehole_s σ cell dr = m_borehole_j41_s σ cell dr x_3 := (by subst h_5; unfold m_borehole_s; rfl)
    refine m_callI (As := [.int (x_3)]) (rest := []) (fun _ h => h) ⟨hx, hb, hml, hown, hts⟩ (cm_refused l G cI cZ a σ  x_3 ) (cwV 1 hts gX6_borehole_X6_refused rfl rfl rfl (by decide +kernel) ⟨Nat.le_of_ble_eq_true rfl, Nat.le_of_ble_eq_true rfl⟩) hK hP hD hS rfl hl.1 rfl (Nat.le_of_ble_eq_true rfl) dX6_borehole_41 ⟨Nat.zero_le _, Nat.zero_le _⟩ (fun H locs hP hD _ _ hS => ?_)
    refine lv_if_eq (x := (m_refused σ x_3)) (tgt := 49) hx hb dX6_borehole_44 (by decide) (fun c_8 => ?_) (fun c_8 => ?_)
    · have hq : vp_in (σ.1 19 0) 10 := vp_ne hO.2.1 (ck_four h_5 (m_refused_0 c_8)).2.2
      refine lv_aload_n hx hb dX6_borehole_49 rfl (lv_at hl 0 rfl) ?_
      refine m_get (v := .ref (a 20)) hx hb hts hin hown hK hP 20 (by decide) rfl (index := 59) (List.mem_of_getElem? (i := 2) rfl) dX6_borehole_50 ?_
      refine lv_aload_n hx hb dX6_borehole_53 rfl (lv_at hl 0 rfl) ?_
      refine m_get (v := .int (((m_refused_s σ x_3).1 19 0))) hx hb hts hin hown hK hP 19 (by decide) rfl (index := 135) (List.mem_of_getElem? (i := 1) rfl) dX6_borehole_54 ?_
      refine lv_iload_n hx hb dX6_borehole_57 rfl (lv_at hl 1 rfl) ?_
      refine m_astI (j := ((m_refused_s σ x_3).1 19 0)) (v := cell) hx hb hK hP hD hS 17 20 rfl rfl (hq) dX6_borehole_58 (fun H locs hP hD hS => ?_)
      refine lv_aload_n hx hb dX6_borehole_59 rfl (lv_at hl 0 rfl) ?_
      refine m_get (v := .ref (a 21)) hx hb hts hin hown hK hP 21 (by decide) rfl (index := 62) (List.mem_of_getElem? (i := 3) rfl) dX6_borehole_60 ?_
      refine lv_aload_n hx hb dX6_borehole_63 rfl (lv_at hl 0 rfl) ?_
      refine m_get (v := .int (((m_refused_s σ x_3).1 19 0))) hx hb hts hin hown hK hP 19 (by decide) rfl (index := 135) (List.mem_of_getElem? (i := 1) rfl) dX6_borehole_64 ?_
      refine lv_iload_n hx hb dX6_borehole_67 rfl (lv_at hl 2 rfl) ?_
      refine m_astI (j := ((m_refused_s σ x_3).1 19 0)) (v := dr) hx hb hK hP hD hS 18 21 rfl rfl (hq) dX6_borehole_68 (fun H locs hP hD hS => ?_)
      refine lv_aload_n hx hb dX6_borehole_69 rfl (lv_at hl 0 rfl) ?_
      refine m_get (v := .ref (a 22)) hx hb hts hin hown hK hP 22 (by decide) rfl (index := 65) (List.mem_of_getElem? (i := 4) rfl) dX6_borehole_70 ?_
      refine lv_aload_n hx hb dX6_borehole_73 rfl (lv_at hl 0 rfl) ?_
      refine m_get (v := .int (((m_refused_s σ x_3).1 19 0))) hx hb hts hin hown hK hP 19 (by decide) rfl (index := 135) (List.mem_of_getElem? (i := 1) rfl) dX6_borehole_74 ?_
      refine lv_aload_n hx hb dX6_borehole_77 rfl (lv_at hl 0 rfl) ?_
      refine m_get (v := .int (((m_refused_s σ x_3).1 1 0))) hx hb hts hin hown hK hP 1 (by decide) rfl (index := 109) (List.mem_of_getElem? (i := 5) rfl) dX6_borehole_78 ?_
      refine m_astI (j := ((m_refused_s σ x_3).1 19 0)) (v := ((m_refused_s σ x_3).1 1 0)) hx hb hK hP hD hS 19 22 rfl rfl (hq) dX6_borehole_81 (fun H locs hP hD hS => ?_)
      obtain ⟨s_9, e_10⟩ : ∃ z : Sg, z = (si (si (si (m_refused_s σ x_3) 20 ((((m_refused_s σ x_3).1 19 0)).toNatClampNeg) (cell)) 21 ((((m_refused_s σ x_3).1 19 0)).toNatClampNeg) (dr)) 22 ((((m_refused_s σ x_3).1 19 0)).toNatClampNeg) (((m_refused_s σ x_3).1 1 0))) := ⟨_, rfl⟩
      rw [← e_10] at hP hD
      have hR_11 : m_borehole σ cell dr = m_borehole_k82 σ cell dr x_3 s_9 := (Eq.trans hR_6 (by subst e_10; unfold m_borehole_j41; simp only [if_pos c_8]))
      have hR_12 : m_borehole_s σ cell dr = m_borehole_k82_s σ cell dr x_3 s_9 := (Eq.trans hR_7 (by subst e_10; unfold m_borehole_j41_s; simp only [if_pos c_8]))
      refine lv_aload_n hx hb dX6_borehole_82 rfl (lv_at hl 0 rfl) ?_
      refine lv_dup hx hb dX6_borehole_83 rfl ?_
      refine m_get (v := .int ((s_9.1 19 0))) hx hb hts hin hown hK hP 19 (by decide) rfl (index := 135) (List.mem_of_getElem? (i := 1) rfl) dX6_borehole_84 ?_
      refine lv_iconst (v := nI (1)) hx hb dX6_borehole_87 (by decide) ?_
      refine lv_iadd (x := (s_9.1 19 0)) (y := nI (1)) hx hb dX6_borehole_88 ?_
      refine m_putI (v := ((s_9.1 19 0)) + (nI (1))) hx hb hts hin hown hK hP hD hS 19 (by decide) rfl (by decide +kernel) rfl (index := 135) (List.mem_of_getElem? (i := 1) rfl) dX6_borehole_89 (fun H locs hP hD hS => ?_)
      refine lv_aload_n hx hb dX6_borehole_92 rfl (lv_at hl 0 rfl) ?_
      refine m_get (v := .int (((si s_9 19 (0) (((s_9.1 19 0)) + (nI (1)))).1 19 0))) hx hb hts hin hown hK hP 19 (by decide) rfl (index := 135) (List.mem_of_getElem? (i := 1) rfl) dX6_borehole_93 ?_
      refine lv_iconst (v := nI (1)) hx hb dX6_borehole_96 (by decide) ?_
      refine lv_isub (x := ((si s_9 19 (0) (((s_9.1 19 0)) + (nI (1)))).1 19 0)) (y := nI (1)) hx hb dX6_borehole_97 ?_
      exact m_iret (v := (((si s_9 19 (0) (((s_9.1 19 0)) + (nI (1)))).1 19 0)) - (nI (1))) hx hb hr hlocks hP hK hD hS dX6_borehole_98 (Eq.trans (by unfold m_borehole_k82; rfl) hR_11.symm) (Eq.trans (by unfold m_borehole_k82_s; rfl) hR_12.symm)
    · refine lv_iconst (v := nI (0)) hx hb dX6_borehole_47 (by decide) ?_
      exact m_iret (v := nI (0)) hx hb hr hlocks hP hK hD hS dX6_borehole_48 (Eq.trans (by unfold m_borehole_j41; simp only [if_neg c_8]) hR_6.symm) (Eq.trans (by unfold m_borehole_j41_s; simp only [if_neg c_8]) hR_7.symm)
  refine lv_if_ne (x := (m_isCell cell)) (tgt := 12) hx hb dX6_borehole_5 (by decide) (fun c_1 => ?_) (fun c_1 => ?_)
  · refine lv_iload_n hx hb dX6_borehole_12 rfl (lv_at hl 2 rfl) ?_
    refine lv_bipush (v := (-12)) hx hb dX6_borehole_13 (by decide) ?_
    refine lv_bipush (v := nI (12)) hx hb dX6_borehole_15 (by decide) ?_
    refine m_callS (As := [.int (dr), .int ((-12)), .int (nI (12))]) (rest := [.ref (a 0)]) ⟨hx, hb, hml, hown, hts⟩ (cm_within l dr (-12) (nI (12)) ) (va_cwS 3 hts gX6_borehole_X6_within rfl rfl rfl (by decide +kernel) ⟨Nat.le_of_ble_eq_true rfl, Nat.le_of_ble_eq_true rfl⟩) hP hS rfl hl.1 rfl (Nat.le_of_ble_eq_true rfl) dX6_borehole_17 ⟨Nat.zero_le _, Nat.zero_le _⟩ (fun H locs hP hS => ?_)
    refine lv_if_ne (x := (m_within dr (-12) (nI (12)))) (tgt := 27) hx hb dX6_borehole_20 (by decide) (fun c_13 => ?_) (fun c_13 => ?_)
    · refine lv_aload_n hx hb dX6_borehole_27 rfl (lv_at hl 0 rfl) ?_
      refine m_get (v := .int ((σ.1 19 0))) hx hb hts hin hown hK hP 19 (by decide) rfl (index := 135) (List.mem_of_getElem? (i := 1) rfl) dX6_borehole_28 ?_
      refine lv_bipush (v := nI (10)) hx hb dX6_borehole_31 (by decide) ?_
      refine lv_icmp_ne (x := (σ.1 19 0)) (y := nI (10)) (tgt := 40) hx hb dX6_borehole_33 (by decide) (fun c_14 => ?_) (fun c_14 => ?_)
      · refine lv_iconst (v := nI (0)) hx hb dX6_borehole_40 (by decide) ?_
        exact (hWW _ _ _ _ _).mp (J41_4 _ (by simp only [if_neg c_1, if_neg c_13, if_neg c_14]) _ _ hP hD hS _ (lv_sub hl [0, 1, 2] rfl))
      · refine lv_iconst (v := nI (3)) hx hb dX6_borehole_36 (by decide) ?_
        refine lv_goto (tgt := 41) hx hb dX6_borehole_37 (by decide) ?_
        exact (hWW _ _ _ _ _).mp (J41_4 _ (by simp only [if_neg c_1, if_neg c_13, if_pos c_14]) _ _ hP hD hS _ (lv_sub hl [0, 1, 2] rfl))
    · refine lv_iconst (v := nI (2)) hx hb dX6_borehole_23 (by decide) ?_
      refine lv_goto (tgt := 41) hx hb dX6_borehole_24 (by decide) ?_
      exact (hWW _ _ _ _ _).mp (J41_4 _ (by simp only [if_neg c_1, if_pos c_13]) _ _ hP hD hS _ (lv_sub hl [0, 1, 2] rfl))
  · refine lv_iconst (v := nI (1)) hx hb dX6_borehole_8 (by decide) ?_
    refine lv_goto (tgt := 41) hx hb dX6_borehole_9 (by decide) ?_
    exact (hWW _ _ _ _ _).mp (J41_4 _ (by simp only [if_pos c_1]) _ _ hP hD hS _ (lv_sub hl [0, 1, 2] rfl))
