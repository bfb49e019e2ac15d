def m_wake_j166_s (σ : Sg) (k : Nat) (air : Int32) (z4 : Sg) (τ_5 : Sg) : Sg := τ_5
def m_wake_x4_s (σ : Sg) (k : Nat) (air : Int32) (z4 : Sg) : Sg := (m_wake_j166_s σ k air z4 (if air ≤ 0 then z4 else (if (m_isLake z4 (nI (k))) = 0 then (si (sl z4 30 (((z4.2 30)) - (((z4.1 5 k)).toInt64))) 11 (5 * k) ((((sl z4 30 (((z4.2 30)) - (((z4.1 5 k)).toInt64))).1 11 (5 * k))) + (((sl z4 30 (((z4.2 30)) - (((z4.1 5 k)).toInt64))).1 5 k)))) else z4)))
def m_wake_j115 (k : Nat) (i4 : Nat) (z4 : Sg) (τ_14 : Sg) : Sg := τ_14
def m_wake_j111 (k : Nat) (i4 : Nat) (z4 : Sg) (s_18 : Sg) (x_23 : Int64) (s_27 : Sg) (x_32 : Int64) : Sg := (sl s_27 30 (((s_27.2 30)) + (x_32)))
def m_wake_k91 (k : Nat) (i4 : Nat) (z4 : Sg) (s_18 : Sg) (x_23 : Int64) (s_27 : Sg) : Sg := (m_wake_j111 k i4 z4 s_18 x_23 s_27 (if (m_isLake s_27 (nI (k))) = 0 then ((m_lesser ((((((m_degreesOf z4 (nI (5 * k + i4)))).toInt64) * (((z4.1 11 (5 * k + i4))).toInt64)) / ((1000 : Int64))).toInt32) (z4.1 11 (5 * k + i4)))).toInt64 else (0 : Int64)))
def m_wake_j87 (k : Nat) (i4 : Nat) (z4 : Sg) (s_18 : Sg) (x_23 : Int64) : Sg := (m_wake_k91 k i4 z4 s_18 x_23 (sl s_18 31 (((s_18.2 31)) + (x_23))))
def m_wake_k67 (k : Nat) (i4 : Nat) (z4 : Sg) (s_18 : Sg) : Sg := (m_wake_j87 k i4 z4 s_18 (if (m_isLake s_18 (nI (k))) = 0 then (0 : Int64) else ((m_lesser ((((((m_degreesOf z4 (nI (5 * k + i4)))).toInt64) * (((z4.1 11 (5 * k + i4))).toInt64)) / ((1000 : Int64))).toInt32) (z4.1 11 (5 * k + i4)))).toInt64))
def m_wake_t22n (k : Nat) (i4 : Nat) (z4 : Sg) : Sg := (m_wake_k67 k i4 z4 (si z4 11 (5 * k + i4) (((z4.1 11 (5 * k + i4))) - ((m_lesser ((((((m_degreesOf z4 (nI (5 * k + i4)))).toInt64) * (((z4.1 11 (5 * k + i4))).toInt64)) / ((1000 : Int64))).toInt32) (z4.1 11 (5 * k + i4)))))))
def m_wake_b4 (k : Nat) (i4 : Nat) (z4 : Sg) : Sg := (m_wake_j115 k i4 z4 (if (m_degreesOf z4 (nI (5 * k + i4))) ≤ 0 then z4 else (m_wake_t22n k i4 z4)))
def m_wake_s (σ : Sg) (k : Nat) (air : Int32) : Sg := (m_wake_x4_s σ k air (lp (m_wake_b4 k) 5 σ))
set_option maxHeartbeats 4000000 in
set_option maxRecDepth 100000 in
theorem cm_wake (l : Launch) (G : va_G) (cI cZ : ClassId) (a : Nat → Nat) (σ : Sg) (k : Nat) (air : Int32) (hk : k < 25) : mV l yX6_wake wsX6_wake ({ frames := 1, cells := 0, slots := 0, locals := 22 } : Room) G cI cZ a σ [.int (nI (k)), .int (air)] (m_wake_s σ k air) := by
  unfold mV
  refine Met.ofW (cc := cX6_wake) (maxL := 6) (ret := none) (by decide) rfl ?_
  intro p e s m args below meth c s₁ B hml hv
  obtain ⟨rfl, hP, hK, hD⟩ := hv
  have hx := B.exec
  have hb := B.bytes
  have hr := B.returns
  have hts := atoms_spec (ws := wsX6_wake) B.pre
  have hown : s.vm.findClass RX6 = some m.cls := findClass_of_methodNamed B.named
  have hlocks := B.notSynchronized
  have hS : va_S (mA a) s.heap s.heap [] := va_S.rf
  have hin : ∀ w ∈ wsX60, w ∈ wsX6_wake := fun w h => List.mem_cons_of_mem _ (List.mem_append_right _ h)
  have hl := lv_entry ([.ref (a 0), .int (nI (k)), .int (air)]) (n := 6) (Nat.le_of_ble_eq_true rfl)
  rw [lg_entry_eq]
  generalize (lg_sl ([.ref (a 0), .int (nI (k)), .int (air)]) ++ List.replicate (6 - (lg_sl ([.ref (a 0), .int (nI (k)), .int (air)])).length) Slot.unset).toArray = ls at hl ⊢
  have hl : lv_has ls 6 [(0, .ref (a 0)), (1, .int (nI (k))), (2, .int (air))] := hl
  refine w_named (fun WW hWW => ?_)
  have hP : va_P G vwCl (wm cI cZ a σ) s.heap := hP
  refine lv_iconst (v := nI (5)) hx hb dX6_wake_0 (by decide) ?_
  refine lv_iload_n hx hb dX6_wake_1 rfl (lv_at hl 1 rfl) ?_
  refine n_mul (x := 5) (y := k) hx hb dX6_wake_2 ?_
  refine lv_istore_n (lv' := [(3, .int (nI (5 * k))), (0, .ref (a 0)), (1, .int (nI (k))), (2, .int (air))]) hx hb dX6_wake_3 rfl hl (by decide) rfl (fun ls hl => ?_)
  have L4 : ∀ (n4 i4 : Nat), i4 ≤ 5 → 5 + 1 ≤ i4 + n4 → ∀ (z4 : Sg), z4 = lp (m_wake_b4 k) i4 σ → ∀ (H : Heap) (locs : List Loc), va_P G vwCl (wm cI cZ a z4) H → va_D (mA a) (wm cI cZ a z4) → va_S (mA a) s.heap H locs → ∀ (ls : Array Slot), lv_has ls 6 [(3, .int (nI (5 * k + i4))), (0, .ref (a 0)), (1, .int (nI (k))), (2, .int (air))] → WW H locs 0 0 (F0 m 4 ls []) := by
    intro n4
    induction n4 with
    | zero => intro i4 h1 h2; exact absurd h2 (by omega)
    | succ n4 ih4 =>
      intro i4 hi4 hn4 z4 hz4  H locs hP hD hS ls hl
      refine (hWW _ _ _ _ _).mpr ?_
      refine lv_iload_n hx hb dX6_wake_4 rfl (lv_at hl 0 rfl) ?_
      refine lv_iconst (v := nI (5)) hx hb dX6_wake_5 (by decide) ?_
      refine lv_iload_n hx hb dX6_wake_6 rfl (lv_at hl 2 rfl) ?_
      refine n_mul (x := 5) (y := k) hx hb dX6_wake_7 ?_
      refine lv_iconst (v := nI (5)) hx hb dX6_wake_8 (by decide) ?_
      refine n_add (x := 5 * k) (y := 5) hx hb dX6_wake_9 ?_
      refine n_icmp_ge (x := 5 * k + i4) (y := (5 * k) + 5) (tgt := 121) hx hb (by omega) (by omega) dX6_wake_10 (by decide) (fun c_1 => ?_) (fun c_1 => ?_)
      · have hiN : 5 = i4 := by omega
        subst hiN
        have hR_2 : m_wake_s σ k air = m_wake_x4_s σ k air z4 := (by have q_ := hz4.symm; subst q_; unfold m_wake_s; rfl)
        refine lv_iload_n hx hb dX6_wake_121 rfl (lv_at hl 3 rfl) ?_
        have J166_6 : ∀ (τ_5 : Sg), τ_5 = (if air ≤ 0 then z4 else (if (m_isLake z4 (nI (k))) = 0 then (si (sl z4 30 (((z4.2 30)) - (((z4.1 5 k)).toInt64))) 11 (5 * k) ((((sl z4 30 (((z4.2 30)) - (((z4.1 5 k)).toInt64))).1 11 (5 * k))) + (((sl z4 30 (((z4.2 30)) - (((z4.1 5 k)).toInt64))).1 5 k)))) else z4)) → ∀ (H : Heap) (locs : List Loc), va_P G vwCl (wm cI cZ a τ_5) H → va_D (mA a) (wm cI cZ a τ_5) → va_S (mA a) s.heap H locs → ∀ (ls : Array Slot), lv_has ls 6 [(3, .int (nI (5 * k + 5))), (0, .ref (a 0)), (1, .int (nI (k))), (2, .int (air))] → WW H locs 0 0 (F0 m 166 ls []) := by
          intro τ_5 h_7 H locs hP hD hS ls hl
          refine (hWW _ _ _ _ _).mpr ?_
          have hR_8 : m_wake_s σ k air = m_wake_j166_s σ k air z4 τ_5 := (Eq.trans hR_2 (by have q_ := h_7.symm; subst q_; unfold m_wake_x4_s; rfl))
          exact m_vret hx hb hr hlocks hP hK hD hS dX6_wake_166 (Eq.trans (by unfold m_wake_j166_s; rfl) hR_8.symm)
        refine lv_if_le (x := air) (tgt := 166) hx hb dX6_wake_122 (by decide) (fun c_3 => ?_) (fun c_3 => ?_)
        · exact (hWW _ _ _ _ _).mp (J166_6 _ (by simp only [if_pos c_3]) _ _ hP hD hS _ (lv_sub hl [0, 1, 2, 3] rfl))
        · refine lv_aload_n hx hb dX6_wake_125 rfl (lv_at hl 1 rfl) ?_
          refine lv_iload_n hx hb dX6_wake_126 rfl (lv_at hl 2 rfl) ?_
          refine m_callI (As := [.int (nI (k))]) (rest := []) (fun _ h => h) ⟨hx, hb, hml, hown, hts⟩ (cm_isLake l G cI cZ a z4  (nI (k)) (vp_in_nI (by omega) (by decide))) (cwV 1 hts gX6_wake_X6_isLake rfl rfl rfl (by decide +kernel) ⟨Nat.le_of_ble_eq_true rfl, Nat.le_of_ble_eq_true rfl⟩) hK hP hD hS rfl hl.1 rfl (Nat.le_of_ble_eq_true rfl) dX6_wake_127 ⟨Nat.zero_le _, Nat.zero_le _⟩ (fun H locs hP hD _ _ hS => ?_)
          refine lv_if_ne (x := (m_isLake z4 (nI (k)))) (tgt := 166) hx hb dX6_wake_130 (by decide) (fun c_9 => ?_) (fun c_9 => ?_)
          · exact (hWW _ _ _ _ _).mp (J166_6 _ (by simp only [if_neg c_3, if_neg c_9]) _ _ hP hD hS _ (lv_sub hl [0, 1, 2, 3] rfl))
          · refine lv_aload_n hx hb dX6_wake_133 rfl (lv_at hl 1 rfl) ?_
            refine lv_dup hx hb dX6_wake_134 rfl ?_
            refine m_get (v := .long ((z4.2 30))) hx hb hts hin hown hK hP 30 (by decide) rfl (index := 162) (List.mem_of_getElem? (i := 4) rfl) dX6_wake_135 ?_
            refine lv_aload_n hx hb dX6_wake_138 rfl (lv_at hl 1 rfl) ?_
            refine m_get (v := .ref (a 5)) hx hb hts hin hown hK hP 5 (by decide) rfl (index := 19) (List.mem_of_getElem? (i := 5) rfl) dX6_wake_139 ?_
            refine lv_iload_n hx hb dX6_wake_142 rfl (lv_at hl 2 rfl) ?_
            refine m_ald (j := k) hx hb hK hP 4 5 rfl (by decide) (by omega) dX6_wake_143 ?_
            refine W.eq (g2 := F0 m 144 ls [.int ((z4.1 5 k)), .long ((z4.2 30)), .ref (a 0)]) rfl ?_
            refine lv_i2l (v := ((z4.1 5 k)).toInt64) hx hb dX6_wake_144 rfl ?_
            refine lv_lsub hx hb dX6_wake_145 ?_
            refine m_putJ (v := ((z4.2 30)) - (((z4.1 5 k)).toInt64)) hx hb hts hin hown hK hP hD hS 30 (by decide) rfl (by decide +kernel) rfl (index := 162) (List.mem_of_getElem? (i := 4) rfl) dX6_wake_146 (fun H locs hP hD hS => ?_)
            obtain ⟨s_10, e_11⟩ : ∃ z : Sg, z = (sl z4 30 (((z4.2 30)) - (((z4.1 5 k)).toInt64))) := ⟨_, rfl⟩
            rw [← e_11] at hP hD
            refine lv_aload_n hx hb dX6_wake_149 rfl (lv_at hl 1 rfl) ?_
            refine m_get (v := .ref (a 11)) hx hb hts hin hown hK hP 11 (by decide) rfl (index := 37) (List.mem_of_getElem? (i := 1) rfl) dX6_wake_150 ?_
            refine lv_iconst (v := nI (5)) hx hb dX6_wake_153 (by decide) ?_
            refine lv_iload_n hx hb dX6_wake_154 rfl (lv_at hl 2 rfl) ?_
            refine n_mul (x := 5) (y := k) hx hb dX6_wake_155 ?_
            refine lv_dup2_11 hx hb dX6_wake_156 rfl rfl ?_
            refine m_ald (j := 5 * k) hx hb hK hP 10 11 rfl (by decide) (by omega) dX6_wake_157 ?_
            refine W.eq (g2 := F0 m 158 ls [.int ((s_10.1 11 (5 * k))), .int (nI (5 * k)), .ref (a 11)]) rfl ?_
            refine lv_aload_n hx hb dX6_wake_158 rfl (lv_at hl 1 rfl) ?_
            refine m_get (v := .ref (a 5)) hx hb hts hin hown hK hP 5 (by decide) rfl (index := 19) (List.mem_of_getElem? (i := 5) rfl) dX6_wake_159 ?_
            refine lv_iload_n hx hb dX6_wake_162 rfl (lv_at hl 2 rfl) ?_
            refine m_ald (j := k) hx hb hK hP 4 5 rfl (by decide) (by omega) dX6_wake_163 ?_
            refine W.eq (g2 := F0 m 164 ls [.int ((s_10.1 5 k)), .int ((s_10.1 11 (5 * k))), .int (nI (5 * k)), .ref (a 11)]) rfl ?_
            refine lv_iadd (x := (s_10.1 11 (5 * k))) (y := (s_10.1 5 k)) hx hb dX6_wake_164 ?_
            refine m_ast (j := 5 * k) (v := ((s_10.1 11 (5 * k))) + ((s_10.1 5 k))) hx hb hK hP hD hS 10 11 rfl rfl (by decide) (by omega) dX6_wake_165 (fun H locs hP hD hS => ?_)
            exact (hWW _ _ _ _ _).mp (J166_6 _ (by have q_ := e_11.symm; subst q_; simp only [if_neg c_3, if_pos c_9]) _ _ hP hD hS _ (lv_sub hl [0, 1, 2, 3] rfl))
      · refine lv_aload_n hx hb dX6_wake_13 rfl (lv_at hl 1 rfl) ?_
        refine lv_iload_n hx hb dX6_wake_14 rfl (lv_at hl 0 rfl) ?_
        refine m_callI (As := [.int (nI (5 * k + i4))]) (rest := []) (fun _ h => h) ⟨hx, hb, hml, hown, hts⟩ (cm_degreesOf l G cI cZ a z4  (nI (5 * k + i4)) (vp_in_nI (by omega) (by decide))) (cwV 1 hts gX6_wake_X6_degreesOf rfl rfl rfl (by decide +kernel) ⟨Nat.le_of_ble_eq_true rfl, Nat.le_of_ble_eq_true rfl⟩) hK hP hD hS rfl hl.1 rfl (Nat.le_of_ble_eq_true rfl) dX6_wake_15 ⟨Nat.zero_le _, Nat.zero_le _⟩ (fun H locs hP hD _ _ hS => ?_)
        refine lv_istore (lv' := [(4, .int ((m_degreesOf z4 (nI (5 * k + i4))))), (3, .int (nI (5 * k + i4))), (0, .ref (a 0)), (1, .int (nI (k))), (2, .int (air))]) hx hb dX6_wake_18 hl (by decide) rfl (fun ls hl => ?_)
        refine lv_iload hx hb dX6_wake_20 (lv_at hl 0 rfl) ?_
        have J115_15 : ∀ (τ_14 : Sg), τ_14 = (if (m_degreesOf z4 (nI (5 * k + i4))) ≤ 0 then z4 else (m_wake_t22n k i4 z4)) → ∀ (H : Heap) (locs : List Loc), va_P G vwCl (wm cI cZ a τ_14) H → va_D (mA a) (wm cI cZ a τ_14) → va_S (mA a) s.heap H locs → ∀ (ls : Array Slot), lv_has ls 6 [(4, .int ((m_degreesOf z4 (nI (5 * k + i4))))), (3, .int (nI (5 * k + i4))), (0, .ref (a 0)), (1, .int (nI (k))), (2, .int (air))] → WW H locs 0 0 (F0 m 115 ls []) := by
          intro τ_14 h_16 H locs hP hD hS ls hl
          refine (hWW _ _ _ _ _).mpr ?_
          have hR_17 : m_wake_b4 k i4 z4 = m_wake_j115 k i4 z4 τ_14 := (by have q_ := h_16.symm; subst q_; unfold m_wake_b4; rfl)
          refine n_iinc (x := 5 * k + i4) (dN := 1) (k := 1) (lv' := [(3, .int (nI (5 * k + i4 + 1))), (4, .int ((m_degreesOf z4 (nI (5 * k + i4))))), (0, .ref (a 0)), (1, .int (nI (k))), (2, .int (air))]) hx hb dX6_wake_115 hl rfl (by decide) rfl (fun ls hl => ?_)
          refine lv_goto (tgt := 4) hx hb dX6_wake_118 (by decide) ?_
          exact (hWW _ _ _ _ _).mp (ih4 (i4 + 1) (by omega) (by omega) (τ_14) (by show _ = m_wake_b4 k i4 (lp (m_wake_b4 k) i4 σ); rw [← hz4]; exact (Eq.trans (by unfold m_wake_j115; rfl) hR_17.symm))  _ _ hP hD hS _ (lv_sub hl [0, 2, 3, 4] rfl))
        refine lv_if_le (x := (m_degreesOf z4 (nI (5 * k + i4)))) (tgt := 115) hx hb dX6_wake_22 (by decide) (fun c_12 => ?_) (fun c_12 => ?_)
        · exact (hWW _ _ _ _ _).mp (J115_15 _ (by simp only [if_pos c_12]) _ _ hP hD hS _ (lv_sub hl [0, 1, 2, 3, 4] rfl))
        · refine lv_iload hx hb dX6_wake_25 (lv_at hl 0 rfl) ?_
          refine lv_i2l (v := ((m_degreesOf z4 (nI (5 * k + i4)))).toInt64) hx hb dX6_wake_27 rfl ?_
          refine lv_aload_n hx hb dX6_wake_28 rfl (lv_at hl 2 rfl) ?_
          refine m_get (v := .ref (a 11)) hx hb hts hin hown hK hP 11 (by decide) rfl (index := 37) (List.mem_of_getElem? (i := 1) rfl) dX6_wake_29 ?_
          refine lv_iload_n hx hb dX6_wake_32 rfl (lv_at hl 1 rfl) ?_
          refine m_ald (j := 5 * k + i4) hx hb hK hP 10 11 rfl (by decide) (by omega) dX6_wake_33 ?_
          refine W.eq (g2 := F0 m 34 ls [.int ((z4.1 11 (5 * k + i4))), .long (((m_degreesOf z4 (nI (5 * k + i4)))).toInt64)]) rfl ?_
          refine lv_i2l (v := ((z4.1 11 (5 * k + i4))).toInt64) hx hb dX6_wake_34 rfl ?_
          refine lv_lmul hx hb dX6_wake_35 ?_
          refine lv_ldc2 (own := RX6) (v := 1000) hx hb hown (hts _ (List.mem_of_getElem? (i := 2) rfl)) dX6_wake_36 ?_
          refine lv_ldiv hx hb dX6_wake_39 (by decide) ?_
          refine lv_l2i (v := (((((m_degreesOf z4 (nI (5 * k + i4)))).toInt64) * (((z4.1 11 (5 * k + i4))).toInt64)) / ((1000 : Int64))).toInt32) hx hb dX6_wake_40 rfl ?_
          refine lv_istore (lv' := [(5, .int ((((((m_degreesOf z4 (nI (5 * k + i4)))).toInt64) * (((z4.1 11 (5 * k + i4))).toInt64)) / ((1000 : Int64))).toInt32)), (4, .int ((m_degreesOf z4 (nI (5 * k + i4))))), (3, .int (nI (5 * k + i4))), (0, .ref (a 0)), (1, .int (nI (k))), (2, .int (air))]) hx hb dX6_wake_41 hl (by decide) rfl (fun ls hl => ?_)
          refine lv_iload hx hb dX6_wake_43 (lv_at hl 0 rfl) ?_
          refine lv_aload_n hx hb dX6_wake_45 rfl (lv_at hl 3 rfl) ?_
          refine m_get (v := .ref (a 11)) hx hb hts hin hown hK hP 11 (by decide) rfl (index := 37) (List.mem_of_getElem? (i := 1) rfl) dX6_wake_46 ?_
          refine lv_iload_n hx hb dX6_wake_49 rfl (lv_at hl 2 rfl) ?_
          refine m_ald (j := 5 * k + i4) hx hb hK hP 10 11 rfl (by decide) (by omega) dX6_wake_50 ?_
          refine W.eq (g2 := F0 m 51 ls [.int ((z4.1 11 (5 * k + i4))), .int ((((((m_degreesOf z4 (nI (5 * k + i4)))).toInt64) * (((z4.1 11 (5 * k + i4))).toInt64)) / ((1000 : Int64))).toInt32)]) rfl ?_
          refine m_callS (As := [.int ((((((m_degreesOf z4 (nI (5 * k + i4)))).toInt64) * (((z4.1 11 (5 * k + i4))).toInt64)) / ((1000 : Int64))).toInt32), .int ((z4.1 11 (5 * k + i4)))]) (rest := []) ⟨hx, hb, hml, hown, hts⟩ (cm_lesser l ((((((m_degreesOf z4 (nI (5 * k + i4)))).toInt64) * (((z4.1 11 (5 * k + i4))).toInt64)) / ((1000 : Int64))).toInt32) (z4.1 11 (5 * k + i4)) ) (va_cwS 2 hts gX6_wake_X6_lesser rfl rfl rfl (by decide +kernel) ⟨Nat.le_of_ble_eq_true rfl, Nat.le_of_ble_eq_true rfl⟩) hP hS rfl hl.1 rfl (Nat.le_of_ble_eq_true rfl) dX6_wake_51 ⟨Nat.zero_le _, Nat.zero_le _⟩ (fun H locs hP hS => ?_)
          refine lv_istore (lv' := [(5, .int ((m_lesser ((((((m_degreesOf z4 (nI (5 * k + i4)))).toInt64) * (((z4.1 11 (5 * k + i4))).toInt64)) / ((1000 : Int64))).toInt32) (z4.1 11 (5 * k + i4))))), (4, .int ((m_degreesOf z4 (nI (5 * k + i4))))), (3, .int (nI (5 * k + i4))), (0, .ref (a 0)), (1, .int (nI (k))), (2, .int (air))]) hx hb dX6_wake_54 hl (by decide) rfl (fun ls hl => ?_)
          refine lv_aload_n hx hb dX6_wake_56 rfl (lv_at hl 3 rfl) ?_
          refine m_get (v := .ref (a 11)) hx hb hts hin hown hK hP 11 (by decide) rfl (index := 37) (List.mem_of_getElem? (i := 1) rfl) dX6_wake_57 ?_
          refine lv_iload_n hx hb dX6_wake_60 rfl (lv_at hl 2 rfl) ?_
          refine lv_dup2_11 hx hb dX6_wake_61 rfl rfl ?_
          refine m_ald (j := 5 * k + i4) hx hb hK hP 10 11 rfl (by decide) (by omega) dX6_wake_62 ?_
          refine W.eq (g2 := F0 m 63 ls [.int ((z4.1 11 (5 * k + i4))), .int (nI (5 * k + i4)), .ref (a 11)]) rfl ?_
          refine lv_iload hx hb dX6_wake_63 (lv_at hl 0 rfl) ?_
          refine lv_isub (x := (z4.1 11 (5 * k + i4))) (y := (m_lesser ((((((m_degreesOf z4 (nI (5 * k + i4)))).toInt64) * (((z4.1 11 (5 * k + i4))).toInt64)) / ((1000 : Int64))).toInt32) (z4.1 11 (5 * k + i4)))) hx hb dX6_wake_65 ?_
          refine m_ast (j := 5 * k + i4) (v := ((z4.1 11 (5 * k + i4))) - ((m_lesser ((((((m_degreesOf z4 (nI (5 * k + i4)))).toInt64) * (((z4.1 11 (5 * k + i4))).toInt64)) / ((1000 : Int64))).toInt32) (z4.1 11 (5 * k + i4))))) hx hb hK hP hD hS 10 11 rfl rfl (by decide) (by omega) dX6_wake_66 (fun H locs hP hD hS => ?_)
          obtain ⟨s_18, e_19⟩ : ∃ z : Sg, z = (si z4 11 (5 * k + i4) (((z4.1 11 (5 * k + i4))) - ((m_lesser ((((((m_degreesOf z4 (nI (5 * k + i4)))).toInt64) * (((z4.1 11 (5 * k + i4))).toInt64)) / ((1000 : Int64))).toInt32) (z4.1 11 (5 * k + i4)))))) := ⟨_, rfl⟩
          rw [← e_19] at hP hD
          have hR_20 : m_wake_t22n k i4 z4 = m_wake_k67 k i4 z4 s_18 := (by have q_ := e_19.symm; subst q_; unfold m_wake_t22n; rfl)
          refine lv_aload_n hx hb dX6_wake_67 rfl (lv_at hl 3 rfl) ?_
          refine lv_dup hx hb dX6_wake_68 rfl ?_
          refine m_get (v := .long ((s_18.2 31))) hx hb hts hin hown hK hP 31 (by decide) rfl (index := 159) (List.mem_of_getElem? (i := 3) rfl) dX6_wake_69 ?_
          refine lv_aload_n hx hb dX6_wake_72 rfl (lv_at hl 3 rfl) ?_
          refine lv_iload_n hx hb dX6_wake_73 rfl (lv_at hl 4 rfl) ?_
          refine m_callI (As := [.int (nI (k))]) (rest := [.long ((s_18.2 31)), .ref (a 0)]) (fun _ h => h) ⟨hx, hb, hml, hown, hts⟩ (cm_isLake l G cI cZ a s_18  (nI (k)) (vp_in_nI (by omega) (by decide))) (cwV 1 hts gX6_wake_X6_isLake rfl rfl rfl (by decide +kernel) ⟨Nat.le_of_ble_eq_true rfl, Nat.le_of_ble_eq_true rfl⟩) hK hP hD hS rfl hl.1 rfl (Nat.le_of_ble_eq_true rfl) dX6_wake_74 ⟨Nat.zero_le _, Nat.zero_le _⟩ (fun H locs hP hD _ _ hS => ?_)
          have J87_24 : ∀ (x_23 : Int64), x_23 = (if (m_isLake s_18 (nI (k))) = 0 then (0 : Int64) else ((m_lesser ((((((m_degreesOf z4 (nI (5 * k + i4)))).toInt64) * (((z4.1 11 (5 * k + i4))).toInt64)) / ((1000 : Int64))).toInt32) (z4.1 11 (5 * k + i4)))).toInt64) → ∀ (H : Heap) (locs : List Loc), va_P G vwCl (wm cI cZ a s_18) H → va_D (mA a) (wm cI cZ a s_18) → va_S (mA a) s.heap H locs → ∀ (ls : Array Slot), lv_has ls 6 [(5, .int ((m_lesser ((((((m_degreesOf z4 (nI (5 * k + i4)))).toInt64) * (((z4.1 11 (5 * k + i4))).toInt64)) / ((1000 : Int64))).toInt32) (z4.1 11 (5 * k + i4))))), (4, .int ((m_degreesOf z4 (nI (5 * k + i4))))), (3, .int (nI (5 * k + i4))), (0, .ref (a 0)), (1, .int (nI (k))), (2, .int (air))] → WW H locs 0 0 (F0 m 87 ls [.long (x_23), .long ((s_18.2 31)), .ref (a 0)]) := by
            intro x_23 h_25 H locs hP hD hS ls hl
            refine (hWW _ _ _ _ _).mpr ?_
            have hR_26 : m_wake_t22n k i4 z4 = m_wake_j87 k i4 z4 s_18 x_23 := (Eq.trans hR_20 (by have q_ := h_25.symm; subst q_; unfold m_wake_k67; rfl))
            refine lv_ladd hx hb dX6_wake_87 ?_
            refine m_putJ (v := ((s_18.2 31)) + (x_23)) hx hb hts hin hown hK hP hD hS 31 (by decide) rfl (by decide +kernel) rfl (index := 159) (List.mem_of_getElem? (i := 3) rfl) dX6_wake_88 (fun H locs hP hD hS => ?_)
            obtain ⟨s_27, e_28⟩ : ∃ z : Sg, z = (sl s_18 31 (((s_18.2 31)) + (x_23))) := ⟨_, rfl⟩
            rw [← e_28] at hP hD
            have hR_29 : m_wake_t22n k i4 z4 = m_wake_k91 k i4 z4 s_18 x_23 s_27 := (Eq.trans hR_26 (by have q_ := e_28.symm; subst q_; unfold m_wake_j87; rfl))
            refine lv_aload_n hx hb dX6_wake_91 rfl (lv_at hl 3 rfl) ?_
            refine lv_dup hx hb dX6_wake_92 rfl ?_
            refine m_get (v := .long ((s_27.2 30))) hx hb hts hin hown hK hP 30 (by decide) rfl (index := 162) (List.mem_of_getElem? (i := 4) rfl) dX6_wake_93 ?_
            refine lv_aload_n hx hb dX6_wake_96 rfl (lv_at hl 3 rfl) ?_
            refine lv_iload_n hx hb dX6_wake_97 rfl (lv_at hl 4 rfl) ?_
            refine m_callI (As := [.int (nI (k))]) (rest := [.long ((s_27.2 30)), .ref (a 0)]) (fun _ h => h) ⟨hx, hb, hml, hown, hts⟩ (cm_isLake l G cI cZ a s_27  (nI (k)) (vp_in_nI (by omega) (by decide))) (cwV 1 hts gX6_wake_X6_isLake rfl rfl rfl (by decide +kernel) ⟨Nat.le_of_ble_eq_true rfl, Nat.le_of_ble_eq_true rfl⟩) hK hP hD hS rfl hl.1 rfl (Nat.le_of_ble_eq_true rfl) dX6_wake_98 ⟨Nat.zero_le _, Nat.zero_le _⟩ (fun H locs hP hD _ _ hS => ?_)
            have J111_33 : ∀ (x_32 : Int64), x_32 = (if (m_isLake s_27 (nI (k))) = 0 then ((m_lesser ((((((m_degreesOf z4 (nI (5 * k + i4)))).toInt64) * (((z4.1 11 (5 * k + i4))).toInt64)) / ((1000 : Int64))).toInt32) (z4.1 11 (5 * k + i4)))).toInt64 else (0 : Int64)) → ∀ (H : Heap) (locs : List Loc), va_P G vwCl (wm cI cZ a s_27) H → va_D (mA a) (wm cI cZ a s_27) → va_S (mA a) s.heap H locs → ∀ (ls : Array Slot), lv_has ls 6 [(5, .int ((m_lesser ((((((m_degreesOf z4 (nI (5 * k + i4)))).toInt64) * (((z4.1 11 (5 * k + i4))).toInt64)) / ((1000 : Int64))).toInt32) (z4.1 11 (5 * k + i4))))), (4, .int ((m_degreesOf z4 (nI (5 * k + i4))))), (3, .int (nI (5 * k + i4))), (0, .ref (a 0)), (1, .int (nI (k))), (2, .int (air))] → WW H locs 0 0 (F0 m 111 ls [.long (x_32), .long ((s_27.2 30)), .ref (a 0)]) := by
              intro x_32 h_34 H locs hP hD hS ls hl
              refine (hWW _ _ _ _ _).mpr ?_
              have hR_35 : m_wake_t22n k i4 z4 = m_wake_j111 k i4 z4 s_18 x_23 s_27 x_32 := (Eq.trans hR_29 (by have q_ := h_34.symm; subst q_; unfold m_wake_k91; rfl))
              refine lv_ladd hx hb dX6_wake_111 ?_
              refine m_putJ (v := ((s_27.2 30)) + (x_32)) hx hb hts hin hown hK hP hD hS 30 (by decide) rfl (by decide +kernel) rfl (index := 162) (List.mem_of_getElem? (i := 4) rfl) dX6_wake_112 (fun H locs hP hD hS => ?_)
              have q_36 : (sl s_27 30 (((s_27.2 30)) + (x_32))) = m_wake_t22n k i4 z4 := (Eq.trans (by unfold m_wake_j111; rfl) hR_35.symm)
              exact (hWW _ _ _ _ _).mp (J115_15 _ (by rw [if_neg c_12]; exact q_36) _ _ hP hD hS _ (lv_sub hl [1, 2, 3, 4, 5] rfl))
            refine lv_if_eq (x := (m_isLake s_27 (nI (k)))) (tgt := 108) hx hb dX6_wake_101 (by decide) (fun c_30 => ?_) (fun c_30 => ?_)
            · refine lv_iload hx hb dX6_wake_108 (lv_at hl 0 rfl) ?_
              refine lv_i2l (v := ((m_lesser ((((((m_degreesOf z4 (nI (5 * k + i4)))).toInt64) * (((z4.1 11 (5 * k + i4))).toInt64)) / ((1000 : Int64))).toInt32) (z4.1 11 (5 * k + i4)))).toInt64) hx hb dX6_wake_110 rfl ?_
              exact (hWW _ _ _ _ _).mp (J111_33 _ (by simp only [if_pos c_30]) _ _ hP hD hS _ (lv_sub hl [0, 1, 2, 3, 4, 5] rfl))
            · refine lv_lconst (v := 0) hx hb dX6_wake_104 (by decide) ?_
              refine lv_goto (tgt := 111) hx hb dX6_wake_105 (by decide) ?_
              exact (hWW _ _ _ _ _).mp (J111_33 _ (by simp only [if_neg c_30]) _ _ hP hD hS _ (lv_sub hl [0, 1, 2, 3, 4, 5] rfl))
          refine lv_if_eq (x := (m_isLake s_18 (nI (k)))) (tgt := 86) hx hb dX6_wake_77 (by decide) (fun c_21 => ?_) (fun c_21 => ?_)
          · refine lv_lconst (v := 0) hx hb dX6_wake_86 (by decide) ?_
            exact (hWW _ _ _ _ _).mp (J87_24 _ (by simp only [if_pos c_21]) _ _ hP hD hS _ (lv_sub hl [0, 1, 2, 3, 4, 5] rfl))
          · refine lv_iload hx hb dX6_wake_80 (lv_at hl 0 rfl) ?_
            refine lv_i2l (v := ((m_lesser ((((((m_degreesOf z4 (nI (5 * k + i4)))).toInt64) * (((z4.1 11 (5 * k + i4))).toInt64)) / ((1000 : Int64))).toInt32) (z4.1 11 (5 * k + i4)))).toInt64) hx hb dX6_wake_82 rfl ?_
            refine lv_goto (tgt := 87) hx hb dX6_wake_83 (by decide) ?_
            exact (hWW _ _ _ _ _).mp (J87_24 _ (by simp only [if_neg c_21]) _ _ hP hD hS _ (lv_sub hl [0, 1, 2, 3, 4, 5] rfl))
  exact (hWW _ _ _ _ _).mp (L4 (5 + 1) 0 (Nat.zero_le _) (by omega) σ rfl  _ _ hP hD hS _ (lv_sub hl [0, 1, 2, 3] rfl))
