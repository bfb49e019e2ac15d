def m_crack_j132_s (σ : Sg) (z4 : Int32) (s_4 : Sg) (τ_9 : Sg) : Sg := τ_9
def m_crack_k120 (σ : Sg) (z4 : Int32) (s_4 : Sg) (s_15 : Sg) (s_18 : Sg) (s_21 : Sg) : Sg := (si s_21 10 ((((nI (5)) * (z4)) + (nI (1))).toNatClampNeg) (((s_21.1 10 ((((nI (5)) * (z4)) + (nI (1))).toNatClampNeg))) + (nI (1000))))
def m_crack_k110 (σ : Sg) (z4 : Int32) (s_4 : Sg) (s_15 : Sg) (s_18 : Sg) : Sg := (m_crack_k120 σ z4 s_4 s_15 s_18 (si s_18 2 ((z4).toNatClampNeg) (((s_18.1 2 ((z4).toNatClampNeg))) + (nI (1)))))
def m_crack_k100 (σ : Sg) (z4 : Int32) (s_4 : Sg) (s_15 : Sg) : Sg := (m_crack_k110 σ z4 s_4 s_15 (si s_15 9 ((((nI (5)) * (z4)) + (nI (1))).toNatClampNeg) (((s_15.1 9 ((((nI (5)) * (z4)) + (nI (1))).toNatClampNeg))) + (nI (1)))))
def m_crack_t76n (σ : Sg) (z4 : Int32) (s_4 : Sg) : Sg := (if nI (9) ≤ (s_4.1 9 ((((nI (5)) * (z4)) + (nI (1))).toNatClampNeg)) then s_4 else (m_crack_k100 σ z4 s_4 (si s_4 3 ((z4).toNatClampNeg) (((s_4.1 3 ((z4).toNatClampNeg))) - (nI (1))))))
def m_crack_k70_s (σ : Sg) (z4 : Int32) (s_4 : Sg) : Sg := (m_crack_j132_s σ z4 s_4 (if (s_4.1 3 ((z4).toNatClampNeg)) ≤ 0 then s_4 else (m_crack_t76n σ z4 s_4)))
def m_crack_x4_s (σ : Sg) (z4 : Int32) : Sg := (if (m_degreesOf σ (((nI (5)) * (z4)) + (nI (1)))) ≤ (-10) then (m_crack_k70_s σ z4 (si σ 6 ((z4).toNatClampNeg) (((σ.1 6 ((z4).toNatClampNeg))) + (nI (1))))) else σ)
def m_crack_j36 (σ : Sg) (i4 : Nat) (z4 : Int32) (x_27 : Int32) : Int32 := x_27
def m_crack_b4 (σ : Sg) (i4 : Nat) (z4 : Int32) : Int32 := (m_crack_j36 σ i4 z4 (if (m_degreesOf σ (((nI (5)) * (z4)) + (nI (1)))) ≤ (m_degreesOf σ (nI ((5 * (1 + i4)) + 1))) then z4 else nI (1 + i4)))
def m_crack_s (σ : Sg) : Sg := (m_crack_x4_s σ (lp (m_crack_b4 σ) 24 (nI (0))))
theorem m_crack_inv (σ : Sg) (i : Nat) (hi : i ≤ 24) : vp_in (lp (m_crack_b4 σ) i (nI 0)) 25 := by
  refine lp_invB (P := fun _ z => vp_in z 25) (N := 24) (vp_in_nI (by decide) (by decide)) ?_ i hi
  intro i z hi hz
  simp only [m_crack_b4, m_crack_j132_s, m_crack_k120, m_crack_k110, m_crack_k100, m_crack_t76n, m_crack_k70_s, m_crack_x4_s, m_crack_j36, m_crack_s]
  split
  · exact hz
  · exact vp_in_nI (by omega) (by decide)
set_option maxHeartbeats 4000000 in
set_option maxRecDepth 100000 in
theorem cm_crack (l : Launch) (G : va_G) (cI cZ : ClassId) (a : Nat → Nat) (σ : Sg)  : mV l yX6_crack wsX6_crack ({ frames := 1, cells := 0, slots := 0, locals := 22 } : Room) G cI cZ a σ [] (m_crack_s σ) := by
  unfold mV
  refine Met.ofW (cc := cX6_crack) (maxL := 3) (ret := none) (by decide) rfl ?_
  intro p e s m args below meth c s₁ B hml hv
  obtain ⟨rfl, hP, hK, hD⟩ := hv
  have hx := B.exec
  have hb := B.bytes
  have hr := B.returns
  have hts := atoms_spec (ws := wsX6_crack) B.pre
  have hown : s.vm.findClass RX6 = some m.cls := findClass_of_methodNamed B.named
  have hlocks := B.notSynchronized
  have hS : va_S (mA a) s.heap s.heap [] := va_S.rf
  have hin : ∀ w ∈ wsX60, w ∈ wsX6_crack := fun w h => List.mem_cons_of_mem _ (List.mem_append_right _ h)
  have hl := lv_entry ([.ref (a 0)]) (n := 3) (Nat.le_of_ble_eq_true rfl)
  rw [lg_entry_eq]
  generalize (lg_sl ([.ref (a 0)]) ++ List.replicate (3 - (lg_sl ([.ref (a 0)])).length) Slot.unset).toArray = ls at hl ⊢
  have hl : lv_has ls 3 [(0, .ref (a 0))] := hl
  refine w_named (fun WW hWW => ?_)
  have hP : va_P G vwCl (wm cI cZ a σ) s.heap := hP
  refine lv_iconst (v := nI (0)) hx hb dX6_crack_0 (by decide) ?_
  refine lv_istore_n (lv' := [(1, .int (nI (0))), (0, .ref (a 0))]) hx hb dX6_crack_1 rfl hl (by decide) rfl (fun ls hl => ?_)
  refine lv_iconst (v := nI (1)) hx hb dX6_crack_2 (by decide) ?_
  refine lv_istore_n (lv' := [(2, .int (nI (1))), (1, .int (nI (0))), (0, .ref (a 0))]) hx hb dX6_crack_3 rfl hl (by decide) rfl (fun ls hl => ?_)
  have L4 : ∀ (n4 i4 : Nat), i4 ≤ 24 → 24 + 1 ≤ i4 + n4 → ∀ (z4 : Int32), z4 = lp (m_crack_b4 σ) i4 (nI (0)) → ∀ (H : Heap) (locs : List Loc), va_P G vwCl (wm cI cZ a σ) H → va_D (mA a) (wm cI cZ a σ) → va_S (mA a) s.heap H locs → ∀ (ls : Array Slot), lv_has ls 3 [(2, .int (nI (1 + i4))), (1, .int (z4)), (0, .ref (a 0))] → WW H locs 0 0 (F0 m 4 ls []) := by
    intro n4
    induction n4 with
    | zero => intro i4 h1 h2; exact absurd h2 (by omega)
    | succ n4 ih4 =>
      intro i4 hi4 hn4 z4 hz4  H locs hP hD hS ls hl
      refine (hWW _ _ _ _ _).mpr ?_
      have hv := m_crack_inv σ i4 hi4; rw [← hz4] at hv
      refine lv_iload_n hx hb dX6_crack_4 rfl (lv_at hl 0 rfl) ?_
      refine lv_bipush (v := nI (25)) hx hb dX6_crack_5 (by decide) ?_
      refine n_icmp_ge (x := 1 + i4) (y := 25) (tgt := 43) hx hb (by omega) (by omega) dX6_crack_7 (by decide) (fun c_1 => ?_) (fun c_1 => ?_)
      · have hiN : 24 = i4 := by omega
        subst hiN
        have hR_2 : m_crack_s σ = m_crack_x4_s σ z4 := (by have q_ := hz4.symm; subst q_; unfold m_crack_s; rfl)
        have hq : vp_in z4 25 := hv
        have hq5 : vp_in (nI (5) * z4 + nI (1)) 125 := vp_5l hv (vp_in_nI (by decide) (by decide))
        refine lv_iconst (v := nI (5)) hx hb dX6_crack_43 (by decide) ?_
        refine lv_iload_n hx hb dX6_crack_44 rfl (lv_at hl 1 rfl) ?_
        refine lv_imul (x := nI (5)) (y := z4) hx hb dX6_crack_45 ?_
        refine lv_iconst (v := nI (1)) hx hb dX6_crack_46 (by decide) ?_
        refine lv_iadd (x := (nI (5)) * (z4)) (y := nI (1)) hx hb dX6_crack_47 ?_
        refine lv_istore_n (lv' := [(2, .int (((nI (5)) * (z4)) + (nI (1)))), (1, .int (z4)), (0, .ref (a 0))]) hx hb dX6_crack_48 rfl hl (by decide) rfl (fun ls hl => ?_)
        refine lv_aload_n hx hb dX6_crack_49 rfl (lv_at hl 2 rfl) ?_
        refine lv_iload_n hx hb dX6_crack_50 rfl (lv_at hl 0 rfl) ?_
        refine m_callI (As := [.int (((nI (5)) * (z4)) + (nI (1)))]) (rest := []) (fun _ h => h) ⟨hx, hb, hml, hown, hts⟩ (cm_degreesOf l G cI cZ a σ  (((nI (5)) * (z4)) + (nI (1))) hq5) (cwV 1 hts gX6_crack_X6_degreesOf rfl rfl rfl (by decide +kernel) ⟨Nat.le_of_ble_eq_true rfl, Nat.le_of_ble_eq_true rfl⟩) hK hP hD hS rfl hl.1 rfl (Nat.le_of_ble_eq_true rfl) dX6_crack_51 ⟨Nat.zero_le _, Nat.zero_le _⟩ (fun H locs hP hD _ _ hS => ?_)
        refine lv_bipush (v := (-10)) hx hb dX6_crack_54 (by decide) ?_
        refine lv_icmp_le (x := (m_degreesOf σ (((nI (5)) * (z4)) + (nI (1))))) (y := (-10)) (tgt := 60) hx hb dX6_crack_56 (by decide) (fun c_3 => ?_) (fun c_3 => ?_)
        · refine lv_aload_n hx hb dX6_crack_60 rfl (lv_at hl 2 rfl) ?_
          refine m_get (v := .ref (a 6)) hx hb hts hin hown hK hP 6 (by decide) rfl (index := 22) (List.mem_of_getElem? (i := 1) rfl) dX6_crack_61 ?_
          refine lv_iload_n hx hb dX6_crack_64 rfl (lv_at hl 1 rfl) ?_
          refine lv_dup2_11 hx hb dX6_crack_65 rfl rfl ?_
          refine m_aldI (j := z4) hx hb hK hP 5 6 rfl (hq) dX6_crack_66 ?_
          refine W.eq (g2 := F0 m 67 ls [.int ((σ.1 6 ((z4).toNatClampNeg))), .int (z4), .ref (a 6)]) rfl ?_
          refine lv_iconst (v := nI (1)) hx hb dX6_crack_67 (by decide) ?_
          refine lv_iadd (x := (σ.1 6 ((z4).toNatClampNeg))) (y := nI (1)) hx hb dX6_crack_68 ?_
          refine m_astI (j := z4) (v := ((σ.1 6 ((z4).toNatClampNeg))) + (nI (1))) hx hb hK hP hD hS 5 6 rfl rfl (hq) dX6_crack_69 (fun H locs hP hD hS => ?_)
          obtain ⟨s_4, e_5⟩ : ∃ z : Sg, z = (si σ 6 ((z4).toNatClampNeg) (((σ.1 6 ((z4).toNatClampNeg))) + (nI (1)))) := ⟨_, rfl⟩
          rw [← e_5] at hP hD
          have hR_6 : m_crack_s σ = m_crack_k70_s σ z4 s_4 := (Eq.trans hR_2 (by have q_ := e_5.symm; subst q_; unfold m_crack_x4_s; simp only [if_pos c_3]))
          refine lv_aload_n hx hb dX6_crack_70 rfl (lv_at hl 2 rfl) ?_
          refine m_get (v := .ref (a 3)) hx hb hts hin hown hK hP 3 (by decide) rfl (index := 13) (List.mem_of_getElem? (i := 2) rfl) dX6_crack_71 ?_
          refine lv_iload_n hx hb dX6_crack_74 rfl (lv_at hl 1 rfl) ?_
          refine m_aldI (j := z4) hx hb hK hP 2 3 rfl (hq) dX6_crack_75 ?_
          refine W.eq (g2 := F0 m 76 ls [.int ((s_4.1 3 ((z4).toNatClampNeg)))]) rfl ?_
          have J132_10 : ∀ (τ_9 : Sg), τ_9 = (if (s_4.1 3 ((z4).toNatClampNeg)) ≤ 0 then s_4 else (m_crack_t76n σ z4 s_4)) → ∀ (H : Heap) (locs : List Loc), va_P G vwCl (wm cI cZ a τ_9) H → va_D (mA a) (wm cI cZ a τ_9) → va_S (mA a) s.heap H locs → ∀ (ls : Array Slot), lv_has ls 3 [(2, .int (((nI (5)) * (z4)) + (nI (1)))), (1, .int (z4)), (0, .ref (a 0))] → WW H locs 0 0 (F0 m 132 ls []) := by
            intro τ_9 h_11 H locs hP hD hS ls hl
            refine (hWW _ _ _ _ _).mpr ?_
            have hR_12 : m_crack_s σ = m_crack_j132_s σ z4 s_4 τ_9 := (Eq.trans hR_6 (by have q_ := h_11.symm; subst q_; unfold m_crack_k70_s; rfl))
            exact m_vret hx hb hr hlocks hP hK hD hS dX6_crack_132 (Eq.trans (by unfold m_crack_j132_s; rfl) hR_12.symm)
          refine lv_if_le (x := (s_4.1 3 ((z4).toNatClampNeg))) (tgt := 132) hx hb dX6_crack_76 (by decide) (fun c_7 => ?_) (fun c_7 => ?_)
          · exact (hWW _ _ _ _ _).mp (J132_10 _ (by simp only [if_pos c_7]) _ _ hP hD hS _ (lv_sub hl [0, 1, 2] rfl))
          · refine lv_aload_n hx hb dX6_crack_79 rfl (lv_at hl 2 rfl) ?_
            refine m_get (v := .ref (a 9)) hx hb hts hin hown hK hP 9 (by decide) rfl (index := 31) (List.mem_of_getElem? (i := 3) rfl) dX6_crack_80 ?_
            refine lv_iload_n hx hb dX6_crack_83 rfl (lv_at hl 0 rfl) ?_
            refine m_aldI (j := ((nI (5)) * (z4)) + (nI (1))) hx hb hK hP 8 9 rfl (hq5) dX6_crack_84 ?_
            refine W.eq (g2 := F0 m 85 ls [.int ((s_4.1 9 ((((nI (5)) * (z4)) + (nI (1))).toNatClampNeg)))]) rfl ?_
            refine lv_bipush (v := nI (9)) hx hb dX6_crack_85 (by decide) ?_
            refine lv_icmp_ge (x := (s_4.1 9 ((((nI (5)) * (z4)) + (nI (1))).toNatClampNeg))) (y := nI (9)) (tgt := 132) hx hb dX6_crack_87 (by decide) (fun c_13 => ?_) (fun c_13 => ?_)
            · have q_14 : s_4 = m_crack_t76n σ z4 s_4 := (by unfold m_crack_t76n; simp only [if_pos c_13])
              exact (hWW _ _ _ _ _).mp (J132_10 _ (by rw [if_neg c_7]; exact q_14) _ _ hP hD hS _ (lv_sub hl [0, 1, 2] rfl))
            · refine lv_aload_n hx hb dX6_crack_90 rfl (lv_at hl 2 rfl) ?_
              refine m_get (v := .ref (a 3)) hx hb hts hin hown hK hP 3 (by decide) rfl (index := 13) (List.mem_of_getElem? (i := 2) rfl) dX6_crack_91 ?_
              refine lv_iload_n hx hb dX6_crack_94 rfl (lv_at hl 1 rfl) ?_
              refine lv_dup2_11 hx hb dX6_crack_95 rfl rfl ?_
              refine m_aldI (j := z4) hx hb hK hP 2 3 rfl (hq) dX6_crack_96 ?_
              refine W.eq (g2 := F0 m 97 ls [.int ((s_4.1 3 ((z4).toNatClampNeg))), .int (z4), .ref (a 3)]) rfl ?_
              refine lv_iconst (v := nI (1)) hx hb dX6_crack_97 (by decide) ?_
              refine lv_isub (x := (s_4.1 3 ((z4).toNatClampNeg))) (y := nI (1)) hx hb dX6_crack_98 ?_
              refine m_astI (j := z4) (v := ((s_4.1 3 ((z4).toNatClampNeg))) - (nI (1))) hx hb hK hP hD hS 2 3 rfl rfl (hq) dX6_crack_99 (fun H locs hP hD hS => ?_)
              obtain ⟨s_15, e_16⟩ : ∃ z : Sg, z = (si s_4 3 ((z4).toNatClampNeg) (((s_4.1 3 ((z4).toNatClampNeg))) - (nI (1)))) := ⟨_, rfl⟩
              rw [← e_16] at hP hD
              have hR_17 : m_crack_t76n σ z4 s_4 = m_crack_k100 σ z4 s_4 s_15 := (by have q_ := e_16.symm; subst q_; unfold m_crack_t76n; simp only [if_neg c_13])
              refine lv_aload_n hx hb dX6_crack_100 rfl (lv_at hl 2 rfl) ?_
              refine m_get (v := .ref (a 9)) hx hb hts hin hown hK hP 9 (by decide) rfl (index := 31) (List.mem_of_getElem? (i := 3) rfl) dX6_crack_101 ?_
              refine lv_iload_n hx hb dX6_crack_104 rfl (lv_at hl 0 rfl) ?_
              refine lv_dup2_11 hx hb dX6_crack_105 rfl rfl ?_
              refine m_aldI (j := ((nI (5)) * (z4)) + (nI (1))) hx hb hK hP 8 9 rfl (hq5) dX6_crack_106 ?_
              refine W.eq (g2 := F0 m 107 ls [.int ((s_15.1 9 ((((nI (5)) * (z4)) + (nI (1))).toNatClampNeg))), .int (((nI (5)) * (z4)) + (nI (1))), .ref (a 9)]) rfl ?_
              refine lv_iconst (v := nI (1)) hx hb dX6_crack_107 (by decide) ?_
              refine lv_iadd (x := (s_15.1 9 ((((nI (5)) * (z4)) + (nI (1))).toNatClampNeg))) (y := nI (1)) hx hb dX6_crack_108 ?_
              refine m_astI (j := ((nI (5)) * (z4)) + (nI (1))) (v := ((s_15.1 9 ((((nI (5)) * (z4)) + (nI (1))).toNatClampNeg))) + (nI (1))) hx hb hK hP hD hS 8 9 rfl rfl (hq5) dX6_crack_109 (fun H locs hP hD hS => ?_)
              obtain ⟨s_18, e_19⟩ : ∃ z : Sg, z = (si s_15 9 ((((nI (5)) * (z4)) + (nI (1))).toNatClampNeg) (((s_15.1 9 ((((nI (5)) * (z4)) + (nI (1))).toNatClampNeg))) + (nI (1)))) := ⟨_, rfl⟩
              rw [← e_19] at hP hD
              have hR_20 : m_crack_t76n σ z4 s_4 = m_crack_k110 σ z4 s_4 s_15 s_18 := (Eq.trans hR_17 (by have q_ := e_19.symm; subst q_; unfold m_crack_k100; rfl))
              refine lv_aload_n hx hb dX6_crack_110 rfl (lv_at hl 2 rfl) ?_
              refine m_get (v := .ref (a 2)) hx hb hts hin hown hK hP 2 (by decide) rfl (index := 7) (List.mem_of_getElem? (i := 4) rfl) dX6_crack_111 ?_
              refine lv_iload_n hx hb dX6_crack_114 rfl (lv_at hl 1 rfl) ?_
              refine lv_dup2_11 hx hb dX6_crack_115 rfl rfl ?_
              refine m_aldI (j := z4) hx hb hK hP 1 2 rfl (hq) dX6_crack_116 ?_
              refine W.eq (g2 := F0 m 117 ls [.int ((s_18.1 2 ((z4).toNatClampNeg))), .int (z4), .ref (a 2)]) rfl ?_
              refine lv_iconst (v := nI (1)) hx hb dX6_crack_117 (by decide) ?_
              refine lv_iadd (x := (s_18.1 2 ((z4).toNatClampNeg))) (y := nI (1)) hx hb dX6_crack_118 ?_
              refine m_astI (j := z4) (v := ((s_18.1 2 ((z4).toNatClampNeg))) + (nI (1))) hx hb hK hP hD hS 1 2 rfl rfl (hq) dX6_crack_119 (fun H locs hP hD hS => ?_)
              obtain ⟨s_21, e_22⟩ : ∃ z : Sg, z = (si s_18 2 ((z4).toNatClampNeg) (((s_18.1 2 ((z4).toNatClampNeg))) + (nI (1)))) := ⟨_, rfl⟩
              rw [← e_22] at hP hD
              have hR_23 : m_crack_t76n σ z4 s_4 = m_crack_k120 σ z4 s_4 s_15 s_18 s_21 := (Eq.trans hR_20 (by have q_ := e_22.symm; subst q_; unfold m_crack_k110; rfl))
              refine lv_aload_n hx hb dX6_crack_120 rfl (lv_at hl 2 rfl) ?_
              refine m_get (v := .ref (a 10)) hx hb hts hin hown hK hP 10 (by decide) rfl (index := 34) (List.mem_of_getElem? (i := 5) rfl) dX6_crack_121 ?_
              refine lv_iload_n hx hb dX6_crack_124 rfl (lv_at hl 0 rfl) ?_
              refine lv_dup2_11 hx hb dX6_crack_125 rfl rfl ?_
              refine m_aldI (j := ((nI (5)) * (z4)) + (nI (1))) hx hb hK hP 9 10 rfl (hq5) dX6_crack_126 ?_
              refine W.eq (g2 := F0 m 127 ls [.int ((s_21.1 10 ((((nI (5)) * (z4)) + (nI (1))).toNatClampNeg))), .int (((nI (5)) * (z4)) + (nI (1))), .ref (a 10)]) rfl ?_
              refine lv_sipush (v := nI (1000)) hx hb dX6_crack_127 (by decide) ?_
              refine lv_iadd (x := (s_21.1 10 ((((nI (5)) * (z4)) + (nI (1))).toNatClampNeg))) (y := nI (1000)) hx hb dX6_crack_130 ?_
              refine m_astI (j := ((nI (5)) * (z4)) + (nI (1))) (v := ((s_21.1 10 ((((nI (5)) * (z4)) + (nI (1))).toNatClampNeg))) + (nI (1000))) hx hb hK hP hD hS 9 10 rfl rfl (hq5) dX6_crack_131 (fun H locs hP hD hS => ?_)
              have q_24 : (si s_21 10 ((((nI (5)) * (z4)) + (nI (1))).toNatClampNeg) (((s_21.1 10 ((((nI (5)) * (z4)) + (nI (1))).toNatClampNeg))) + (nI (1000)))) = m_crack_t76n σ z4 s_4 := (Eq.trans (by unfold m_crack_k120; rfl) hR_23.symm)
              exact (hWW _ _ _ _ _).mp (J132_10 _ (by rw [if_neg c_7]; exact q_24) _ _ hP hD hS _ (lv_sub hl [0, 1, 2] rfl))
        · exact m_vret hx hb hr hlocks hP hK hD hS dX6_crack_59 (Eq.trans (by unfold m_crack_x4_s; simp only [if_neg c_3]) hR_2.symm)
      · refine lv_aload_n hx hb dX6_crack_10 rfl (lv_at hl 2 rfl) ?_
        refine lv_iconst (v := nI (5)) hx hb dX6_crack_11 (by decide) ?_
        refine lv_iload_n hx hb dX6_crack_12 rfl (lv_at hl 0 rfl) ?_
        refine n_mul (x := 5) (y := 1 + i4) hx hb dX6_crack_13 ?_
        refine lv_iconst (v := nI (1)) hx hb dX6_crack_14 (by decide) ?_
        refine n_add (x := 5 * (1 + i4)) (y := 1) hx hb dX6_crack_15 ?_
        refine m_callI (As := [.int (nI ((5 * (1 + i4)) + 1))]) (rest := []) (fun _ h => h) ⟨hx, hb, hml, hown, hts⟩ (cm_degreesOf l G cI cZ a σ  (nI ((5 * (1 + i4)) + 1)) (vp_in_nI (by omega) (by decide))) (cwV 1 hts gX6_crack_X6_degreesOf rfl rfl rfl (by decide +kernel) ⟨Nat.le_of_ble_eq_true rfl, Nat.le_of_ble_eq_true rfl⟩) hK hP hD hS rfl hl.1 rfl (Nat.le_of_ble_eq_true rfl) dX6_crack_16 ⟨Nat.zero_le _, Nat.zero_le _⟩ (fun H locs hP hD _ _ hS => ?_)
        refine lv_aload_n hx hb dX6_crack_19 rfl (lv_at hl 2 rfl) ?_
        refine lv_iconst (v := nI (5)) hx hb dX6_crack_20 (by decide) ?_
        refine lv_iload_n hx hb dX6_crack_21 rfl (lv_at hl 1 rfl) ?_
        refine lv_imul (x := nI (5)) (y := z4) hx hb dX6_crack_22 ?_
        refine lv_iconst (v := nI (1)) hx hb dX6_crack_23 (by decide) ?_
        refine lv_iadd (x := (nI (5)) * (z4)) (y := nI (1)) hx hb dX6_crack_24 ?_
        refine m_callI (As := [.int (((nI (5)) * (z4)) + (nI (1)))]) (rest := [.int ((m_degreesOf σ (nI ((5 * (1 + i4)) + 1))))]) (fun _ h => h) ⟨hx, hb, hml, hown, hts⟩ (cm_degreesOf l G cI cZ a σ  (((nI (5)) * (z4)) + (nI (1))) (vp_5l hv (vp_in_nI (by decide) (by decide)))) (cwV 1 hts gX6_crack_X6_degreesOf rfl rfl rfl (by decide +kernel) ⟨Nat.le_of_ble_eq_true rfl, Nat.le_of_ble_eq_true rfl⟩) hK hP hD hS rfl hl.1 rfl (Nat.le_of_ble_eq_true rfl) dX6_crack_25 ⟨Nat.zero_le _, Nat.zero_le _⟩ (fun H locs hP hD _ _ hS => ?_)
        have J36_28 : ∀ (x_27 : Int32), x_27 = (if (m_degreesOf σ (((nI (5)) * (z4)) + (nI (1)))) ≤ (m_degreesOf σ (nI ((5 * (1 + i4)) + 1))) then z4 else nI (1 + i4)) → ∀ (H : Heap) (locs : List Loc), va_P G vwCl (wm cI cZ a σ) H → va_D (mA a) (wm cI cZ a σ) → va_S (mA a) s.heap H locs → ∀ (ls : Array Slot), lv_has ls 3 [(2, .int (nI (1 + i4))), (1, .int (z4)), (0, .ref (a 0))] → WW H locs 0 0 (F0 m 36 ls [.int (x_27)]) := by
          intro x_27 h_29 H locs hP hD hS ls hl
          refine (hWW _ _ _ _ _).mpr ?_
          have hR_30 : m_crack_b4 σ i4 z4 = m_crack_j36 σ i4 z4 x_27 := (by have q_ := h_29.symm; subst q_; unfold m_crack_b4; rfl)
          refine lv_istore_n (lv' := [(1, .int (x_27)), (2, .int (nI (1 + i4))), (0, .ref (a 0))]) hx hb dX6_crack_36 rfl hl (by decide) rfl (fun ls hl => ?_)
          refine n_iinc (x := 1 + i4) (dN := 1) (k := 1) (lv' := [(2, .int (nI (1 + i4 + 1))), (1, .int (x_27)), (0, .ref (a 0))]) hx hb dX6_crack_37 hl rfl (by decide) rfl (fun ls hl => ?_)
          refine lv_goto (tgt := 4) hx hb dX6_crack_40 (by decide) ?_
          exact (hWW _ _ _ _ _).mp (ih4 (i4 + 1) (by omega) (by omega) (x_27) (by show _ = m_crack_b4 σ i4 (lp (m_crack_b4 σ) i4 (nI (0))); rw [← hz4]; exact (Eq.trans (by unfold m_crack_j36; rfl) hR_30.symm))  _ _ hP hD hS _ (lv_sub hl [0, 1, 2] rfl))
        refine lv_icmp_ge (x := (m_degreesOf σ (nI ((5 * (1 + i4)) + 1)))) (y := (m_degreesOf σ (((nI (5)) * (z4)) + (nI (1))))) (tgt := 35) hx hb dX6_crack_28 (by decide) (fun c_25 => ?_) (fun c_25 => ?_)
        · refine lv_iload_n hx hb dX6_crack_35 rfl (lv_at hl 1 rfl) ?_
          exact (hWW _ _ _ _ _).mp (J36_28 _ (by simp only [if_pos c_25]) _ _ hP hD hS _ (lv_sub hl [0, 1, 2] rfl))
        · refine lv_iload_n hx hb dX6_crack_31 rfl (lv_at hl 0 rfl) ?_
          refine lv_goto (tgt := 36) hx hb dX6_crack_32 (by decide) ?_
          exact (hWW _ _ _ _ _).mp (J36_28 _ (by simp only [if_neg c_25]) _ _ hP hD hS _ (lv_sub hl [0, 1, 2] rfl))
  exact (hWW _ _ _ _ _).mp (L4 (24 + 1) 0 (Nat.zero_le _) (by omega) (nI (0)) rfl  _ _ hP hD hS _ (lv_sub hl [0, 1, 2] rfl))
