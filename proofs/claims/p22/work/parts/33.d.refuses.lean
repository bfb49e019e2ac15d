set_option maxHeartbeats 4000000 in
set_option maxRecDepth 100000 in
/-- refused calls change nothing -/
theorem hc_refuses (l : Launch) (hl0 : l.stackTraces = false) (G : va_G) (ids : Nat → ClassId) (tS tE o z : Nat) {σ : Sg} (h : IV σ) : HC l yL_refuses wsL_refuses ({ frames := 10, cells := 300, slots := 9000, locals := 209 } : Room) G ids tS tE o z [.ref (o)] σ 300 9000 := by
  unfold HC
  refine Met.ofW (cc := cL_refuses) (maxL := 5) (ret := (some .boolean)) (by decide) rfl ?_
  intro p e s m args below meth c s₁ B hml hv
  obtain ⟨rfl, hP, hK, hZ, hN⟩ := hv
  have hx := B.exec
  have hb := B.bytes
  have hr := B.returns
  have hts := atoms_spec (ws := wsL_refuses) B.pre
  have hown : s.vm.findClass RL = some m.cls := findClass_of_methodNamed B.named
  have hlocks := B.notSynchronized
  have hA : ∀ q, cpG o z q → cpG o z q := fun _ h => h
  have hS : va_S (cpG o z) s.heap s.heap [] := va_S.rf
  have hl := lv_entry ([.ref (o)]) (n := 5) (Nat.le_of_ble_eq_true rfl)
  rw [lg_entry_eq]
  generalize (lg_sl ([.ref (o)]) ++ List.replicate (5 - (lg_sl ([.ref (o)])).length) Slot.unset).toArray = ls at hl ⊢
  have hl : lv_has ls 5 [(0, .ref (o))] := hl
  refine w_named (fun WW hWW => ?_)
  obtain ⟨H, hH⟩ : ∃ H : Heap, H = s.heap := ⟨_, rfl⟩
  obtain ⟨locs, hL9⟩ : ∃ L : List Loc, L = [] := ⟨_, rfl⟩
  rw [← hH] at hP
  have hS : va_S (cpG o z) s.heap H locs := by rw [hH, hL9]; exact hS
  refine w_at (H := H) (locs := locs) hH hL9 ?_
  have hmo := h.mo.2
  refine lv_aload_n hx hb dL_refuses_0 rfl (lv_at hl 0 rfl) ?_
  refine l_month (rest := []) ⟨hx, hb, hml, hown, hts⟩ (cwV 0 hts gL_refuses_X5_month rfl rfl rfl (by decide +kernel) ⟨Nat.le_of_ble_eq_true rfl, Nat.le_of_ble_eq_true rfl⟩) hK hZ hA hP hS hl.1 (Nat.le_of_ble_eq_true rfl) dL_refuses_1 ⟨by show (0) + 0 ≤ 300; omega, by show (0) + 0 ≤ 9000; omega⟩ (fun H locs hP hS hz9 hk9 => ?_)
  clear hz9 hk9
  refine l_top (show Value.int (σ.1 1 0) = Value.int (nI (mon σ)) from congrArg Value.int h.mo.1) ?_
  refine lv_istore_n (lv' := [(1, .int (nI (mon σ))), (0, .ref (o))]) hx hb dL_refuses_4 rfl hl (by decide) rfl (fun ls hl => ?_)
  refine lv_aload_n hx hb dL_refuses_5 rfl (lv_at hl 1 rfl) ?_
  refine lv_iconst (v := nI (0)) hx hb dL_refuses_6 (by decide) ?_
  refine lv_iconst (v := nI (0)) hx hb dL_refuses_7 (by decide) ?_
  refine l_read (As := [.ref (o), .int (nI (0)), .int (nI (0))]) (rest := []) ⟨hx, hb, hml, hown, hts⟩ (rdb0 hl0 h (k := 0) (by omega)) (vx_cwSW 3 hts gL_refuses_L_balance rfl rfl rfl (by decide +kernel) ⟨Nat.le_of_ble_eq_true rfl, Nat.le_of_ble_eq_true rfl⟩) hK hZ hN hA hP hS rfl hl.1 rfl (Nat.le_of_ble_eq_true rfl) dL_refuses_8 ⟨by show (0) + 2 ≤ 300; omega, by show (0) + 12 ≤ 9000; omega⟩ (c1 := 0 + 2) (s1 := 0 + 12) (by omega) (by omega) (fun H locs hP hS hz9 hk9 => ?_)
  clear hz9 hk9
  refine lv_lstore_n (lv' := [(2, .long (bL σ 0)), (1, .int (nI (mon σ))), (0, .ref (o))]) hx hb dL_refuses_11 rfl hl (by decide) rfl (fun ls hl => ?_)
  refine lv_aload_n hx hb dL_refuses_12 rfl (lv_at hl 2 rfl) ?_
  refine lv_bipush (v := nI (25)) hx hb dL_refuses_13 (by decide) ?_
  refine lv_iconst (v := nI (0)) hx hb dL_refuses_15 (by decide) ?_
  refine lv_iconst (v := nI (0)) hx hb dL_refuses_16 (by decide) ?_
  refine lv_iconst (v := nI (0)) hx hb dL_refuses_17 (by decide) ?_
  refine lv_iconst (v := nI (0)) hx hb dL_refuses_18 (by decide) ?_
  refine lv_iconst (v := nI (0)) hx hb dL_refuses_19 (by decide) ?_
  refine l_read (As := [.ref (o), .int (nI (25)), .int (nI (0)), .int (nI (0)), .int (nI (0)), .int (nI (0)), .int (nI (0))]) (rest := []) ⟨hx, hb, hml, hown, hts⟩ (rno0 hl0) (vx_cwSW 7 hts gL_refuses_L_ground rfl rfl rfl (by decide +kernel) ⟨Nat.le_of_ble_eq_true rfl, Nat.le_of_ble_eq_true rfl⟩) hK hZ hN hA hP hS rfl hl.1 rfl (Nat.le_of_ble_eq_true rfl) dL_refuses_20 ⟨by show (0 + 2) + 6 ≤ 300; omega, by show (0 + 12) + 36 ≤ 9000; omega⟩ (c1 := 0 + 8) (s1 := 0 + 48) (by omega) (by omega) (fun H locs hP hS hz9 hk9 => ?_)
  clear hz9 hk9
  refine lv_ldc2 (own := RL) (v := -9000000000000000001) hx hb hown (hts _ (List.mem_of_getElem? (i := 1) rfl)) dL_refuses_23 ?_
  refine l_cne (x := lK 1) (y := (-9000000000000000001 : Int64)) (tgt := 249) hx hb dL_refuses_26 dL_refuses_27 (by decide) (fun c9 => absurd (rfl) c9) (fun _ => ?_)
  refine lv_aload_n hx hb dL_refuses_30 rfl (lv_at hl 2 rfl) ?_
  refine lv_iconst (v := nI (0)) hx hb dL_refuses_31 (by decide) ?_
  refine lv_iconst (v := nI (5)) hx hb dL_refuses_32 (by decide) ?_
  refine lv_iconst (v := nI (0)) hx hb dL_refuses_33 (by decide) ?_
  refine lv_iconst (v := nI (0)) hx hb dL_refuses_34 (by decide) ?_
  refine lv_iconst (v := nI (0)) hx hb dL_refuses_35 (by decide) ?_
  refine lv_iconst (v := nI (0)) hx hb dL_refuses_36 (by decide) ?_
  refine l_read (As := [.ref (o), .int (nI (0)), .int (nI (5)), .int (nI (0)), .int (nI (0)), .int (nI (0)), .int (nI (0))]) (rest := []) ⟨hx, hb, hml, hown, hts⟩ (rno1 hl0) (vx_cwSW 7 hts gL_refuses_L_ground rfl rfl rfl (by decide +kernel) ⟨Nat.le_of_ble_eq_true rfl, Nat.le_of_ble_eq_true rfl⟩) hK hZ hN hA hP hS rfl hl.1 rfl (Nat.le_of_ble_eq_true rfl) dL_refuses_37 ⟨by show (0 + 8) + 6 ≤ 300; omega, by show (0 + 48) + 36 ≤ 9000; omega⟩ (c1 := 0 + 14) (s1 := 0 + 84) (by omega) (by omega) (fun H locs hP hS hz9 hk9 => ?_)
  clear hz9 hk9
  refine lv_ldc2 (own := RL) (v := -9000000000000000001) hx hb hown (hts _ (List.mem_of_getElem? (i := 1) rfl)) dL_refuses_40 ?_
  refine l_cne (x := lK 1) (y := (-9000000000000000001 : Int64)) (tgt := 249) hx hb dL_refuses_43 dL_refuses_44 (by decide) (fun c9 => absurd (rfl) c9) (fun _ => ?_)
  refine lv_aload_n hx hb dL_refuses_47 rfl (lv_at hl 2 rfl) ?_
  refine lv_iconst (v := nI (0)) hx hb dL_refuses_48 (by decide) ?_
  refine lv_iconst (v := nI (0)) hx hb dL_refuses_49 (by decide) ?_
  refine lv_bipush (v := nI (10)) hx hb dL_refuses_50 (by decide) ?_
  refine lv_iconst (v := nI (0)) hx hb dL_refuses_52 (by decide) ?_
  refine lv_iconst (v := nI (0)) hx hb dL_refuses_53 (by decide) ?_
  refine lv_iconst (v := nI (0)) hx hb dL_refuses_54 (by decide) ?_
  refine l_read (As := [.ref (o), .int (nI (0)), .int (nI (0)), .int (nI (10)), .int (nI (0)), .int (nI (0)), .int (nI (0))]) (rest := []) ⟨hx, hb, hml, hown, hts⟩ (rno2 hl0) (vx_cwSW 7 hts gL_refuses_L_ground rfl rfl rfl (by decide +kernel) ⟨Nat.le_of_ble_eq_true rfl, Nat.le_of_ble_eq_true rfl⟩) hK hZ hN hA hP hS rfl hl.1 rfl (Nat.le_of_ble_eq_true rfl) dL_refuses_55 ⟨by show (0 + 14) + 6 ≤ 300; omega, by show (0 + 84) + 36 ≤ 9000; omega⟩ (c1 := 0 + 20) (s1 := 0 + 120) (by omega) (by omega) (fun H locs hP hS hz9 hk9 => ?_)
  clear hz9 hk9
  refine lv_ldc2 (own := RL) (v := -9000000000000000002) hx hb hown (hts _ (List.mem_of_getElem? (i := 2) rfl)) dL_refuses_58 ?_
  refine l_cne (x := lK 2) (y := (-9000000000000000002 : Int64)) (tgt := 249) hx hb dL_refuses_61 dL_refuses_62 (by decide) (fun c9 => absurd (rfl) c9) (fun _ => ?_)
  refine lv_aload_n hx hb dL_refuses_65 rfl (lv_at hl 2 rfl) ?_
  refine lv_iconst (v := nI (0)) hx hb dL_refuses_66 (by decide) ?_
  refine lv_iconst (v := nI (0)) hx hb dL_refuses_67 (by decide) ?_
  refine lv_iconst (v := nI (0)) hx hb dL_refuses_68 (by decide) ?_
  refine lv_iconst (v := (-1)) hx hb dL_refuses_69 (by decide) ?_
  refine lv_iconst (v := nI (0)) hx hb dL_refuses_70 (by decide) ?_
  refine lv_iconst (v := nI (0)) hx hb dL_refuses_71 (by decide) ?_
  refine l_read (As := [.ref (o), .int (nI (0)), .int (nI (0)), .int (nI (0)), .int ((-1)), .int (nI (0)), .int (nI (0))]) (rest := []) ⟨hx, hb, hml, hown, hts⟩ (rno3 hl0) (vx_cwSW 7 hts gL_refuses_L_ground rfl rfl rfl (by decide +kernel) ⟨Nat.le_of_ble_eq_true rfl, Nat.le_of_ble_eq_true rfl⟩) hK hZ hN hA hP hS rfl hl.1 rfl (Nat.le_of_ble_eq_true rfl) dL_refuses_72 ⟨by show (0 + 20) + 6 ≤ 300; omega, by show (0 + 120) + 36 ≤ 9000; omega⟩ (c1 := 0 + 26) (s1 := 0 + 156) (by omega) (by omega) (fun H locs hP hS hz9 hk9 => ?_)
  clear hz9 hk9
  refine lv_ldc2 (own := RL) (v := -9000000000000000002) hx hb hown (hts _ (List.mem_of_getElem? (i := 2) rfl)) dL_refuses_75 ?_
  refine l_cne (x := lK 2) (y := (-9000000000000000002 : Int64)) (tgt := 249) hx hb dL_refuses_78 dL_refuses_79 (by decide) (fun c9 => absurd (rfl) c9) (fun _ => ?_)
  refine lv_aload_n hx hb dL_refuses_82 rfl (lv_at hl 2 rfl) ?_
  refine lv_iconst (v := nI (0)) hx hb dL_refuses_83 (by decide) ?_
  refine lv_iconst (v := nI (0)) hx hb dL_refuses_84 (by decide) ?_
  refine lv_iconst (v := nI (0)) hx hb dL_refuses_85 (by decide) ?_
  refine lv_iconst (v := nI (0)) hx hb dL_refuses_86 (by decide) ?_
  refine lv_sipush (v := nI (30001)) hx hb dL_refuses_87 (by decide) ?_
  refine lv_iconst (v := nI (0)) hx hb dL_refuses_90 (by decide) ?_
  refine l_read (As := [.ref (o), .int (nI (0)), .int (nI (0)), .int (nI (0)), .int (nI (0)), .int (nI (30001)), .int (nI (0))]) (rest := []) ⟨hx, hb, hml, hown, hts⟩ (rno4 hl0) (vx_cwSW 7 hts gL_refuses_L_ground rfl rfl rfl (by decide +kernel) ⟨Nat.le_of_ble_eq_true rfl, Nat.le_of_ble_eq_true rfl⟩) hK hZ hN hA hP hS rfl hl.1 rfl (Nat.le_of_ble_eq_true rfl) dL_refuses_91 ⟨by show (0 + 26) + 6 ≤ 300; omega, by show (0 + 156) + 36 ≤ 9000; omega⟩ (c1 := 0 + 32) (s1 := 0 + 192) (by omega) (by omega) (fun H locs hP hS hz9 hk9 => ?_)
  clear hz9 hk9
  refine lv_ldc2 (own := RL) (v := -9000000000000000002) hx hb hown (hts _ (List.mem_of_getElem? (i := 2) rfl)) dL_refuses_94 ?_
  refine l_cne (x := lK 2) (y := (-9000000000000000002 : Int64)) (tgt := 249) hx hb dL_refuses_97 dL_refuses_98 (by decide) (fun c9 => absurd (rfl) c9) (fun _ => ?_)
  refine lv_aload_n hx hb dL_refuses_101 rfl (lv_at hl 2 rfl) ?_
  refine lv_iconst (v := nI (0)) hx hb dL_refuses_102 (by decide) ?_
  refine lv_iconst (v := nI (0)) hx hb dL_refuses_103 (by decide) ?_
  refine lv_iconst (v := nI (0)) hx hb dL_refuses_104 (by decide) ?_
  refine lv_iconst (v := nI (0)) hx hb dL_refuses_105 (by decide) ?_
  refine lv_iconst (v := nI (0)) hx hb dL_refuses_106 (by decide) ?_
  refine lv_sipush (v := nI (1001)) hx hb dL_refuses_107 (by decide) ?_
  refine l_read (As := [.ref (o), .int (nI (0)), .int (nI (0)), .int (nI (0)), .int (nI (0)), .int (nI (0)), .int (nI (1001))]) (rest := []) ⟨hx, hb, hml, hown, hts⟩ (rno5 hl0) (vx_cwSW 7 hts gL_refuses_L_ground rfl rfl rfl (by decide +kernel) ⟨Nat.le_of_ble_eq_true rfl, Nat.le_of_ble_eq_true rfl⟩) hK hZ hN hA hP hS rfl hl.1 rfl (Nat.le_of_ble_eq_true rfl) dL_refuses_110 ⟨by show (0 + 32) + 6 ≤ 300; omega, by show (0 + 192) + 36 ≤ 9000; omega⟩ (c1 := 0 + 38) (s1 := 0 + 228) (by omega) (by omega) (fun H locs hP hS hz9 hk9 => ?_)
  clear hz9 hk9
  refine lv_ldc2 (own := RL) (v := -9000000000000000002) hx hb hown (hts _ (List.mem_of_getElem? (i := 2) rfl)) dL_refuses_113 ?_
  refine l_cne (x := lK 2) (y := (-9000000000000000002 : Int64)) (tgt := 249) hx hb dL_refuses_116 dL_refuses_117 (by decide) (fun c9 => absurd (rfl) c9) (fun _ => ?_)
  refine lv_aload_n hx hb dL_refuses_120 rfl (lv_at hl 2 rfl) ?_
  refine lv_iconst (v := (-1)) hx hb dL_refuses_121 (by decide) ?_
  refine lv_iconst (v := nI (0)) hx hb dL_refuses_122 (by decide) ?_
  refine l_read (As := [.ref (o), .int ((-1)), .int (nI (0))]) (rest := []) ⟨hx, hb, hml, hown, hts⟩ (rno6 hl0) (vx_cwSW 3 hts gL_refuses_L_moss rfl rfl rfl (by decide +kernel) ⟨Nat.le_of_ble_eq_true rfl, Nat.le_of_ble_eq_true rfl⟩) hK hZ hN hA hP hS rfl hl.1 rfl (Nat.le_of_ble_eq_true rfl) dL_refuses_123 ⟨by show (0 + 38) + 2 ≤ 300; omega, by show (0 + 228) + 12 ≤ 9000; omega⟩ (c1 := 0 + 40) (s1 := 0 + 240) (by omega) (by omega) (fun H locs hP hS hz9 hk9 => ?_)
  clear hz9 hk9
  refine lv_ldc2 (own := RL) (v := -9000000000000000001) hx hb hown (hts _ (List.mem_of_getElem? (i := 1) rfl)) dL_refuses_126 ?_
  refine l_cne (x := lK 1) (y := (-9000000000000000001 : Int64)) (tgt := 249) hx hb dL_refuses_129 dL_refuses_130 (by decide) (fun c9 => absurd (rfl) c9) (fun _ => ?_)
  refine lv_aload_n hx hb dL_refuses_133 rfl (lv_at hl 2 rfl) ?_
  refine lv_iconst (v := nI (0)) hx hb dL_refuses_134 (by decide) ?_
  refine lv_iconst (v := nI (4)) hx hb dL_refuses_135 (by decide) ?_
  refine l_read (As := [.ref (o), .int (nI (0)), .int (nI (4))]) (rest := []) ⟨hx, hb, hml, hown, hts⟩ (rno7 hl0) (vx_cwSW 3 hts gL_refuses_L_moss rfl rfl rfl (by decide +kernel) ⟨Nat.le_of_ble_eq_true rfl, Nat.le_of_ble_eq_true rfl⟩) hK hZ hN hA hP hS rfl hl.1 rfl (Nat.le_of_ble_eq_true rfl) dL_refuses_136 ⟨by show (0 + 40) + 2 ≤ 300; omega, by show (0 + 240) + 12 ≤ 9000; omega⟩ (c1 := 0 + 42) (s1 := 0 + 252) (by omega) (by omega) (fun H locs hP hS hz9 hk9 => ?_)
  clear hz9 hk9
  refine lv_ldc2 (own := RL) (v := -9000000000000000002) hx hb hown (hts _ (List.mem_of_getElem? (i := 2) rfl)) dL_refuses_139 ?_
  refine l_cne (x := lK 2) (y := (-9000000000000000002 : Int64)) (tgt := 249) hx hb dL_refuses_142 dL_refuses_143 (by decide) (fun c9 => absurd (rfl) c9) (fun _ => ?_)
  refine lv_aload_n hx hb dL_refuses_146 rfl (lv_at hl 2 rfl) ?_
  refine lv_bipush (v := nI (25)) hx hb dL_refuses_147 (by decide) ?_
  refine lv_iconst (v := nI (0)) hx hb dL_refuses_149 (by decide) ?_
  refine lv_iconst (v := nI (0)) hx hb dL_refuses_150 (by decide) ?_
  refine l_read (As := [.ref (o), .int (nI (25)), .int (nI (0)), .int (nI (0))]) (rest := []) ⟨hx, hb, hml, hown, hts⟩ (rno8 hl0 h) (vx_cwSW 4 hts gL_refuses_L_pass rfl rfl rfl (by decide +kernel) ⟨Nat.le_of_ble_eq_true rfl, Nat.le_of_ble_eq_true rfl⟩) hK hZ hN hA hP hS rfl hl.1 rfl (Nat.le_of_ble_eq_true rfl) dL_refuses_151 ⟨by show (0 + 42) + 4 ≤ 300; omega, by show (0 + 252) + 24 ≤ 9000; omega⟩ (c1 := 0 + 46) (s1 := 0 + 276) (by omega) (by omega) (fun H locs hP hS hz9 hk9 => ?_)
  clear hz9 hk9
  refine lv_ldc2 (own := RL) (v := -9000000000000000002) hx hb hown (hts _ (List.mem_of_getElem? (i := 2) rfl)) dL_refuses_154 ?_
  refine l_cne (x := lK 2) (y := (-9000000000000000002 : Int64)) (tgt := 249) hx hb dL_refuses_157 dL_refuses_158 (by decide) (fun c9 => absurd (rfl) c9) (fun _ => ?_)
  refine lv_aload_n hx hb dL_refuses_161 rfl (lv_at hl 2 rfl) ?_
  refine lv_iconst (v := nI (1)) hx hb dL_refuses_162 (by decide) ?_
  refine lv_bipush (v := nI (31)) hx hb dL_refuses_163 (by decide) ?_
  refine lv_iconst (v := nI (0)) hx hb dL_refuses_165 (by decide) ?_
  refine l_read (As := [.ref (o), .int (nI (1)), .int (nI (31)), .int (nI (0))]) (rest := []) ⟨hx, hb, hml, hown, hts⟩ (rno9 hl0 h) (vx_cwSW 4 hts gL_refuses_L_pass rfl rfl rfl (by decide +kernel) ⟨Nat.le_of_ble_eq_true rfl, Nat.le_of_ble_eq_true rfl⟩) hK hZ hN hA hP hS rfl hl.1 rfl (Nat.le_of_ble_eq_true rfl) dL_refuses_166 ⟨by show (0 + 46) + 4 ≤ 300; omega, by show (0 + 276) + 24 ≤ 9000; omega⟩ (c1 := 0 + 50) (s1 := 0 + 300) (by omega) (by omega) (fun H locs hP hS hz9 hk9 => ?_)
  clear hz9 hk9
  refine lv_ldc2 (own := RL) (v := -9000000000000000002) hx hb hown (hts _ (List.mem_of_getElem? (i := 2) rfl)) dL_refuses_169 ?_
  refine l_cne (x := lK 2) (y := (-9000000000000000002 : Int64)) (tgt := 249) hx hb dL_refuses_172 dL_refuses_173 (by decide) (fun c9 => absurd (rfl) c9) (fun _ => ?_)
  refine lv_aload_n hx hb dL_refuses_176 rfl (lv_at hl 2 rfl) ?_
  refine lv_iconst (v := nI (1)) hx hb dL_refuses_177 (by decide) ?_
  refine lv_iconst (v := nI (0)) hx hb dL_refuses_178 (by decide) ?_
  refine lv_bipush (v := nI (10)) hx hb dL_refuses_179 (by decide) ?_
  refine l_read (As := [.ref (o), .int (nI (1)), .int (nI (0)), .int (nI (10))]) (rest := []) ⟨hx, hb, hml, hown, hts⟩ (rno10 hl0 h) (vx_cwSW 4 hts gL_refuses_L_pass rfl rfl rfl (by decide +kernel) ⟨Nat.le_of_ble_eq_true rfl, Nat.le_of_ble_eq_true rfl⟩) hK hZ hN hA hP hS rfl hl.1 rfl (Nat.le_of_ble_eq_true rfl) dL_refuses_181 ⟨by show (0 + 50) + 4 ≤ 300; omega, by show (0 + 300) + 24 ≤ 9000; omega⟩ (c1 := 0 + 54) (s1 := 0 + 324) (by omega) (by omega) (fun H locs hP hS hz9 hk9 => ?_)
  clear hz9 hk9
  refine lv_ldc2 (own := RL) (v := -9000000000000000002) hx hb hown (hts _ (List.mem_of_getElem? (i := 2) rfl)) dL_refuses_184 ?_
  refine l_cne (x := lK 2) (y := (-9000000000000000002 : Int64)) (tgt := 249) hx hb dL_refuses_187 dL_refuses_188 (by decide) (fun c9 => absurd (rfl) c9) (fun _ => ?_)
  refine lv_aload_n hx hb dL_refuses_191 rfl (lv_at hl 2 rfl) ?_
  refine lv_bipush (v := nI (25)) hx hb dL_refuses_192 (by decide) ?_
  refine l_read (As := [.ref (o), .int (nI (25))]) (rest := []) ⟨hx, hb, hml, hown, hts⟩ (rno11 hl0) (vx_cwSW 2 hts gL_refuses_L_fire rfl rfl rfl (by decide +kernel) ⟨Nat.le_of_ble_eq_true rfl, Nat.le_of_ble_eq_true rfl⟩) hK hZ hN hA hP hS rfl hl.1 rfl (Nat.le_of_ble_eq_true rfl) dL_refuses_194 ⟨by show (0 + 54) + 2 ≤ 300; omega, by show (0 + 324) + 12 ≤ 9000; omega⟩ (c1 := 0 + 56) (s1 := 0 + 336) (by omega) (by omega) (fun H locs hP hS hz9 hk9 => ?_)
  clear hz9 hk9
  refine lv_ldc2 (own := RL) (v := -9000000000000000001) hx hb hown (hts _ (List.mem_of_getElem? (i := 1) rfl)) dL_refuses_197 ?_
  refine l_cne (x := lK 1) (y := (-9000000000000000001 : Int64)) (tgt := 249) hx hb dL_refuses_200 dL_refuses_201 (by decide) (fun c9 => absurd (rfl) c9) (fun _ => ?_)
  refine lv_aload_n hx hb dL_refuses_204 rfl (lv_at hl 2 rfl) ?_
  refine lv_iconst (v := (-1)) hx hb dL_refuses_205 (by decide) ?_
  refine l_read (As := [.ref (o), .int ((-1))]) (rest := []) ⟨hx, hb, hml, hown, hts⟩ (rno12 hl0) (vx_cwSW 2 hts gL_refuses_L_breach rfl rfl rfl (by decide +kernel) ⟨Nat.le_of_ble_eq_true rfl, Nat.le_of_ble_eq_true rfl⟩) hK hZ hN hA hP hS rfl hl.1 rfl (Nat.le_of_ble_eq_true rfl) dL_refuses_206 ⟨by show (0 + 56) + 2 ≤ 300; omega, by show (0 + 336) + 12 ≤ 9000; omega⟩ (c1 := 0 + 58) (s1 := 0 + 348) (by omega) (by omega) (fun H locs hP hS hz9 hk9 => ?_)
  clear hz9 hk9
  refine lv_ldc2 (own := RL) (v := -9000000000000000001) hx hb hown (hts _ (List.mem_of_getElem? (i := 1) rfl)) dL_refuses_209 ?_
  refine l_cne (x := lK 1) (y := (-9000000000000000001 : Int64)) (tgt := 249) hx hb dL_refuses_212 dL_refuses_213 (by decide) (fun c9 => absurd (rfl) c9) (fun _ => ?_)
  refine lv_aload_n hx hb dL_refuses_216 rfl (lv_at hl 2 rfl) ?_
  refine lv_bipush (v := nI (25)) hx hb dL_refuses_217 (by decide) ?_
  refine lv_iconst (v := nI (1)) hx hb dL_refuses_219 (by decide) ?_
  refine lv_iconst (v := nI (1)) hx hb dL_refuses_220 (by decide) ?_
  refine l_read (As := [.ref (o), .int (nI (25)), .int (nI (1)), .int (nI (1))]) (rest := []) ⟨hx, hb, hml, hown, hts⟩ (rno13 hl0 h) (vx_cwSW 4 hts gL_refuses_L_house rfl rfl rfl (by decide +kernel) ⟨Nat.le_of_ble_eq_true rfl, Nat.le_of_ble_eq_true rfl⟩) hK hZ hN hA hP hS rfl hl.1 rfl (Nat.le_of_ble_eq_true rfl) dL_refuses_221 ⟨by show (0 + 58) + 5 ≤ 300; omega, by show (0 + 348) + 83 ≤ 9000; omega⟩ (c1 := 0 + 63) (s1 := 0 + 431) (by omega) (by omega) (fun H locs hP hS hz9 hk9 => ?_)
  clear hz9 hk9
  refine lv_ldc2 (own := RL) (v := -9000000000000000001) hx hb hown (hts _ (List.mem_of_getElem? (i := 1) rfl)) dL_refuses_224 ?_
  refine l_cne (x := lK 1) (y := (-9000000000000000001 : Int64)) (tgt := 249) hx hb dL_refuses_227 dL_refuses_228 (by decide) (fun c9 => absurd (rfl) c9) (fun _ => ?_)
  refine lv_aload_n hx hb dL_refuses_231 rfl (lv_at hl 2 rfl) ?_
  refine lv_iconst (v := nI (0)) hx hb dL_refuses_232 (by decide) ?_
  refine lv_iconst (v := nI (0)) hx hb dL_refuses_233 (by decide) ?_
  refine lv_iconst (v := nI (1)) hx hb dL_refuses_234 (by decide) ?_
  refine l_read (As := [.ref (o), .int (nI (0)), .int (nI (0)), .int (nI (1))]) (rest := []) ⟨hx, hb, hml, hown, hts⟩ (rno14 hl0 h) (vx_cwSW 4 hts gL_refuses_L_house rfl rfl rfl (by decide +kernel) ⟨Nat.le_of_ble_eq_true rfl, Nat.le_of_ble_eq_true rfl⟩) hK hZ hN hA hP hS rfl hl.1 rfl (Nat.le_of_ble_eq_true rfl) dL_refuses_235 ⟨by show (0 + 63) + 5 ≤ 300; omega, by show (0 + 431) + 83 ≤ 9000; omega⟩ (c1 := 0 + 68) (s1 := 0 + 514) (by omega) (by omega) (fun H locs hP hS hz9 hk9 => ?_)
  clear hz9 hk9
  refine lv_ldc2 (own := RL) (v := -9000000000000000001) hx hb hown (hts _ (List.mem_of_getElem? (i := 1) rfl)) dL_refuses_238 ?_
  refine l_cne (x := lK 1) (y := (-9000000000000000001 : Int64)) (tgt := 249) hx hb dL_refuses_241 dL_refuses_242 (by decide) (fun c9 => absurd (rfl) c9) (fun _ => ?_)
  refine lv_iconst (v := nI (1)) hx hb dL_refuses_245 (by decide) ?_
  refine lv_goto (tgt := 250) hx hb dL_refuses_246 (by decide) ?_
  refine lv_istore (lv' := [(4, .int (nI (1))), (2, .long (bL σ 0)), (1, .int (nI (mon σ))), (0, .ref (o))]) hx hb dL_refuses_250 hl (by decide) rfl (fun ls hl => ?_)
  refine lv_iload hx hb dL_refuses_252 (lv_at hl 0 rfl) ?_
  refine n_if_eq (x := 1) (tgt := 457) hx hb (by decide) dL_refuses_254 (by decide) (fun c9 => absurd c9 (by decide)) (fun _ => ?_)
  refine lv_aload_n hx hb dL_refuses_257 rfl (lv_at hl 3 rfl) ?_
  refine lv_bipush (v := nI (25)) hx hb dL_refuses_258 (by decide) ?_
  refine lv_iconst (v := nI (0)) hx hb dL_refuses_260 (by decide) ?_
  refine l_read (As := [.ref (o), .int (nI (25)), .int (nI (0))]) (rest := []) ⟨hx, hb, hml, hown, hts⟩ (rno15 hl0 h) (vx_cwSW 3 hts gL_refuses_L_borehole rfl rfl rfl (by decide +kernel) ⟨Nat.le_of_ble_eq_true rfl, Nat.le_of_ble_eq_true rfl⟩) hK hZ hN hA hP hS rfl hl.1 rfl (Nat.le_of_ble_eq_true rfl) dL_refuses_261 ⟨by show (0 + 68) + 6 ≤ 300; omega, by show (0 + 514) + 3083 ≤ 9000; omega⟩ (c1 := 0 + 74) (s1 := 0 + 3597) (by omega) (by omega) (fun H locs hP hS hz9 hk9 => ?_)
  clear hz9 hk9
  refine lv_ldc2 (own := RL) (v := -9000000000000000001) hx hb hown (hts _ (List.mem_of_getElem? (i := 1) rfl)) dL_refuses_264 ?_
  refine l_cne (x := lK 1) (y := (-9000000000000000001 : Int64)) (tgt := 457) hx hb dL_refuses_267 dL_refuses_268 (by decide) (fun c9 => absurd (rfl) c9) (fun _ => ?_)
  refine lv_aload_n hx hb dL_refuses_271 rfl (lv_at hl 3 rfl) ?_
  refine lv_iconst (v := nI (0)) hx hb dL_refuses_272 (by decide) ?_
  refine lv_bipush (v := nI (13)) hx hb dL_refuses_273 (by decide) ?_
  refine l_read (As := [.ref (o), .int (nI (0)), .int (nI (13))]) (rest := []) ⟨hx, hb, hml, hown, hts⟩ (rno16 hl0 h) (vx_cwSW 3 hts gL_refuses_L_borehole rfl rfl rfl (by decide +kernel) ⟨Nat.le_of_ble_eq_true rfl, Nat.le_of_ble_eq_true rfl⟩) hK hZ hN hA hP hS rfl hl.1 rfl (Nat.le_of_ble_eq_true rfl) dL_refuses_275 ⟨by show (0 + 74) + 6 ≤ 300; omega, by show (0 + 3597) + 3083 ≤ 9000; omega⟩ (c1 := 0 + 80) (s1 := 0 + 6680) (by omega) (by omega) (fun H locs hP hS hz9 hk9 => ?_)
  clear hz9 hk9
  refine lv_ldc2 (own := RL) (v := -9000000000000000002) hx hb hown (hts _ (List.mem_of_getElem? (i := 2) rfl)) dL_refuses_278 ?_
  refine l_cne (x := lK 2) (y := (-9000000000000000002 : Int64)) (tgt := 457) hx hb dL_refuses_281 dL_refuses_282 (by decide) (fun c9 => absurd (rfl) c9) (fun _ => ?_)
  refine lv_aload_n hx hb dL_refuses_285 rfl (lv_at hl 3 rfl) ?_
  refine lv_bipush (v := nI (10)) hx hb dL_refuses_286 (by decide) ?_
  refine l_read (As := [.ref (o), .int (nI (10))]) (rest := []) ⟨hx, hb, hml, hown, hts⟩ (rno_claim hl0 h) (vx_cwSW 2 hts gL_refuses_L_claim rfl rfl rfl (by decide +kernel) ⟨Nat.le_of_ble_eq_true rfl, Nat.le_of_ble_eq_true rfl⟩) hK hZ hN hA hP hS rfl hl.1 rfl (Nat.le_of_ble_eq_true rfl) dL_refuses_288 ⟨by show (0 + 80) + 4 ≤ 300; omega, by show (0 + 6680) + 76 ≤ 9000; omega⟩ (c1 := 0 + 84) (s1 := 0 + 6756) (by omega) (by omega) (fun H locs hP hS hz9 hk9 => ?_)
  clear hz9 hk9
  refine lv_ldc2 (own := RL) (v := -9000000000000000001) hx hb hown (hts _ (List.mem_of_getElem? (i := 1) rfl)) dL_refuses_291 ?_
  refine l_cne (x := lK 1) (y := (-9000000000000000001 : Int64)) (tgt := 457) hx hb dL_refuses_294 dL_refuses_295 (by decide) (fun c9 => absurd (rfl) c9) (fun _ => ?_)
  refine lv_aload_n hx hb dL_refuses_298 rfl (lv_at hl 3 rfl) ?_
  refine lv_iconst (v := nI (0)) hx hb dL_refuses_299 (by decide) ?_
  refine lv_bipush (v := nI (8)) hx hb dL_refuses_300 (by decide) ?_
  refine l_read (As := [.ref (o), .int (nI (0)), .int (nI (8))]) (rest := []) ⟨hx, hb, hml, hown, hts⟩ (rno17 hl0) (vx_cwSW 3 hts gL_refuses_L_cellOf rfl rfl rfl (by decide +kernel) ⟨Nat.le_of_ble_eq_true rfl, Nat.le_of_ble_eq_true rfl⟩) hK hZ hN hA hP hS rfl hl.1 rfl (Nat.le_of_ble_eq_true rfl) dL_refuses_302 ⟨by show (0 + 84) + 2 ≤ 300; omega, by show (0 + 6756) + 12 ≤ 9000; omega⟩ (c1 := 0 + 86) (s1 := 0 + 6768) (by omega) (by omega) (fun H locs hP hS hz9 hk9 => ?_)
  clear hz9 hk9
  refine lv_ldc2 (own := RL) (v := -9000000000000000002) hx hb hown (hts _ (List.mem_of_getElem? (i := 2) rfl)) dL_refuses_305 ?_
  refine l_cne (x := lK 2) (y := (-9000000000000000002 : Int64)) (tgt := 457) hx hb dL_refuses_308 dL_refuses_309 (by decide) (fun c9 => absurd (rfl) c9) (fun _ => ?_)
  refine lv_aload_n hx hb dL_refuses_312 rfl (lv_at hl 3 rfl) ?_
  refine lv_iconst (v := nI (0)) hx hb dL_refuses_313 (by decide) ?_
  refine lv_iconst (v := (-1)) hx hb dL_refuses_314 (by decide) ?_
  refine lv_iconst (v := nI (0)) hx hb dL_refuses_315 (by decide) ?_
  refine l_read (As := [.ref (o), .int (nI (0)), .int ((-1)), .int (nI (0))]) (rest := []) ⟨hx, hb, hml, hown, hts⟩ (rno18 hl0) (vx_cwSW 4 hts gL_refuses_L_layerOf rfl rfl rfl (by decide +kernel) ⟨Nat.le_of_ble_eq_true rfl, Nat.le_of_ble_eq_true rfl⟩) hK hZ hN hA hP hS rfl hl.1 rfl (Nat.le_of_ble_eq_true rfl) dL_refuses_316 ⟨by show (0 + 86) + 3 ≤ 300; omega, by show (0 + 6768) + 18 ≤ 9000; omega⟩ (c1 := 0 + 89) (s1 := 0 + 6786) (by omega) (by omega) (fun H locs hP hS hz9 hk9 => ?_)
  clear hz9 hk9
  refine lv_ldc2 (own := RL) (v := -9000000000000000001) hx hb hown (hts _ (List.mem_of_getElem? (i := 1) rfl)) dL_refuses_319 ?_
  refine l_cne (x := lK 1) (y := (-9000000000000000001 : Int64)) (tgt := 457) hx hb dL_refuses_322 dL_refuses_323 (by decide) (fun c9 => absurd (rfl) c9) (fun _ => ?_)
  refine lv_aload_n hx hb dL_refuses_326 rfl (lv_at hl 3 rfl) ?_
  refine lv_iconst (v := nI (0)) hx hb dL_refuses_327 (by decide) ?_
  refine lv_iconst (v := nI (0)) hx hb dL_refuses_328 (by decide) ?_
  refine lv_bipush (v := nI (6)) hx hb dL_refuses_329 (by decide) ?_
  refine l_read (As := [.ref (o), .int (nI (0)), .int (nI (0)), .int (nI (6))]) (rest := []) ⟨hx, hb, hml, hown, hts⟩ (rno19 hl0) (vx_cwSW 4 hts gL_refuses_L_layerOf rfl rfl rfl (by decide +kernel) ⟨Nat.le_of_ble_eq_true rfl, Nat.le_of_ble_eq_true rfl⟩) hK hZ hN hA hP hS rfl hl.1 rfl (Nat.le_of_ble_eq_true rfl) dL_refuses_331 ⟨by show (0 + 89) + 3 ≤ 300; omega, by show (0 + 6786) + 18 ≤ 9000; omega⟩ (c1 := 0 + 92) (s1 := 0 + 6804) (by omega) (by omega) (fun H locs hP hS hz9 hk9 => ?_)
  clear hz9 hk9
  refine lv_ldc2 (own := RL) (v := -9000000000000000002) hx hb hown (hts _ (List.mem_of_getElem? (i := 2) rfl)) dL_refuses_334 ?_
  refine l_cne (x := lK 2) (y := (-9000000000000000002 : Int64)) (tgt := 457) hx hb dL_refuses_337 dL_refuses_338 (by decide) (fun c9 => absurd (rfl) c9) (fun _ => ?_)
  refine lv_aload_n hx hb dL_refuses_341 rfl (lv_at hl 3 rfl) ?_
  refine lv_iconst (v := nI (0)) hx hb dL_refuses_342 (by decide) ?_
  refine lv_iconst (v := (-1)) hx hb dL_refuses_343 (by decide) ?_
  refine l_read (As := [.ref (o), .int (nI (0)), .int ((-1))]) (rest := []) ⟨hx, hb, hml, hown, hts⟩ (rno20 hl0) (vx_cwSW 3 hts gL_refuses_L_neighbour rfl rfl rfl (by decide +kernel) ⟨Nat.le_of_ble_eq_true rfl, Nat.le_of_ble_eq_true rfl⟩) hK hZ hN hA hP hS rfl hl.1 rfl (Nat.le_of_ble_eq_true rfl) dL_refuses_344 ⟨by show (0 + 92) + 2 ≤ 300; omega, by show (0 + 6804) + 12 ≤ 9000; omega⟩ (c1 := 0 + 94) (s1 := 0 + 6816) (by omega) (by omega) (fun H locs hP hS hz9 hk9 => ?_)
  clear hz9 hk9
  refine lv_ldc2 (own := RL) (v := -9000000000000000001) hx hb hown (hts _ (List.mem_of_getElem? (i := 1) rfl)) dL_refuses_347 ?_
  refine l_cne (x := lK 1) (y := (-9000000000000000001 : Int64)) (tgt := 457) hx hb dL_refuses_350 dL_refuses_351 (by decide) (fun c9 => absurd (rfl) c9) (fun _ => ?_)
  refine lv_aload_n hx hb dL_refuses_354 rfl (lv_at hl 3 rfl) ?_
  refine lv_bipush (v := nI (10)) hx hb dL_refuses_355 (by decide) ?_
  refine lv_iconst (v := nI (0)) hx hb dL_refuses_357 (by decide) ?_
  refine l_read (As := [.ref (o), .int (nI (10)), .int (nI (0))]) (rest := []) ⟨hx, hb, hml, hown, hts⟩ (rdh_no hl0 h (k := 10) (w := 0) h.n0.2 (by decide)) (vx_cwSW 3 hts gL_refuses_L_houseOf rfl rfl rfl (by decide +kernel) ⟨Nat.le_of_ble_eq_true rfl, Nat.le_of_ble_eq_true rfl⟩) hK hZ hN hA hP hS rfl hl.1 rfl (Nat.le_of_ble_eq_true rfl) dL_refuses_358 ⟨by show (0 + 94) + 2 ≤ 300; omega, by show (0 + 6816) + 12 ≤ 9000; omega⟩ (c1 := 0 + 96) (s1 := 0 + 6828) (by omega) (by omega) (fun H locs hP hS hz9 hk9 => ?_)
  clear hz9 hk9
  refine lv_ldc2 (own := RL) (v := -9000000000000000001) hx hb hown (hts _ (List.mem_of_getElem? (i := 1) rfl)) dL_refuses_361 ?_
  refine l_cne (x := lK 1) (y := (-9000000000000000001 : Int64)) (tgt := 457) hx hb dL_refuses_364 dL_refuses_365 (by decide) (fun c9 => absurd (rfl) c9) (fun _ => ?_)
  refine lv_aload_n hx hb dL_refuses_368 rfl (lv_at hl 3 rfl) ?_
  refine lv_bipush (v := nI (10)) hx hb dL_refuses_369 (by decide) ?_
  refine lv_iconst (v := nI (0)) hx hb dL_refuses_371 (by decide) ?_
  refine lv_iconst (v := nI (0)) hx hb dL_refuses_372 (by decide) ?_
  refine l_read (As := [.ref (o), .int (nI (10)), .int (nI (0)), .int (nI (0))]) (rest := []) ⟨hx, hb, hml, hown, hts⟩ (rdr_no10 hl0 h) (vx_cwSW 4 hts gL_refuses_L_reading rfl rfl rfl (by decide +kernel) ⟨Nat.le_of_ble_eq_true rfl, Nat.le_of_ble_eq_true rfl⟩) hK hZ hN hA hP hS rfl hl.1 rfl (Nat.le_of_ble_eq_true rfl) dL_refuses_373 ⟨by show (0 + 96) + 3 ≤ 300; omega, by show (0 + 6828) + 18 ≤ 9000; omega⟩ (c1 := 0 + 99) (s1 := 0 + 6846) (by omega) (by omega) (fun H locs hP hS hz9 hk9 => ?_)
  clear hz9 hk9
  refine lv_ldc2 (own := RL) (v := -9000000000000000001) hx hb hown (hts _ (List.mem_of_getElem? (i := 1) rfl)) dL_refuses_376 ?_
  refine l_cne (x := lK 1) (y := (-9000000000000000001 : Int64)) (tgt := 457) hx hb dL_refuses_379 dL_refuses_380 (by decide) (fun c9 => absurd (rfl) c9) (fun _ => ?_)
  refine lv_aload_n hx hb dL_refuses_383 rfl (lv_at hl 3 rfl) ?_
  refine lv_bipush (v := nI (40)) hx hb dL_refuses_384 (by decide) ?_
  refine l_read (As := [.ref (o), .int (nI (40))]) (rest := []) ⟨hx, hb, hml, hown, hts⟩ (rda_no hl0 h) (vx_cwSW 2 hts gL_refuses_L_claimAnew rfl rfl rfl (by decide +kernel) ⟨Nat.le_of_ble_eq_true rfl, Nat.le_of_ble_eq_true rfl⟩) hK hZ hN hA hP hS rfl hl.1 rfl (Nat.le_of_ble_eq_true rfl) dL_refuses_386 ⟨by show (0 + 99) + 1 ≤ 300; omega, by show (0 + 6846) + 6 ≤ 9000; omega⟩ (c1 := 0 + 100) (s1 := 0 + 6852) (by omega) (by omega) (fun H locs hP hS hz9 hk9 => ?_)
  clear hz9 hk9
  refine lv_ldc2 (own := RL) (v := -9000000000000000001) hx hb hown (hts _ (List.mem_of_getElem? (i := 1) rfl)) dL_refuses_389 ?_
  refine l_cne (x := lK 1) (y := (-9000000000000000001 : Int64)) (tgt := 457) hx hb dL_refuses_392 dL_refuses_393 (by decide) (fun c9 => absurd (rfl) c9) (fun _ => ?_)
  refine lv_aload_n hx hb dL_refuses_396 rfl (lv_at hl 3 rfl) ?_
  refine lv_iconst (v := nI (3)) hx hb dL_refuses_397 (by decide) ?_
  refine lv_iconst (v := nI (0)) hx hb dL_refuses_398 (by decide) ?_
  refine l_read (As := [.ref (o), .int (nI (3)), .int (nI (0))]) (rest := []) ⟨hx, hb, hml, hown, hts⟩ (rno21 hl0) (vx_cwSW 3 hts gL_refuses_L_balance rfl rfl rfl (by decide +kernel) ⟨Nat.le_of_ble_eq_true rfl, Nat.le_of_ble_eq_true rfl⟩) hK hZ hN hA hP hS rfl hl.1 rfl (Nat.le_of_ble_eq_true rfl) dL_refuses_399 ⟨by show (0 + 100) + 2 ≤ 300; omega, by show (0 + 6852) + 12 ≤ 9000; omega⟩ (c1 := 0 + 102) (s1 := 0 + 6864) (by omega) (by omega) (fun H locs hP hS hz9 hk9 => ?_)
  clear hz9 hk9
  refine lv_ldc2 (own := RL) (v := -9000000000000000002) hx hb hown (hts _ (List.mem_of_getElem? (i := 2) rfl)) dL_refuses_402 ?_
  refine l_cne (x := lK 2) (y := (-9000000000000000002 : Int64)) (tgt := 457) hx hb dL_refuses_405 dL_refuses_406 (by decide) (fun c9 => absurd (rfl) c9) (fun _ => ?_)
  refine lv_aload_n hx hb dL_refuses_409 rfl (lv_at hl 3 rfl) ?_
  refine lv_iconst (v := nI (0)) hx hb dL_refuses_410 (by decide) ?_
  refine lv_iconst (v := nI (4)) hx hb dL_refuses_411 (by decide) ?_
  refine l_read (As := [.ref (o), .int (nI (0)), .int (nI (4))]) (rest := []) ⟨hx, hb, hml, hown, hts⟩ (rno22 hl0) (vx_cwSW 3 hts gL_refuses_L_balance rfl rfl rfl (by decide +kernel) ⟨Nat.le_of_ble_eq_true rfl, Nat.le_of_ble_eq_true rfl⟩) hK hZ hN hA hP hS rfl hl.1 rfl (Nat.le_of_ble_eq_true rfl) dL_refuses_412 ⟨by show (0 + 102) + 2 ≤ 300; omega, by show (0 + 6864) + 12 ≤ 9000; omega⟩ (c1 := 0 + 104) (s1 := 0 + 6876) (by omega) (by omega) (fun H locs hP hS hz9 hk9 => ?_)
  clear hz9 hk9
  refine lv_ldc2 (own := RL) (v := -9000000000000000002) hx hb hown (hts _ (List.mem_of_getElem? (i := 2) rfl)) dL_refuses_415 ?_
  refine l_cne (x := lK 2) (y := (-9000000000000000002 : Int64)) (tgt := 457) hx hb dL_refuses_418 dL_refuses_419 (by decide) (fun c9 => absurd (rfl) c9) (fun _ => ?_)
  refine lv_aload_n hx hb dL_refuses_422 rfl (lv_at hl 3 rfl) ?_
  refine lv_iconst (v := nI (2)) hx hb dL_refuses_423 (by decide) ?_
  refine l_read (As := [.ref (o), .int (nI (2))]) (rest := []) ⟨hx, hb, hml, hown, hts⟩ (rno23 hl0) (vx_cwSW 2 hts gL_refuses_L_air rfl rfl rfl (by decide +kernel) ⟨Nat.le_of_ble_eq_true rfl, Nat.le_of_ble_eq_true rfl⟩) hK hZ hN hA hP hS rfl hl.1 rfl (Nat.le_of_ble_eq_true rfl) dL_refuses_424 ⟨by show (0 + 104) + 1 ≤ 300; omega, by show (0 + 6876) + 6 ≤ 9000; omega⟩ (c1 := 0 + 105) (s1 := 0 + 6882) (by omega) (by omega) (fun H locs hP hS hz9 hk9 => ?_)
  clear hz9 hk9
  refine lv_ldc2 (own := RL) (v := -9000000000000000002) hx hb hown (hts _ (List.mem_of_getElem? (i := 2) rfl)) dL_refuses_427 ?_
  refine l_cne (x := lK 2) (y := (-9000000000000000002 : Int64)) (tgt := 457) hx hb dL_refuses_430 dL_refuses_431 (by decide) (fun c9 => absurd (rfl) c9) (fun _ => ?_)
  refine lv_aload_n hx hb dL_refuses_434 rfl (lv_at hl 3 rfl) ?_
  refine l_month (rest := []) ⟨hx, hb, hml, hown, hts⟩ (cwV 0 hts gL_refuses_X5_month rfl rfl rfl (by decide +kernel) ⟨Nat.le_of_ble_eq_true rfl, Nat.le_of_ble_eq_true rfl⟩) hK hZ hA hP hS hl.1 (Nat.le_of_ble_eq_true rfl) dL_refuses_435 ⟨by show (0 + 105) + 0 ≤ 300; omega, by show (0 + 6882) + 0 ≤ 9000; omega⟩ (fun H locs hP hS hz9 hk9 => ?_)
  clear hz9 hk9
  refine l_top (show Value.int (σ.1 1 0) = Value.int (nI (mon σ)) from congrArg Value.int h.mo.1) ?_
  refine lv_iload_n hx hb dL_refuses_438 rfl (lv_at hl 2 rfl) ?_
  refine n_icmp_ne (x := mon σ) (y := mon σ) (tgt := 457) hx hb (by omega) (by omega) dL_refuses_439 (by decide) (fun c9 => absurd (rfl) c9) (fun _ => ?_)
  refine lv_aload_n hx hb dL_refuses_442 rfl (lv_at hl 3 rfl) ?_
  refine lv_iconst (v := nI (0)) hx hb dL_refuses_443 (by decide) ?_
  refine lv_iconst (v := nI (0)) hx hb dL_refuses_444 (by decide) ?_
  refine l_read (As := [.ref (o), .int (nI (0)), .int (nI (0))]) (rest := []) ⟨hx, hb, hml, hown, hts⟩ (rdb0 hl0 h (k := 0) (by omega)) (vx_cwSW 3 hts gL_refuses_L_balance rfl rfl rfl (by decide +kernel) ⟨Nat.le_of_ble_eq_true rfl, Nat.le_of_ble_eq_true rfl⟩) hK hZ hN hA hP hS rfl hl.1 rfl (Nat.le_of_ble_eq_true rfl) dL_refuses_445 ⟨by show (0 + 105) + 2 ≤ 300; omega, by show (0 + 6882) + 12 ≤ 9000; omega⟩ (c1 := 0 + 107) (s1 := 0 + 6894) (by omega) (by omega) (fun H locs hP hS hz9 hk9 => ?_)
  clear hz9 hk9
  refine lv_lload_n hx hb dL_refuses_448 rfl (lv_at hl 1 rfl) ?_
  refine l_cne (x := bL σ 0) (y := bL σ 0) (tgt := 457) hx hb dL_refuses_449 dL_refuses_450 (by decide) (fun c9 => absurd (rfl) c9) (fun _ => ?_)
  refine lv_iconst (v := nI (1)) hx hb dL_refuses_453 (by decide) ?_
  refine lv_goto (tgt := 458) hx hb dL_refuses_454 (by decide) ?_
  exact w_zret (Pic1 := fun H : Heap => vP G ids o z tE σ H) hx hb hr hlocks (by omega) (by omega) hP hS dL_refuses_458
