def m_balance_j139 (σ : Sg) (kind : Int32) (what : Int32) (x_3 : Int32) (s_8 : Sg) (x_15 : Int64) (x_22 : Int64) (x_29 : Int64) : Int64 := x_29
def m_balance_j139_s (σ : Sg) (kind : Int32) (what : Int32) (x_3 : Int32) (s_8 : Sg) (x_15 : Int64) (x_22 : Int64) (x_29 : Int64) : Sg := s_8
def m_balance_j96 (σ : Sg) (kind : Int32) (what : Int32) (x_3 : Int32) (s_8 : Sg) (x_15 : Int64) (x_22 : Int64) : Int64 := (m_balance_j139 σ kind what x_3 s_8 x_15 x_22 (if what = 0 then (m_inLand s_8 kind) else (if what = nI (1) then x_15 else (if what = nI (2) then x_22 else ((x_15) - ((m_inLand s_8 kind))) - (x_22)))))
def m_balance_j96_s (σ : Sg) (kind : Int32) (what : Int32) (x_3 : Int32) (s_8 : Sg) (x_15 : Int64) (x_22 : Int64) : Sg := (m_balance_j139_s σ kind what x_3 s_8 x_15 x_22 (if what = 0 then (m_inLand s_8 kind) else (if what = nI (1) then x_15 else (if what = nI (2) then x_22 else ((x_15) - ((m_inLand s_8 kind))) - (x_22)))))
def m_balance_j59 (σ : Sg) (kind : Int32) (what : Int32) (x_3 : Int32) (s_8 : Sg) (x_15 : Int64) : Int64 := (m_balance_j96 σ kind what x_3 s_8 x_15 (if kind = 0 then ((1000 : Int64)) * ((s_8.2 29)) else (if kind = nI (1) then (s_8.2 29) else ((s_8.2 30)) + ((s_8.2 31)))))
def m_balance_j59_s (σ : Sg) (kind : Int32) (what : Int32) (x_3 : Int32) (s_8 : Sg) (x_15 : Int64) : Sg := (m_balance_j96_s σ kind what x_3 s_8 x_15 (if kind = 0 then ((1000 : Int64)) * ((s_8.2 29)) else (if kind = nI (1) then (s_8.2 29) else ((s_8.2 30)) + ((s_8.2 31)))))
def m_balance_k27 (σ : Sg) (kind : Int32) (what : Int32) (x_3 : Int32) (s_8 : Sg) : Int64 := (if (m_refused σ x_3) = 0 then (m_balance_j59 σ kind what x_3 s_8 (if kind = 0 then (s_8.2 26) else (if kind = nI (1) then (s_8.2 27) else (s_8.2 28)))) else (0 : Int64))
def m_balance_k27_s (σ : Sg) (kind : Int32) (what : Int32) (x_3 : Int32) (s_8 : Sg) : Sg := (if (m_refused σ x_3) = 0 then (m_balance_j59_s σ kind what x_3 s_8 (if kind = 0 then (s_8.2 26) else (if kind = nI (1) then (s_8.2 27) else (s_8.2 28)))) else s_8)
def m_balance_j24 (σ : Sg) (kind : Int32) (what : Int32) (x_3 : Int32) : Int64 := (m_balance_k27 σ kind what x_3 (m_refused_s σ x_3))
def m_balance_j24_s (σ : Sg) (kind : Int32) (what : Int32) (x_3 : Int32) : Sg := (m_balance_k27_s σ kind what x_3 (m_refused_s σ x_3))
def m_balance (σ : Sg) (kind : Int32) (what : Int32) : Int64 := (m_balance_j24 σ kind what (if (m_within kind (nI (0)) (nI (2))) = 0 then nI (1) else (if (m_within what (nI (0)) (nI (3))) = 0 then nI (1) else nI (0))))
def m_balance_s (σ : Sg) (kind : Int32) (what : Int32) : Sg := (m_balance_j24_s σ kind what (if (m_within kind (nI (0)) (nI (2))) = 0 then nI (1) else (if (m_within what (nI (0)) (nI (3))) = 0 then nI (1) else nI (0))))
set_option maxHeartbeats 4000000 in
set_option maxRecDepth 100000 in
theorem cm_balance (l : Launch) (G : va_G) (cI cZ : ClassId) (a : Nat → Nat) (σ : Sg) (kind : Int32) (what : Int32) : mL l yX6_balance wsX6_balance ({ frames := 1, cells := 0, slots := 0, locals := 24 } : Room) G cI cZ a σ [.int (kind), .int (what)] (m_balance σ kind what) (m_balance_s σ kind what) := by
  unfold mL
  refine Met.ofW (cc := cX6_balance) (maxL := 7) (ret := (some .long)) (by decide) rfl ?_
  intro p e s m args below meth c s₁ B hml hv
  obtain ⟨rfl, hP, hK, hD⟩ := hv
  have hx := B.exec
  have hb := B.bytes
  have hr := B.returns
  have hts := atoms_spec (ws := wsX6_balance) B.pre
  have hown : s.vm.findClass RX6 = some m.cls := findClass_of_methodNamed B.named
  have hlocks := B.notSynchronized
  have hS : va_S (mA a) s.heap s.heap [] := va_S.rf
  have hin : ∀ w ∈ wsX60, w ∈ wsX6_balance := fun w h => List.mem_cons_of_mem _ (List.mem_append_right _ h)
  have hl := lv_entry ([.ref (a 0), .int (kind), .int (what)]) (n := 7) (Nat.le_of_ble_eq_true rfl)
  rw [lg_entry_eq]
  generalize (lg_sl ([.ref (a 0), .int (kind), .int (what)]) ++ List.replicate (7 - (lg_sl ([.ref (a 0), .int (kind), .int (what)])).length) Slot.unset).toArray = ls at hl ⊢
  have hl : lv_has ls 7 [(0, .ref (a 0)), (1, .int (kind)), (2, .int (what))] := hl
  refine w_named (fun WW hWW => ?_)
  have hP : va_P G vwCl (wm cI cZ a σ) s.heap := hP
  refine lv_aload_n hx hb dX6_balance_0 rfl (lv_at hl 0 rfl) ?_
  refine lv_iload_n hx hb dX6_balance_1 rfl (lv_at hl 1 rfl) ?_
  refine lv_iconst (v := nI (0)) hx hb dX6_balance_2 (by decide) ?_
  refine lv_iconst (v := nI (2)) hx hb dX6_balance_3 (by decide) ?_
  refine m_callS (As := [.int (kind), .int (nI (0)), .int (nI (2))]) (rest := [.ref (a 0)]) ⟨hx, hb, hml, hown, hts⟩ (cm_within l kind (nI (0)) (nI (2)) ) (va_cwS 3 hts gX6_balance_X6_within rfl rfl rfl (by decide +kernel) ⟨Nat.le_of_ble_eq_true rfl, Nat.le_of_ble_eq_true rfl⟩) hP hS rfl hl.1 rfl (Nat.le_of_ble_eq_true rfl) dX6_balance_4 ⟨Nat.zero_le _, Nat.zero_le _⟩ (fun H locs hP hS => ?_)
  have J24_4 : ∀ (x_3 : Int32), x_3 = (if (m_within kind (nI (0)) (nI (2))) = 0 then nI (1) else (if (m_within what (nI (0)) (nI (3))) = 0 then nI (1) else nI (0))) → ∀ (H : Heap) (locs : List Loc), va_P G vwCl (wm cI cZ a σ) H → va_D (mA a) (wm cI cZ a σ) → va_S (mA a) s.heap H locs → ∀ (ls : Array Slot), lv_has ls 7 [(0, .ref (a 0)), (1, .int (kind)), (2, .int (what))] → WW H locs 0 0 (F0 m 24 ls [.int (x_3), .ref (a 0)]) := by
    intro x_3 h_5 H locs hP hD hS ls hl
    refine (hWW _ _ _ _ _).mpr ?_
    have hR_6 : m_balance σ kind what = m_balance_j24 σ kind what x_3 := (by have q_ := h_5.symm; subst q_; unfold m_balance; rfl)
    have hR_7 : m_balance_s σ kind what = m_balance_j24_s σ kind what x_3 := (by have q_ := h_5.symm; subst q_; unfold m_balance_s; rfl)
    refine m_callI (As := [.int (x_3)]) (rest := []) (fun _ h => h) ⟨hx, hb, hml, hown, hts⟩ (cm_refused l G cI cZ a σ  x_3 ) (cwV 1 hts gX6_balance_X6_refused rfl rfl rfl (by decide +kernel) ⟨Nat.le_of_ble_eq_true rfl, Nat.le_of_ble_eq_true rfl⟩) hK hP hD hS rfl hl.1 rfl (Nat.le_of_ble_eq_true rfl) dX6_balance_24 ⟨Nat.zero_le _, Nat.zero_le _⟩ (fun H locs hP hD _ _ hS => ?_)
    obtain ⟨s_8, e_9⟩ : ∃ z : Sg, z = (m_refused_s σ x_3) := ⟨_, rfl⟩
    rw [← e_9] at hP hD
    have hR_10 : m_balance σ kind what = m_balance_k27 σ kind what x_3 s_8 := (Eq.trans hR_6 (by have q_ := e_9.symm; subst q_; unfold m_balance_j24; rfl))
    have hR_11 : m_balance_s σ kind what = m_balance_k27_s σ kind what x_3 s_8 := (Eq.trans hR_7 (by have q_ := e_9.symm; subst q_; unfold m_balance_j24_s; rfl))
    refine lv_if_eq (x := (m_refused σ x_3)) (tgt := 32) hx hb dX6_balance_27 (by decide) (fun c_12 => ?_) (fun c_12 => ?_)
    · refine lv_iload_n hx hb dX6_balance_32 rfl (lv_at hl 1 rfl) ?_
      have J59_16 : ∀ (x_15 : Int64), x_15 = (if kind = 0 then (s_8.2 26) else (if kind = nI (1) then (s_8.2 27) else (s_8.2 28))) → ∀ (H : Heap) (locs : List Loc), va_P G vwCl (wm cI cZ a s_8) H → va_D (mA a) (wm cI cZ a s_8) → va_S (mA a) s.heap H locs → ∀ (ls : Array Slot), lv_has ls 7 [(0, .ref (a 0)), (1, .int (kind)), (2, .int (what))] → WW H locs 0 0 (F0 m 59 ls [.long (x_15)]) := by
        intro x_15 h_17 H locs hP hD hS ls hl
        refine (hWW _ _ _ _ _).mpr ?_
        have hR_18 : m_balance σ kind what = m_balance_j59 σ kind what x_3 s_8 x_15 := (Eq.trans hR_10 (by have q_ := h_17.symm; subst q_; unfold m_balance_k27; simp only [if_pos c_12]))
        have hR_19 : m_balance_s σ kind what = m_balance_j59_s σ kind what x_3 s_8 x_15 := (Eq.trans hR_11 (by have q_ := h_17.symm; subst q_; unfold m_balance_k27_s; simp only [if_pos c_12]))
        refine lv_lstore_n (lv' := [(3, .long (x_15)), (0, .ref (a 0)), (1, .int (kind)), (2, .int (what))]) hx hb dX6_balance_59 rfl hl (by decide) rfl (fun ls hl => ?_)
        refine lv_iload_n hx hb dX6_balance_60 rfl (lv_at hl 2 rfl) ?_
        have J96_23 : ∀ (x_22 : Int64), x_22 = (if kind = 0 then ((1000 : Int64)) * ((s_8.2 29)) else (if kind = nI (1) then (s_8.2 29) else ((s_8.2 30)) + ((s_8.2 31)))) → ∀ (H : Heap) (locs : List Loc), va_P G vwCl (wm cI cZ a s_8) H → va_D (mA a) (wm cI cZ a s_8) → va_S (mA a) s.heap H locs → ∀ (ls : Array Slot), lv_has ls 7 [(3, .long (x_15)), (0, .ref (a 0)), (1, .int (kind)), (2, .int (what))] → WW H locs 0 0 (F0 m 96 ls [.long (x_22)]) := by
          intro x_22 h_24 H locs hP hD hS ls hl
          refine (hWW _ _ _ _ _).mpr ?_
          have hR_25 : m_balance σ kind what = m_balance_j96 σ kind what x_3 s_8 x_15 x_22 := (Eq.trans hR_18 (by have q_ := h_24.symm; subst q_; unfold m_balance_j59; rfl))
          have hR_26 : m_balance_s σ kind what = m_balance_j96_s σ kind what x_3 s_8 x_15 x_22 := (Eq.trans hR_19 (by have q_ := h_24.symm; subst q_; unfold m_balance_j59_s; rfl))
          refine lv_lstore (lv' := [(5, .long (x_22)), (3, .long (x_15)), (0, .ref (a 0)), (1, .int (kind)), (2, .int (what))]) hx hb dX6_balance_96 hl (by decide) rfl (fun ls hl => ?_)
          refine lv_iload_n hx hb dX6_balance_98 rfl (lv_at hl 4 rfl) ?_
          have J139_30 : ∀ (x_29 : Int64), x_29 = (if what = 0 then (m_inLand s_8 kind) else (if what = nI (1) then x_15 else (if what = nI (2) then x_22 else ((x_15) - ((m_inLand s_8 kind))) - (x_22)))) → ∀ (H : Heap) (locs : List Loc), va_P G vwCl (wm cI cZ a s_8) H → va_D (mA a) (wm cI cZ a s_8) → va_S (mA a) s.heap H locs → ∀ (ls : Array Slot), lv_has ls 7 [(5, .long (x_22)), (3, .long (x_15)), (0, .ref (a 0)), (1, .int (kind)), (2, .int (what))] → WW H locs 0 0 (F0 m 139 ls [.long (x_29)]) := by
            intro x_29 h_31 H locs hP hD hS ls hl
            refine (hWW _ _ _ _ _).mpr ?_
            have hR_32 : m_balance σ kind what = m_balance_j139 σ kind what x_3 s_8 x_15 x_22 x_29 := (Eq.trans hR_25 (by have q_ := h_31.symm; subst q_; unfold m_balance_j96; rfl))
            have hR_33 : m_balance_s σ kind what = m_balance_j139_s σ kind what x_3 s_8 x_15 x_22 x_29 := (Eq.trans hR_26 (by have q_ := h_31.symm; subst q_; unfold m_balance_j96_s; rfl))
            exact m_lret (v := x_29) hx hb hr hlocks hP hK hD hS dX6_balance_139 (Eq.trans (by unfold m_balance_j139; rfl) hR_32.symm) (Eq.trans (by unfold m_balance_j139_s; rfl) hR_33.symm)
          refine lv_if_ne (x := what) (tgt := 110) hx hb dX6_balance_99 (by decide) (fun c_27 => ?_) (fun c_27 => ?_)
          · refine lv_iload_n hx hb dX6_balance_110 rfl (lv_at hl 4 rfl) ?_
            refine lv_iconst (v := nI (1)) hx hb dX6_balance_111 (by decide) ?_
            refine lv_icmp_ne (x := what) (y := nI (1)) (tgt := 119) hx hb dX6_balance_112 (by decide) (fun c_34 => ?_) (fun c_34 => ?_)
            · refine lv_iload_n hx hb dX6_balance_119 rfl (lv_at hl 4 rfl) ?_
              refine lv_iconst (v := nI (2)) hx hb dX6_balance_120 (by decide) ?_
              refine lv_icmp_ne (x := what) (y := nI (2)) (tgt := 129) hx hb dX6_balance_121 (by decide) (fun c_35 => ?_) (fun c_35 => ?_)
              · refine lv_lload_n hx hb dX6_balance_129 rfl (lv_at hl 1 rfl) ?_
                refine lv_aload_n hx hb dX6_balance_130 rfl (lv_at hl 2 rfl) ?_
                refine lv_iload_n hx hb dX6_balance_131 rfl (lv_at hl 3 rfl) ?_
                refine m_callL (As := [.int (kind)]) (rest := [.long (x_15)]) (fun _ h => h) ⟨hx, hb, hml, hown, hts⟩ (cm_inLand l G cI cZ a s_8  kind ) (cwV 1 hts gX6_balance_X6_inLand rfl rfl rfl (by decide +kernel) ⟨Nat.le_of_ble_eq_true rfl, Nat.le_of_ble_eq_true rfl⟩) hK hP hD hS rfl hl.1 rfl (Nat.le_of_ble_eq_true rfl) dX6_balance_132 ⟨Nat.zero_le _, Nat.zero_le _⟩ (fun H locs hP hD _ _ hS => ?_)
                refine lv_lsub hx hb dX6_balance_135 ?_
                refine lv_lload hx hb dX6_balance_136 (lv_at hl 0 rfl) ?_
                refine lv_lsub hx hb dX6_balance_138 ?_
                exact (hWW _ _ _ _ _).mp (J139_30 _ (by simp only [if_neg c_27, if_neg c_34, if_neg c_35]) _ _ hP hD hS _ (lv_sub hl [0, 1, 2, 3, 4] rfl))
              · refine lv_lload hx hb dX6_balance_124 (lv_at hl 0 rfl) ?_
                refine lv_goto (tgt := 139) hx hb dX6_balance_126 (by decide) ?_
                exact (hWW _ _ _ _ _).mp (J139_30 _ (by simp only [if_neg c_27, if_neg c_34, if_pos c_35]) _ _ hP hD hS _ (lv_sub hl [0, 1, 2, 3, 4] rfl))
            · refine lv_lload_n hx hb dX6_balance_115 rfl (lv_at hl 1 rfl) ?_
              refine lv_goto (tgt := 139) hx hb dX6_balance_116 (by decide) ?_
              exact (hWW _ _ _ _ _).mp (J139_30 _ (by simp only [if_neg c_27, if_pos c_34]) _ _ hP hD hS _ (lv_sub hl [0, 1, 2, 3, 4] rfl))
          · refine lv_aload_n hx hb dX6_balance_102 rfl (lv_at hl 2 rfl) ?_
            refine lv_iload_n hx hb dX6_balance_103 rfl (lv_at hl 3 rfl) ?_
            refine m_callL (As := [.int (kind)]) (rest := []) (fun _ h => h) ⟨hx, hb, hml, hown, hts⟩ (cm_inLand l G cI cZ a s_8  kind ) (cwV 1 hts gX6_balance_X6_inLand rfl rfl rfl (by decide +kernel) ⟨Nat.le_of_ble_eq_true rfl, Nat.le_of_ble_eq_true rfl⟩) hK hP hD hS rfl hl.1 rfl (Nat.le_of_ble_eq_true rfl) dX6_balance_104 ⟨Nat.zero_le _, Nat.zero_le _⟩ (fun H locs hP hD _ _ hS => ?_)
            refine lv_goto (tgt := 139) hx hb dX6_balance_107 (by decide) ?_
            exact (hWW _ _ _ _ _).mp (J139_30 _ (by simp only [if_pos c_27]) _ _ hP hD hS _ (lv_sub hl [0, 1, 2, 3, 4] rfl))
        refine lv_if_ne (x := kind) (tgt := 75) hx hb dX6_balance_61 (by decide) (fun c_20 => ?_) (fun c_20 => ?_)
        · refine lv_iload_n hx hb dX6_balance_75 rfl (lv_at hl 2 rfl) ?_
          refine lv_iconst (v := nI (1)) hx hb dX6_balance_76 (by decide) ?_
          refine lv_icmp_ne (x := kind) (y := nI (1)) (tgt := 87) hx hb dX6_balance_77 (by decide) (fun c_36 => ?_) (fun c_36 => ?_)
          · refine lv_aload_n hx hb dX6_balance_87 rfl (lv_at hl 1 rfl) ?_
            refine m_get (v := .long ((s_8.2 30))) hx hb hts hin hown hK hP 30 (by decide) rfl (index := 162) (List.mem_of_getElem? (i := 6) rfl) dX6_balance_88 ?_
            refine lv_aload_n hx hb dX6_balance_91 rfl (lv_at hl 1 rfl) ?_
            refine m_get (v := .long ((s_8.2 31))) hx hb hts hin hown hK hP 31 (by decide) rfl (index := 159) (List.mem_of_getElem? (i := 7) rfl) dX6_balance_92 ?_
            refine lv_ladd hx hb dX6_balance_95 ?_
            exact (hWW _ _ _ _ _).mp (J96_23 _ (by simp only [if_neg c_20, if_neg c_36]) _ _ hP hD hS _ (lv_sub hl [0, 1, 2, 3] rfl))
          · refine lv_aload_n hx hb dX6_balance_80 rfl (lv_at hl 1 rfl) ?_
            refine m_get (v := .long ((s_8.2 29))) hx hb hts hin hown hK hP 29 (by decide) rfl (index := 168) (List.mem_of_getElem? (i := 5) rfl) dX6_balance_81 ?_
            refine lv_goto (tgt := 96) hx hb dX6_balance_84 (by decide) ?_
            exact (hWW _ _ _ _ _).mp (J96_23 _ (by simp only [if_neg c_20, if_pos c_36]) _ _ hP hD hS _ (lv_sub hl [0, 1, 2, 3] rfl))
        · refine lv_ldc2 (own := RX6) (v := 1000) hx hb hown (hts _ (List.mem_of_getElem? (i := 4) rfl)) dX6_balance_64 ?_
          refine lv_aload_n hx hb dX6_balance_67 rfl (lv_at hl 1 rfl) ?_
          refine m_get (v := .long ((s_8.2 29))) hx hb hts hin hown hK hP 29 (by decide) rfl (index := 168) (List.mem_of_getElem? (i := 5) rfl) dX6_balance_68 ?_
          refine lv_lmul hx hb dX6_balance_71 ?_
          refine lv_goto (tgt := 96) hx hb dX6_balance_72 (by decide) ?_
          exact (hWW _ _ _ _ _).mp (J96_23 _ (by simp only [if_pos c_20]) _ _ hP hD hS _ (lv_sub hl [0, 1, 2, 3] rfl))
      refine lv_if_ne (x := kind) (tgt := 43) hx hb dX6_balance_33 (by decide) (fun c_13 => ?_) (fun c_13 => ?_)
      · refine lv_iload_n hx hb dX6_balance_43 rfl (lv_at hl 1 rfl) ?_
        refine lv_iconst (v := nI (1)) hx hb dX6_balance_44 (by decide) ?_
        refine lv_icmp_ne (x := kind) (y := nI (1)) (tgt := 55) hx hb dX6_balance_45 (by decide) (fun c_37 => ?_) (fun c_37 => ?_)
        · refine lv_aload_n hx hb dX6_balance_55 rfl (lv_at hl 0 rfl) ?_
          refine m_get (v := .long ((s_8.2 28))) hx hb hts hin hown hK hP 28 (by decide) rfl (index := 87) (List.mem_of_getElem? (i := 3) rfl) dX6_balance_56 ?_
          exact (hWW _ _ _ _ _).mp (J59_16 _ (by simp only [if_neg c_13, if_neg c_37]) _ _ hP hD hS _ (lv_sub hl [0, 1, 2] rfl))
        · refine lv_aload_n hx hb dX6_balance_48 rfl (lv_at hl 0 rfl) ?_
          refine m_get (v := .long ((s_8.2 27))) hx hb hts hin hown hK hP 27 (by decide) rfl (index := 82) (List.mem_of_getElem? (i := 2) rfl) dX6_balance_49 ?_
          refine lv_goto (tgt := 59) hx hb dX6_balance_52 (by decide) ?_
          exact (hWW _ _ _ _ _).mp (J59_16 _ (by simp only [if_neg c_13, if_pos c_37]) _ _ hP hD hS _ (lv_sub hl [0, 1, 2] rfl))
      · refine lv_aload_n hx hb dX6_balance_36 rfl (lv_at hl 0 rfl) ?_
        refine m_get (v := .long ((s_8.2 26))) hx hb hts hin hown hK hP 26 (by decide) rfl (index := 76) (List.mem_of_getElem? (i := 1) rfl) dX6_balance_37 ?_
        refine lv_goto (tgt := 59) hx hb dX6_balance_40 (by decide) ?_
        exact (hWW _ _ _ _ _).mp (J59_16 _ (by simp only [if_pos c_13]) _ _ hP hD hS _ (lv_sub hl [0, 1, 2] rfl))
    · refine lv_lconst (v := 0) hx hb dX6_balance_30 (by decide) ?_
      exact m_lret (v := (0 : Int64)) hx hb hr hlocks hP hK hD hS dX6_balance_31 (Eq.trans (by unfold m_balance_k27; simp only [if_neg c_12]) hR_10.symm) (Eq.trans (by unfold m_balance_k27_s; simp only [if_neg c_12]) hR_11.symm)
  refine lv_if_eq (x := (m_within kind (nI (0)) (nI (2)))) (tgt := 23) hx hb dX6_balance_7 (by decide) (fun c_1 => ?_) (fun c_1 => ?_)
  · refine lv_iconst (v := nI (1)) hx hb dX6_balance_23 (by decide) ?_
    exact (hWW _ _ _ _ _).mp (J24_4 _ (by simp only [if_pos c_1]) _ _ hP hD hS _ (lv_sub hl [0, 1, 2] rfl))
  · refine lv_iload_n hx hb dX6_balance_10 rfl (lv_at hl 2 rfl) ?_
    refine lv_iconst (v := nI (0)) hx hb dX6_balance_11 (by decide) ?_
    refine lv_iconst (v := nI (3)) hx hb dX6_balance_12 (by decide) ?_
    refine m_callS (As := [.int (what), .int (nI (0)), .int (nI (3))]) (rest := [.ref (a 0)]) ⟨hx, hb, hml, hown, hts⟩ (cm_within l what (nI (0)) (nI (3)) ) (va_cwS 3 hts gX6_balance_X6_within rfl rfl rfl (by decide +kernel) ⟨Nat.le_of_ble_eq_true rfl, Nat.le_of_ble_eq_true rfl⟩) hP hS rfl hl.1 rfl (Nat.le_of_ble_eq_true rfl) dX6_balance_13 ⟨Nat.zero_le _, Nat.zero_le _⟩ (fun H locs hP hS => ?_)
    refine lv_if_eq (x := (m_within what (nI (0)) (nI (3)))) (tgt := 23) hx hb dX6_balance_16 (by decide) (fun c_38 => ?_) (fun c_38 => ?_)
    · refine lv_iconst (v := nI (1)) hx hb dX6_balance_23 (by decide) ?_
      exact (hWW _ _ _ _ _).mp (J24_4 _ (by simp only [if_neg c_1, if_pos c_38]) _ _ hP hD hS _ (lv_sub hl [0, 1, 2] rfl))
    · refine lv_iconst (v := nI (0)) hx hb dX6_balance_19 (by decide) ?_
      refine lv_goto (tgt := 24) hx hb dX6_balance_20 (by decide) ?_
      exact (hWW _ _ _ _ _).mp (J24_4 _ (by simp only [if_neg c_1, if_neg c_38]) _ _ hP hD hS _ (lv_sub hl [0, 1, 2] rfl))
