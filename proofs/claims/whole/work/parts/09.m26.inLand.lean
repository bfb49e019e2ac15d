def m_inLand_x71 (σ : Sg) (kind : Int32) (z5 : Int64) (z71 : Int64) : Int64 := z71
def m_inLand_j115 (σ : Sg) (kind : Int32) (i71 : Nat) (z71 : Int64) (x_7 : Int64) : Int64 := (z71) + (x_7)
def m_inLand_b71 (σ : Sg) (kind : Int32) (i71 : Nat) (z71 : Int64) : Int64 := (m_inLand_j115 σ kind i71 z71 (if kind = 0 then ((nI (1000)) * ((σ.1 3 i71))).toInt64 else (if kind = nI (1) then ((σ.1 3 i71)).toInt64 else (0 : Int64))))
def m_inLand_x5 (σ : Sg) (kind : Int32) (z5 : Int64) : Int64 := (m_inLand_x71 σ kind z5 (lp (m_inLand_b71 σ kind) 25 z5))
def m_inLand_j60 (σ : Sg) (kind : Int32) (i5 : Nat) (z5 : Int64) (x_14 : Int64) : Int64 := (z5) + (x_14)
def m_inLand_b5 (σ : Sg) (kind : Int32) (i5 : Nat) (z5 : Int64) : Int64 := (m_inLand_j60 σ kind i5 z5 (if kind = 0 then ((σ.1 10 i5)).toInt64 else (if kind = nI (1) then (((σ.1 8 i5)) + ((σ.1 9 i5))).toInt64 else ((σ.1 11 i5)).toInt64)))
def m_inLand (σ : Sg) (kind : Int32) : Int64 := (m_inLand_x5 σ kind (lp (m_inLand_b5 σ kind) 125 (0 : Int64)))
set_option maxHeartbeats 4000000 in
set_option maxRecDepth 100000 in
theorem cm_inLand (l : Launch) (G : va_G) (cI cZ : ClassId) (a : Nat → Nat) (σ : Sg) (kind : Int32) : mL l yX6_inLand wsX6_inLand ({ frames := 0, cells := 0, slots := 0, locals := 0 } : Room) G cI cZ a σ [.int (kind)] (m_inLand σ kind) σ := by
  unfold mL
  refine Met.ofW (cc := cX6_inLand) (maxL := 5) (ret := (some .long)) (by decide) rfl ?_
  intro p e s m args below meth c s₁ B hml hv
  obtain ⟨rfl, hP, hK, hD⟩ := hv
  have hx := B.exec
  have hb := B.bytes
  have hr := B.returns
  have hts := atoms_spec (ws := wsX6_inLand) B.pre
  have hown : s.vm.findClass RX6 = some m.cls := findClass_of_methodNamed B.named
  have hlocks := B.notSynchronized
  have hS : va_S (mA a) s.heap s.heap [] := va_S.rf
  have hin : ∀ w ∈ wsX60, w ∈ wsX6_inLand := fun w h => List.mem_cons_of_mem _ (List.mem_append_right _ h)
  have hl := lv_entry ([.ref (a 0), .int (kind)]) (n := 5) (Nat.le_of_ble_eq_true rfl)
  rw [lg_entry_eq]
  generalize (lg_sl ([.ref (a 0), .int (kind)]) ++ List.replicate (5 - (lg_sl ([.ref (a 0), .int (kind)])).length) Slot.unset).toArray = ls at hl ⊢
  have hl : lv_has ls 5 [(0, .ref (a 0)), (1, .int (kind))] := hl
  refine w_named (fun WW hWW => ?_)
  have hP : va_P G vwCl (wm cI cZ a σ) s.heap := hP
  refine lv_lconst (v := 0) hx hb dX6_inLand_0 (by decide) ?_
  refine lv_lstore_n (lv' := [(2, .long ((0 : Int64))), (0, .ref (a 0)), (1, .int (kind))]) hx hb dX6_inLand_1 rfl hl (by decide) rfl (fun ls hl => ?_)
  refine lv_iconst (v := nI (0)) hx hb dX6_inLand_2 (by decide) ?_
  refine lv_istore (lv' := [(4, .int (nI (0))), (2, .long ((0 : Int64))), (0, .ref (a 0)), (1, .int (kind))]) hx hb dX6_inLand_3 hl (by decide) rfl (fun ls hl => ?_)
  have L5 : ∀ (n5 i5 : Nat), i5 ≤ 125 → 125 + 1 ≤ i5 + n5 → ∀ (z5 : Int64), z5 = lp (m_inLand_b5 σ kind) i5 (0 : Int64) → ∀ (H : Heap) (locs : List Loc), va_P G vwCl (wm cI cZ a σ) H → va_D (mA a) (wm cI cZ a σ) → va_S (mA a) s.heap H locs → ∀ (ls : Array Slot), lv_has ls 5 [(4, .int (nI (i5))), (2, .long (z5)), (0, .ref (a 0)), (1, .int (kind))] → WW H locs 0 0 (F0 m 5 ls []) := by
    intro n5
    induction n5 with
    | zero => intro i5 h1 h2; exact absurd h2 (by omega)
    | succ n5 ih5 =>
      intro i5 hi5 hn5 z5 hz5  H locs hP hD hS ls hl
      refine (hWW _ _ _ _ _).mpr ?_
      refine lv_iload hx hb dX6_inLand_5 (lv_at hl 0 rfl) ?_
      refine lv_bipush (v := nI (125)) hx hb dX6_inLand_7 (by decide) ?_
      refine n_icmp_ge (x := i5) (y := 125) (tgt := 68) hx hb (by omega) (by omega) dX6_inLand_9 (by decide) (fun c_1 => ?_) (fun c_1 => ?_)
      · have hiN : 125 = i5 := by omega
        subst hiN
        have hR_2 : m_inLand σ kind = m_inLand_x5 σ kind z5 := (by have q_ := hz5.symm; subst q_; unfold m_inLand; rfl)
        refine lv_iconst (v := nI (0)) hx hb dX6_inLand_68 (by decide) ?_
        refine lv_istore (lv' := [(4, .int (nI (0))), (2, .long (z5)), (0, .ref (a 0)), (1, .int (kind))]) hx hb dX6_inLand_69 hl (by decide) rfl (fun ls hl => ?_)
        have L71 : ∀ (n71 i71 : Nat), i71 ≤ 25 → 25 + 1 ≤ i71 + n71 → ∀ (z71 : Int64), z71 = lp (m_inLand_b71 σ kind) i71 z5 → ∀ (H : Heap) (locs : List Loc), va_P G vwCl (wm cI cZ a σ) H → va_D (mA a) (wm cI cZ a σ) → va_S (mA a) s.heap H locs → ∀ (ls : Array Slot), lv_has ls 5 [(4, .int (nI (i71))), (2, .long (z71)), (0, .ref (a 0)), (1, .int (kind))] → WW H locs 0 0 (F0 m 71 ls []) := by
          intro n71
          induction n71 with
          | zero => intro i71 h1 h2; exact absurd h2 (by omega)
          | succ n71 ih71 =>
            intro i71 hi71 hn71 z71 hz71  H locs hP hD hS ls hl
            refine (hWW _ _ _ _ _).mpr ?_
            refine lv_iload hx hb dX6_inLand_71 (lv_at hl 0 rfl) ?_
            refine lv_bipush (v := nI (25)) hx hb dX6_inLand_73 (by decide) ?_
            refine n_icmp_ge (x := i71) (y := 25) (tgt := 123) hx hb (by omega) (by omega) dX6_inLand_75 (by decide) (fun c_3 => ?_) (fun c_3 => ?_)
            · have hiN : 25 = i71 := by omega
              subst hiN
              have hR_4 : m_inLand σ kind = m_inLand_x71 σ kind z5 z71 := (Eq.trans hR_2 (by have q_ := hz71.symm; subst q_; unfold m_inLand_x5; rfl))
              refine lv_lload_n hx hb dX6_inLand_123 rfl (lv_at hl 1 rfl) ?_
              exact m_lret (v := z71) hx hb hr hlocks hP hK hD hS dX6_inLand_124 (Eq.trans (by unfold m_inLand_x71; rfl) hR_4.symm) (Eq.refl _)
            · refine lv_lload_n hx hb dX6_inLand_78 rfl (lv_at hl 1 rfl) ?_
              refine lv_iload_n hx hb dX6_inLand_79 rfl (lv_at hl 3 rfl) ?_
              have J115_8 : ∀ (x_7 : Int64), x_7 = (if kind = 0 then ((nI (1000)) * ((σ.1 3 i71))).toInt64 else (if kind = nI (1) then ((σ.1 3 i71)).toInt64 else (0 : Int64))) → ∀ (H : Heap) (locs : List Loc), va_P G vwCl (wm cI cZ a σ) H → va_D (mA a) (wm cI cZ a σ) → va_S (mA a) s.heap H locs → ∀ (ls : Array Slot), lv_has ls 5 [(4, .int (nI (i71))), (2, .long (z71)), (0, .ref (a 0)), (1, .int (kind))] → WW H locs 0 0 (F0 m 115 ls [.long (x_7), .long (z71)]) := by
                intro x_7 h_9 H locs hP hD hS ls hl
                refine (hWW _ _ _ _ _).mpr ?_
                have hR_10 : m_inLand_b71 σ kind i71 z71 = m_inLand_j115 σ kind i71 z71 x_7 := (by have q_ := h_9.symm; subst q_; unfold m_inLand_b71; rfl)
                refine lv_ladd hx hb dX6_inLand_115 ?_
                refine lv_lstore_n (lv' := [(2, .long ((z71) + (x_7))), (4, .int (nI (i71))), (0, .ref (a 0)), (1, .int (kind))]) hx hb dX6_inLand_116 rfl hl (by decide) rfl (fun ls hl => ?_)
                refine n_iinc (x := i71) (dN := 1) (k := 1) (lv' := [(4, .int (nI (i71 + 1))), (2, .long ((z71) + (x_7))), (0, .ref (a 0)), (1, .int (kind))]) hx hb dX6_inLand_117 hl rfl (by decide) rfl (fun ls hl => ?_)
                refine lv_goto (tgt := 71) hx hb dX6_inLand_120 (by decide) ?_
                exact (hWW _ _ _ _ _).mp (ih71 (i71 + 1) (by omega) (by omega) ((z71) + (x_7)) (by show _ = m_inLand_b71 σ kind i71 (lp (m_inLand_b71 σ kind) i71 z5); rw [← hz71]; exact (Eq.trans (by unfold m_inLand_j115; rfl) hR_10.symm))  _ _ hP hD hS _ (lv_sub hl [0, 1, 2, 3] rfl))
              refine lv_if_ne (x := kind) (tgt := 98) hx hb dX6_inLand_80 (by decide) (fun c_5 => ?_) (fun c_5 => ?_)
              · refine lv_iload_n hx hb dX6_inLand_98 rfl (lv_at hl 3 rfl) ?_
                refine lv_iconst (v := nI (1)) hx hb dX6_inLand_99 (by decide) ?_
                refine lv_icmp_ne (x := kind) (y := nI (1)) (tgt := 114) hx hb dX6_inLand_100 (by decide) (fun c_11 => ?_) (fun c_11 => ?_)
                · refine lv_lconst (v := 0) hx hb dX6_inLand_114 (by decide) ?_
                  exact (hWW _ _ _ _ _).mp (J115_8 _ (by simp only [if_neg c_5, if_neg c_11]) _ _ hP hD hS _ (lv_sub hl [0, 1, 2, 3] rfl))
                · refine lv_aload_n hx hb dX6_inLand_103 rfl (lv_at hl 2 rfl) ?_
                  refine m_get (v := .ref (a 3)) hx hb hts hin hown hK hP 3 (by decide) rfl (index := 13) (List.mem_of_getElem? (i := 5) rfl) dX6_inLand_104 ?_
                  refine lv_iload hx hb dX6_inLand_107 (lv_at hl 0 rfl) ?_
                  refine m_ald (j := i71) hx hb hK hP 2 3 rfl (by decide) (by omega) dX6_inLand_109 ?_
                  refine W.eq (g2 := F0 m 110 ls [.int ((σ.1 3 i71)), .long (z71)]) rfl ?_
                  refine lv_i2l (v := ((σ.1 3 i71)).toInt64) hx hb dX6_inLand_110 rfl ?_
                  refine lv_goto (tgt := 115) hx hb dX6_inLand_111 (by decide) ?_
                  exact (hWW _ _ _ _ _).mp (J115_8 _ (by simp only [if_neg c_5, if_pos c_11]) _ _ hP hD hS _ (lv_sub hl [0, 1, 2, 3] rfl))
              · refine lv_sipush (v := nI (1000)) hx hb dX6_inLand_83 (by decide) ?_
                refine lv_aload_n hx hb dX6_inLand_86 rfl (lv_at hl 2 rfl) ?_
                refine m_get (v := .ref (a 3)) hx hb hts hin hown hK hP 3 (by decide) rfl (index := 13) (List.mem_of_getElem? (i := 5) rfl) dX6_inLand_87 ?_
                refine lv_iload hx hb dX6_inLand_90 (lv_at hl 0 rfl) ?_
                refine m_ald (j := i71) hx hb hK hP 2 3 rfl (by decide) (by omega) dX6_inLand_92 ?_
                refine W.eq (g2 := F0 m 93 ls [.int ((σ.1 3 i71)), .int (nI (1000)), .long (z71)]) rfl ?_
                refine lv_imul (x := nI (1000)) (y := (σ.1 3 i71)) hx hb dX6_inLand_93 ?_
                refine lv_i2l (v := ((nI (1000)) * ((σ.1 3 i71))).toInt64) hx hb dX6_inLand_94 rfl ?_
                refine lv_goto (tgt := 115) hx hb dX6_inLand_95 (by decide) ?_
                exact (hWW _ _ _ _ _).mp (J115_8 _ (by simp only [if_pos c_5]) _ _ hP hD hS _ (lv_sub hl [0, 1, 2, 3] rfl))
        exact (hWW _ _ _ _ _).mp (L71 (25 + 1) 0 (Nat.zero_le _) (by omega) z5 rfl  _ _ hP hD hS _ (lv_sub hl [0, 1, 2, 3] rfl))
      · refine lv_lload_n hx hb dX6_inLand_12 rfl (lv_at hl 1 rfl) ?_
        refine lv_iload_n hx hb dX6_inLand_13 rfl (lv_at hl 3 rfl) ?_
        have J60_15 : ∀ (x_14 : Int64), x_14 = (if kind = 0 then ((σ.1 10 i5)).toInt64 else (if kind = nI (1) then (((σ.1 8 i5)) + ((σ.1 9 i5))).toInt64 else ((σ.1 11 i5)).toInt64)) → ∀ (H : Heap) (locs : List Loc), va_P G vwCl (wm cI cZ a σ) H → va_D (mA a) (wm cI cZ a σ) → va_S (mA a) s.heap H locs → ∀ (ls : Array Slot), lv_has ls 5 [(4, .int (nI (i5))), (2, .long (z5)), (0, .ref (a 0)), (1, .int (kind))] → WW H locs 0 0 (F0 m 60 ls [.long (x_14), .long (z5)]) := by
          intro x_14 h_16 H locs hP hD hS ls hl
          refine (hWW _ _ _ _ _).mpr ?_
          have hR_17 : m_inLand_b5 σ kind i5 z5 = m_inLand_j60 σ kind i5 z5 x_14 := (by have q_ := h_16.symm; subst q_; unfold m_inLand_b5; rfl)
          refine lv_ladd hx hb dX6_inLand_60 ?_
          refine lv_lstore_n (lv' := [(2, .long ((z5) + (x_14))), (4, .int (nI (i5))), (0, .ref (a 0)), (1, .int (kind))]) hx hb dX6_inLand_61 rfl hl (by decide) rfl (fun ls hl => ?_)
          refine n_iinc (x := i5) (dN := 1) (k := 1) (lv' := [(4, .int (nI (i5 + 1))), (2, .long ((z5) + (x_14))), (0, .ref (a 0)), (1, .int (kind))]) hx hb dX6_inLand_62 hl rfl (by decide) rfl (fun ls hl => ?_)
          refine lv_goto (tgt := 5) hx hb dX6_inLand_65 (by decide) ?_
          exact (hWW _ _ _ _ _).mp (ih5 (i5 + 1) (by omega) (by omega) ((z5) + (x_14)) (by show _ = m_inLand_b5 σ kind i5 (lp (m_inLand_b5 σ kind) i5 (0 : Int64)); rw [← hz5]; exact (Eq.trans (by unfold m_inLand_j60; rfl) hR_17.symm))  _ _ hP hD hS _ (lv_sub hl [0, 1, 2, 3] rfl))
        refine lv_if_ne (x := kind) (tgt := 28) hx hb dX6_inLand_14 (by decide) (fun c_12 => ?_) (fun c_12 => ?_)
        · refine lv_iload_n hx hb dX6_inLand_28 rfl (lv_at hl 3 rfl) ?_
          refine lv_iconst (v := nI (1)) hx hb dX6_inLand_29 (by decide) ?_
          refine lv_icmp_ne (x := kind) (y := nI (1)) (tgt := 52) hx hb dX6_inLand_30 (by decide) (fun c_18 => ?_) (fun c_18 => ?_)
          · refine lv_aload_n hx hb dX6_inLand_52 rfl (lv_at hl 2 rfl) ?_
            refine m_get (v := .ref (a 11)) hx hb hts hin hown hK hP 11 (by decide) rfl (index := 37) (List.mem_of_getElem? (i := 4) rfl) dX6_inLand_53 ?_
            refine lv_iload hx hb dX6_inLand_56 (lv_at hl 0 rfl) ?_
            refine m_ald (j := i5) hx hb hK hP 10 11 rfl (by decide) (by omega) dX6_inLand_58 ?_
            refine W.eq (g2 := F0 m 59 ls [.int ((σ.1 11 i5)), .long (z5)]) rfl ?_
            refine lv_i2l (v := ((σ.1 11 i5)).toInt64) hx hb dX6_inLand_59 rfl ?_
            exact (hWW _ _ _ _ _).mp (J60_15 _ (by simp only [if_neg c_12, if_neg c_18]) _ _ hP hD hS _ (lv_sub hl [0, 1, 2, 3] rfl))
          · refine lv_aload_n hx hb dX6_inLand_33 rfl (lv_at hl 2 rfl) ?_
            refine m_get (v := .ref (a 8)) hx hb hts hin hown hK hP 8 (by decide) rfl (index := 28) (List.mem_of_getElem? (i := 2) rfl) dX6_inLand_34 ?_
            refine lv_iload hx hb dX6_inLand_37 (lv_at hl 0 rfl) ?_
            refine m_ald (j := i5) hx hb hK hP 7 8 rfl (by decide) (by omega) dX6_inLand_39 ?_
            refine W.eq (g2 := F0 m 40 ls [.int ((σ.1 8 i5)), .long (z5)]) rfl ?_
            refine lv_aload_n hx hb dX6_inLand_40 rfl (lv_at hl 2 rfl) ?_
            refine m_get (v := .ref (a 9)) hx hb hts hin hown hK hP 9 (by decide) rfl (index := 31) (List.mem_of_getElem? (i := 3) rfl) dX6_inLand_41 ?_
            refine lv_iload hx hb dX6_inLand_44 (lv_at hl 0 rfl) ?_
            refine m_ald (j := i5) hx hb hK hP 8 9 rfl (by decide) (by omega) dX6_inLand_46 ?_
            refine W.eq (g2 := F0 m 47 ls [.int ((σ.1 9 i5)), .int ((σ.1 8 i5)), .long (z5)]) rfl ?_
            refine lv_iadd (x := (σ.1 8 i5)) (y := (σ.1 9 i5)) hx hb dX6_inLand_47 ?_
            refine lv_i2l (v := (((σ.1 8 i5)) + ((σ.1 9 i5))).toInt64) hx hb dX6_inLand_48 rfl ?_
            refine lv_goto (tgt := 60) hx hb dX6_inLand_49 (by decide) ?_
            exact (hWW _ _ _ _ _).mp (J60_15 _ (by simp only [if_neg c_12, if_pos c_18]) _ _ hP hD hS _ (lv_sub hl [0, 1, 2, 3] rfl))
        · refine lv_aload_n hx hb dX6_inLand_17 rfl (lv_at hl 2 rfl) ?_
          refine m_get (v := .ref (a 10)) hx hb hts hin hown hK hP 10 (by decide) rfl (index := 34) (List.mem_of_getElem? (i := 1) rfl) dX6_inLand_18 ?_
          refine lv_iload hx hb dX6_inLand_21 (lv_at hl 0 rfl) ?_
          refine m_ald (j := i5) hx hb hK hP 9 10 rfl (by decide) (by omega) dX6_inLand_23 ?_
          refine W.eq (g2 := F0 m 24 ls [.int ((σ.1 10 i5)), .long (z5)]) rfl ?_
          refine lv_i2l (v := ((σ.1 10 i5)).toInt64) hx hb dX6_inLand_24 rfl ?_
          refine lv_goto (tgt := 60) hx hb dX6_inLand_25 (by decide) ?_
          exact (hWW _ _ _ _ _).mp (J60_15 _ (by simp only [if_pos c_12]) _ _ hP hD hS _ (lv_sub hl [0, 1, 2, 3] rfl))
  exact (hWW _ _ _ _ _).mp (L5 (125 + 1) 0 (Nat.zero_le _) (by omega) (0 : Int64) rfl  _ _ hP hD hS _ (lv_sub hl [0, 1, 2, 3] rfl))
