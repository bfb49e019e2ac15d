def m_worth_x9 (σ : Sg) (h : Int32) (z9 : Int32) : Int32 := (nI (100)) * ((m_lesser (σ.1 17 ((h).toNatClampNeg)) z9))
def m_worth_j125 (σ : Sg) (h : Int32) (i9 : Nat) (z9 : Int32) (z23 : Int32) (x_7 : Int32) : Int32 := (z9) + (x_7)
def m_worth_x23 (σ : Sg) (h : Int32) (i9 : Nat) (z9 : Int32) (z23 : Int32) : Int32 := (m_worth_j125 σ h i9 z9 z23 (if z23 = 0 then nI (0) else nI (1)))
def m_worth_j106 (σ : Sg) (h : Int32) (i9 : Nat) (i23 : Nat) (z23 : Int32) (x_13 : Int32) (x_19 : Int32) : Int32 := x_19
def m_worth_j64 (σ : Sg) (h : Int32) (i9 : Nat) (i23 : Nat) (z23 : Int32) (x_13 : Int32) : Int32 := (m_worth_j106 σ h i9 i23 z23 x_13 (if z23 = 0 then (if x_13 = 0 then nI (0) else (if (σ.1 23 (((nI ((3000 * i23) + (5 * ((σ.1 18 ((h).toNatClampNeg)).toNatClampNeg + i9)))) + ((σ.1 15 ((h).toNatClampNeg)))).toNatClampNeg)) < 0 then nI (0) else nI (1))) else nI (1)))
def m_worth_b23 (σ : Sg) (h : Int32) (i9 : Nat) (i23 : Nat) (z23 : Int32) : Int32 := (m_worth_j64 σ h i9 i23 z23 (if (σ.1 20 i23) = (σ.1 14 ((h).toNatClampNeg)) then (if nI ((σ.1 18 ((h).toNatClampNeg)).toNatClampNeg + i9) < (σ.1 22 i23) then nI (0) else nI (1)) else nI (0)))
def m_worth_b9 (σ : Sg) (h : Int32) (i9 : Nat) (z9 : Int32) : Int32 := (m_worth_x23 σ h i9 z9 (lp (m_worth_b23 σ h i9) ((σ.1 19 0).toNatClampNeg) (nI (0))))
def m_worth (σ : Sg) (h : Int32) : Int32 := (m_worth_x9 σ h (lp (m_worth_b9 σ h) ((σ.1 1 0).toNatClampNeg - (σ.1 18 ((h).toNatClampNeg)).toNatClampNeg) (nI (0))))
set_option maxHeartbeats 4000000 in
set_option maxRecDepth 100000 in
theorem cm_worth (l : Launch) (G : va_G) (cI cZ : ClassId) (a : Nat → Nat) (σ : Sg) (h : Int32) (hO : mOK σ) (hh : vp_in h (σ.1 13 0).toNatClampNeg) : mI l yX6_worth wsX6_worth ({ frames := 1, cells := 0, slots := 0, locals := 21 } : Room) G cI cZ a σ [.int (h)] (m_worth σ h) σ := by
  unfold mI
  refine Met.ofW (cc := cX6_worth) (maxL := 7) (ret := (some .int)) (by decide) rfl ?_
  intro p e s m args below meth c s₁ B hml hv
  obtain ⟨rfl, hP, hK, hD⟩ := hv
  have hx := B.exec
  have hb := B.bytes
  have hr := B.returns
  have hts := atoms_spec (ws := wsX6_worth) B.pre
  have hown : s.vm.findClass RX6 = some m.cls := findClass_of_methodNamed B.named
  have hlocks := B.notSynchronized
  have hS : va_S (mA a) s.heap s.heap [] := va_S.rf
  have hin : ∀ w ∈ wsX60, w ∈ wsX6_worth := fun w h => List.mem_cons_of_mem _ (List.mem_append_right _ h)
  have hl := lv_entry ([.ref (a 0), .int (h)]) (n := 7) (Nat.le_of_ble_eq_true rfl)
  rw [lg_entry_eq]
  generalize (lg_sl ([.ref (a 0), .int (h)]) ++ List.replicate (7 - (lg_sl ([.ref (a 0), .int (h)])).length) Slot.unset).toArray = ls at hl ⊢
  have hl : lv_has ls 7 [(0, .ref (a 0)), (1, .int (h))] := hl
  refine w_named (fun WW hWW => ?_)
  have hP : va_P G vwCl (wm cI cZ a σ) s.heap := hP
  have h13 := vp_lt hO.1
  have h19 := vp_lt hO.2.1
  have e19 := vp_self hO.2.1
  have e1 := vp_self hO.2.2.2.1
  have h1 := vp_lt hO.2.2.2.1
  have hH := hO.2.2.2.2.1 _ (vp_lt hh)
  have hq : vp_in h 10 := vp_wide hh (by omega)
  have h18 := vp_lt hH.2.2.1
  have h18m := hH.2.2.2
  refine lv_iconst (v := nI (0)) hx hb dX6_worth_0 (by decide) ?_
  refine lv_istore_n (lv' := [(2, .int (nI (0))), (0, .ref (a 0)), (1, .int (h))]) hx hb dX6_worth_1 rfl hl (by decide) rfl (fun ls hl => ?_)
  refine lv_aload_n hx hb dX6_worth_2 rfl (lv_at hl 1 rfl) ?_
  refine m_get (v := .ref (a 18)) hx hb hts hin hown hK hP 18 (by decide) rfl (index := 56) (List.mem_of_getElem? (i := 1) rfl) dX6_worth_3 ?_
  refine lv_iload_n hx hb dX6_worth_6 rfl (lv_at hl 2 rfl) ?_
  refine m_aldI (j := h) hx hb hK hP 16 18 rfl (hq) dX6_worth_7 ?_
  refine W.eq (g2 := F0 m 8 ls [.int ((σ.1 18 ((h).toNatClampNeg)))]) rfl ?_
  refine W.eq (g2 := F0 m 8 ls (.int (nI ((σ.1 18 ((h).toNatClampNeg)).toNatClampNeg)) :: [])) (congrArg (fun v => F0 m 8 ls (Value.int v :: [])) (vp_self hH.2.2.1)) ?_
  refine lv_istore_n (lv' := [(3, .int (nI ((σ.1 18 ((h).toNatClampNeg)).toNatClampNeg))), (2, .int (nI (0))), (0, .ref (a 0)), (1, .int (h))]) hx hb dX6_worth_8 rfl hl (by decide) rfl (fun ls hl => ?_)
  have L9 : ∀ (n9 i9 : Nat), i9 ≤ (σ.1 1 0).toNatClampNeg - (σ.1 18 ((h).toNatClampNeg)).toNatClampNeg → ((σ.1 1 0).toNatClampNeg - (σ.1 18 ((h).toNatClampNeg)).toNatClampNeg) + 1 ≤ i9 + n9 → ∀ (z9 : Int32), z9 = lp (m_worth_b9 σ h) i9 (nI (0)) → ∀ (H : Heap) (locs : List Loc), va_P G vwCl (wm cI cZ a σ) H → va_D (mA a) (wm cI cZ a σ) → va_S (mA a) s.heap H locs → ∀ (ls : Array Slot), lv_has ls 7 [(3, .int (nI ((σ.1 18 ((h).toNatClampNeg)).toNatClampNeg + i9))), (2, .int (z9)), (0, .ref (a 0)), (1, .int (h))] → WW H locs 0 0 (F0 m 9 ls []) := by
    intro n9
    induction n9 with
    | zero => intro i9 h1 h2; exact absurd h2 (by omega)
    | succ n9 ih9 =>
      intro i9 hi9 hn9 z9 hz9  H locs hP hD hS ls hl
      refine (hWW _ _ _ _ _).mpr ?_
      refine lv_iload_n hx hb dX6_worth_9 rfl (lv_at hl 0 rfl) ?_
      refine lv_aload_n hx hb dX6_worth_10 rfl (lv_at hl 2 rfl) ?_
      refine m_get (v := .int ((σ.1 1 0))) hx hb hts hin hown hK hP 1 (by decide) rfl (index := 109) (List.mem_of_getElem? (i := 2) rfl) dX6_worth_11 ?_
      refine W.eq (g2 := F0 m 14 ls (.int (nI ((σ.1 1 0).toNatClampNeg)) :: .int (nI ((σ.1 18 ((h).toNatClampNeg)).toNatClampNeg + i9)) :: [])) (congrArg (fun v => F0 m 14 ls (Value.int v :: .int (nI ((σ.1 18 ((h).toNatClampNeg)).toNatClampNeg + i9)) :: [])) (e1)) ?_
      refine n_icmp_ge (x := (σ.1 18 ((h).toNatClampNeg)).toNatClampNeg + i9) (y := (σ.1 1 0).toNatClampNeg) (tgt := 133) hx hb (by omega) (by omega) dX6_worth_14 (by decide) (fun c_1 => ?_) (fun c_1 => ?_)
      · have hiN : (σ.1 1 0).toNatClampNeg - (σ.1 18 ((h).toNatClampNeg)).toNatClampNeg = i9 := by omega
        subst hiN
        have hR_2 : m_worth σ h = m_worth_x9 σ h z9 := (by have q_ := hz9.symm; subst q_; unfold m_worth; rfl)
        refine lv_bipush (v := nI (100)) hx hb dX6_worth_133 (by decide) ?_
        refine lv_aload_n hx hb dX6_worth_135 rfl (lv_at hl 2 rfl) ?_
        refine m_get (v := .ref (a 17)) hx hb hts hin hown hK hP 17 (by decide) rfl (index := 53) (List.mem_of_getElem? (i := 9) rfl) dX6_worth_136 ?_
        refine lv_iload_n hx hb dX6_worth_139 rfl (lv_at hl 3 rfl) ?_
        refine m_aldI (j := h) hx hb hK hP 15 17 rfl (hq) dX6_worth_140 ?_
        refine W.eq (g2 := F0 m 141 ls [.int ((σ.1 17 ((h).toNatClampNeg))), .int (nI (100))]) rfl ?_
        refine lv_iload_n hx hb dX6_worth_141 rfl (lv_at hl 1 rfl) ?_
        refine m_callS (As := [.int ((σ.1 17 ((h).toNatClampNeg))), .int (z9)]) (rest := [.int (nI (100))]) ⟨hx, hb, hml, hown, hts⟩ (cm_lesser l (σ.1 17 ((h).toNatClampNeg)) z9 ) (va_cwS 2 hts gX6_worth_X6_lesser rfl rfl rfl (by decide +kernel) ⟨Nat.le_of_ble_eq_true rfl, Nat.le_of_ble_eq_true rfl⟩) hP hS rfl hl.1 rfl (Nat.le_of_ble_eq_true rfl) dX6_worth_142 ⟨Nat.zero_le _, Nat.zero_le _⟩ (fun H locs hP hS => ?_)
        refine lv_imul (x := nI (100)) (y := (m_lesser (σ.1 17 ((h).toNatClampNeg)) z9)) hx hb dX6_worth_145 ?_
        exact m_iret (v := (nI (100)) * ((m_lesser (σ.1 17 ((h).toNatClampNeg)) z9))) hx hb hr hlocks hP hK hD hS dX6_worth_146 (Eq.trans (by unfold m_worth_x9; rfl) hR_2.symm) (Eq.refl _)
      · refine lv_iconst (v := nI (0)) hx hb dX6_worth_17 (by decide) ?_
        refine lv_istore (lv' := [(4, .int (nI (0))), (3, .int (nI ((σ.1 18 ((h).toNatClampNeg)).toNatClampNeg + i9))), (2, .int (z9)), (0, .ref (a 0)), (1, .int (h))]) hx hb dX6_worth_18 hl (by decide) rfl (fun ls hl => ?_)
        refine lv_iconst (v := nI (0)) hx hb dX6_worth_20 (by decide) ?_
        refine lv_istore (lv' := [(5, .int (nI (0))), (4, .int (nI (0))), (3, .int (nI ((σ.1 18 ((h).toNatClampNeg)).toNatClampNeg + i9))), (2, .int (z9)), (0, .ref (a 0)), (1, .int (h))]) hx hb dX6_worth_21 hl (by decide) rfl (fun ls hl => ?_)
        have L23 : ∀ (n23 i23 : Nat), i23 ≤ (σ.1 19 0).toNatClampNeg → ((σ.1 19 0).toNatClampNeg) + 1 ≤ i23 + n23 → ∀ (z23 : Int32), z23 = lp (m_worth_b23 σ h i9) i23 (nI (0)) → ∀ (H : Heap) (locs : List Loc), va_P G vwCl (wm cI cZ a σ) H → va_D (mA a) (wm cI cZ a σ) → va_S (mA a) s.heap H locs → ∀ (ls : Array Slot), lv_has ls 7 [(5, .int (nI (i23))), (4, .int (z23)), (3, .int (nI ((σ.1 18 ((h).toNatClampNeg)).toNatClampNeg + i9))), (2, .int (z9)), (0, .ref (a 0)), (1, .int (h))] → WW H locs 0 0 (F0 m 23 ls []) := by
          intro n23
          induction n23 with
          | zero => intro i23 h1 h2; exact absurd h2 (by omega)
          | succ n23 ih23 =>
            intro i23 hi23 hn23 z23 hz23  H locs hP hD hS ls hl
            refine (hWW _ _ _ _ _).mpr ?_
            refine lv_iload hx hb dX6_worth_23 (lv_at hl 0 rfl) ?_
            refine lv_aload_n hx hb dX6_worth_25 rfl (lv_at hl 4 rfl) ?_
            refine m_get (v := .int ((σ.1 19 0))) hx hb hts hin hown hK hP 19 (by decide) rfl (index := 135) (List.mem_of_getElem? (i := 3) rfl) dX6_worth_26 ?_
            refine W.eq (g2 := F0 m 29 ls (.int (nI ((σ.1 19 0).toNatClampNeg)) :: .int (nI (i23)) :: [])) (congrArg (fun v => F0 m 29 ls (Value.int v :: .int (nI (i23)) :: [])) (e19)) ?_
            refine n_icmp_ge (x := i23) (y := (σ.1 19 0).toNatClampNeg) (tgt := 114) hx hb (by omega) (by omega) dX6_worth_29 (by decide) (fun c_3 => ?_) (fun c_3 => ?_)
            · have hiN : (σ.1 19 0).toNatClampNeg = i23 := by omega
              subst hiN
              have hR_4 : m_worth_b9 σ h i9 z9 = m_worth_x23 σ h i9 z9 z23 := (by have q_ := hz23.symm; subst q_; unfold m_worth_b9; rfl)
              refine lv_iload_n hx hb dX6_worth_114 rfl (lv_at hl 3 rfl) ?_
              refine lv_iload hx hb dX6_worth_115 (lv_at hl 1 rfl) ?_
              have J125_8 : ∀ (x_7 : Int32), x_7 = (if z23 = 0 then nI (0) else nI (1)) → ∀ (H : Heap) (locs : List Loc), va_P G vwCl (wm cI cZ a σ) H → va_D (mA a) (wm cI cZ a σ) → va_S (mA a) s.heap H locs → ∀ (ls : Array Slot), lv_has ls 7 [(5, .int (nI (((σ.1 19 0).toNatClampNeg)))), (4, .int (z23)), (3, .int (nI ((σ.1 18 ((h).toNatClampNeg)).toNatClampNeg + i9))), (2, .int (z9)), (0, .ref (a 0)), (1, .int (h))] → WW H locs 0 0 (F0 m 125 ls [.int (x_7), .int (z9)]) := by
                intro x_7 h_9 H locs hP hD hS ls hl
                refine (hWW _ _ _ _ _).mpr ?_
                have hR_10 : m_worth_b9 σ h i9 z9 = m_worth_j125 σ h i9 z9 z23 x_7 := (Eq.trans hR_4 (by have q_ := h_9.symm; subst q_; unfold m_worth_x23; rfl))
                refine lv_iadd (x := z9) (y := x_7) hx hb dX6_worth_125 ?_
                refine lv_istore_n (lv' := [(2, .int ((z9) + (x_7))), (5, .int (nI (((σ.1 19 0).toNatClampNeg)))), (4, .int (z23)), (3, .int (nI ((σ.1 18 ((h).toNatClampNeg)).toNatClampNeg + i9))), (0, .ref (a 0)), (1, .int (h))]) hx hb dX6_worth_126 rfl hl (by decide) rfl (fun ls hl => ?_)
                refine n_iinc (x := (σ.1 18 ((h).toNatClampNeg)).toNatClampNeg + i9) (dN := 1) (k := 3) (lv' := [(3, .int (nI ((σ.1 18 ((h).toNatClampNeg)).toNatClampNeg + i9 + 1))), (2, .int ((z9) + (x_7))), (5, .int (nI (((σ.1 19 0).toNatClampNeg)))), (4, .int (z23)), (0, .ref (a 0)), (1, .int (h))]) hx hb dX6_worth_127 hl rfl (by decide) rfl (fun ls hl => ?_)
                refine lv_goto (tgt := 9) hx hb dX6_worth_130 (by decide) ?_
                exact (hWW _ _ _ _ _).mp (ih9 (i9 + 1) (by omega) (by omega) ((z9) + (x_7)) (by show _ = m_worth_b9 σ h i9 (lp (m_worth_b9 σ h) i9 (nI (0))); rw [← hz9]; exact (Eq.trans (by unfold m_worth_j125; rfl) hR_10.symm))  _ _ hP hD hS _ (lv_sub hl [0, 1, 4, 5] rfl))
              refine lv_if_eq (x := z23) (tgt := 124) hx hb dX6_worth_117 (by decide) (fun c_5 => ?_) (fun c_5 => ?_)
              · refine lv_iconst (v := nI (0)) hx hb dX6_worth_124 (by decide) ?_
                exact (hWW _ _ _ _ _).mp (J125_8 _ (by simp only [if_pos c_5]) _ _ hP hD hS _ (lv_sub hl [0, 1, 2, 3, 4, 5] rfl))
              · refine lv_iconst (v := nI (1)) hx hb dX6_worth_120 (by decide) ?_
                refine lv_goto (tgt := 125) hx hb dX6_worth_121 (by decide) ?_
                exact (hWW _ _ _ _ _).mp (J125_8 _ (by simp only [if_neg c_5]) _ _ hP hD hS _ (lv_sub hl [0, 1, 2, 3, 4, 5] rfl))
            · refine lv_aload_n hx hb dX6_worth_32 rfl (lv_at hl 4 rfl) ?_
              refine m_get (v := .ref (a 20)) hx hb hts hin hown hK hP 20 (by decide) rfl (index := 59) (List.mem_of_getElem? (i := 4) rfl) dX6_worth_33 ?_
              refine lv_iload hx hb dX6_worth_36 (lv_at hl 0 rfl) ?_
              refine m_ald (j := i23) hx hb hK hP 17 20 rfl (by decide) (by omega) dX6_worth_38 ?_
              refine W.eq (g2 := F0 m 39 ls [.int ((σ.1 20 i23))]) rfl ?_
              refine lv_aload_n hx hb dX6_worth_39 rfl (lv_at hl 4 rfl) ?_
              refine m_get (v := .ref (a 14)) hx hb hts hin hown hK hP 14 (by decide) rfl (index := 43) (List.mem_of_getElem? (i := 5) rfl) dX6_worth_40 ?_
              refine lv_iload_n hx hb dX6_worth_43 rfl (lv_at hl 5 rfl) ?_
              refine m_aldI (j := h) hx hb hK hP 12 14 rfl (hq) dX6_worth_44 ?_
              refine W.eq (g2 := F0 m 45 ls [.int ((σ.1 14 ((h).toNatClampNeg))), .int ((σ.1 20 i23))]) rfl ?_
              have J64_14 : ∀ (x_13 : Int32), x_13 = (if (σ.1 20 i23) = (σ.1 14 ((h).toNatClampNeg)) then (if nI ((σ.1 18 ((h).toNatClampNeg)).toNatClampNeg + i9) < (σ.1 22 i23) then nI (0) else nI (1)) else nI (0)) → ∀ (H : Heap) (locs : List Loc), va_P G vwCl (wm cI cZ a σ) H → va_D (mA a) (wm cI cZ a σ) → va_S (mA a) s.heap H locs → ∀ (ls : Array Slot), lv_has ls 7 [(5, .int (nI (i23))), (4, .int (z23)), (3, .int (nI ((σ.1 18 ((h).toNatClampNeg)).toNatClampNeg + i9))), (2, .int (z9)), (0, .ref (a 0)), (1, .int (h))] → WW H locs 0 0 (F0 m 64 ls [.int (x_13)]) := by
                intro x_13 h_15 H locs hP hD hS ls hl
                refine (hWW _ _ _ _ _).mpr ?_
                have hR_16 : m_worth_b23 σ h i9 i23 z23 = m_worth_j64 σ h i9 i23 z23 x_13 := (by have q_ := h_15.symm; subst q_; unfold m_worth_b23; rfl)
                refine lv_istore (lv' := [(6, .int (x_13)), (5, .int (nI (i23))), (4, .int (z23)), (3, .int (nI ((σ.1 18 ((h).toNatClampNeg)).toNatClampNeg + i9))), (2, .int (z9)), (0, .ref (a 0)), (1, .int (h))]) hx hb dX6_worth_64 hl (by decide) rfl (fun ls hl => ?_)
                refine lv_iload hx hb dX6_worth_66 (lv_at hl 2 rfl) ?_
                have J106_20 : ∀ (x_19 : Int32), x_19 = (if z23 = 0 then (if x_13 = 0 then nI (0) else (if (σ.1 23 (((nI ((3000 * i23) + (5 * ((σ.1 18 ((h).toNatClampNeg)).toNatClampNeg + i9)))) + ((σ.1 15 ((h).toNatClampNeg)))).toNatClampNeg)) < 0 then nI (0) else nI (1))) else nI (1)) → ∀ (H : Heap) (locs : List Loc), va_P G vwCl (wm cI cZ a σ) H → va_D (mA a) (wm cI cZ a σ) → va_S (mA a) s.heap H locs → ∀ (ls : Array Slot), lv_has ls 7 [(6, .int (x_13)), (5, .int (nI (i23))), (4, .int (z23)), (3, .int (nI ((σ.1 18 ((h).toNatClampNeg)).toNatClampNeg + i9))), (2, .int (z9)), (0, .ref (a 0)), (1, .int (h))] → WW H locs 0 0 (F0 m 106 ls [.int (x_19)]) := by
                  intro x_19 h_21 H locs hP hD hS ls hl
                  refine (hWW _ _ _ _ _).mpr ?_
                  have hR_22 : m_worth_b23 σ h i9 i23 z23 = m_worth_j106 σ h i9 i23 z23 x_13 x_19 := (Eq.trans hR_16 (by have q_ := h_21.symm; subst q_; unfold m_worth_j64; rfl))
                  refine lv_istore (lv' := [(4, .int (x_19)), (6, .int (x_13)), (5, .int (nI (i23))), (3, .int (nI ((σ.1 18 ((h).toNatClampNeg)).toNatClampNeg + i9))), (2, .int (z9)), (0, .ref (a 0)), (1, .int (h))]) hx hb dX6_worth_106 hl (by decide) rfl (fun ls hl => ?_)
                  refine n_iinc (x := i23) (dN := 1) (k := 2) (lv' := [(5, .int (nI (i23 + 1))), (4, .int (x_19)), (6, .int (x_13)), (3, .int (nI ((σ.1 18 ((h).toNatClampNeg)).toNatClampNeg + i9))), (2, .int (z9)), (0, .ref (a 0)), (1, .int (h))]) hx hb dX6_worth_108 hl rfl (by decide) rfl (fun ls hl => ?_)
                  refine lv_goto (tgt := 23) hx hb dX6_worth_111 (by decide) ?_
                  exact (hWW _ _ _ _ _).mp (ih23 (i23 + 1) (by omega) (by omega) (x_19) (by show _ = m_worth_b23 σ h i9 i23 (lp (m_worth_b23 σ h i9) i23 (nI (0))); rw [← hz23]; exact (Eq.trans (by unfold m_worth_j106; rfl) hR_22.symm))  _ _ hP hD hS _ (lv_sub hl [0, 1, 3, 4, 5, 6] rfl))
                refine lv_if_ne (x := z23) (tgt := 101) hx hb dX6_worth_68 (by decide) (fun c_17 => ?_) (fun c_17 => ?_)
                · refine lv_iconst (v := nI (1)) hx hb dX6_worth_101 (by decide) ?_
                  refine lv_goto (tgt := 106) hx hb dX6_worth_102 (by decide) ?_
                  exact (hWW _ _ _ _ _).mp (J106_20 _ (by simp only [if_neg c_17]) _ _ hP hD hS _ (lv_sub hl [0, 1, 2, 3, 4, 5, 6] rfl))
                · refine lv_iload hx hb dX6_worth_71 (lv_at hl 0 rfl) ?_
                  refine lv_if_eq (x := x_13) (tgt := 105) hx hb dX6_worth_73 (by decide) (fun c_23 => ?_) (fun c_23 => ?_)
                  · refine lv_iconst (v := nI (0)) hx hb dX6_worth_105 (by decide) ?_
                    exact (hWW _ _ _ _ _).mp (J106_20 _ (by simp only [if_pos c_17, if_pos c_23]) _ _ hP hD hS _ (lv_sub hl [0, 1, 2, 3, 4, 5, 6] rfl))
                  · refine lv_aload_n hx hb dX6_worth_76 rfl (lv_at hl 5 rfl) ?_
                    refine m_get (v := .ref (a 23)) hx hb hts hin hown hK hP 23 (by decide) rfl (index := 68) (List.mem_of_getElem? (i := 7) rfl) dX6_worth_77 ?_
                    refine lv_sipush (v := nI (3000)) hx hb dX6_worth_80 (by decide) ?_
                    refine lv_iload hx hb dX6_worth_83 (lv_at hl 1 rfl) ?_
                    refine n_mul (x := 3000) (y := i23) hx hb dX6_worth_85 ?_
                    refine lv_iconst (v := nI (5)) hx hb dX6_worth_86 (by decide) ?_
                    refine lv_iload_n hx hb dX6_worth_87 rfl (lv_at hl 3 rfl) ?_
                    refine n_mul (x := 5) (y := (σ.1 18 ((h).toNatClampNeg)).toNatClampNeg + i9) hx hb dX6_worth_88 ?_
                    refine n_add (x := 3000 * i23) (y := 5 * ((σ.1 18 ((h).toNatClampNeg)).toNatClampNeg + i9)) hx hb dX6_worth_89 ?_
                    refine lv_aload_n hx hb dX6_worth_90 rfl (lv_at hl 5 rfl) ?_
                    refine m_get (v := .ref (a 15)) hx hb hts hin hown hK hP 15 (by decide) rfl (index := 46) (List.mem_of_getElem? (i := 8) rfl) dX6_worth_91 ?_
                    refine lv_iload_n hx hb dX6_worth_94 rfl (lv_at hl 6 rfl) ?_
                    refine m_aldI (j := h) hx hb hK hP 13 15 rfl (hq) dX6_worth_95 ?_
                    refine W.eq (g2 := F0 m 96 ls [.int ((σ.1 15 ((h).toNatClampNeg))), .int (nI ((3000 * i23) + (5 * ((σ.1 18 ((h).toNatClampNeg)).toNatClampNeg + i9)))), .ref (a 23)]) rfl ?_
                    refine lv_iadd (x := nI ((3000 * i23) + (5 * ((σ.1 18 ((h).toNatClampNeg)).toNatClampNeg + i9)))) (y := (σ.1 15 ((h).toNatClampNeg))) hx hb dX6_worth_96 ?_
                    refine m_aldI (j := (nI ((3000 * i23) + (5 * ((σ.1 18 ((h).toNatClampNeg)).toNatClampNeg + i9)))) + ((σ.1 15 ((h).toNatClampNeg)))) hx hb hK hP 20 23 rfl (vp_rdM (by omega) (by omega) hH.2.1) dX6_worth_97 ?_
                    refine W.eq (g2 := F0 m 98 ls [.int ((σ.1 23 (((nI ((3000 * i23) + (5 * ((σ.1 18 ((h).toNatClampNeg)).toNatClampNeg + i9)))) + ((σ.1 15 ((h).toNatClampNeg)))).toNatClampNeg)))]) rfl ?_
                    refine lv_if_lt (x := (σ.1 23 (((nI ((3000 * i23) + (5 * ((σ.1 18 ((h).toNatClampNeg)).toNatClampNeg + i9)))) + ((σ.1 15 ((h).toNatClampNeg)))).toNatClampNeg))) (tgt := 105) hx hb dX6_worth_98 (by decide) (fun c_24 => ?_) (fun c_24 => ?_)
                    · refine lv_iconst (v := nI (0)) hx hb dX6_worth_105 (by decide) ?_
                      exact (hWW _ _ _ _ _).mp (J106_20 _ (by simp only [if_pos c_17, if_neg c_23, if_pos c_24]) _ _ hP hD hS _ (lv_sub hl [0, 1, 2, 3, 4, 5, 6] rfl))
                    · refine lv_iconst (v := nI (1)) hx hb dX6_worth_101 (by decide) ?_
                      refine lv_goto (tgt := 106) hx hb dX6_worth_102 (by decide) ?_
                      exact (hWW _ _ _ _ _).mp (J106_20 _ (by simp only [if_pos c_17, if_neg c_23, if_neg c_24]) _ _ hP hD hS _ (lv_sub hl [0, 1, 2, 3, 4, 5, 6] rfl))
              refine lv_icmp_ne (x := (σ.1 20 i23)) (y := (σ.1 14 ((h).toNatClampNeg))) (tgt := 63) hx hb dX6_worth_45 (by decide) (fun c_11 => ?_) (fun c_11 => ?_)
              · refine lv_iconst (v := nI (0)) hx hb dX6_worth_63 (by decide) ?_
                exact (hWW _ _ _ _ _).mp (J64_14 _ (by simp only [if_neg c_11]) _ _ hP hD hS _ (lv_sub hl [0, 1, 2, 3, 4, 5] rfl))
              · refine lv_aload_n hx hb dX6_worth_48 rfl (lv_at hl 4 rfl) ?_
                refine m_get (v := .ref (a 22)) hx hb hts hin hown hK hP 22 (by decide) rfl (index := 65) (List.mem_of_getElem? (i := 6) rfl) dX6_worth_49 ?_
                refine lv_iload hx hb dX6_worth_52 (lv_at hl 0 rfl) ?_
                refine m_ald (j := i23) hx hb hK hP 19 22 rfl (by decide) (by omega) dX6_worth_54 ?_
                refine W.eq (g2 := F0 m 55 ls [.int ((σ.1 22 i23))]) rfl ?_
                refine lv_iload_n hx hb dX6_worth_55 rfl (lv_at hl 2 rfl) ?_
                refine lv_icmp_gt (x := (σ.1 22 i23)) (y := nI ((σ.1 18 ((h).toNatClampNeg)).toNatClampNeg + i9)) (tgt := 63) hx hb dX6_worth_56 (by decide) (fun c_25 => ?_) (fun c_25 => ?_)
                · refine lv_iconst (v := nI (0)) hx hb dX6_worth_63 (by decide) ?_
                  exact (hWW _ _ _ _ _).mp (J64_14 _ (by simp only [if_pos c_11, if_pos c_25]) _ _ hP hD hS _ (lv_sub hl [0, 1, 2, 3, 4, 5] rfl))
                · refine lv_iconst (v := nI (1)) hx hb dX6_worth_59 (by decide) ?_
                  refine lv_goto (tgt := 64) hx hb dX6_worth_60 (by decide) ?_
                  exact (hWW _ _ _ _ _).mp (J64_14 _ (by simp only [if_pos c_11, if_neg c_25]) _ _ hP hD hS _ (lv_sub hl [0, 1, 2, 3, 4, 5] rfl))
        exact (hWW _ _ _ _ _).mp (L23 ((σ.1 19 0).toNatClampNeg + 1) 0 (Nat.zero_le _) (by omega) (nI (0)) rfl  _ _ hP hD hS _ (lv_sub hl [0, 1, 2, 3, 4, 5] rfl))
  exact (hWW _ _ _ _ _).mp (L9 ((σ.1 1 0).toNatClampNeg - (σ.1 18 ((h).toNatClampNeg)).toNatClampNeg + 1) 0 (Nat.zero_le _) (by omega) (nI (0)) rfl  _ _ hP hD hS _ (lv_sub hl [0, 1, 2, 3] rfl))
