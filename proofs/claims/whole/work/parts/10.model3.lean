def m_isHouse (σ : Sg) (h : Int32) : Int32 := (m_within h (nI (0)) (((σ.1 13 0)) - (nI (1))))
set_option maxHeartbeats 4000000 in
set_option maxRecDepth 100000 in
theorem cm_isHouse (l : Launch) (G : va_G) (cI cZ : ClassId) (a : Nat → Nat) (σ : Sg) (h : Int32) : mI l yX6_isHouse wsX6_isHouse ({ frames := 1, cells := 0, slots := 0, locals := 22 } : Room) G cI cZ a σ [.int (h)] (m_isHouse σ h) σ := by
  unfold mI
  refine Met.ofW (cc := cX6_isHouse) (maxL := 2) (ret := (some .boolean)) (by decide) rfl ?_
  intro p e s m args below meth c s₁ B hml hv
  obtain ⟨rfl, hP, hK, hD⟩ := hv
  have hx := B.exec
  have hb := B.bytes
  have hr := B.returns
  have hts := atoms_spec (ws := wsX6_isHouse) B.pre
  have hown : s.vm.findClass RX6 = some m.cls := findClass_of_methodNamed B.named
  have hlocks := B.notSynchronized
  have hS : va_S (mA a) s.heap s.heap [] := va_S.rf
  have hin : ∀ w ∈ wsX60, w ∈ wsX6_isHouse := fun w h => List.mem_cons_of_mem _ (List.mem_append_right _ h)
  have hl := lv_entry ([.ref (a 0), .int (h)]) (n := 2) (Nat.le_of_ble_eq_true rfl)
  rw [lg_entry_eq]
  generalize (lg_sl ([.ref (a 0), .int (h)]) ++ List.replicate (2 - (lg_sl ([.ref (a 0), .int (h)])).length) Slot.unset).toArray = ls at hl ⊢
  have hl : lv_has ls 2 [(0, .ref (a 0)), (1, .int (h))] := hl
  refine w_named (fun WW hWW => ?_)
  have hP : va_P G vwCl (wm cI cZ a σ) s.heap := hP
  refine lv_iload_n hx hb dX6_isHouse_0 rfl (lv_at hl 1 rfl) ?_
  refine lv_iconst (v := nI (0)) hx hb dX6_isHouse_1 (by decide) ?_
  refine lv_aload_n hx hb dX6_isHouse_2 rfl (lv_at hl 0 rfl) ?_
  refine m_get (v := .int ((σ.1 13 0))) hx hb hts hin hown hK hP 13 (by decide) rfl (index := 132) (List.mem_of_getElem? (i := 1) rfl) dX6_isHouse_3 ?_
  refine lv_iconst (v := nI (1)) hx hb dX6_isHouse_6 (by decide) ?_
  refine lv_isub (x := (σ.1 13 0)) (y := nI (1)) hx hb dX6_isHouse_7 ?_
  refine m_callS (As := [.int (h), .int (nI (0)), .int (((σ.1 13 0)) - (nI (1)))]) (rest := []) ⟨hx, hb, hml, hown, hts⟩ (cm_within l h (nI (0)) (((σ.1 13 0)) - (nI (1))) ) (va_cwS 3 hts gX6_isHouse_X6_within rfl rfl rfl (by decide +kernel) ⟨Nat.le_of_ble_eq_true rfl, Nat.le_of_ble_eq_true rfl⟩) hP hS rfl hl.1 rfl (Nat.le_of_ble_eq_true rfl) dX6_isHouse_8 ⟨Nat.zero_le _, Nat.zero_le _⟩ (fun H locs hP hS => ?_)
  exact m_zret (v := (m_within h (nI (0)) (((σ.1 13 0)) - (nI (1))))) hx hb hr hlocks (z_nar (m_within_b _ _ _)) hP hK hD hS dX6_isHouse_11 (by unfold m_isHouse; rfl) (Eq.refl _)

def m_worth_x9 (σ : Sg) (h : Int32) (z9 : Int32) : Int32 := (nI (100)) * ((m_lesser (σ.1 17 ((h).toNatClampNeg)) z9))
def m_worth_j125 (σ : Sg) (h : Int32) (i9 : Nat) (z9 : Int32) (z23 : Int32) (x_7 : Int32) : Int32 := (z9) + (x_7)
def m_worth_x23 (σ : Sg) (h : Int32) (i9 : Nat) (z9 : Int32) (z23 : Int32) : Int32 := (m_worth_j125 σ h i9 z9 z23 (if z23 = 0 then nI (0) else nI (1)))
def m_worth_j106 (σ : Sg) (h : Int32) (i9 : Nat) (i23 : Nat) (z23 : Int32) (x_13 : Int32) (x_19 : Int32) : Int32 := x_19
def m_worth_j64 (σ : Sg) (h : Int32) (i9 : Nat) (i23 : Nat) (z23 : Int32) (x_13 : Int32) : Int32 := (m_worth_j106 σ h i9 i23 z23 x_13 (if z23 = 0 then (if x_13 = 0 then nI (0) else (if (σ.1 23 (((nI ((3000 * i23) + (5 * ((σ.1 18 ((h).toNatClampNeg)).toNatClampNeg + i9)))) + ((σ.1 15 ((h).toNatClampNeg)))).toNatClampNeg)) < 0 then nI (0) else nI (1))) else nI (1)))
def m_worth_b23 (σ : Sg) (h : Int32) (i9 : Nat) (i23 : Nat) (z23 : Int32) : Int32 := (m_worth_j64 σ h i9 i23 z23 (if (σ.1 20 i23) = (σ.1 14 ((h).toNatClampNeg)) then (if nI ((σ.1 18 ((h).toNatClampNeg)).toNatClampNeg + i9) < (σ.1 22 i23) then nI (0) else nI (1)) else nI (0)))
def m_worth_b9 (σ : Sg) (h : Int32) (i9 : Nat) (z9 : Int32) : Int32 := (m_worth_x23 σ h i9 z9 (lp (m_worth_b23 σ h i9) ((σ.1 19 0).toNatClampNeg) (nI (0))))
def m_worth (σ : Sg) (h : Int32) : Int32 := (m_worth_x9 σ h (lp (m_worth_b9 σ h) ((σ.1 1 0).toNatClampNeg - (σ.1 18 ((h).toNatClampNeg)).toNatClampNeg) (nI (0))))
set_option maxHeartbeats 4000000 in
set_option maxRecDepth 100000 in
theorem cm_worth (l : Launch) (G : va_G) (cI cZ : ClassId) (a : Nat → Nat) (σ : Sg) (h : Int32) (hO : mOK σ) (hh : vp_in h (σ.1 13 0).toNatClampNeg) : mI l yX6_worth wsX6_worth ({ frames := 1, cells := 0, slots := 0, locals := 21 } : Room) G cI cZ a σ [.int (h)] (m_worth σ h) σ := by
  unfold mI
  refine Met.ofW (cc := cX6_worth) (maxL := 7) (ret := (some .int)) (by decide) rfl ?_
  intro p e s m args below meth c s₁ B hml hv
  obtain ⟨rfl, hP, hK, hD⟩ := hv
  have hx := B.exec
  have hb := B.bytes
  have hr := B.returns
  have hts := atoms_spec (ws := wsX6_worth) B.pre
  have hown : s.vm.findClass RX6 = some m.cls := findClass_of_methodNamed B.named
  have hlocks := B.notSynchronized
  have hS : va_S (mA a) s.heap s.heap [] := va_S.rf
  have hin : ∀ w ∈ wsX60, w ∈ wsX6_worth := fun w h => List.mem_cons_of_mem _ (List.mem_append_right _ h)
  have hl := lv_entry ([.ref (a 0), .int (h)]) (n := 7) (Nat.le_of_ble_eq_true rfl)
  rw [lg_entry_eq]
  generalize (lg_sl ([.ref (a 0), .int (h)]) ++ List.replicate (7 - (lg_sl ([.ref (a 0), .int (h)])).length) Slot.unset).toArray = ls at hl ⊢
  have hl : lv_has ls 7 [(0, .ref (a 0)), (1, .int (h))] := hl
  refine w_named (fun WW hWW => ?_)
  have hP : va_P G vwCl (wm cI cZ a σ) s.heap := hP
  have h13 := vp_lt hO.1
  have h19 := vp_lt hO.2.1
  have e19 := vp_self hO.2.1
  have e1 := vp_self hO.2.2.2.1
  have h1 := vp_lt hO.2.2.2.1
  have hH := hO.2.2.2.2.1 _ (vp_lt hh)
  have hq : vp_in h 10 := vp_wide hh (by omega)
  have h18 := vp_lt hH.2.2.1
  have h18m := hH.2.2.2
  refine lv_iconst (v := nI (0)) hx hb dX6_worth_0 (by decide) ?_
  refine lv_istore_n (lv' := [(2, .int (nI (0))), (0, .ref (a 0)), (1, .int (h))]) hx hb dX6_worth_1 rfl hl (by decide) rfl (fun ls hl => ?_)
  refine lv_aload_n hx hb dX6_worth_2 rfl (lv_at hl 1 rfl) ?_
  refine m_get (v := .ref (a 18)) hx hb hts hin hown hK hP 18 (by decide) rfl (index := 56) (List.mem_of_getElem? (i := 1) rfl) dX6_worth_3 ?_
  refine lv_iload_n hx hb dX6_worth_6 rfl (lv_at hl 2 rfl) ?_
  refine m_aldI (j := h) hx hb hK hP 16 18 rfl (hq) dX6_worth_7 ?_
  refine W.eq (g2 := F0 m 8 ls [.int ((σ.1 18 ((h).toNatClampNeg)))]) rfl ?_
  refine W.eq (g2 := F0 m 8 ls (.int (nI ((σ.1 18 ((h).toNatClampNeg)).toNatClampNeg)) :: [])) (congrArg (fun v => F0 m 8 ls (Value.int v :: [])) (vp_self hH.2.2.1)) ?_
  refine lv_istore_n (lv' := [(3, .int (nI ((σ.1 18 ((h).toNatClampNeg)).toNatClampNeg))), (2, .int (nI (0))), (0, .ref (a 0)), (1, .int (h))]) hx hb dX6_worth_8 rfl hl (by decide) rfl (fun ls hl => ?_)
  have L9 : ∀ (n9 i9 : Nat), i9 ≤ (σ.1 1 0).toNatClampNeg - (σ.1 18 ((h).toNatClampNeg)).toNatClampNeg → ((σ.1 1 0).toNatClampNeg - (σ.1 18 ((h).toNatClampNeg)).toNatClampNeg) + 1 ≤ i9 + n9 → ∀ (z9 : Int32), z9 = lp (m_worth_b9 σ h) i9 (nI (0)) → ∀ (H : Heap) (locs : List Loc), va_P G vwCl (wm cI cZ a σ) H → va_D (mA a) (wm cI cZ a σ) → va_S (mA a) s.heap H locs → ∀ (ls : Array Slot), lv_has ls 7 [(3, .int (nI ((σ.1 18 ((h).toNatClampNeg)).toNatClampNeg + i9))), (2, .int (z9)), (0, .ref (a 0)), (1, .int (h))] → WW H locs 0 0 (F0 m 9 ls []) := by
    intro n9
    induction n9 with
    | zero => intro i9 h1 h2; exact absurd h2 (by omega)
    | succ n9 ih9 =>
      intro i9 hi9 hn9 z9 hz9  H locs hP hD hS ls hl
      refine (hWW _ _ _ _ _).mpr ?_
      refine lv_iload_n hx hb dX6_worth_9 rfl (lv_at hl 0 rfl) ?_
      refine lv_aload_n hx hb dX6_worth_10 rfl (lv_at hl 2 rfl) ?_
      refine m_get (v := .int ((σ.1 1 0))) hx hb hts hin hown hK hP 1 (by decide) rfl (index := 109) (List.mem_of_getElem? (i := 2) rfl) dX6_worth_11 ?_
      refine W.eq (g2 := F0 m 14 ls (.int (nI ((σ.1 1 0).toNatClampNeg)) :: .int (nI ((σ.1 18 ((h).toNatClampNeg)).toNatClampNeg + i9)) :: [])) (congrArg (fun v => F0 m 14 ls (Value.int v :: .int (nI ((σ.1 18 ((h).toNatClampNeg)).toNatClampNeg + i9)) :: [])) (e1)) ?_
      refine n_icmp_ge (x := (σ.1 18 ((h).toNatClampNeg)).toNatClampNeg + i9) (y := (σ.1 1 0).toNatClampNeg) (tgt := 133) hx hb (by omega) (by omega) dX6_worth_14 (by decide) (fun c_1 => ?_) (fun c_1 => ?_)
      · have hiN : (σ.1 1 0).toNatClampNeg - (σ.1 18 ((h).toNatClampNeg)).toNatClampNeg = i9 := by omega
        subst hiN
        have hR_2 : m_worth σ h = m_worth_x9 σ h z9 := (by subst hz9; unfold m_worth; rfl)
        refine lv_bipush (v := nI (100)) hx hb dX6_worth_133 (by decide) ?_
        refine lv_aload_n hx hb dX6_worth_135 rfl (lv_at hl 2 rfl) ?_
        refine m_get (v := .ref (a 17)) hx hb hts hin hown hK hP 17 (by decide) rfl (index := 53) (List.mem_of_getElem? (i := 9) rfl) dX6_worth_136 ?_
        refine lv_iload_n hx hb dX6_worth_139 rfl (lv_at hl 3 rfl) ?_
        refine m_aldI (j := h) hx hb hK hP 15 17 rfl (hq) dX6_worth_140 ?_
        refine W.eq (g2 := F0 m 141 ls [.int ((σ.1 17 ((h).toNatClampNeg))), .int (nI (100))]) rfl ?_
        refine lv_iload_n hx hb dX6_worth_141 rfl (lv_at hl 1 rfl) ?_
        refine m_callS (As := [.int ((σ.1 17 ((h).toNatClampNeg))), .int (z9)]) (rest := [.int (nI (100))]) ⟨hx, hb, hml, hown, hts⟩ (cm_lesser l (σ.1 17 ((h).toNatClampNeg)) z9 ) (va_cwS 2 hts gX6_worth_X6_lesser rfl rfl rfl (by decide +kernel) ⟨Nat.le_of_ble_eq_true rfl, Nat.le_of_ble_eq_true rfl⟩) hP hS rfl hl.1 rfl (Nat.le_of_ble_eq_true rfl) dX6_worth_142 ⟨Nat.zero_le _, Nat.zero_le _⟩ (fun H locs hP hS => ?_)
        refine lv_imul (x := nI (100)) (y := (m_lesser (σ.1 17 ((h).toNatClampNeg)) z9)) hx hb dX6_worth_145 ?_
        exact m_iret (v := (nI (100)) * ((m_lesser (σ.1 17 ((h).toNatClampNeg)) z9))) hx hb hr hlocks hP hK hD hS dX6_worth_146 (Eq.trans (by unfold m_worth_x9; rfl) hR_2.symm) (Eq.refl _)
      · refine lv_iconst (v := nI (0)) hx hb dX6_worth_17 (by decide) ?_
        refine lv_istore (lv' := [(4, .int (nI (0))), (3, .int (nI ((σ.1 18 ((h).toNatClampNeg)).toNatClampNeg + i9))), (2, .int (z9)), (0, .ref (a 0)), (1, .int (h))]) hx hb dX6_worth_18 hl (by decide) rfl (fun ls hl => ?_)
        refine lv_iconst (v := nI (0)) hx hb dX6_worth_20 (by decide) ?_
        refine lv_istore (lv' := [(5, .int (nI (0))), (4, .int (nI (0))), (3, .int (nI ((σ.1 18 ((h).toNatClampNeg)).toNatClampNeg + i9))), (2, .int (z9)), (0, .ref (a 0)), (1, .int (h))]) hx hb dX6_worth_21 hl (by decide) rfl (fun ls hl => ?_)
        have L23 : ∀ (n23 i23 : Nat), i23 ≤ (σ.1 19 0).toNatClampNeg → ((σ.1 19 0).toNatClampNeg) + 1 ≤ i23 + n23 → ∀ (z23 : Int32), z23 = lp (m_worth_b23 σ h i9) i23 (nI (0)) → ∀ (H : Heap) (locs : List Loc), va_P G vwCl (wm cI cZ a σ) H → va_D (mA a) (wm cI cZ a σ) → va_S (mA a) s.heap H locs → ∀ (ls : Array Slot), lv_has ls 7 [(5, .int (nI (i23))), (4, .int (z23)), (3, .int (nI ((σ.1 18 ((h).toNatClampNeg)).toNatClampNeg + i9))), (2, .int (z9)), (0, .ref (a 0)), (1, .int (h))] → WW H locs 0 0 (F0 m 23 ls []) := by
          intro n23
          induction n23 with
          | zero => intro i23 h1 h2; exact absurd h2 (by omega)
          | succ n23 ih23 =>
            intro i23 hi23 hn23 z23 hz23  H locs hP hD hS ls hl
            refine (hWW _ _ _ _ _).mpr ?_
            refine lv_iload hx hb dX6_worth_23 (lv_at hl 0 rfl) ?_
            refine lv_aload_n hx hb dX6_worth_25 rfl (lv_at hl 4 rfl) ?_
            refine m_get (v := .int ((σ.1 19 0))) hx hb hts hin hown hK hP 19 (by decide) rfl (index := 135) (List.mem_of_getElem? (i := 3) rfl) dX6_worth_26 ?_
            refine W.eq (g2 := F0 m 29 ls (.int (nI ((σ.1 19 0).toNatClampNeg)) :: .int (nI (i23)) :: [])) (congrArg (fun v => F0 m 29 ls (Value.int v :: .int (nI (i23)) :: [])) (e19)) ?_
            refine n_icmp_ge (x := i23) (y := (σ.1 19 0).toNatClampNeg) (tgt := 114) hx hb (by omega) (by omega) dX6_worth_29 (by decide) (fun c_3 => ?_) (fun c_3 => ?_)
            · have hiN : (σ.1 19 0).toNatClampNeg = i23 := by omega
              subst hiN
              have hR_4 : m_worth_b9 σ h i9 z9 = m_worth_x23 σ h i9 z9 z23 := (by subst hz23; unfold m_worth_b9; rfl)
              refine lv_iload_n hx hb dX6_worth_114 rfl (lv_at hl 3 rfl) ?_
              refine lv_iload hx hb dX6_worth_115 (lv_at hl 1 rfl) ?_
              have J125_8 : ∀ (x_7 : Int32), x_7 = (if z23 = 0 then nI (0) else nI (1)) → ∀ (H : Heap) (locs : List Loc), va_P G vwCl (wm cI cZ a σ) H → va_D (mA a) (wm cI cZ a σ) → va_S (mA a) s.heap H locs → ∀ (ls : Array Slot), lv_has ls 7 [(5, .int (nI (((σ.1 19 0).toNatClampNeg)))), (4, .int (z23)), (3, .int (nI ((σ.1 18 ((h).toNatClampNeg)).toNatClampNeg + i9))), (2, .int (z9)), (0, .ref (a 0)), (1, .int (h))] → WW H locs 0 0 (F0 m 125 ls [.int (x_7), .int (z9)]) := by
                intro x_7 h_9 H locs hP hD hS ls hl
                refine (hWW _ _ _ _ _).mpr ?_
                have hR_10 : m_worth_b9 σ h i9 z9 = m_worth_j125 σ h i9 z9 z23 x_7 := (Eq.trans hR_4 (by subst h_9; unfold m_worth_x23; rfl))
                refine lv_iadd (x := z9) (y := x_7) hx hb dX6_worth_125 ?_
                refine lv_istore_n (lv' := [(2, .int ((z9) + (x_7))), (5, .int (nI (((σ.1 19 0).toNatClampNeg)))), (4, .int (z23)), (3, .int (nI ((σ.1 18 ((h).toNatClampNeg)).toNatClampNeg + i9))), (0, .ref (a 0)), (1, .int (h))]) hx hb dX6_worth_126 rfl hl (by decide) rfl (fun ls hl => ?_)
                refine n_iinc (x := (σ.1 18 ((h).toNatClampNeg)).toNatClampNeg + i9) (dN := 1) (k := 3) (lv' := [(3, .int (nI ((σ.1 18 ((h).toNatClampNeg)).toNatClampNeg + i9 + 1))), (2, .int ((z9) + (x_7))), (5, .int (nI (((σ.1 19 0).toNatClampNeg)))), (4, .int (z23)), (0, .ref (a 0)), (1, .int (h))]) hx hb dX6_worth_127 hl rfl (by decide) rfl (fun ls hl => ?_)
                refine lv_goto (tgt := 9) hx hb dX6_worth_130 (by decide) ?_
                exact (hWW _ _ _ _ _).mp (ih9 (i9 + 1) (by omega) (by omega) ((z9) + (x_7)) (by show _ = m_worth_b9 σ h i9 (lp (m_worth_b9 σ h) i9 (nI (0))); rw [← hz9]; exact (Eq.trans (by unfold m_worth_j125; rfl) hR_10.symm))  _ _ hP hD hS _ (lv_sub hl [0, 1, 4, 5] rfl))
              refine lv_if_eq (x := z23) (tgt := 124) hx hb dX6_worth_117 (by decide) (fun c_5 => ?_) (fun c_5 => ?_)
              · refine lv_iconst (v := nI (0)) hx hb dX6_worth_124 (by decide) ?_
                exact (hWW _ _ _ _ _).mp (J125_8 _ (by simp only [if_pos c_5]) _ _ hP hD hS _ (lv_sub hl [0, 1, 2, 3, 4, 5] rfl))
              · refine lv_iconst (v := nI (1)) hx hb dX6_worth_120 (by decide) ?_
                refine lv_goto (tgt := 125) hx hb dX6_worth_121 (by decide) ?_
                exact (hWW _ _ _ _ _).mp (J125_8 _ (by simp only [if_neg c_5]) _ _ hP hD hS _ (lv_sub hl [0, 1, 2, 3, 4, 5] rfl))
            · refine lv_aload_n hx hb dX6_worth_32 rfl (lv_at hl 4 rfl) ?_
              refine m_get (v := .ref (a 20)) hx hb hts hin hown hK hP 20 (by decide) rfl (index := 59) (List.mem_of_getElem? (i := 4) rfl) dX6_worth_33 ?_
              refine lv_iload hx hb dX6_worth_36 (lv_at hl 0 rfl) ?_
              refine m_ald (j := i23) hx hb hK hP 17 20 rfl (by decide) (by omega) dX6_worth_38 ?_
              refine W.eq (g2 := F0 m 39 ls [.int ((σ.1 20 i23))]) rfl ?_
              refine lv_aload_n hx hb dX6_worth_39 rfl (lv_at hl 4 rfl) ?_
              refine m_get (v := .ref (a 14)) hx hb hts hin hown hK hP 14 (by decide) rfl (index := 43) (List.mem_of_getElem? (i := 5) rfl) dX6_worth_40 ?_
              refine lv_iload_n hx hb dX6_worth_43 rfl (lv_at hl 5 rfl) ?_
              refine m_aldI (j := h) hx hb hK hP 12 14 rfl (hq) dX6_worth_44 ?_
              refine W.eq (g2 := F0 m 45 ls [.int ((σ.1 14 ((h).toNatClampNeg))), .int ((σ.1 20 i23))]) rfl ?_
              have J64_14 : ∀ (x_13 : Int32), x_13 = (if (σ.1 20 i23) = (σ.1 14 ((h).toNatClampNeg)) then (if nI ((σ.1 18 ((h).toNatClampNeg)).toNatClampNeg + i9) < (σ.1 22 i23) then nI (0) else nI (1)) else nI (0)) → ∀ (H : Heap) (locs : List Loc), va_P G vwCl (wm cI cZ a σ) H → va_D (mA a) (wm cI cZ a σ) → va_S (mA a) s.heap H locs → ∀ (ls : Array Slot), lv_has ls 7 [(5, .int (nI (i23))), (4, .int (z23)), (3, .int (nI ((σ.1 18 ((h).toNatClampNeg)).toNatClampNeg + i9))), (2, .int (z9)), (0, .ref (a 0)), (1, .int (h))] → WW H locs 0 0 (F0 m 64 ls [.int (x_13)]) := by
                intro x_13 h_15 H locs hP hD hS ls hl
                refine (hWW _ _ _ _ _).mpr ?_
                have hR_16 : m_worth_b23 σ h i9 i23 z23 = m_worth_j64 σ h i9 i23 z23 x_13 := (by subst h_15; unfold m_worth_b23; rfl)
                refine lv_istore (lv' := [(6, .int (x_13)), (5, .int (nI (i23))), (4, .int (z23)), (3, .int (nI ((σ.1 18 ((h).toNatClampNeg)).toNatClampNeg + i9))), (2, .int (z9)), (0, .ref (a 0)), (1, .int (h))]) hx hb dX6_worth_64 hl (by decide) rfl (fun ls hl => ?_)
                refine lv_iload hx hb dX6_worth_66 (lv_at hl 2 rfl) ?_
                have J106_20 : ∀ (x_19 : Int32), x_19 = (if z23 = 0 then (if x_13 = 0 then nI (0) else (if (σ.1 23 (((nI ((3000 * i23) + (5 * ((σ.1 18 ((h).toNatClampNeg)).toNatClampNeg + i9)))) + ((σ.1 15 ((h).toNatClampNeg)))).toNatClampNeg)) < 0 then nI (0) else nI (1))) else nI (1)) → ∀ (H : Heap) (locs : List Loc), va_P G vwCl (wm cI cZ a σ) H → va_D (mA a) (wm cI cZ a σ) → va_S (mA a) s.heap H locs → ∀ (ls : Array Slot), lv_has ls 7 [(6, .int (x_13)), (5, .int (nI (i23))), (4, .int (z23)), (3, .int (nI ((σ.1 18 ((h).toNatClampNeg)).toNatClampNeg + i9))), (2, .int (z9)), (0, .ref (a 0)), (1, .int (h))] → WW H locs 0 0 (F0 m 106 ls [.int (x_19)]) := by
                  intro x_19 h_21 H locs hP hD hS ls hl
                  refine (hWW _ _ _ _ _).mpr ?_
                  have hR_22 : m_worth_b23 σ h i9 i23 z23 = m_worth_j106 σ h i9 i23 z23 x_13 x_19 := (Eq.trans hR_16 (by subst h_21; unfold m_worth_j64; rfl))
                  refine lv_istore (lv' := [(4, .int (x_19)), (6, .int (x_13)), (5, .int (nI (i23))), (3, .int (nI ((σ.1 18 ((h).toNatClampNeg)).toNatClampNeg + i9))), (2, .int (z9)), (0, .ref (a 0)), (1, .int (h))]) hx hb dX6_worth_106 hl (by decide) rfl (fun ls hl => ?_)
                  refine n_iinc (x := i23) (dN := 1) (k := 2) (lv' := [(5, .int (nI (i23 + 1))), (4, .int (x_19)), (6, .int (x_13)), (3, .int (nI ((σ.1 18 ((h).toNatClampNeg)).toNatClampNeg + i9))), (2, .int (z9)), (0, .ref (a 0)), (1, .int (h))]) hx hb dX6_worth_108 hl rfl (by decide) rfl (fun ls hl => ?_)
                  refine lv_goto (tgt := 23) hx hb dX6_worth_111 (by decide) ?_
                  exact (hWW _ _ _ _ _).mp (ih23 (i23 + 1) (by omega) (by omega) (x_19) (by show _ = m_worth_b23 σ h i9 i23 (lp (m_worth_b23 σ h i9) i23 (nI (0))); rw [← hz23]; exact (Eq.trans (by unfold m_worth_j106; rfl) hR_22.symm))  _ _ hP hD hS _ (lv_sub hl [0, 1, 3, 4, 5, 6] rfl))
                refine lv_if_ne (x := z23) (tgt := 101) hx hb dX6_worth_68 (by decide) (fun c_17 => ?_) (fun c_17 => ?_)
                · refine lv_iconst (v := nI (1)) hx hb dX6_worth_101 (by decide) ?_
                  refine lv_goto (tgt := 106) hx hb dX6_worth_102 (by decide) ?_
                  exact (hWW _ _ _ _ _).mp (J106_20 _ (by simp only [if_neg c_17]) _ _ hP hD hS _ (lv_sub hl [0, 1, 2, 3, 4, 5, 6] rfl))
                · refine lv_iload hx hb dX6_worth_71 (lv_at hl 0 rfl) ?_
                  refine lv_if_eq (x := x_13) (tgt := 105) hx hb dX6_worth_73 (by decide) (fun c_23 => ?_) (fun c_23 => ?_)
                  · refine lv_iconst (v := nI (0)) hx hb dX6_worth_105 (by decide) ?_
                    exact (hWW _ _ _ _ _).mp (J106_20 _ (by simp only [if_pos c_17, if_pos c_23]) _ _ hP hD hS _ (lv_sub hl [0, 1, 2, 3, 4, 5, 6] rfl))
                  · refine lv_aload_n hx hb dX6_worth_76 rfl (lv_at hl 5 rfl) ?_
                    refine m_get (v := .ref (a 23)) hx hb hts hin hown hK hP 23 (by decide) rfl (index := 68) (List.mem_of_getElem? (i := 7) rfl) dX6_worth_77 ?_
                    refine lv_sipush (v := nI (3000)) hx hb dX6_worth_80 (by decide) ?_
                    refine lv_iload hx hb dX6_worth_83 (lv_at hl 1 rfl) ?_
                    refine n_mul (x := 3000) (y := i23) hx hb dX6_worth_85 ?_
                    refine lv_iconst (v := nI (5)) hx hb dX6_worth_86 (by decide) ?_
                    refine lv_iload_n hx hb dX6_worth_87 rfl (lv_at hl 3 rfl) ?_
                    refine n_mul (x := 5) (y := (σ.1 18 ((h).toNatClampNeg)).toNatClampNeg + i9) hx hb dX6_worth_88 ?_
                    refine n_add (x := 3000 * i23) (y := 5 * ((σ.1 18 ((h).toNatClampNeg)).toNatClampNeg + i9)) hx hb dX6_worth_89 ?_
                    refine lv_aload_n hx hb dX6_worth_90 rfl (lv_at hl 5 rfl) ?_
                    refine m_get (v := .ref (a 15)) hx hb hts hin hown hK hP 15 (by decide) rfl (index := 46) (List.mem_of_getElem? (i := 8) rfl) dX6_worth_91 ?_
                    refine lv_iload_n hx hb dX6_worth_94 rfl (lv_at hl 6 rfl) ?_
                    refine m_aldI (j := h) hx hb hK hP 13 15 rfl (hq) dX6_worth_95 ?_
                    refine W.eq (g2 := F0 m 96 ls [.int ((σ.1 15 ((h).toNatClampNeg))), .int (nI ((3000 * i23) + (5 * ((σ.1 18 ((h).toNatClampNeg)).toNatClampNeg + i9)))), .ref (a 23)]) rfl ?_
                    refine lv_iadd (x := nI ((3000 * i23) + (5 * ((σ.1 18 ((h).toNatClampNeg)).toNatClampNeg + i9)))) (y := (σ.1 15 ((h).toNatClampNeg))) hx hb dX6_worth_96 ?_
                    refine m_aldI (j := (nI ((3000 * i23) + (5 * ((σ.1 18 ((h).toNatClampNeg)).toNatClampNeg + i9)))) + ((σ.1 15 ((h).toNatClampNeg)))) hx hb hK hP 20 23 rfl (vp_rdM (by omega) (by omega) hH.2.1) dX6_worth_97 ?_
                    refine W.eq (g2 := F0 m 98 ls [.int ((σ.1 23 (((nI ((3000 * i23) + (5 * ((σ.1 18 ((h).toNatClampNeg)).toNatClampNeg + i9)))) + ((σ.1 15 ((h).toNatClampNeg)))).toNatClampNeg)))]) rfl ?_
                    refine lv_if_lt (x := (σ.1 23 (((nI ((3000 * i23) + (5 * ((σ.1 18 ((h).toNatClampNeg)).toNatClampNeg + i9)))) + ((σ.1 15 ((h).toNatClampNeg)))).toNatClampNeg))) (tgt := 105) hx hb dX6_worth_98 (by decide) (fun c_24 => ?_) (fun c_24 => ?_)
                    · refine lv_iconst (v := nI (0)) hx hb dX6_worth_105 (by decide) ?_
                      exact (hWW _ _ _ _ _).mp (J106_20 _ (by simp only [if_pos c_17, if_neg c_23, if_pos c_24]) _ _ hP hD hS _ (lv_sub hl [0, 1, 2, 3, 4, 5, 6] rfl))
                    · refine lv_iconst (v := nI (1)) hx hb dX6_worth_101 (by decide) ?_
                      refine lv_goto (tgt := 106) hx hb dX6_worth_102 (by decide) ?_
                      exact (hWW _ _ _ _ _).mp (J106_20 _ (by simp only [if_pos c_17, if_neg c_23, if_neg c_24]) _ _ hP hD hS _ (lv_sub hl [0, 1, 2, 3, 4, 5, 6] rfl))
              refine lv_icmp_ne (x := (σ.1 20 i23)) (y := (σ.1 14 ((h).toNatClampNeg))) (tgt := 63) hx hb dX6_worth_45 (by decide) (fun c_11 => ?_) (fun c_11 => ?_)
              · refine lv_iconst (v := nI (0)) hx hb dX6_worth_63 (by decide) ?_
                exact (hWW _ _ _ _ _).mp (J64_14 _ (by simp only [if_neg c_11]) _ _ hP hD hS _ (lv_sub hl [0, 1, 2, 3, 4, 5] rfl))
              · refine lv_aload_n hx hb dX6_worth_48 rfl (lv_at hl 4 rfl) ?_
                refine m_get (v := .ref (a 22)) hx hb hts hin hown hK hP 22 (by decide) rfl (index := 65) (List.mem_of_getElem? (i := 6) rfl) dX6_worth_49 ?_
                refine lv_iload hx hb dX6_worth_52 (lv_at hl 0 rfl) ?_
                refine m_ald (j := i23) hx hb hK hP 19 22 rfl (by decide) (by omega) dX6_worth_54 ?_
                refine W.eq (g2 := F0 m 55 ls [.int ((σ.1 22 i23))]) rfl ?_
                refine lv_iload_n hx hb dX6_worth_55 rfl (lv_at hl 2 rfl) ?_
                refine lv_icmp_gt (x := (σ.1 22 i23)) (y := nI ((σ.1 18 ((h).toNatClampNeg)).toNatClampNeg + i9)) (tgt := 63) hx hb dX6_worth_56 (by decide) (fun c_25 => ?_) (fun c_25 => ?_)
                · refine lv_iconst (v := nI (0)) hx hb dX6_worth_63 (by decide) ?_
                  exact (hWW _ _ _ _ _).mp (J64_14 _ (by simp only [if_pos c_11, if_pos c_25]) _ _ hP hD hS _ (lv_sub hl [0, 1, 2, 3, 4, 5] rfl))
                · refine lv_iconst (v := nI (1)) hx hb dX6_worth_59 (by decide) ?_
                  refine lv_goto (tgt := 64) hx hb dX6_worth_60 (by decide) ?_
                  exact (hWW _ _ _ _ _).mp (J64_14 _ (by simp only [if_pos c_11, if_neg c_25]) _ _ hP hD hS _ (lv_sub hl [0, 1, 2, 3, 4, 5] rfl))
        exact (hWW _ _ _ _ _).mp (L23 ((σ.1 19 0).toNatClampNeg + 1) 0 (Nat.zero_le _) (by omega) (nI (0)) rfl  _ _ hP hD hS _ (lv_sub hl [0, 1, 2, 3, 4, 5] rfl))
  exact (hWW _ _ _ _ _).mp (L9 ((σ.1 1 0).toNatClampNeg - (σ.1 18 ((h).toNatClampNeg)).toNatClampNeg + 1) 0 (Nat.zero_le _) (by omega) (nI (0)) rfl  _ _ hP hD hS _ (lv_sub hl [0, 1, 2, 3] rfl))

def m_claim_k61 (σ : Sg) (h : Int32) (x_3 : Int32) (s_9 : Sg) : Int32 := ((s_9.1 24 0)) - (nI (1))
def m_claim_k61_s (σ : Sg) (h : Int32) (x_3 : Int32) (s_9 : Sg) : Sg := s_9
def m_claim_j29 (σ : Sg) (h : Int32) (x_3 : Int32) : Int32 := (if (m_refused σ x_3) = 0 then (m_claim_k61 σ h x_3 (si (si (m_refused_s σ x_3) 25 ((((m_refused_s σ x_3).1 24 0)).toNatClampNeg) ((m_worth (m_refused_s σ x_3) h))) 24 (0) ((((m_refused_s σ x_3).1 24 0)) + (nI (1))))) else nI (0))
def m_claim_j29_s (σ : Sg) (h : Int32) (x_3 : Int32) : Sg := (if (m_refused σ x_3) = 0 then (m_claim_k61_s σ h x_3 (si (si (m_refused_s σ x_3) 25 ((((m_refused_s σ x_3).1 24 0)).toNatClampNeg) ((m_worth (m_refused_s σ x_3) h))) 24 (0) ((((m_refused_s σ x_3).1 24 0)) + (nI (1))))) else (m_refused_s σ x_3))
def m_claim (σ : Sg) (h : Int32) : Int32 := (m_claim_j29 σ h (if (m_isHouse σ h) = 0 then nI (1) else (if (σ.1 24 0) = nI (40) then nI (2) else nI (0))))
def m_claim_s (σ : Sg) (h : Int32) : Sg := (m_claim_j29_s σ h (if (m_isHouse σ h) = 0 then nI (1) else (if (σ.1 24 0) = nI (40) then nI (2) else nI (0))))
set_option maxHeartbeats 4000000 in
set_option maxRecDepth 100000 in
theorem cm_claim (l : Launch) (G : va_G) (cI cZ : ClassId) (a : Nat → Nat) (σ : Sg) (h : Int32) (hO : mOK σ) : mI l yX6_claim wsX6_claim ({ frames := 2, cells := 0, slots := 0, locals := 47 } : Room) G cI cZ a σ [.int (h)] (m_claim σ h) (m_claim_s σ h) := by
  unfold mI
  refine Met.ofW (cc := cX6_claim) (maxL := 3) (ret := (some .int)) (by decide) rfl ?_
  intro p e s m args below meth c s₁ B hml hv
  obtain ⟨rfl, hP, hK, hD⟩ := hv
  have hx := B.exec
  have hb := B.bytes
  have hr := B.returns
  have hts := atoms_spec (ws := wsX6_claim) B.pre
  have hown : s.vm.findClass RX6 = some m.cls := findClass_of_methodNamed B.named
  have hlocks := B.notSynchronized
  have hS : va_S (mA a) s.heap s.heap [] := va_S.rf
  have hin : ∀ w ∈ wsX60, w ∈ wsX6_claim := fun w h => List.mem_cons_of_mem _ (List.mem_append_right _ h)
  have hl := lv_entry ([.ref (a 0), .int (h)]) (n := 3) (Nat.le_of_ble_eq_true rfl)
  rw [lg_entry_eq]
  generalize (lg_sl ([.ref (a 0), .int (h)]) ++ List.replicate (3 - (lg_sl ([.ref (a 0), .int (h)])).length) Slot.unset).toArray = ls at hl ⊢
  have hl : lv_has ls 3 [(0, .ref (a 0)), (1, .int (h))] := hl
  refine w_named (fun WW hWW => ?_)
  have hP : va_P G vwCl (wm cI cZ a σ) s.heap := hP
  refine lv_aload_n hx hb dX6_claim_0 rfl (lv_at hl 0 rfl) ?_
  refine lv_iload_n hx hb dX6_claim_1 rfl (lv_at hl 1 rfl) ?_
  refine m_callI (As := [.int (h)]) (rest := []) (fun _ h => h) ⟨hx, hb, hml, hown, hts⟩ (cm_isHouse l G cI cZ a σ  h ) (cwV 1 hts gX6_claim_X6_isHouse rfl rfl rfl (by decide +kernel) ⟨Nat.le_of_ble_eq_true rfl, Nat.le_of_ble_eq_true rfl⟩) hK hP hD hS rfl hl.1 rfl (Nat.le_of_ble_eq_true rfl) dX6_claim_2 ⟨Nat.zero_le _, Nat.zero_le _⟩ (fun H locs hP hD _ _ hS => ?_)
  refine lv_istore_n (lv' := [(2, .int ((m_isHouse σ h))), (0, .ref (a 0)), (1, .int (h))]) hx hb dX6_claim_5 rfl hl (by decide) rfl (fun ls hl => ?_)
  refine lv_aload_n hx hb dX6_claim_6 rfl (lv_at hl 1 rfl) ?_
  refine lv_iload_n hx hb dX6_claim_7 rfl (lv_at hl 0 rfl) ?_
  have J29_4 : ∀ (x_3 : Int32), x_3 = (if (m_isHouse σ h) = 0 then nI (1) else (if (σ.1 24 0) = nI (40) then nI (2) else nI (0))) → ∀ (H : Heap) (locs : List Loc), va_P G vwCl (wm cI cZ a σ) H → va_D (mA a) (wm cI cZ a σ) → va_S (mA a) s.heap H locs → ∀ (ls : Array Slot), lv_has ls 3 [(2, .int ((m_isHouse σ h))), (0, .ref (a 0)), (1, .int (h))] → WW H locs 0 0 (F0 m 29 ls [.int (x_3), .ref (a 0)]) := by
    intro x_3 h_5 H locs hP hD hS ls hl
    refine (hWW _ _ _ _ _).mpr ?_
    have hR_6 : m_claim σ h = m_claim_j29 σ h x_3 := (by subst h_5; unfold m_claim; rfl)
    have hR_7 : m_claim_s σ h = m_claim_j29_s σ h x_3 := (by subst h_5; unfold m_claim_s; rfl)
    refine m_callI (As := [.int (x_3)]) (rest := []) (fun _ h => h) ⟨hx, hb, hml, hown, hts⟩ (cm_refused l G cI cZ a σ  x_3 ) (cwV 1 hts gX6_claim_X6_refused rfl rfl rfl (by decide +kernel) ⟨Nat.le_of_ble_eq_true rfl, Nat.le_of_ble_eq_true rfl⟩) hK hP hD hS rfl hl.1 rfl (Nat.le_of_ble_eq_true rfl) dX6_claim_29 ⟨Nat.zero_le _, Nat.zero_le _⟩ (fun H locs hP hD _ _ hS => ?_)
    refine lv_if_eq (x := (m_refused σ x_3)) (tgt := 37) hx hb dX6_claim_32 (by decide) (fun c_8 => ?_) (fun c_8 => ?_)
    · have q0 := ck_tri h_5 (m_refused_0 c_8)
      have hq : vp_in (σ.1 24 0) 40 := vp_ne hO.2.2.1 q0.2
      have hh : vp_in h (σ.1 13 0).toNatClampNeg := w_below hO.1 (by decide) q0.1
      refine lv_aload_n hx hb dX6_claim_37 rfl (lv_at hl 1 rfl) ?_
      refine m_get (v := .ref (a 25)) hx hb hts hin hown hK hP 25 (by decide) rfl (index := 71) (List.mem_of_getElem? (i := 2) rfl) dX6_claim_38 ?_
      refine lv_aload_n hx hb dX6_claim_41 rfl (lv_at hl 1 rfl) ?_
      refine m_get (v := .int (((m_refused_s σ x_3).1 24 0))) hx hb hts hin hown hK hP 24 (by decide) rfl (index := 177) (List.mem_of_getElem? (i := 1) rfl) dX6_claim_42 ?_
      refine lv_aload_n hx hb dX6_claim_45 rfl (lv_at hl 1 rfl) ?_
      refine lv_iload_n hx hb dX6_claim_46 rfl (lv_at hl 2 rfl) ?_
      refine m_callI (As := [.int (h)]) (rest := [.int (((m_refused_s σ x_3).1 24 0)), .ref (a 25)]) (fun _ h => h) ⟨hx, hb, hml, hown, hts⟩ (cm_worth l G cI cZ a (m_refused_s σ x_3)  h hO hh) (cwV 1 hts gX6_claim_X6_worth rfl rfl rfl (by decide +kernel) ⟨Nat.le_of_ble_eq_true rfl, Nat.le_of_ble_eq_true rfl⟩) hK hP hD hS rfl hl.1 rfl (Nat.le_of_ble_eq_true rfl) dX6_claim_47 ⟨Nat.zero_le _, Nat.zero_le _⟩ (fun H locs hP hD _ _ hS => ?_)
      refine m_astI (j := ((m_refused_s σ x_3).1 24 0)) (v := (m_worth (m_refused_s σ x_3) h)) hx hb hK hP hD hS 21 25 rfl rfl (hq) dX6_claim_50 (fun H locs hP hD hS => ?_)
      refine lv_aload_n hx hb dX6_claim_51 rfl (lv_at hl 1 rfl) ?_
      refine lv_dup hx hb dX6_claim_52 rfl ?_
      refine m_get (v := .int (((m_refused_s σ x_3).1 24 0))) hx hb hts hin hown hK hP 24 (by decide) rfl (index := 177) (List.mem_of_getElem? (i := 1) rfl) dX6_claim_53 ?_
      refine lv_iconst (v := nI (1)) hx hb dX6_claim_56 (by decide) ?_
      refine lv_iadd (x := ((m_refused_s σ x_3).1 24 0)) (y := nI (1)) hx hb dX6_claim_57 ?_
      refine m_putI (v := (((m_refused_s σ x_3).1 24 0)) + (nI (1))) hx hb hts hin hown hK hP hD hS 24 (by decide) rfl (by decide +kernel) rfl (index := 177) (List.mem_of_getElem? (i := 1) rfl) dX6_claim_58 (fun H locs hP hD hS => ?_)
      obtain ⟨s_9, e_10⟩ : ∃ z : Sg, z = (si (si (m_refused_s σ x_3) 25 ((((m_refused_s σ x_3).1 24 0)).toNatClampNeg) ((m_worth (m_refused_s σ x_3) h))) 24 (0) ((((m_refused_s σ x_3).1 24 0)) + (nI (1)))) := ⟨_, rfl⟩
      rw [← e_10] at hP hD
      have hR_11 : m_claim σ h = m_claim_k61 σ h x_3 s_9 := (Eq.trans hR_6 (by subst e_10; unfold m_claim_j29; simp only [if_pos c_8]))
      have hR_12 : m_claim_s σ h = m_claim_k61_s σ h x_3 s_9 := (Eq.trans hR_7 (by subst e_10; unfold m_claim_j29_s; simp only [if_pos c_8]))
      refine lv_aload_n hx hb dX6_claim_61 rfl (lv_at hl 1 rfl) ?_
      refine m_get (v := .int ((s_9.1 24 0))) hx hb hts hin hown hK hP 24 (by decide) rfl (index := 177) (List.mem_of_getElem? (i := 1) rfl) dX6_claim_62 ?_
      refine lv_iconst (v := nI (1)) hx hb dX6_claim_65 (by decide) ?_
      refine lv_isub (x := (s_9.1 24 0)) (y := nI (1)) hx hb dX6_claim_66 ?_
      exact m_iret (v := ((s_9.1 24 0)) - (nI (1))) hx hb hr hlocks hP hK hD hS dX6_claim_67 (Eq.trans (by unfold m_claim_k61; rfl) hR_11.symm) (Eq.trans (by unfold m_claim_k61_s; rfl) hR_12.symm)
    · refine lv_iconst (v := nI (0)) hx hb dX6_claim_35 (by decide) ?_
      exact m_iret (v := nI (0)) hx hb hr hlocks hP hK hD hS dX6_claim_36 (Eq.trans (by unfold m_claim_j29; simp only [if_neg c_8]) hR_6.symm) (Eq.trans (by unfold m_claim_j29_s; simp only [if_neg c_8]) hR_7.symm)
  refine lv_if_ne (x := (m_isHouse σ h)) (tgt := 15) hx hb dX6_claim_8 (by decide) (fun c_1 => ?_) (fun c_1 => ?_)
  · refine lv_aload_n hx hb dX6_claim_15 rfl (lv_at hl 1 rfl) ?_
    refine m_get (v := .int ((σ.1 24 0))) hx hb hts hin hown hK hP 24 (by decide) rfl (index := 177) (List.mem_of_getElem? (i := 1) rfl) dX6_claim_16 ?_
    refine lv_bipush (v := nI (40)) hx hb dX6_claim_19 (by decide) ?_
    refine lv_icmp_ne (x := (σ.1 24 0)) (y := nI (40)) (tgt := 28) hx hb dX6_claim_21 (by decide) (fun c_13 => ?_) (fun c_13 => ?_)
    · refine lv_iconst (v := nI (0)) hx hb dX6_claim_28 (by decide) ?_
      exact (hWW _ _ _ _ _).mp (J29_4 _ (by simp only [if_neg c_1, if_neg c_13]) _ _ hP hD hS _ (lv_sub hl [0, 1, 2] rfl))
    · refine lv_iconst (v := nI (2)) hx hb dX6_claim_24 (by decide) ?_
      refine lv_goto (tgt := 29) hx hb dX6_claim_25 (by decide) ?_
      exact (hWW _ _ _ _ _).mp (J29_4 _ (by simp only [if_neg c_1, if_pos c_13]) _ _ hP hD hS _ (lv_sub hl [0, 1, 2] rfl))
  · refine lv_iconst (v := nI (1)) hx hb dX6_claim_11 (by decide) ?_
    refine lv_goto (tgt := 29) hx hb dX6_claim_12 (by decide) ?_
    exact (hWW _ _ _ _ _).mp (J29_4 _ (by simp only [if_pos c_1]) _ _ hP hD hS _ (lv_sub hl [0, 1, 2] rfl))

def m_month (σ : Sg) : Int32 := (σ.1 1 0)
def m_month_s (σ : Sg) : Sg := (si σ 0 (0) (nI (0)))
set_option maxHeartbeats 4000000 in
set_option maxRecDepth 100000 in
theorem cm_month (l : Launch) (G : va_G) (cI cZ : ClassId) (a : Nat → Nat) (σ : Sg)  : mI l yX6_month wsX6_month ({ frames := 0, cells := 0, slots := 0, locals := 0 } : Room) G cI cZ a σ [] (m_month σ) (m_month_s σ) := by
  unfold mI
  refine Met.ofW (cc := cX6_month) (maxL := 1) (ret := (some .int)) (by decide) rfl ?_
  intro p e s m args below meth c s₁ B hml hv
  obtain ⟨rfl, hP, hK, hD⟩ := hv
  have hx := B.exec
  have hb := B.bytes
  have hr := B.returns
  have hts := atoms_spec (ws := wsX6_month) B.pre
  have hown : s.vm.findClass RX6 = some m.cls := findClass_of_methodNamed B.named
  have hlocks := B.notSynchronized
  have hS : va_S (mA a) s.heap s.heap [] := va_S.rf
  have hin : ∀ w ∈ wsX60, w ∈ wsX6_month := fun w h => List.mem_cons_of_mem _ (List.mem_append_right _ h)
  have hl := lv_entry ([.ref (a 0)]) (n := 1) (Nat.le_of_ble_eq_true rfl)
  rw [lg_entry_eq]
  generalize (lg_sl ([.ref (a 0)]) ++ List.replicate (1 - (lg_sl ([.ref (a 0)])).length) Slot.unset).toArray = ls at hl ⊢
  have hl : lv_has ls 1 [(0, .ref (a 0))] := hl
  refine w_named (fun WW hWW => ?_)
  have hP : va_P G vwCl (wm cI cZ a σ) s.heap := hP
  refine lv_aload_n hx hb dX6_month_0 rfl (lv_at hl 0 rfl) ?_
  refine lv_iconst (v := nI (0)) hx hb dX6_month_1 (by decide) ?_
  refine m_putI (v := nI (0)) hx hb hts hin hown hK hP hD hS 0 (by decide) rfl (by decide +kernel) rfl (index := 90) (List.mem_of_getElem? (i := 1) rfl) dX6_month_2 (fun H locs hP hD hS => ?_)
  refine lv_aload_n hx hb dX6_month_5 rfl (lv_at hl 0 rfl) ?_
  refine m_get (v := .int ((σ.1 1 0))) hx hb hts hin hown hK hP 1 (by decide) rfl (index := 109) (List.mem_of_getElem? (i := 2) rfl) dX6_month_6 ?_
  exact m_iret (v := (σ.1 1 0)) hx hb hr hlocks hP hK hD hS dX6_month_9 (by unfold m_month; rfl) (by unfold m_month_s; rfl)

def m_gather_x36_s (σ : Sg) (z2 : Sg) (z36 : Int32 × Sg) : Sg := z36.2
def m_gather_x44 (z36 : Int32 × Sg) (z44 : Int32 × Sg) : Int32 × Sg := (z44.1, z44.2)
def m_gather_j121 (i44 : Nat) (z44 : Int32 × Sg) (y_10 : Int32) (τ_11 : Sg) : Int32 × Sg := (y_10, τ_11)
def m_gather_b44  (i44 : Nat) (z44 : Int32 × Sg) : Int32 × Sg := (m_gather_j121 i44 z44 (if (m_beside (nI (i44 / 4)) (nI (i44 % 4))) = (-1) then z44.1 else (if (z44.2.1 7 (i44 / 4)) = (-1) then z44.1 else (if (z44.2.1 7 (((m_beside (nI (i44 / 4)) (nI (i44 % 4)))).toNatClampNeg)) = (-1) then z44.1 else (if (z44.2.1 7 (i44 / 4)) ≤ (z44.2.1 7 (((m_beside (nI (i44 / 4)) (nI (i44 % 4)))).toNatClampNeg)) then z44.1 else nI (1))))) (if (m_beside (nI (i44 / 4)) (nI (i44 % 4))) = (-1) then z44.2 else (if (z44.2.1 7 (i44 / 4)) = (-1) then z44.2 else (if (z44.2.1 7 (((m_beside (nI (i44 / 4)) (nI (i44 % 4)))).toNatClampNeg)) = (-1) then z44.2 else (if (z44.2.1 7 (i44 / 4)) ≤ (z44.2.1 7 (((m_beside (nI (i44 / 4)) (nI (i44 % 4)))).toNatClampNeg)) then z44.2 else (si z44.2 7 (i44 / 4) ((z44.2.1 7 (((m_beside (nI (i44 / 4)) (nI (i44 % 4)))).toNatClampNeg)))))))))
def m_gather_b36 (z36 : Int32 × Sg) : Int32 × Sg := (m_gather_x44 z36 (lp (m_gather_b44) 100 (nI (0), z36.2)))
def m_gather_w36 : Nat → Int32 × Sg → Int32 × Sg
  | 0, z => z
  | n + 1, z => if z.1 = 0 then z else m_gather_w36 n (m_gather_b36 z)
def m_gather_x2_s (σ : Sg) (z2 : Sg) : Sg := (m_gather_x36_s σ z2 (m_gather_w36 700 (nI (1), z2)))
def m_gather_j27 (i2 : Nat) (z2 : Sg) (x_21 : Int32) : Sg := (si z2 7 (i2) (x_21))
def m_gather_b2  (i2 : Nat) (z2 : Sg) : Sg := (m_gather_j27 i2 z2 (if (z2.1 3 i2) ≤ 0 then (-1) else nI (i2)))
def m_gather_s (σ : Sg) : Sg := (m_gather_x2_s σ (lp (m_gather_b2) 25 σ))
def isum (f : Nat → Int) : Nat → Int
  | 0 => 0
  | n + 1 => isum f n + f n
theorem isum_le {f g : Nat → Int} {n : Nat} (h : ∀ c, c < n → f c ≤ g c) : isum f n ≤ isum g n := by
  induction n with
  | zero => exact Int.le_refl _
  | succ n ih =>
    have h1 := ih (fun c hc => h c (by omega))
    have h2 := h n (by omega)
    show isum f n + f n ≤ isum g n + g n
    omega
theorem isum_lt {f g : Nat → Int} {n k : Nat} (hk : k < n) (h : ∀ c, c < n → f c ≤ g c) (hs : f k < g k) : isum f n < isum g n := by
  induction n with
  | zero => omega
  | succ n ih =>
    have h2 := h n (by omega)
    show isum f n + f n < isum g n + g n
    by_cases hn : k = n
    · subst hn
      have h1 := isum_le (n := k) (fun c hc => h c (by omega))
      omega
    · have h1 := ih (by omega) (fun c hc => h c (by omega))
      omega
theorem isum_c {c : Int} (n : Nat) : isum (fun _ => c) n = n * c := by
  induction n with
  | zero => show (0 : Int) = _; omega
  | succ n ih =>
    show isum (fun _ => c) n + c = _
    rw [ih, Int.natCast_succ, Int.add_mul]
    omega
def m_lab (σ : Sg) : Int := isum (fun c => (σ.1 7 c).toInt) 25
def m_gather_mu (z : Int32 × Sg) : Nat := if z.1 = 0 then 0 else 1 + (m_lab z.2 + 25).toNat
def m_gather_ok (n : Nat) (z : Int32 × Sg) : Prop := (∀ c, c < 25 → -1 ≤ (z.2.1 7 c).toInt) ∧ m_gather_mu z < n
theorem m_gather_ok_0 (z : Int32 × Sg) : ¬ m_gather_ok 0 z := fun h => absurd h.2 (Nat.not_lt_zero _)
theorem m_gather_cases (i : Nat) (w : Int32 × Sg) : m_gather_b44 i w = w ∨ (¬ m_beside (nI (i / 4)) (nI (i % 4)) = -1 ∧ ¬ w.2.1 7 (i / 4) = -1 ∧ ¬ w.2.1 7 (m_beside (nI (i / 4)) (nI (i % 4))).toNatClampNeg = -1 ∧ ¬ w.2.1 7 (i / 4) ≤ w.2.1 7 (m_beside (nI (i / 4)) (nI (i % 4))).toNatClampNeg ∧ m_gather_b44 i w = (nI 1, si w.2 7 (i / 4) (w.2.1 7 (m_beside (nI (i / 4)) (nI (i % 4))).toNatClampNeg))) := by
  unfold m_gather_b44
  by_cases h1 : m_beside (nI (i / 4)) (nI (i % 4)) = -1
  · simp only [if_pos h1]; exact Or.inl rfl
  · simp only [if_neg h1]
    by_cases h2 : w.2.1 7 (i / 4) = -1
    · simp only [if_pos h2]; exact Or.inl rfl
    · simp only [if_neg h2]
      by_cases h3 : w.2.1 7 (m_beside (nI (i / 4)) (nI (i % 4))).toNatClampNeg = -1
      · simp only [if_pos h3]; exact Or.inl rfl
      · simp only [if_neg h3]
        by_cases h4 : w.2.1 7 (i / 4) ≤ w.2.1 7 (m_beside (nI (i / 4)) (nI (i % 4))).toNatClampNeg
        · simp only [if_pos h4]; exact Or.inl rfl
        · simp only [if_neg h4]; exact Or.inr ⟨fun h => h.elim, fun h => h.elim, fun h => h.elim, fun h => h.elim, rfl⟩
theorem m_gather_step (z : Sg) (hz : ∀ c, c < 25 → -1 ≤ (z.1 7 c).toInt) (i : Nat) (hi : i ≤ 100) : (∀ c, c < 25 → -1 ≤ ((lp (m_gather_b44) i (nI 0, z)).2.1 7 c).toInt) ∧ m_lab (lp (m_gather_b44) i (nI 0, z)).2 ≤ m_lab z ∧ ((lp (m_gather_b44) i (nI 0, z)).1 = 0 ∨ m_lab (lp (m_gather_b44) i (nI 0, z)).2 < m_lab z) := by
  refine lp_invB (P := fun _ w => (∀ c, c < 25 → -1 ≤ (w.2.1 7 c).toInt) ∧ m_lab w.2 ≤ m_lab z ∧ (w.1 = 0 ∨ m_lab w.2 < m_lab z)) (N := 100) ⟨hz, Int.le_refl _, Or.inl n0_eq⟩ ?_ i hi
  intro i w hi ⟨h1, h2, h3⟩
  rcases m_gather_cases i w with h | ⟨hb, g1, g2, g3, h⟩
  · rw [h]; exact ⟨h1, h2, h3⟩
  · rw [h]
    have hin := vp_lt (m_beside_tab (i / 4) (by omega) (i % 4) (by omega) hb)
    generalize (m_beside (nI (i / 4)) (nI (i % 4))).toNatClampNeg = j at hin g2 g3
    rw [i_le] at g3
    have hl : m_lab (si w.2 7 (i / 4) (w.2.1 7 j)) < m_lab w.2 := by
      refine isum_lt (k := i / 4) (by omega) (fun c hc => ?_) ?_
      · by_cases hci : c = i / 4
        · subst hci; simp only [si, upd, if_true]; omega
        · simp only [si, upd, if_true, if_neg hci]; omega
      · simp only [si, upd, if_true]; omega
    refine ⟨fun c hc => ?_, by show m_lab (si w.2 7 (i / 4) (w.2.1 7 j)) ≤ _; omega, Or.inr (by show m_lab (si w.2 7 (i / 4) (w.2.1 7 j)) < _; omega)⟩
    by_cases hci : c = i / 4
    · subst hci; simp only [si, upd, if_true]; exact h1 j hin
    · simp only [si, upd, if_true, if_neg hci]; exact h1 c hc
theorem m_gather_ok_s {n : Nat} {z : Int32 × Sg} (h : m_gather_ok (n + 1) z) (hz : ¬ z.1 = 0) : m_gather_ok n (m_gather_b36 z) := by
  obtain ⟨h1, h2⟩ := h
  obtain ⟨s1, s2, s3⟩ := m_gather_step z.2 h1 100 (Nat.le_refl _)
  have e : m_gather_b36 z = lp (m_gather_b44) 100 (nI 0, z.2) := rfl
  unfold m_gather_mu at h2
  rw [if_neg hz] at h2
  refine ⟨by rw [e]; exact s1, ?_⟩
  rw [e]
  generalize lp (m_gather_b44) 100 (nI 0, z.2) = w at s1 s2 s3
  unfold m_gather_mu
  by_cases hw : w.1 = 0
  · rw [if_pos hw]; omega
  · rw [if_neg hw]
    have h3 := s3.resolve_left hw
    have h4 : -25 ≤ m_lab w.2 := by
      have q := isum_le (f := fun _ => -1) (g := fun c => (w.2.1 7 c).toInt) (n := 25) s1
      rw [isum_c] at q
      exact q
    omega
theorem m_gather_lab0 (σ : Sg) (i : Nat) : ∀ c, c < i → c < 25 → (lp (m_gather_b2) i σ).1 7 c = (if σ.1 3 c ≤ 0 then -1 else nI c) := by
  refine (lp_inv (P := fun i (z : Sg) => (∀ c, c < i → c < 25 → z.1 7 c = (if σ.1 3 c ≤ 0 then -1 else nI c)) ∧ z.1 3 = σ.1 3) ⟨fun c hc => absurd hc (by omega), rfl⟩ ?_ i).1
  intro i z ⟨h1, h2⟩
  unfold m_gather_b2
  refine ⟨fun c hc h25 => ?_, by simpa [si] using h2⟩
  by_cases hci : c = i
  · subst hci; simp only [si, upd, if_true, h2]
  · simp only [si, upd, if_true, if_neg hci]; exact h1 c (by omega) h25
theorem m_gather_ok_i (σ : Sg) : m_gather_ok 700 (nI 1, lp (m_gather_b2) 25 σ) := by
  have hb : ∀ c, c < 25 → -1 ≤ ((lp (m_gather_b2) 25 σ).1 7 c).toInt ∧ ((lp (m_gather_b2) 25 σ).1 7 c).toInt ≤ 24 := by
    intro c hc
    rw [m_gather_lab0 σ 25 c hc hc]
    by_cases h : σ.1 3 c ≤ 0
    · rw [if_pos h]; exact ⟨by decide, by decide⟩
    · rw [if_neg h, nI_toInt (by omega)]; omega
  refine ⟨fun c hc => (hb c hc).1, ?_⟩
  unfold m_gather_mu
  rw [if_neg n1_ne]
  have q := isum_le (f := fun c => ((lp (m_gather_b2) 25 σ).1 7 c).toInt) (g := fun _ => 24) (n := 25) (fun c hc => (hb c hc).2)
  rw [isum_c] at q
  have q2 : m_lab (lp (m_gather_b2) 25 σ) ≤ 600 := q
  omega
set_option maxHeartbeats 4000000 in
set_option maxRecDepth 100000 in
theorem cm_gather (l : Launch) (G : va_G) (cI cZ : ClassId) (a : Nat → Nat) (σ : Sg)  : mV l yX6_gather wsX6_gather ({ frames := 1, cells := 0, slots := 0, locals := 21 } : Room) G cI cZ a σ [] (m_gather_s σ) := by
  unfold mV
  refine Met.ofW (cc := cX6_gather) (maxL := 5) (ret := none) (by decide) rfl ?_
  intro p e s m args below meth c s₁ B hml hv
  obtain ⟨rfl, hP, hK, hD⟩ := hv
  have hx := B.exec
  have hb := B.bytes
  have hr := B.returns
  have hts := atoms_spec (ws := wsX6_gather) B.pre
  have hown : s.vm.findClass RX6 = some m.cls := findClass_of_methodNamed B.named
  have hlocks := B.notSynchronized
  have hS : va_S (mA a) s.heap s.heap [] := va_S.rf
  have hin : ∀ w ∈ wsX60, w ∈ wsX6_gather := fun w h => List.mem_cons_of_mem _ (List.mem_append_right _ h)
  have hl := lv_entry ([.ref (a 0)]) (n := 5) (Nat.le_of_ble_eq_true rfl)
  rw [lg_entry_eq]
  generalize (lg_sl ([.ref (a 0)]) ++ List.replicate (5 - (lg_sl ([.ref (a 0)])).length) Slot.unset).toArray = ls at hl ⊢
  have hl : lv_has ls 5 [(0, .ref (a 0))] := hl
  refine w_named (fun WW hWW => ?_)
  have hP : va_P G vwCl (wm cI cZ a σ) s.heap := hP
  refine lv_iconst (v := nI (0)) hx hb dX6_gather_0 (by decide) ?_
  refine lv_istore_n (lv' := [(1, .int (nI (0))), (0, .ref (a 0))]) hx hb dX6_gather_1 rfl hl (by decide) rfl (fun ls hl => ?_)
  have L2 : ∀ (n2 i2 : Nat), i2 ≤ 25 → 25 + 1 ≤ i2 + n2 → ∀ (z2 : Sg), z2 = lp (m_gather_b2) i2 σ → ∀ (H : Heap) (locs : List Loc), va_P G vwCl (wm cI cZ a z2) H → va_D (mA a) (wm cI cZ a z2) → va_S (mA a) s.heap H locs → ∀ (ls : Array Slot), lv_has ls 5 [(1, .int (nI (i2))), (0, .ref (a 0))] → WW H locs 0 0 (F0 m 2 ls []) := by
    intro n2
    induction n2 with
    | zero => intro i2 h1 h2; exact absurd h2 (by omega)
    | succ n2 ih2 =>
      intro i2 hi2 hn2 z2 hz2  H locs hP hD hS ls hl
      refine (hWW _ _ _ _ _).mpr ?_
      refine lv_iload_n hx hb dX6_gather_2 rfl (lv_at hl 0 rfl) ?_
      refine lv_bipush (v := nI (25)) hx hb dX6_gather_3 (by decide) ?_
      refine n_icmp_ge (x := i2) (y := 25) (tgt := 34) hx hb (by omega) (by omega) dX6_gather_5 (by decide) (fun c_1 => ?_) (fun c_1 => ?_)
      · have hiN : 25 = i2 := by omega
        subst hiN
        have hR_2 : m_gather_s σ = m_gather_x2_s σ z2 := (by subst hz2; unfold m_gather_s; rfl)
        refine lv_iconst (v := nI (1)) hx hb dX6_gather_34 (by decide) ?_
        refine lv_istore_n (lv' := [(1, .int (nI (1))), (0, .ref (a 0))]) hx hb dX6_gather_35 rfl hl (by decide) rfl (fun ls hl => ?_)
        have L36 : ∀ (n36 : Nat) (z36 : Int32 × Sg), m_gather_ok n36 z36 → m_gather_w36 n36 z36 = m_gather_w36 700 (nI (1), z2) → ∀ (H : Heap) (locs : List Loc), va_P G vwCl (wm cI cZ a z36.2) H → va_D (mA a) (wm cI cZ a z36.2) → va_S (mA a) s.heap H locs → ∀ (ls : Array Slot), lv_has ls 5 [(1, .int (z36.1)), (0, .ref (a 0))] → WW H locs 0 0 (F0 m 36 ls []) := by
          intro n36
          induction n36 with
          | zero => intro z36 hk36; exact absurd hk36 (m_gather_ok_0 _)
          | succ n36 ih36 =>
            intro z36 hk36 hz36 H locs hP hD hS ls hl
            refine (hWW _ _ _ _ _).mpr ?_
            refine lv_iload_n hx hb dX6_gather_36 rfl (lv_at hl 0 rfl) ?_
            refine lv_if_eq (x := z36.1) (tgt := 130) hx hb dX6_gather_37 (by decide) (fun c_3 => ?_) (fun c_3 => ?_)
            · have hR36 : z36 = m_gather_w36 700 (nI (1), z2) := by rw [← hz36]; show z36 = (if z36.1 = 0 then z36 else _); rw [if_pos c_3]
              have hR_4 : m_gather_s σ = m_gather_x36_s σ z2 z36 := (Eq.trans hR_2 (by subst hR36; unfold m_gather_x2_s; rfl))
              exact m_vret hx hb hr hlocks hP hK hD hS dX6_gather_130 (Eq.trans (by unfold m_gather_x36_s; rfl) hR_4.symm)
            · refine lv_iconst (v := nI (0)) hx hb dX6_gather_40 (by decide) ?_
              refine lv_istore_n (lv' := [(1, .int (nI (0))), (0, .ref (a 0))]) hx hb dX6_gather_41 rfl hl (by decide) rfl (fun ls hl => ?_)
              refine lv_iconst (v := nI (0)) hx hb dX6_gather_42 (by decide) ?_
              refine lv_istore_n (lv' := [(2, .int (nI (0))), (1, .int (nI (0))), (0, .ref (a 0))]) hx hb dX6_gather_43 rfl hl (by decide) rfl (fun ls hl => ?_)
              have L44 : ∀ (n44 i44 : Nat), i44 ≤ 100 → 100 + 1 ≤ i44 + n44 → ∀ (z44 : Int32 × Sg), z44 = lp (m_gather_b44) i44 (nI (0), z36.2) → ∀ (H : Heap) (locs : List Loc), va_P G vwCl (wm cI cZ a z44.2) H → va_D (mA a) (wm cI cZ a z44.2) → va_S (mA a) s.heap H locs → ∀ (ls : Array Slot), lv_has ls 5 [(2, .int (nI (i44))), (1, .int (z44.1)), (0, .ref (a 0))] → WW H locs 0 0 (F0 m 44 ls []) := by
                intro n44
                induction n44 with
                | zero => intro i44 h1 h2; exact absurd h2 (by omega)
                | succ n44 ih44 =>
                  intro i44 hi44 hn44 z44 hz44  H locs hP hD hS ls hl
                  refine (hWW _ _ _ _ _).mpr ?_
                  refine lv_iload_n hx hb dX6_gather_44 rfl (lv_at hl 0 rfl) ?_
                  refine lv_bipush (v := nI (100)) hx hb dX6_gather_45 (by decide) ?_
                  refine n_icmp_ge (x := i44) (y := 100) (tgt := 127) hx hb (by omega) (by omega) dX6_gather_47 (by decide) (fun c_5 => ?_) (fun c_5 => ?_)
                  · have hiN : 100 = i44 := by omega
                    subst hiN
                    have hR_6 : m_gather_b36 z36 = m_gather_x44 z36 z44 := (by subst hz44; unfold m_gather_b36; rfl)
                    refine lv_goto (tgt := 36) hx hb dX6_gather_127 (by decide) ?_
                    have e_7 : (z44.1, z44.2) = m_gather_b36 z36 := (Eq.trans (by unfold m_gather_x44; rfl) hR_6.symm)
                    exact (hWW _ _ _ _ _).mp (ih36 ((z44.1, z44.2)) (by rw [e_7]; exact m_gather_ok_s hk36 c_3) (by rw [e_7, ← hz36]; show _ = (if z36.1 = 0 then z36 else _); rw [if_neg c_3]) _ _ hP hD hS _ (lv_sub hl [1, 2] rfl))
                  · refine lv_iload_n hx hb dX6_gather_50 rfl (lv_at hl 0 rfl) ?_
                    refine lv_iconst (v := nI (4)) hx hb dX6_gather_51 (by decide) ?_
                    refine n_div (x := i44) (y := 4) hx hb (by omega) (by omega) (by omega) dX6_gather_52 ?_
                    refine lv_istore_n (lv' := [(3, .int (nI (i44 / 4))), (2, .int (nI (i44))), (1, .int (z44.1)), (0, .ref (a 0))]) hx hb dX6_gather_53 rfl hl (by decide) rfl (fun ls hl => ?_)
                    refine lv_iload_n hx hb dX6_gather_54 rfl (lv_at hl 0 rfl) ?_
                    refine lv_iload_n hx hb dX6_gather_55 rfl (lv_at hl 1 rfl) ?_
                    refine lv_iconst (v := nI (4)) hx hb dX6_gather_56 (by decide) ?_
                    refine n_rem (x := i44) (y := 4) hx hb (by omega) (by omega) (by omega) dX6_gather_57 ?_
                    refine m_callS (As := [.int (nI (i44 / 4)), .int (nI (i44 % 4))]) (rest := []) ⟨hx, hb, hml, hown, hts⟩ (cm_beside l (nI (i44 / 4)) (nI (i44 % 4)) ) (va_cwS 2 hts gX6_gather_X6_beside rfl rfl rfl (by decide +kernel) ⟨Nat.le_of_ble_eq_true rfl, Nat.le_of_ble_eq_true rfl⟩) hP hS rfl hl.1 rfl (Nat.le_of_ble_eq_true rfl) dX6_gather_58 ⟨Nat.zero_le _, Nat.zero_le _⟩ (fun H locs hP hS => ?_)
                    refine lv_istore (lv' := [(4, .int ((m_beside (nI (i44 / 4)) (nI (i44 % 4))))), (3, .int (nI (i44 / 4))), (2, .int (nI (i44))), (1, .int (z44.1)), (0, .ref (a 0))]) hx hb dX6_gather_61 hl (by decide) rfl (fun ls hl => ?_)
                    refine lv_iload hx hb dX6_gather_63 (lv_at hl 0 rfl) ?_
                    refine lv_iconst (v := (-1)) hx hb dX6_gather_65 (by decide) ?_
                    have J121_12 : ∀ (y_10 : Int32), y_10 = (if (m_beside (nI (i44 / 4)) (nI (i44 % 4))) = (-1) then z44.1 else (if (z44.2.1 7 (i44 / 4)) = (-1) then z44.1 else (if (z44.2.1 7 (((m_beside (nI (i44 / 4)) (nI (i44 % 4)))).toNatClampNeg)) = (-1) then z44.1 else (if (z44.2.1 7 (i44 / 4)) ≤ (z44.2.1 7 (((m_beside (nI (i44 / 4)) (nI (i44 % 4)))).toNatClampNeg)) then z44.1 else nI (1))))) → ∀ (τ_11 : Sg), τ_11 = (if (m_beside (nI (i44 / 4)) (nI (i44 % 4))) = (-1) then z44.2 else (if (z44.2.1 7 (i44 / 4)) = (-1) then z44.2 else (if (z44.2.1 7 (((m_beside (nI (i44 / 4)) (nI (i44 % 4)))).toNatClampNeg)) = (-1) then z44.2 else (if (z44.2.1 7 (i44 / 4)) ≤ (z44.2.1 7 (((m_beside (nI (i44 / 4)) (nI (i44 % 4)))).toNatClampNeg)) then z44.2 else (si z44.2 7 (i44 / 4) ((z44.2.1 7 (((m_beside (nI (i44 / 4)) (nI (i44 % 4)))).toNatClampNeg)))))))) → ∀ (H : Heap) (locs : List Loc), va_P G vwCl (wm cI cZ a τ_11) H → va_D (mA a) (wm cI cZ a τ_11) → va_S (mA a) s.heap H locs → ∀ (ls : Array Slot), lv_has ls 5 [(4, .int ((m_beside (nI (i44 / 4)) (nI (i44 % 4))))), (3, .int (nI (i44 / 4))), (2, .int (nI (i44))), (1, .int (y_10)), (0, .ref (a 0))] → WW H locs 0 0 (F0 m 121 ls []) := by
                      intro y_10 h_13 τ_11 h_14 H locs hP hD hS ls hl
                      refine (hWW _ _ _ _ _).mpr ?_
                      have hR_15 : m_gather_b44 i44 z44 = m_gather_j121 i44 z44 y_10 τ_11 := (by subst h_14; subst h_13; unfold m_gather_b44; rfl)
                      refine n_iinc (x := i44) (dN := 1) (k := 2) (lv' := [(2, .int (nI (i44 + 1))), (4, .int ((m_beside (nI (i44 / 4)) (nI (i44 % 4))))), (3, .int (nI (i44 / 4))), (1, .int (y_10)), (0, .ref (a 0))]) hx hb dX6_gather_121 hl rfl (by decide) rfl (fun ls hl => ?_)
                      refine lv_goto (tgt := 44) hx hb dX6_gather_124 (by decide) ?_
                      exact (hWW _ _ _ _ _).mp (ih44 (i44 + 1) (by omega) (by omega) ((y_10, τ_11)) (by show _ = m_gather_b44 i44 (lp (m_gather_b44) i44 (nI (0), z36.2)); rw [← hz44]; exact (Eq.trans (by unfold m_gather_j121; rfl) hR_15.symm))  _ _ hP hD hS _ (lv_sub hl [0, 3, 4] rfl))
                    refine lv_icmp_eq (x := (m_beside (nI (i44 / 4)) (nI (i44 % 4)))) (y := (-1)) (tgt := 121) hx hb dX6_gather_66 (by decide) (fun c_8 => ?_) (fun c_8 => ?_)
                    · exact (hWW _ _ _ _ _).mp (J121_12 _ (by simp only [if_pos c_8]) _ (by simp only [if_pos c_8]) _ _ hP hD hS _ (lv_sub hl [0, 1, 2, 3, 4] rfl))
                    · refine lv_aload_n hx hb dX6_gather_69 rfl (lv_at hl 4 rfl) ?_
                      refine m_get (v := .ref (a 7)) hx hb hts hin hown hK hP 7 (by decide) rfl (index := 25) (List.mem_of_getElem? (i := 1) rfl) dX6_gather_70 ?_
                      refine lv_iload_n hx hb dX6_gather_73 rfl (lv_at hl 1 rfl) ?_
                      refine m_ald (j := i44 / 4) hx hb hK hP 6 7 rfl (by decide) (by omega) dX6_gather_74 ?_
                      refine W.eq (g2 := F0 m 75 ls [.int ((z44.2.1 7 (i44 / 4)))]) rfl ?_
                      refine lv_iconst (v := (-1)) hx hb dX6_gather_75 (by decide) ?_
                      refine lv_icmp_eq (x := (z44.2.1 7 (i44 / 4))) (y := (-1)) (tgt := 121) hx hb dX6_gather_76 (by decide) (fun c_16 => ?_) (fun c_16 => ?_)
                      · exact (hWW _ _ _ _ _).mp (J121_12 _ (by simp only [if_neg c_8, if_pos c_16]) _ (by simp only [if_neg c_8, if_pos c_16]) _ _ hP hD hS _ (lv_sub hl [0, 1, 2, 3, 4] rfl))
                      · refine lv_aload_n hx hb dX6_gather_79 rfl (lv_at hl 4 rfl) ?_
                        refine m_get (v := .ref (a 7)) hx hb hts hin hown hK hP 7 (by decide) rfl (index := 25) (List.mem_of_getElem? (i := 1) rfl) dX6_gather_80 ?_
                        refine lv_iload hx hb dX6_gather_83 (lv_at hl 0 rfl) ?_
                        refine m_aldI (j := (m_beside (nI (i44 / 4)) (nI (i44 % 4)))) hx hb hK hP 6 7 rfl (m_beside_tab (i44 / 4) (by omega) (i44 % 4) (by omega) c_8) dX6_gather_85 ?_
                        refine W.eq (g2 := F0 m 86 ls [.int ((z44.2.1 7 (((m_beside (nI (i44 / 4)) (nI (i44 % 4)))).toNatClampNeg)))]) rfl ?_
                        refine lv_iconst (v := (-1)) hx hb dX6_gather_86 (by decide) ?_
                        refine lv_icmp_eq (x := (z44.2.1 7 (((m_beside (nI (i44 / 4)) (nI (i44 % 4)))).toNatClampNeg))) (y := (-1)) (tgt := 121) hx hb dX6_gather_87 (by decide) (fun c_17 => ?_) (fun c_17 => ?_)
                        · exact (hWW _ _ _ _ _).mp (J121_12 _ (by simp only [if_neg c_8, if_neg c_16, if_pos c_17]) _ (by simp only [if_neg c_8, if_neg c_16, if_pos c_17]) _ _ hP hD hS _ (lv_sub hl [0, 1, 2, 3, 4] rfl))
                        · refine lv_aload_n hx hb dX6_gather_90 rfl (lv_at hl 4 rfl) ?_
                          refine m_get (v := .ref (a 7)) hx hb hts hin hown hK hP 7 (by decide) rfl (index := 25) (List.mem_of_getElem? (i := 1) rfl) dX6_gather_91 ?_
                          refine lv_iload hx hb dX6_gather_94 (lv_at hl 0 rfl) ?_
                          refine m_aldI (j := (m_beside (nI (i44 / 4)) (nI (i44 % 4)))) hx hb hK hP 6 7 rfl (m_beside_tab (i44 / 4) (by omega) (i44 % 4) (by omega) c_8) dX6_gather_96 ?_
                          refine W.eq (g2 := F0 m 97 ls [.int ((z44.2.1 7 (((m_beside (nI (i44 / 4)) (nI (i44 % 4)))).toNatClampNeg)))]) rfl ?_
                          refine lv_aload_n hx hb dX6_gather_97 rfl (lv_at hl 4 rfl) ?_
                          refine m_get (v := .ref (a 7)) hx hb hts hin hown hK hP 7 (by decide) rfl (index := 25) (List.mem_of_getElem? (i := 1) rfl) dX6_gather_98 ?_
                          refine lv_iload_n hx hb dX6_gather_101 rfl (lv_at hl 1 rfl) ?_
                          refine m_ald (j := i44 / 4) hx hb hK hP 6 7 rfl (by decide) (by omega) dX6_gather_102 ?_
                          refine W.eq (g2 := F0 m 103 ls [.int ((z44.2.1 7 (i44 / 4))), .int ((z44.2.1 7 (((m_beside (nI (i44 / 4)) (nI (i44 % 4)))).toNatClampNeg)))]) rfl ?_
                          refine lv_icmp_ge (x := (z44.2.1 7 (((m_beside (nI (i44 / 4)) (nI (i44 % 4)))).toNatClampNeg))) (y := (z44.2.1 7 (i44 / 4))) (tgt := 121) hx hb dX6_gather_103 (by decide) (fun c_18 => ?_) (fun c_18 => ?_)
                          · exact (hWW _ _ _ _ _).mp (J121_12 _ (by simp only [if_neg c_8, if_neg c_16, if_neg c_17, if_pos c_18]) _ (by simp only [if_neg c_8, if_neg c_16, if_neg c_17, if_pos c_18]) _ _ hP hD hS _ (lv_sub hl [0, 1, 2, 3, 4] rfl))
                          · refine lv_aload_n hx hb dX6_gather_106 rfl (lv_at hl 4 rfl) ?_
                            refine m_get (v := .ref (a 7)) hx hb hts hin hown hK hP 7 (by decide) rfl (index := 25) (List.mem_of_getElem? (i := 1) rfl) dX6_gather_107 ?_
                            refine lv_iload_n hx hb dX6_gather_110 rfl (lv_at hl 1 rfl) ?_
                            refine lv_aload_n hx hb dX6_gather_111 rfl (lv_at hl 4 rfl) ?_
                            refine m_get (v := .ref (a 7)) hx hb hts hin hown hK hP 7 (by decide) rfl (index := 25) (List.mem_of_getElem? (i := 1) rfl) dX6_gather_112 ?_
                            refine lv_iload hx hb dX6_gather_115 (lv_at hl 0 rfl) ?_
                            refine m_aldI (j := (m_beside (nI (i44 / 4)) (nI (i44 % 4)))) hx hb hK hP 6 7 rfl (m_beside_tab (i44 / 4) (by omega) (i44 % 4) (by omega) c_8) dX6_gather_117 ?_
                            refine W.eq (g2 := F0 m 118 ls [.int ((z44.2.1 7 (((m_beside (nI (i44 / 4)) (nI (i44 % 4)))).toNatClampNeg))), .int (nI (i44 / 4)), .ref (a 7)]) rfl ?_
                            refine m_ast (j := i44 / 4) (v := (z44.2.1 7 (((m_beside (nI (i44 / 4)) (nI (i44 % 4)))).toNatClampNeg))) hx hb hK hP hD hS 6 7 rfl rfl (by decide) (by omega) dX6_gather_118 (fun H locs hP hD hS => ?_)
                            refine lv_iconst (v := nI (1)) hx hb dX6_gather_119 (by decide) ?_
                            refine lv_istore_n (lv' := [(1, .int (nI (1))), (4, .int ((m_beside (nI (i44 / 4)) (nI (i44 % 4))))), (3, .int (nI (i44 / 4))), (2, .int (nI (i44))), (0, .ref (a 0))]) hx hb dX6_gather_120 rfl hl (by decide) rfl (fun ls hl => ?_)
                            exact (hWW _ _ _ _ _).mp (J121_12 _ (by simp only [if_neg c_8, if_neg c_16, if_neg c_17, if_neg c_18]) _ (by simp only [if_neg c_8, if_neg c_16, if_neg c_17, if_neg c_18]) _ _ hP hD hS _ (lv_sub hl [1, 2, 3, 0, 4] rfl))
              exact (hWW _ _ _ _ _).mp (L44 (100 + 1) 0 (Nat.zero_le _) (by omega) (nI (0), z36.2) rfl  _ _ hP hD hS _ (lv_sub hl [0, 1, 2] rfl))
        exact (hWW _ _ _ _ _).mp (L36 700 (nI (1), z2) (by rw [hz2]; exact m_gather_ok_i σ) rfl _ _ hP hD hS _ (lv_sub hl [0, 1] rfl))
      · refine lv_aload_n hx hb dX6_gather_8 rfl (lv_at hl 1 rfl) ?_
        refine m_get (v := .ref (a 7)) hx hb hts hin hown hK hP 7 (by decide) rfl (index := 25) (List.mem_of_getElem? (i := 1) rfl) dX6_gather_9 ?_
        refine lv_iload_n hx hb dX6_gather_12 rfl (lv_at hl 0 rfl) ?_
        refine lv_aload_n hx hb dX6_gather_13 rfl (lv_at hl 1 rfl) ?_
        refine m_get (v := .ref (a 3)) hx hb hts hin hown hK hP 3 (by decide) rfl (index := 13) (List.mem_of_getElem? (i := 2) rfl) dX6_gather_14 ?_
        refine lv_iload_n hx hb dX6_gather_17 rfl (lv_at hl 0 rfl) ?_
        refine m_ald (j := i2) hx hb hK hP 2 3 rfl (by decide) (by omega) dX6_gather_18 ?_
        refine W.eq (g2 := F0 m 19 ls [.int ((z2.1 3 i2)), .int (nI (i2)), .ref (a 7)]) rfl ?_
        have J27_22 : ∀ (x_21 : Int32), x_21 = (if (z2.1 3 i2) ≤ 0 then (-1) else nI (i2)) → ∀ (H : Heap) (locs : List Loc), va_P G vwCl (wm cI cZ a z2) H → va_D (mA a) (wm cI cZ a z2) → va_S (mA a) s.heap H locs → ∀ (ls : Array Slot), lv_has ls 5 [(1, .int (nI (i2))), (0, .ref (a 0))] → WW H locs 0 0 (F0 m 27 ls [.int (x_21), .int (nI (i2)), .ref (a 7)]) := by
          intro x_21 h_23 H locs hP hD hS ls hl
          refine (hWW _ _ _ _ _).mpr ?_
          have hR_24 : m_gather_b2 i2 z2 = m_gather_j27 i2 z2 x_21 := (by subst h_23; unfold m_gather_b2; rfl)
          refine m_ast (j := i2) (v := x_21) hx hb hK hP hD hS 6 7 rfl rfl (by decide) (by omega) dX6_gather_27 (fun H locs hP hD hS => ?_)
          refine n_iinc (x := i2) (dN := 1) (k := 0) (lv' := [(1, .int (nI (i2 + 1))), (0, .ref (a 0))]) hx hb dX6_gather_28 hl rfl (by decide) rfl (fun ls hl => ?_)
          refine lv_goto (tgt := 2) hx hb dX6_gather_31 (by decide) ?_
          exact (hWW _ _ _ _ _).mp (ih2 (i2 + 1) (by omega) (by omega) ((si z2 7 (i2) (x_21))) (by show _ = m_gather_b2 i2 (lp (m_gather_b2) i2 σ); rw [← hz2]; exact (Eq.trans (by unfold m_gather_j27; rfl) hR_24.symm))  _ _ hP hD hS _ (lv_sub hl [0, 1] rfl))
        refine lv_if_le (x := (z2.1 3 i2)) (tgt := 26) hx hb dX6_gather_19 (by decide) (fun c_19 => ?_) (fun c_19 => ?_)
        · refine lv_iconst (v := (-1)) hx hb dX6_gather_26 (by decide) ?_
          exact (hWW _ _ _ _ _).mp (J27_22 _ (by simp only [if_pos c_19]) _ _ hP hD hS _ (lv_sub hl [0, 1] rfl))
        · refine lv_iload_n hx hb dX6_gather_22 rfl (lv_at hl 0 rfl) ?_
          refine lv_goto (tgt := 27) hx hb dX6_gather_23 (by decide) ?_
          exact (hWW _ _ _ _ _).mp (J27_22 _ (by simp only [if_neg c_19]) _ _ hP hD hS _ (lv_sub hl [0, 1] rfl))
  exact (hWW _ _ _ _ _).mp (L2 (25 + 1) 0 (Nat.zero_le _) (by omega) σ rfl  _ _ hP hD hS _ (lv_sub hl [0, 1] rfl))

def m_breach_x45 (σ : Sg) (cell : Int32) (x_3 : Int32) (z45 : Int32 × Sg) : Int32 := z45.1
def m_breach_x45_s (σ : Sg) (cell : Int32) (x_3 : Int32) (z45 : Int32 × Sg) : Sg := (sl z45.2 29 (((z45.2.2 29)) + ((z45.1).toInt64)))
def m_breach_j116 (cell : Int32) (i45 : Nat) (z45 : Int32 × Sg) (x_14 : Int32) (x_20 : Int32) (x_26 : Int32) : Int32 × Sg := ((z45.1) + (x_20), (si z45.2 3 (i45) (x_26)))
def m_breach_j92 (cell : Int32) (i45 : Nat) (z45 : Int32 × Sg) (x_14 : Int32) (x_20 : Int32) : Int32 × Sg := (m_breach_j116 cell i45 z45 x_14 x_20 (if x_14 = 0 then (z45.2.1 3 i45) else nI (0)))
def m_breach_j73 (cell : Int32) (i45 : Nat) (z45 : Int32 × Sg) (x_14 : Int32) : Int32 × Sg := (m_breach_j92 cell i45 z45 x_14 (if x_14 = 0 then nI (0) else (z45.2.1 3 i45)))
def m_breach_b45 (cell : Int32) (i45 : Nat) (z45 : Int32 × Sg) : Int32 × Sg := (m_breach_j73 cell i45 z45 (if (z45.2.1 7 i45) = (z45.2.1 7 ((cell).toNatClampNeg)) then nI (1) else nI (0)))
def m_breach_j28 (σ : Sg) (cell : Int32) (x_3 : Int32) : Int32 := (if (m_refused σ x_3) = 0 then (m_breach_x45 σ cell x_3 (lp (m_breach_b45 cell) 25 (nI (0), (m_gather_s (m_refused_s σ x_3))))) else nI (0))
def m_breach_j28_s (σ : Sg) (cell : Int32) (x_3 : Int32) : Sg := (if (m_refused σ x_3) = 0 then (m_breach_x45_s σ cell x_3 (lp (m_breach_b45 cell) 25 (nI (0), (m_gather_s (m_refused_s σ x_3))))) else (m_refused_s σ x_3))
def m_breach (σ : Sg) (cell : Int32) : Int32 := (m_breach_j28 σ cell (if (m_isCell cell) = 0 then nI (1) else (if (σ.1 3 ((cell).toNatClampNeg)) = 0 then nI (2) else nI (0))))
def m_breach_s (σ : Sg) (cell : Int32) : Sg := (m_breach_j28_s σ cell (if (m_isCell cell) = 0 then nI (1) else (if (σ.1 3 ((cell).toNatClampNeg)) = 0 then nI (2) else nI (0))))
set_option maxHeartbeats 4000000 in
set_option maxRecDepth 100000 in
theorem cm_breach (l : Launch) (G : va_G) (cI cZ : ClassId) (a : Nat → Nat) (σ : Sg) (cell : Int32) : mI l yX6_breach wsX6_breach ({ frames := 2, cells := 0, slots := 0, locals := 45 } : Room) G cI cZ a σ [.int (cell)] (m_breach σ cell) (m_breach_s σ cell) := by
  unfold mI
  refine Met.ofW (cc := cX6_breach) (maxL := 6) (ret := (some .int)) (by decide) rfl ?_
  intro p e s m args below meth c s₁ B hml hv
  obtain ⟨rfl, hP, hK, hD⟩ := hv
  have hx := B.exec
  have hb := B.bytes
  have hr := B.returns
  have hts := atoms_spec (ws := wsX6_breach) B.pre
  have hown : s.vm.findClass RX6 = some m.cls := findClass_of_methodNamed B.named
  have hlocks := B.notSynchronized
  have hS : va_S (mA a) s.heap s.heap [] := va_S.rf
  have hin : ∀ w ∈ wsX60, w ∈ wsX6_breach := fun w h => List.mem_cons_of_mem _ (List.mem_append_right _ h)
  have hl := lv_entry ([.ref (a 0), .int (cell)]) (n := 6) (Nat.le_of_ble_eq_true rfl)
  rw [lg_entry_eq]
  generalize (lg_sl ([.ref (a 0), .int (cell)]) ++ List.replicate (6 - (lg_sl ([.ref (a 0), .int (cell)])).length) Slot.unset).toArray = ls at hl ⊢
  have hl : lv_has ls 6 [(0, .ref (a 0)), (1, .int (cell))] := hl
  refine w_named (fun WW hWW => ?_)
  have hP : va_P G vwCl (wm cI cZ a σ) s.heap := hP
  refine lv_iload_n hx hb dX6_breach_0 rfl (lv_at hl 1 rfl) ?_
  refine m_callS (As := [.int (cell)]) (rest := []) ⟨hx, hb, hml, hown, hts⟩ (cm_isCell l cell ) (va_cwS 1 hts gX6_breach_X6_isCell rfl rfl rfl (by decide +kernel) ⟨Nat.le_of_ble_eq_true rfl, Nat.le_of_ble_eq_true rfl⟩) hP hS rfl hl.1 rfl (Nat.le_of_ble_eq_true rfl) dX6_breach_1 ⟨Nat.zero_le _, Nat.zero_le _⟩ (fun H locs hP hS => ?_)
  refine lv_istore_n (lv' := [(2, .int ((m_isCell cell))), (0, .ref (a 0)), (1, .int (cell))]) hx hb dX6_breach_4 rfl hl (by decide) rfl (fun ls hl => ?_)
  refine lv_aload_n hx hb dX6_breach_5 rfl (lv_at hl 1 rfl) ?_
  refine lv_iload_n hx hb dX6_breach_6 rfl (lv_at hl 0 rfl) ?_
  have J28_4 : ∀ (x_3 : Int32), x_3 = (if (m_isCell cell) = 0 then nI (1) else (if (σ.1 3 ((cell).toNatClampNeg)) = 0 then nI (2) else nI (0))) → ∀ (H : Heap) (locs : List Loc), va_P G vwCl (wm cI cZ a σ) H → va_D (mA a) (wm cI cZ a σ) → va_S (mA a) s.heap H locs → ∀ (ls : Array Slot), lv_has ls 6 [(2, .int ((m_isCell cell))), (0, .ref (a 0)), (1, .int (cell))] → WW H locs 0 0 (F0 m 28 ls [.int (x_3), .ref (a 0)]) := by
    intro x_3 h_5 H locs hP hD hS ls hl
    refine (hWW _ _ _ _ _).mpr ?_
    have hR_6 : m_breach σ cell = m_breach_j28 σ cell x_3 := (by subst h_5; unfold m_breach; rfl)
    have hR_7 : m_breach_s σ cell = m_breach_j28_s σ cell x_3 := (by subst h_5; unfold m_breach_s; rfl)
    refine m_callI (As := [.int (x_3)]) (rest := []) (fun _ h => h) ⟨hx, hb, hml, hown, hts⟩ (cm_refused l G cI cZ a σ  x_3 ) (cwV 1 hts gX6_breach_X6_refused rfl rfl rfl (by decide +kernel) ⟨Nat.le_of_ble_eq_true rfl, Nat.le_of_ble_eq_true rfl⟩) hK hP hD hS rfl hl.1 rfl (Nat.le_of_ble_eq_true rfl) dX6_breach_28 ⟨Nat.zero_le _, Nat.zero_le _⟩ (fun H locs hP hD _ _ hS => ?_)
    refine lv_if_eq (x := (m_refused σ x_3)) (tgt := 36) hx hb dX6_breach_31 (by decide) (fun c_8 => ?_) (fun c_8 => ?_)
    · have hq := w_isCell (ck_tri h_5 (m_refused_0 c_8)).1
      refine lv_aload_n hx hb dX6_breach_36 rfl (lv_at hl 1 rfl) ?_
      refine m_callV (As := []) (rest := []) (fun _ h => h) ⟨hx, hb, hml, hown, hts⟩ (cm_gather l G cI cZ a (m_refused_s σ x_3)   ) (cwV 0 hts gX6_breach_X6_gather rfl rfl rfl (by decide +kernel) ⟨Nat.le_of_ble_eq_true rfl, Nat.le_of_ble_eq_true rfl⟩) hK hP hD hS rfl hl.1 rfl (Nat.le_of_ble_eq_true rfl) dX6_breach_37 ⟨Nat.zero_le _, Nat.zero_le _⟩ (fun H locs hP hD _ _ hS => ?_)
      refine lv_iconst (v := nI (0)) hx hb dX6_breach_40 (by decide) ?_
      refine lv_istore_n (lv' := [(3, .int (nI (0))), (2, .int ((m_isCell cell))), (0, .ref (a 0)), (1, .int (cell))]) hx hb dX6_breach_41 rfl hl (by decide) rfl (fun ls hl => ?_)
      refine lv_iconst (v := nI (0)) hx hb dX6_breach_42 (by decide) ?_
      refine lv_istore (lv' := [(4, .int (nI (0))), (3, .int (nI (0))), (2, .int ((m_isCell cell))), (0, .ref (a 0)), (1, .int (cell))]) hx hb dX6_breach_43 hl (by decide) rfl (fun ls hl => ?_)
      have L45 : ∀ (n45 i45 : Nat), i45 ≤ 25 → 25 + 1 ≤ i45 + n45 → ∀ (z45 : Int32 × Sg), z45 = lp (m_breach_b45 cell) i45 (nI (0), (m_gather_s (m_refused_s σ x_3))) → ∀ (H : Heap) (locs : List Loc), va_P G vwCl (wm cI cZ a z45.2) H → va_D (mA a) (wm cI cZ a z45.2) → va_S (mA a) s.heap H locs → ∀ (ls : Array Slot), lv_has ls 6 [(4, .int (nI (i45))), (3, .int (z45.1)), (2, .int ((m_isCell cell))), (0, .ref (a 0)), (1, .int (cell))] → WW H locs 0 0 (F0 m 45 ls []) := by
        intro n45
        induction n45 with
        | zero => intro i45 h1 h2; exact absurd h2 (by omega)
        | succ n45 ih45 =>
          intro i45 hi45 hn45 z45 hz45  H locs hP hD hS ls hl
          refine (hWW _ _ _ _ _).mpr ?_
          refine lv_iload hx hb dX6_breach_45 (lv_at hl 0 rfl) ?_
          refine lv_bipush (v := nI (25)) hx hb dX6_breach_47 (by decide) ?_
          refine n_icmp_ge (x := i45) (y := 25) (tgt := 123) hx hb (by omega) (by omega) dX6_breach_49 (by decide) (fun c_9 => ?_) (fun c_9 => ?_)
          · have hiN : 25 = i45 := by omega
            subst hiN
            have hR_10 : m_breach σ cell = m_breach_x45 σ cell x_3 z45 := (Eq.trans hR_6 (by subst hz45; unfold m_breach_j28; simp only [if_pos c_8]))
            have hR_11 : m_breach_s σ cell = m_breach_x45_s σ cell x_3 z45 := (Eq.trans hR_7 (by subst hz45; unfold m_breach_j28_s; simp only [if_pos c_8]))
            refine lv_aload_n hx hb dX6_breach_123 rfl (lv_at hl 3 rfl) ?_
            refine lv_dup hx hb dX6_breach_124 rfl ?_
            refine m_get (v := .long ((z45.2.2 29))) hx hb hts hin hown hK hP 29 (by decide) rfl (index := 168) (List.mem_of_getElem? (i := 3) rfl) dX6_breach_125 ?_
            refine lv_iload_n hx hb dX6_breach_128 rfl (lv_at hl 1 rfl) ?_
            refine lv_i2l (v := (z45.1).toInt64) hx hb dX6_breach_129 rfl ?_
            refine lv_ladd hx hb dX6_breach_130 ?_
            refine m_putJ (v := ((z45.2.2 29)) + ((z45.1).toInt64)) hx hb hts hin hown hK hP hD hS 29 (by decide) rfl (by decide +kernel) rfl (index := 168) (List.mem_of_getElem? (i := 3) rfl) dX6_breach_131 (fun H locs hP hD hS => ?_)
            refine lv_iload_n hx hb dX6_breach_134 rfl (lv_at hl 1 rfl) ?_
            exact m_iret (v := z45.1) hx hb hr hlocks hP hK hD hS dX6_breach_135 (Eq.trans (by unfold m_breach_x45; rfl) hR_10.symm) (Eq.trans (by unfold m_breach_x45_s; rfl) hR_11.symm)
          · refine lv_aload_n hx hb dX6_breach_52 rfl (lv_at hl 3 rfl) ?_
            refine m_get (v := .ref (a 7)) hx hb hts hin hown hK hP 7 (by decide) rfl (index := 25) (List.mem_of_getElem? (i := 2) rfl) dX6_breach_53 ?_
            refine lv_iload hx hb dX6_breach_56 (lv_at hl 0 rfl) ?_
            refine m_ald (j := i45) hx hb hK hP 6 7 rfl (by decide) (by omega) dX6_breach_58 ?_
            refine W.eq (g2 := F0 m 59 ls [.int ((z45.2.1 7 i45))]) rfl ?_
            refine lv_aload_n hx hb dX6_breach_59 rfl (lv_at hl 3 rfl) ?_
            refine m_get (v := .ref (a 7)) hx hb hts hin hown hK hP 7 (by decide) rfl (index := 25) (List.mem_of_getElem? (i := 2) rfl) dX6_breach_60 ?_
            refine lv_iload_n hx hb dX6_breach_63 rfl (lv_at hl 4 rfl) ?_
            refine m_aldI (j := cell) hx hb hK hP 6 7 rfl (hq) dX6_breach_64 ?_
            refine W.eq (g2 := F0 m 65 ls [.int ((z45.2.1 7 ((cell).toNatClampNeg))), .int ((z45.2.1 7 i45))]) rfl ?_
            have J73_15 : ∀ (x_14 : Int32), x_14 = (if (z45.2.1 7 i45) = (z45.2.1 7 ((cell).toNatClampNeg)) then nI (1) else nI (0)) → ∀ (H : Heap) (locs : List Loc), va_P G vwCl (wm cI cZ a z45.2) H → va_D (mA a) (wm cI cZ a z45.2) → va_S (mA a) s.heap H locs → ∀ (ls : Array Slot), lv_has ls 6 [(4, .int (nI (i45))), (3, .int (z45.1)), (2, .int ((m_isCell cell))), (0, .ref (a 0)), (1, .int (cell))] → WW H locs 0 0 (F0 m 73 ls [.int (x_14)]) := by
              intro x_14 h_16 H locs hP hD hS ls hl
              refine (hWW _ _ _ _ _).mpr ?_
              have hR_17 : m_breach_b45 cell i45 z45 = m_breach_j73 cell i45 z45 x_14 := (by subst h_16; unfold m_breach_b45; rfl)
              refine lv_istore (lv' := [(5, .int (x_14)), (4, .int (nI (i45))), (3, .int (z45.1)), (2, .int ((m_isCell cell))), (0, .ref (a 0)), (1, .int (cell))]) hx hb dX6_breach_73 hl (by decide) rfl (fun ls hl => ?_)
              refine lv_iload_n hx hb dX6_breach_75 rfl (lv_at hl 2 rfl) ?_
              refine lv_iload hx hb dX6_breach_76 (lv_at hl 0 rfl) ?_
              have J92_21 : ∀ (x_20 : Int32), x_20 = (if x_14 = 0 then nI (0) else (z45.2.1 3 i45)) → ∀ (H : Heap) (locs : List Loc), va_P G vwCl (wm cI cZ a z45.2) H → va_D (mA a) (wm cI cZ a z45.2) → va_S (mA a) s.heap H locs → ∀ (ls : Array Slot), lv_has ls 6 [(5, .int (x_14)), (4, .int (nI (i45))), (3, .int (z45.1)), (2, .int ((m_isCell cell))), (0, .ref (a 0)), (1, .int (cell))] → WW H locs 0 0 (F0 m 92 ls [.int (x_20), .int (z45.1)]) := by
                intro x_20 h_22 H locs hP hD hS ls hl
                refine (hWW _ _ _ _ _).mpr ?_
                have hR_23 : m_breach_b45 cell i45 z45 = m_breach_j92 cell i45 z45 x_14 x_20 := (Eq.trans hR_17 (by subst h_22; unfold m_breach_j73; rfl))
                refine lv_iadd (x := z45.1) (y := x_20) hx hb dX6_breach_92 ?_
                refine lv_istore_n (lv' := [(3, .int ((z45.1) + (x_20))), (5, .int (x_14)), (4, .int (nI (i45))), (2, .int ((m_isCell cell))), (0, .ref (a 0)), (1, .int (cell))]) hx hb dX6_breach_93 rfl hl (by decide) rfl (fun ls hl => ?_)
                refine lv_aload_n hx hb dX6_breach_94 rfl (lv_at hl 4 rfl) ?_
                refine m_get (v := .ref (a 3)) hx hb hts hin hown hK hP 3 (by decide) rfl (index := 13) (List.mem_of_getElem? (i := 1) rfl) dX6_breach_95 ?_
                refine lv_iload hx hb dX6_breach_98 (lv_at hl 2 rfl) ?_
                refine lv_iload hx hb dX6_breach_100 (lv_at hl 1 rfl) ?_
                have J116_27 : ∀ (x_26 : Int32), x_26 = (if x_14 = 0 then (z45.2.1 3 i45) else nI (0)) → ∀ (H : Heap) (locs : List Loc), va_P G vwCl (wm cI cZ a z45.2) H → va_D (mA a) (wm cI cZ a z45.2) → va_S (mA a) s.heap H locs → ∀ (ls : Array Slot), lv_has ls 6 [(3, .int ((z45.1) + (x_20))), (5, .int (x_14)), (4, .int (nI (i45))), (2, .int ((m_isCell cell))), (0, .ref (a 0)), (1, .int (cell))] → WW H locs 0 0 (F0 m 116 ls [.int (x_26), .int (nI (i45)), .ref (a 3)]) := by
                  intro x_26 h_28 H locs hP hD hS ls hl
                  refine (hWW _ _ _ _ _).mpr ?_
                  have hR_29 : m_breach_b45 cell i45 z45 = m_breach_j116 cell i45 z45 x_14 x_20 x_26 := (Eq.trans hR_23 (by subst h_28; unfold m_breach_j92; rfl))
                  refine m_ast (j := i45) (v := x_26) hx hb hK hP hD hS 2 3 rfl rfl (by decide) (by omega) dX6_breach_116 (fun H locs hP hD hS => ?_)
                  refine n_iinc (x := i45) (dN := 1) (k := 2) (lv' := [(4, .int (nI (i45 + 1))), (3, .int ((z45.1) + (x_20))), (5, .int (x_14)), (2, .int ((m_isCell cell))), (0, .ref (a 0)), (1, .int (cell))]) hx hb dX6_breach_117 hl rfl (by decide) rfl (fun ls hl => ?_)
                  refine lv_goto (tgt := 45) hx hb dX6_breach_120 (by decide) ?_
                  exact (hWW _ _ _ _ _).mp (ih45 (i45 + 1) (by omega) (by omega) (((z45.1) + (x_20), (si z45.2 3 (i45) (x_26)))) (by show _ = m_breach_b45 cell i45 (lp (m_breach_b45 cell) i45 (nI (0), (m_gather_s (m_refused_s σ x_3)))); rw [← hz45]; exact (Eq.trans (by unfold m_breach_j116; rfl) hR_29.symm))  _ _ hP hD hS _ (lv_sub hl [0, 1, 3, 4, 5] rfl))
                refine lv_if_eq (x := x_14) (tgt := 109) hx hb dX6_breach_102 (by decide) (fun c_24 => ?_) (fun c_24 => ?_)
                · refine lv_aload_n hx hb dX6_breach_109 rfl (lv_at hl 4 rfl) ?_
                  refine m_get (v := .ref (a 3)) hx hb hts hin hown hK hP 3 (by decide) rfl (index := 13) (List.mem_of_getElem? (i := 1) rfl) dX6_breach_110 ?_
                  refine lv_iload hx hb dX6_breach_113 (lv_at hl 2 rfl) ?_
                  refine m_ald (j := i45) hx hb hK hP 2 3 rfl (by decide) (by omega) dX6_breach_115 ?_
                  refine W.eq (g2 := F0 m 116 ls [.int ((z45.2.1 3 i45)), .int (nI (i45)), .ref (a 3)]) rfl ?_
                  exact (hWW _ _ _ _ _).mp (J116_27 _ (by simp only [if_pos c_24]) _ _ hP hD hS _ (lv_sub hl [0, 1, 2, 3, 4, 5] rfl))
                · refine lv_iconst (v := nI (0)) hx hb dX6_breach_105 (by decide) ?_
                  refine lv_goto (tgt := 116) hx hb dX6_breach_106 (by decide) ?_
                  exact (hWW _ _ _ _ _).mp (J116_27 _ (by simp only [if_neg c_24]) _ _ hP hD hS _ (lv_sub hl [0, 1, 2, 3, 4, 5] rfl))
              refine lv_if_eq (x := x_14) (tgt := 91) hx hb dX6_breach_78 (by decide) (fun c_18 => ?_) (fun c_18 => ?_)
              · refine lv_iconst (v := nI (0)) hx hb dX6_breach_91 (by decide) ?_
                exact (hWW _ _ _ _ _).mp (J92_21 _ (by simp only [if_pos c_18]) _ _ hP hD hS _ (lv_sub hl [0, 1, 2, 3, 4, 5] rfl))
              · refine lv_aload_n hx hb dX6_breach_81 rfl (lv_at hl 4 rfl) ?_
                refine m_get (v := .ref (a 3)) hx hb hts hin hown hK hP 3 (by decide) rfl (index := 13) (List.mem_of_getElem? (i := 1) rfl) dX6_breach_82 ?_
                refine lv_iload hx hb dX6_breach_85 (lv_at hl 1 rfl) ?_
                refine m_ald (j := i45) hx hb hK hP 2 3 rfl (by decide) (by omega) dX6_breach_87 ?_
                refine W.eq (g2 := F0 m 88 ls [.int ((z45.2.1 3 i45)), .int (z45.1)]) rfl ?_
                refine lv_goto (tgt := 92) hx hb dX6_breach_88 (by decide) ?_
                exact (hWW _ _ _ _ _).mp (J92_21 _ (by simp only [if_neg c_18]) _ _ hP hD hS _ (lv_sub hl [0, 1, 2, 3, 4, 5] rfl))
            refine lv_icmp_ne (x := (z45.2.1 7 i45)) (y := (z45.2.1 7 ((cell).toNatClampNeg))) (tgt := 72) hx hb dX6_breach_65 (by decide) (fun c_12 => ?_) (fun c_12 => ?_)
            · refine lv_iconst (v := nI (0)) hx hb dX6_breach_72 (by decide) ?_
              exact (hWW _ _ _ _ _).mp (J73_15 _ (by simp only [if_neg c_12]) _ _ hP hD hS _ (lv_sub hl [0, 1, 2, 3, 4] rfl))
            · refine lv_iconst (v := nI (1)) hx hb dX6_breach_68 (by decide) ?_
              refine lv_goto (tgt := 73) hx hb dX6_breach_69 (by decide) ?_
              exact (hWW _ _ _ _ _).mp (J73_15 _ (by simp only [if_pos c_12]) _ _ hP hD hS _ (lv_sub hl [0, 1, 2, 3, 4] rfl))
      exact (hWW _ _ _ _ _).mp (L45 (25 + 1) 0 (Nat.zero_le _) (by omega) (nI (0), (m_gather_s (m_refused_s σ x_3))) rfl  _ _ hP hD hS _ (lv_sub hl [0, 1, 2, 3, 4] rfl))
    · refine lv_iconst (v := nI (0)) hx hb dX6_breach_34 (by decide) ?_
      exact m_iret (v := nI (0)) hx hb hr hlocks hP hK hD hS dX6_breach_35 (Eq.trans (by unfold m_breach_j28; simp only [if_neg c_8]) hR_6.symm) (Eq.trans (by unfold m_breach_j28_s; simp only [if_neg c_8]) hR_7.symm)
  refine lv_if_ne (x := (m_isCell cell)) (tgt := 14) hx hb dX6_breach_7 (by decide) (fun c_1 => ?_) (fun c_1 => ?_)
  · refine lv_aload_n hx hb dX6_breach_14 rfl (lv_at hl 1 rfl) ?_
    refine m_get (v := .ref (a 3)) hx hb hts hin hown hK hP 3 (by decide) rfl (index := 13) (List.mem_of_getElem? (i := 1) rfl) dX6_breach_15 ?_
    refine lv_iload_n hx hb dX6_breach_18 rfl (lv_at hl 2 rfl) ?_
    refine m_aldI (j := cell) hx hb hK hP 2 3 rfl (w_isCell c_1) dX6_breach_19 ?_
    refine W.eq (g2 := F0 m 20 ls [.int ((σ.1 3 ((cell).toNatClampNeg))), .ref (a 0)]) rfl ?_
    refine lv_if_ne (x := (σ.1 3 ((cell).toNatClampNeg))) (tgt := 27) hx hb dX6_breach_20 (by decide) (fun c_30 => ?_) (fun c_30 => ?_)
    · refine lv_iconst (v := nI (0)) hx hb dX6_breach_27 (by decide) ?_
      exact (hWW _ _ _ _ _).mp (J28_4 _ (by simp only [if_neg c_1, if_neg c_30]) _ _ hP hD hS _ (lv_sub hl [0, 1, 2] rfl))
    · refine lv_iconst (v := nI (2)) hx hb dX6_breach_23 (by decide) ?_
      refine lv_goto (tgt := 28) hx hb dX6_breach_24 (by decide) ?_
      exact (hWW _ _ _ _ _).mp (J28_4 _ (by simp only [if_neg c_1, if_pos c_30]) _ _ hP hD hS _ (lv_sub hl [0, 1, 2] rfl))
  · refine lv_iconst (v := nI (1)) hx hb dX6_breach_10 (by decide) ?_
    refine lv_goto (tgt := 28) hx hb dX6_breach_11 (by decide) ?_
    exact (hWW _ _ _ _ _).mp (J28_4 _ (by simp only [if_pos c_1]) _ _ hP hD hS _ (lv_sub hl [0, 1, 2] rfl))

def m_lakeOf_x8 (σ : Sg) (c : Int32) (z8 : Int32) : Int32 := z8
def m_lakeOf_x8_s (σ : Sg) (c : Int32) (z8 : Int32) : Sg := (m_gather_s σ)
def m_lakeOf_j45 (σ : Sg) (c : Int32) (i8 : Nat) (z8 : Int32) (x_6 : Int32) : Int32 := (z8) + (x_6)
def m_lakeOf_b8 (σ : Sg) (c : Int32) (i8 : Nat) (z8 : Int32) : Int32 := (m_lakeOf_j45 σ c i8 z8 (if ((m_gather_s σ).1 7 ((c).toNatClampNeg)) = (-1) then nI (0) else (if ((m_gather_s σ).1 7 i8) = ((m_gather_s σ).1 7 ((c).toNatClampNeg)) then nI (1) else nI (0))))
def m_lakeOf (σ : Sg) (c : Int32) : Int32 := (m_lakeOf_x8 σ c (lp (m_lakeOf_b8 σ c) 25 (nI (0))))
def m_lakeOf_s (σ : Sg) (c : Int32) : Sg := (m_lakeOf_x8_s σ c (lp (m_lakeOf_b8 σ c) 25 (nI (0))))
set_option maxHeartbeats 4000000 in
set_option maxRecDepth 100000 in
theorem cm_lakeOf (l : Launch) (G : va_G) (cI cZ : ClassId) (a : Nat → Nat) (σ : Sg) (c : Int32) (hc : vp_in c 25) : mI l yX6_lakeOf wsX6_lakeOf ({ frames := 2, cells := 0, slots := 0, locals := 45 } : Room) G cI cZ a σ [.int (c)] (m_lakeOf σ c) (m_lakeOf_s σ c) := by
  unfold mI
  refine Met.ofW (cc := cX6_lakeOf) (maxL := 4) (ret := (some .int)) (by decide) rfl ?_
  intro p e s m args below meth c s₁ B hml hv
  obtain ⟨rfl, hP, hK, hD⟩ := hv
  have hx := B.exec
  have hb := B.bytes
  have hr := B.returns
  have hts := atoms_spec (ws := wsX6_lakeOf) B.pre
  have hown : s.vm.findClass RX6 = some m.cls := findClass_of_methodNamed B.named
  have hlocks := B.notSynchronized
  have hS : va_S (mA a) s.heap s.heap [] := va_S.rf
  have hin : ∀ w ∈ wsX60, w ∈ wsX6_lakeOf := fun w h => List.mem_cons_of_mem _ (List.mem_append_right _ h)
  have hl := lv_entry ([.ref (a 0), .int (c)]) (n := 4) (Nat.le_of_ble_eq_true rfl)
  rw [lg_entry_eq]
  generalize (lg_sl ([.ref (a 0), .int (c)]) ++ List.replicate (4 - (lg_sl ([.ref (a 0), .int (c)])).length) Slot.unset).toArray = ls at hl ⊢
  have hl : lv_has ls 4 [(0, .ref (a 0)), (1, .int (c))] := hl
  refine w_named (fun WW hWW => ?_)
  have hP : va_P G vwCl (wm cI cZ a σ) s.heap := hP
  refine lv_aload_n hx hb dX6_lakeOf_0 rfl (lv_at hl 0 rfl) ?_
  refine m_callV (As := []) (rest := []) (fun _ h => h) ⟨hx, hb, hml, hown, hts⟩ (cm_gather l G cI cZ a σ   ) (cwV 0 hts gX6_lakeOf_X6_gather rfl rfl rfl (by decide +kernel) ⟨Nat.le_of_ble_eq_true rfl, Nat.le_of_ble_eq_true rfl⟩) hK hP hD hS rfl hl.1 rfl (Nat.le_of_ble_eq_true rfl) dX6_lakeOf_1 ⟨Nat.zero_le _, Nat.zero_le _⟩ (fun H locs hP hD _ _ hS => ?_)
  refine lv_iconst (v := nI (0)) hx hb dX6_lakeOf_4 (by decide) ?_
  refine lv_istore_n (lv' := [(2, .int (nI (0))), (0, .ref (a 0)), (1, .int (c))]) hx hb dX6_lakeOf_5 rfl hl (by decide) rfl (fun ls hl => ?_)
  refine lv_iconst (v := nI (0)) hx hb dX6_lakeOf_6 (by decide) ?_
  refine lv_istore_n (lv' := [(3, .int (nI (0))), (2, .int (nI (0))), (0, .ref (a 0)), (1, .int (c))]) hx hb dX6_lakeOf_7 rfl hl (by decide) rfl (fun ls hl => ?_)
  have L8 : ∀ (n8 i8 : Nat), i8 ≤ 25 → 25 + 1 ≤ i8 + n8 → ∀ (z8 : Int32), z8 = lp (m_lakeOf_b8 σ c) i8 (nI (0)) → ∀ (H : Heap) (locs : List Loc), va_P G vwCl (wm cI cZ a (m_gather_s σ)) H → va_D (mA a) (wm cI cZ a (m_gather_s σ)) → va_S (mA a) s.heap H locs → ∀ (ls : Array Slot), lv_has ls 4 [(3, .int (nI (i8))), (2, .int (z8)), (0, .ref (a 0)), (1, .int (c))] → WW H locs 0 0 (F0 m 8 ls []) := by
    intro n8
    induction n8 with
    | zero => intro i8 h1 h2; exact absurd h2 (by omega)
    | succ n8 ih8 =>
      intro i8 hi8 hn8 z8 hz8  H locs hP hD hS ls hl
      refine (hWW _ _ _ _ _).mpr ?_
      refine lv_iload_n hx hb dX6_lakeOf_8 rfl (lv_at hl 0 rfl) ?_
      refine lv_bipush (v := nI (25)) hx hb dX6_lakeOf_9 (by decide) ?_
      refine n_icmp_ge (x := i8) (y := 25) (tgt := 53) hx hb (by omega) (by omega) dX6_lakeOf_11 (by decide) (fun c_1 => ?_) (fun c_1 => ?_)
      · have hiN : 25 = i8 := by omega
        subst hiN
        have hR_2 : m_lakeOf σ c = m_lakeOf_x8 σ c z8 := (by subst hz8; unfold m_lakeOf; rfl)
        have hR_3 : m_lakeOf_s σ c = m_lakeOf_x8_s σ c z8 := (by subst hz8; unfold m_lakeOf_s; rfl)
        refine lv_iload_n hx hb dX6_lakeOf_53 rfl (lv_at hl 1 rfl) ?_
        exact m_iret (v := z8) hx hb hr hlocks hP hK hD hS dX6_lakeOf_54 (Eq.trans (by unfold m_lakeOf_x8; rfl) hR_2.symm) (Eq.trans (by unfold m_lakeOf_x8_s; rfl) hR_3.symm)
      · refine lv_iload_n hx hb dX6_lakeOf_14 rfl (lv_at hl 1 rfl) ?_
        refine lv_aload_n hx hb dX6_lakeOf_15 rfl (lv_at hl 2 rfl) ?_
        refine m_get (v := .ref (a 7)) hx hb hts hin hown hK hP 7 (by decide) rfl (index := 25) (List.mem_of_getElem? (i := 1) rfl) dX6_lakeOf_16 ?_
        refine lv_iload_n hx hb dX6_lakeOf_19 rfl (lv_at hl 3 rfl) ?_
        refine m_aldI (j := c) hx hb hK hP 6 7 rfl (hc) dX6_lakeOf_20 ?_
        refine W.eq (g2 := F0 m 21 ls [.int (((m_gather_s σ).1 7 ((c).toNatClampNeg))), .int (z8)]) rfl ?_
        refine lv_iconst (v := (-1)) hx hb dX6_lakeOf_21 (by decide) ?_
        have J45_7 : ∀ (x_6 : Int32), x_6 = (if ((m_gather_s σ).1 7 ((c).toNatClampNeg)) = (-1) then nI (0) else (if ((m_gather_s σ).1 7 i8) = ((m_gather_s σ).1 7 ((c).toNatClampNeg)) then nI (1) else nI (0))) → ∀ (H : Heap) (locs : List Loc), va_P G vwCl (wm cI cZ a (m_gather_s σ)) H → va_D (mA a) (wm cI cZ a (m_gather_s σ)) → va_S (mA a) s.heap H locs → ∀ (ls : Array Slot), lv_has ls 4 [(3, .int (nI (i8))), (2, .int (z8)), (0, .ref (a 0)), (1, .int (c))] → WW H locs 0 0 (F0 m 45 ls [.int (x_6), .int (z8)]) := by
          intro x_6 h_8 H locs hP hD hS ls hl
          refine (hWW _ _ _ _ _).mpr ?_
          have hR_9 : m_lakeOf_b8 σ c i8 z8 = m_lakeOf_j45 σ c i8 z8 x_6 := (by subst h_8; unfold m_lakeOf_b8; rfl)
          refine lv_iadd (x := z8) (y := x_6) hx hb dX6_lakeOf_45 ?_
          refine lv_istore_n (lv' := [(2, .int ((z8) + (x_6))), (3, .int (nI (i8))), (0, .ref (a 0)), (1, .int (c))]) hx hb dX6_lakeOf_46 rfl hl (by decide) rfl (fun ls hl => ?_)
          refine n_iinc (x := i8) (dN := 1) (k := 1) (lv' := [(3, .int (nI (i8 + 1))), (2, .int ((z8) + (x_6))), (0, .ref (a 0)), (1, .int (c))]) hx hb dX6_lakeOf_47 hl rfl (by decide) rfl (fun ls hl => ?_)
          refine lv_goto (tgt := 8) hx hb dX6_lakeOf_50 (by decide) ?_
          exact (hWW _ _ _ _ _).mp (ih8 (i8 + 1) (by omega) (by omega) ((z8) + (x_6)) (by show _ = m_lakeOf_b8 σ c i8 (lp (m_lakeOf_b8 σ c) i8 (nI (0))); rw [← hz8]; exact (Eq.trans (by unfold m_lakeOf_j45; rfl) hR_9.symm))  _ _ hP hD hS _ (lv_sub hl [0, 1, 2, 3] rfl))
        refine lv_icmp_eq (x := ((m_gather_s σ).1 7 ((c).toNatClampNeg))) (y := (-1)) (tgt := 44) hx hb dX6_lakeOf_22 (by decide) (fun c_4 => ?_) (fun c_4 => ?_)
        · refine lv_iconst (v := nI (0)) hx hb dX6_lakeOf_44 (by decide) ?_
          exact (hWW _ _ _ _ _).mp (J45_7 _ (by simp only [if_pos c_4]) _ _ hP hD hS _ (lv_sub hl [0, 1, 2, 3] rfl))
        · refine lv_aload_n hx hb dX6_lakeOf_25 rfl (lv_at hl 2 rfl) ?_
          refine m_get (v := .ref (a 7)) hx hb hts hin hown hK hP 7 (by decide) rfl (index := 25) (List.mem_of_getElem? (i := 1) rfl) dX6_lakeOf_26 ?_
          refine lv_iload_n hx hb dX6_lakeOf_29 rfl (lv_at hl 0 rfl) ?_
          refine m_ald (j := i8) hx hb hK hP 6 7 rfl (by decide) (by omega) dX6_lakeOf_30 ?_
          refine W.eq (g2 := F0 m 31 ls [.int (((m_gather_s σ).1 7 i8)), .int (z8)]) rfl ?_
          refine lv_aload_n hx hb dX6_lakeOf_31 rfl (lv_at hl 2 rfl) ?_
          refine m_get (v := .ref (a 7)) hx hb hts hin hown hK hP 7 (by decide) rfl (index := 25) (List.mem_of_getElem? (i := 1) rfl) dX6_lakeOf_32 ?_
          refine lv_iload_n hx hb dX6_lakeOf_35 rfl (lv_at hl 3 rfl) ?_
          refine m_aldI (j := c) hx hb hK hP 6 7 rfl (hc) dX6_lakeOf_36 ?_
          refine W.eq (g2 := F0 m 37 ls [.int (((m_gather_s σ).1 7 ((c).toNatClampNeg))), .int (((m_gather_s σ).1 7 i8)), .int (z8)]) rfl ?_
          refine lv_icmp_ne (x := ((m_gather_s σ).1 7 i8)) (y := ((m_gather_s σ).1 7 ((c).toNatClampNeg))) (tgt := 44) hx hb dX6_lakeOf_37 (by decide) (fun c_10 => ?_) (fun c_10 => ?_)
          · refine lv_iconst (v := nI (0)) hx hb dX6_lakeOf_44 (by decide) ?_
            exact (hWW _ _ _ _ _).mp (J45_7 _ (by simp only [if_neg c_4, if_neg c_10]) _ _ hP hD hS _ (lv_sub hl [0, 1, 2, 3] rfl))
          · refine lv_iconst (v := nI (1)) hx hb dX6_lakeOf_40 (by decide) ?_
            refine lv_goto (tgt := 45) hx hb dX6_lakeOf_41 (by decide) ?_
            exact (hWW _ _ _ _ _).mp (J45_7 _ (by simp only [if_neg c_4, if_pos c_10]) _ _ hP hD hS _ (lv_sub hl [0, 1, 2, 3] rfl))
  exact (hWW _ _ _ _ _).mp (L8 (25 + 1) 0 (Nat.zero_le _) (by omega) (nI (0)) rfl  _ _ hP hD hS _ (lv_sub hl [0, 1, 2, 3] rfl))

def m_thawed_j26 (σ : Sg) (c : Int32) (y_4 : Int32) : Int32 := y_4
def m_thawed (σ : Sg) (c : Int32) : Int32 := (m_thawed_j26 σ c (if (σ.1 10 ((((nI (5)) * (c)) + (nI (0))).toNatClampNeg)) < 0 then nI (0) else (if (σ.1 10 ((((nI (5)) * (c)) + (nI (1))).toNatClampNeg)) < 0 then nI (1) else (if (σ.1 10 ((((nI (5)) * (c)) + (nI (2))).toNatClampNeg)) < 0 then nI (2) else (if (σ.1 10 ((((nI (5)) * (c)) + (nI (3))).toNatClampNeg)) < 0 then nI (3) else (if (σ.1 10 ((((nI (5)) * (c)) + (nI (4))).toNatClampNeg)) < 0 then nI (4) else nI (5)))))))
set_option maxHeartbeats 4000000 in
set_option maxRecDepth 100000 in
theorem cm_thawed (l : Launch) (G : va_G) (cI cZ : ClassId) (a : Nat → Nat) (σ : Sg) (c : Int32) (hc : vp_in c 25) : mI l yX6_thawed wsX6_thawed ({ frames := 0, cells := 0, slots := 0, locals := 0 } : Room) G cI cZ a σ [.int (c)] (m_thawed σ c) σ := by
  unfold mI
  refine Met.ofW (cc := cX6_thawed) (maxL := 3) (ret := (some .int)) (by decide) rfl ?_
  intro p e s m args below meth c s₁ B hml hv
  obtain ⟨rfl, hP, hK, hD⟩ := hv
  have hx := B.exec
  have hb := B.bytes
  have hr := B.returns
  have hts := atoms_spec (ws := wsX6_thawed) B.pre
  have hown : s.vm.findClass RX6 = some m.cls := findClass_of_methodNamed B.named
  have hlocks := B.notSynchronized
  have hS : va_S (mA a) s.heap s.heap [] := va_S.rf
  have hin : ∀ w ∈ wsX60, w ∈ wsX6_thawed := fun w h => List.mem_cons_of_mem _ (List.mem_append_right _ h)
  have hl := lv_entry ([.ref (a 0), .int (c)]) (n := 3) (Nat.le_of_ble_eq_true rfl)
  rw [lg_entry_eq]
  generalize (lg_sl ([.ref (a 0), .int (c)]) ++ List.replicate (3 - (lg_sl ([.ref (a 0), .int (c)])).length) Slot.unset).toArray = ls at hl ⊢
  have hl : lv_has ls 3 [(0, .ref (a 0)), (1, .int (c))] := hl
  refine w_named (fun WW hWW => ?_)
  have hP : va_P G vwCl (wm cI cZ a σ) s.heap := hP
  refine lv_iconst (v := nI (0)) hx hb dX6_thawed_0 (by decide) ?_
  refine lv_istore_n (lv' := [(2, .int (nI (0))), (0, .ref (a 0)), (1, .int (c))]) hx hb dX6_thawed_1 rfl hl (by decide) rfl (fun ls hl => ?_)
  refine lv_iload_n hx hb dX6_thawed_2 rfl (lv_at hl 0 rfl) ?_
  refine lv_iconst (v := nI (5)) hx hb dX6_thawed_3 (by decide) ?_
  refine n_icmp_ge (x := 0) (y := 5) (tgt := 26) hx hb (by omega) (by omega) dX6_thawed_4 (by decide) (fun c_1 => absurd c_1 (by omega)) (fun c_1 => ?_)
  refine lv_aload_n hx hb dX6_thawed_7 rfl (lv_at hl 1 rfl) ?_
  refine m_get (v := .ref (a 10)) hx hb hts hin hown hK hP 10 (by decide) rfl (index := 34) (List.mem_of_getElem? (i := 1) rfl) dX6_thawed_8 ?_
  refine lv_iconst (v := nI (5)) hx hb dX6_thawed_11 (by decide) ?_
  refine lv_iload_n hx hb dX6_thawed_12 rfl (lv_at hl 2 rfl) ?_
  refine lv_imul (x := nI (5)) (y := c) hx hb dX6_thawed_13 ?_
  refine lv_iload_n hx hb dX6_thawed_14 rfl (lv_at hl 0 rfl) ?_
  refine lv_iadd (x := (nI (5)) * (c)) (y := nI (0)) hx hb dX6_thawed_15 ?_
  refine m_aldI (j := ((nI (5)) * (c)) + (nI (0))) hx hb hK hP 9 10 rfl (vp_5l hc (vp_in_nI (by decide) (by decide))) dX6_thawed_16 ?_
  refine W.eq (g2 := F0 m 17 ls [.int ((σ.1 10 ((((nI (5)) * (c)) + (nI (0))).toNatClampNeg)))]) rfl ?_
  have J26_5 : ∀ (y_4 : Int32), y_4 = (if (σ.1 10 ((((nI (5)) * (c)) + (nI (0))).toNatClampNeg)) < 0 then nI (0) else (if (σ.1 10 ((((nI (5)) * (c)) + (nI (1))).toNatClampNeg)) < 0 then nI (1) else (if (σ.1 10 ((((nI (5)) * (c)) + (nI (2))).toNatClampNeg)) < 0 then nI (2) else (if (σ.1 10 ((((nI (5)) * (c)) + (nI (3))).toNatClampNeg)) < 0 then nI (3) else (if (σ.1 10 ((((nI (5)) * (c)) + (nI (4))).toNatClampNeg)) < 0 then nI (4) else nI (5)))))) → ∀ (H : Heap) (locs : List Loc), va_P G vwCl (wm cI cZ a σ) H → va_D (mA a) (wm cI cZ a σ) → va_S (mA a) s.heap H locs → ∀ (ls : Array Slot), lv_has ls 3 [(2, .int (y_4)), (0, .ref (a 0)), (1, .int (c))] → WW H locs 0 0 (F0 m 26 ls []) := by
    intro y_4 h_6 H locs hP hD hS ls hl
    refine (hWW _ _ _ _ _).mpr ?_
    have hR_7 : m_thawed σ c = m_thawed_j26 σ c y_4 := (by subst h_6; unfold m_thawed; rfl)
    refine lv_iload_n hx hb dX6_thawed_26 rfl (lv_at hl 0 rfl) ?_
    exact m_iret (v := y_4) hx hb hr hlocks hP hK hD hS dX6_thawed_27 (Eq.trans (by unfold m_thawed_j26; rfl) hR_7.symm) (Eq.refl _)
  refine lv_if_lt (x := (σ.1 10 ((((nI (5)) * (c)) + (nI (0))).toNatClampNeg))) (tgt := 26) hx hb dX6_thawed_17 (by decide) (fun c_2 => ?_) (fun c_2 => ?_)
  · exact (hWW _ _ _ _ _).mp (J26_5 _ (by simp only [if_pos c_2]) _ _ hP hD hS _ (lv_sub hl [0, 1, 2] rfl))
  · refine n_iinc (x := 0) (dN := 1) (k := 0) (lv' := [(2, .int (nI (1))), (0, .ref (a 0)), (1, .int (c))]) hx hb dX6_thawed_20 hl rfl (by decide) rfl (fun ls hl => ?_)
    refine lv_goto (tgt := 2) hx hb dX6_thawed_23 (by decide) ?_
    refine lv_iload_n hx hb dX6_thawed_2 rfl (lv_at hl 0 rfl) ?_
    refine lv_iconst (v := nI (5)) hx hb dX6_thawed_3 (by decide) ?_
    refine n_icmp_ge (x := 1) (y := 5) (tgt := 26) hx hb (by omega) (by omega) dX6_thawed_4 (by decide) (fun c_8 => absurd c_8 (by omega)) (fun c_8 => ?_)
    refine lv_aload_n hx hb dX6_thawed_7 rfl (lv_at hl 1 rfl) ?_
    refine m_get (v := .ref (a 10)) hx hb hts hin hown hK hP 10 (by decide) rfl (index := 34) (List.mem_of_getElem? (i := 1) rfl) dX6_thawed_8 ?_
    refine lv_iconst (v := nI (5)) hx hb dX6_thawed_11 (by decide) ?_
    refine lv_iload_n hx hb dX6_thawed_12 rfl (lv_at hl 2 rfl) ?_
    refine lv_imul (x := nI (5)) (y := c) hx hb dX6_thawed_13 ?_
    refine lv_iload_n hx hb dX6_thawed_14 rfl (lv_at hl 0 rfl) ?_
    refine lv_iadd (x := (nI (5)) * (c)) (y := nI (1)) hx hb dX6_thawed_15 ?_
    refine m_aldI (j := ((nI (5)) * (c)) + (nI (1))) hx hb hK hP 9 10 rfl (vp_5l hc (vp_in_nI (by decide) (by decide))) dX6_thawed_16 ?_
    refine W.eq (g2 := F0 m 17 ls [.int ((σ.1 10 ((((nI (5)) * (c)) + (nI (1))).toNatClampNeg)))]) rfl ?_
    refine lv_if_lt (x := (σ.1 10 ((((nI (5)) * (c)) + (nI (1))).toNatClampNeg))) (tgt := 26) hx hb dX6_thawed_17 (by decide) (fun c_9 => ?_) (fun c_9 => ?_)
    · exact (hWW _ _ _ _ _).mp (J26_5 _ (by simp only [if_neg c_2, if_pos c_9]) _ _ hP hD hS _ (lv_sub hl [0, 1, 2] rfl))
    · refine n_iinc (x := 1) (dN := 1) (k := 0) (lv' := [(2, .int (nI (2))), (0, .ref (a 0)), (1, .int (c))]) hx hb dX6_thawed_20 hl rfl (by decide) rfl (fun ls hl => ?_)
      refine lv_goto (tgt := 2) hx hb dX6_thawed_23 (by decide) ?_
      refine lv_iload_n hx hb dX6_thawed_2 rfl (lv_at hl 0 rfl) ?_
      refine lv_iconst (v := nI (5)) hx hb dX6_thawed_3 (by decide) ?_
      refine n_icmp_ge (x := 2) (y := 5) (tgt := 26) hx hb (by omega) (by omega) dX6_thawed_4 (by decide) (fun c_10 => absurd c_10 (by omega)) (fun c_10 => ?_)
      refine lv_aload_n hx hb dX6_thawed_7 rfl (lv_at hl 1 rfl) ?_
      refine m_get (v := .ref (a 10)) hx hb hts hin hown hK hP 10 (by decide) rfl (index := 34) (List.mem_of_getElem? (i := 1) rfl) dX6_thawed_8 ?_
      refine lv_iconst (v := nI (5)) hx hb dX6_thawed_11 (by decide) ?_
      refine lv_iload_n hx hb dX6_thawed_12 rfl (lv_at hl 2 rfl) ?_
      refine lv_imul (x := nI (5)) (y := c) hx hb dX6_thawed_13 ?_
      refine lv_iload_n hx hb dX6_thawed_14 rfl (lv_at hl 0 rfl) ?_
      refine lv_iadd (x := (nI (5)) * (c)) (y := nI (2)) hx hb dX6_thawed_15 ?_
      refine m_aldI (j := ((nI (5)) * (c)) + (nI (2))) hx hb hK hP 9 10 rfl (vp_5l hc (vp_in_nI (by decide) (by decide))) dX6_thawed_16 ?_
      refine W.eq (g2 := F0 m 17 ls [.int ((σ.1 10 ((((nI (5)) * (c)) + (nI (2))).toNatClampNeg)))]) rfl ?_
      refine lv_if_lt (x := (σ.1 10 ((((nI (5)) * (c)) + (nI (2))).toNatClampNeg))) (tgt := 26) hx hb dX6_thawed_17 (by decide) (fun c_11 => ?_) (fun c_11 => ?_)
      · exact (hWW _ _ _ _ _).mp (J26_5 _ (by simp only [if_neg c_2, if_neg c_9, if_pos c_11]) _ _ hP hD hS _ (lv_sub hl [0, 1, 2] rfl))
      · refine n_iinc (x := 2) (dN := 1) (k := 0) (lv' := [(2, .int (nI (3))), (0, .ref (a 0)), (1, .int (c))]) hx hb dX6_thawed_20 hl rfl (by decide) rfl (fun ls hl => ?_)
        refine lv_goto (tgt := 2) hx hb dX6_thawed_23 (by decide) ?_
        refine lv_iload_n hx hb dX6_thawed_2 rfl (lv_at hl 0 rfl) ?_
        refine lv_iconst (v := nI (5)) hx hb dX6_thawed_3 (by decide) ?_
        refine n_icmp_ge (x := 3) (y := 5) (tgt := 26) hx hb (by omega) (by omega) dX6_thawed_4 (by decide) (fun c_12 => absurd c_12 (by omega)) (fun c_12 => ?_)
        refine lv_aload_n hx hb dX6_thawed_7 rfl (lv_at hl 1 rfl) ?_
        refine m_get (v := .ref (a 10)) hx hb hts hin hown hK hP 10 (by decide) rfl (index := 34) (List.mem_of_getElem? (i := 1) rfl) dX6_thawed_8 ?_
        refine lv_iconst (v := nI (5)) hx hb dX6_thawed_11 (by decide) ?_
        refine lv_iload_n hx hb dX6_thawed_12 rfl (lv_at hl 2 rfl) ?_
        refine lv_imul (x := nI (5)) (y := c) hx hb dX6_thawed_13 ?_
        refine lv_iload_n hx hb dX6_thawed_14 rfl (lv_at hl 0 rfl) ?_
        refine lv_iadd (x := (nI (5)) * (c)) (y := nI (3)) hx hb dX6_thawed_15 ?_
        refine m_aldI (j := ((nI (5)) * (c)) + (nI (3))) hx hb hK hP 9 10 rfl (vp_5l hc (vp_in_nI (by decide) (by decide))) dX6_thawed_16 ?_
        refine W.eq (g2 := F0 m 17 ls [.int ((σ.1 10 ((((nI (5)) * (c)) + (nI (3))).toNatClampNeg)))]) rfl ?_
        refine lv_if_lt (x := (σ.1 10 ((((nI (5)) * (c)) + (nI (3))).toNatClampNeg))) (tgt := 26) hx hb dX6_thawed_17 (by decide) (fun c_13 => ?_) (fun c_13 => ?_)
        · exact (hWW _ _ _ _ _).mp (J26_5 _ (by simp only [if_neg c_2, if_neg c_9, if_neg c_11, if_pos c_13]) _ _ hP hD hS _ (lv_sub hl [0, 1, 2] rfl))
        · refine n_iinc (x := 3) (dN := 1) (k := 0) (lv' := [(2, .int (nI (4))), (0, .ref (a 0)), (1, .int (c))]) hx hb dX6_thawed_20 hl rfl (by decide) rfl (fun ls hl => ?_)
          refine lv_goto (tgt := 2) hx hb dX6_thawed_23 (by decide) ?_
          refine lv_iload_n hx hb dX6_thawed_2 rfl (lv_at hl 0 rfl) ?_
          refine lv_iconst (v := nI (5)) hx hb dX6_thawed_3 (by decide) ?_
          refine n_icmp_ge (x := 4) (y := 5) (tgt := 26) hx hb (by omega) (by omega) dX6_thawed_4 (by decide) (fun c_14 => absurd c_14 (by omega)) (fun c_14 => ?_)
          refine lv_aload_n hx hb dX6_thawed_7 rfl (lv_at hl 1 rfl) ?_
          refine m_get (v := .ref (a 10)) hx hb hts hin hown hK hP 10 (by decide) rfl (index := 34) (List.mem_of_getElem? (i := 1) rfl) dX6_thawed_8 ?_
          refine lv_iconst (v := nI (5)) hx hb dX6_thawed_11 (by decide) ?_
          refine lv_iload_n hx hb dX6_thawed_12 rfl (lv_at hl 2 rfl) ?_
          refine lv_imul (x := nI (5)) (y := c) hx hb dX6_thawed_13 ?_
          refine lv_iload_n hx hb dX6_thawed_14 rfl (lv_at hl 0 rfl) ?_
          refine lv_iadd (x := (nI (5)) * (c)) (y := nI (4)) hx hb dX6_thawed_15 ?_
          refine m_aldI (j := ((nI (5)) * (c)) + (nI (4))) hx hb hK hP 9 10 rfl (vp_5l hc (vp_in_nI (by decide) (by decide))) dX6_thawed_16 ?_
          refine W.eq (g2 := F0 m 17 ls [.int ((σ.1 10 ((((nI (5)) * (c)) + (nI (4))).toNatClampNeg)))]) rfl ?_
          refine lv_if_lt (x := (σ.1 10 ((((nI (5)) * (c)) + (nI (4))).toNatClampNeg))) (tgt := 26) hx hb dX6_thawed_17 (by decide) (fun c_15 => ?_) (fun c_15 => ?_)
          · exact (hWW _ _ _ _ _).mp (J26_5 _ (by simp only [if_neg c_2, if_neg c_9, if_neg c_11, if_neg c_13, if_pos c_15]) _ _ hP hD hS _ (lv_sub hl [0, 1, 2] rfl))
          · refine n_iinc (x := 4) (dN := 1) (k := 0) (lv' := [(2, .int (nI (5))), (0, .ref (a 0)), (1, .int (c))]) hx hb dX6_thawed_20 hl rfl (by decide) rfl (fun ls hl => ?_)
            refine lv_goto (tgt := 2) hx hb dX6_thawed_23 (by decide) ?_
            refine lv_iload_n hx hb dX6_thawed_2 rfl (lv_at hl 0 rfl) ?_
            refine lv_iconst (v := nI (5)) hx hb dX6_thawed_3 (by decide) ?_
            refine n_icmp_ge (x := 5) (y := 5) (tgt := 26) hx hb (by omega) (by omega) dX6_thawed_4 (by decide) (fun c_16 => ?_) (fun c_16 => absurd c_16 (by omega))
            exact (hWW _ _ _ _ _).mp (J26_5 _ (by simp only [if_neg c_2, if_neg c_9, if_neg c_11, if_neg c_13, if_neg c_15]) _ _ hP hD hS _ (lv_sub hl [0, 1, 2] rfl))

def m_cellOf_j134 (σ : Sg) (cell : Int32) (what : Int32) (x_3 : Int32) (x_12 : Int32) (τ_13 : Sg) : Int32 := x_12
def m_cellOf_j134_s (σ : Sg) (cell : Int32) (what : Int32) (x_3 : Int32) (x_12 : Int32) (τ_13 : Sg) : Sg := τ_13
def m_cellOf_j87 (σ : Sg) (cell : Int32) (what : Int32) (x_3 : Int32) (x_23 : Int32) : Int32 := x_23
def m_cellOf_j87_s (σ : Sg) (cell : Int32) (what : Int32) (x_3 : Int32) (x_23 : Int32) : Sg := (m_refused_s σ x_3)
def m_cellOf_j27 (σ : Sg) (cell : Int32) (what : Int32) (x_3 : Int32) : Int32 := (if (m_refused σ x_3) = 0 then (if nI (4) ≤ what then (m_cellOf_j134 σ cell what x_3 (if what = nI (4) then ((m_refused_s σ x_3).1 6 ((cell).toNatClampNeg)) else (if what = nI (5) then (m_houseIn (m_refused_s σ x_3) cell) else (if what = nI (6) then (m_lakeOf (m_refused_s σ x_3) cell) else (m_thawed (m_refused_s σ x_3) cell)))) (if what = nI (4) then (m_refused_s σ x_3) else (if what = nI (5) then (m_refused_s σ x_3) else (if what = nI (6) then (m_lakeOf_s (m_refused_s σ x_3) cell) else (m_refused_s σ x_3))))) else (m_cellOf_j87 σ cell what x_3 (if what = 0 then ((m_refused_s σ x_3).1 2 ((cell).toNatClampNeg)) else (if what = nI (1) then ((m_refused_s σ x_3).1 3 ((cell).toNatClampNeg)) else (if what = nI (2) then ((m_refused_s σ x_3).1 4 ((cell).toNatClampNeg)) else ((m_refused_s σ x_3).1 5 ((cell).toNatClampNeg))))))) else nI (0))
def m_cellOf_j27_s (σ : Sg) (cell : Int32) (what : Int32) (x_3 : Int32) : Sg := (if (m_refused σ x_3) = 0 then (if nI (4) ≤ what then (m_cellOf_j134_s σ cell what x_3 (if what = nI (4) then ((m_refused_s σ x_3).1 6 ((cell).toNatClampNeg)) else (if what = nI (5) then (m_houseIn (m_refused_s σ x_3) cell) else (if what = nI (6) then (m_lakeOf (m_refused_s σ x_3) cell) else (m_thawed (m_refused_s σ x_3) cell)))) (if what = nI (4) then (m_refused_s σ x_3) else (if what = nI (5) then (m_refused_s σ x_3) else (if what = nI (6) then (m_lakeOf_s (m_refused_s σ x_3) cell) else (m_refused_s σ x_3))))) else (m_cellOf_j87_s σ cell what x_3 (if what = 0 then ((m_refused_s σ x_3).1 2 ((cell).toNatClampNeg)) else (if what = nI (1) then ((m_refused_s σ x_3).1 3 ((cell).toNatClampNeg)) else (if what = nI (2) then ((m_refused_s σ x_3).1 4 ((cell).toNatClampNeg)) else ((m_refused_s σ x_3).1 5 ((cell).toNatClampNeg))))))) else (m_refused_s σ x_3))
def m_cellOf (σ : Sg) (cell : Int32) (what : Int32) : Int32 := (m_cellOf_j27 σ cell what (if (m_isCell cell) = 0 then nI (1) else (if (m_within what (nI (0)) (nI (7))) = 0 then nI (2) else nI (0))))
def m_cellOf_s (σ : Sg) (cell : Int32) (what : Int32) : Sg := (m_cellOf_j27_s σ cell what (if (m_isCell cell) = 0 then nI (1) else (if (m_within what (nI (0)) (nI (7))) = 0 then nI (2) else nI (0))))
set_option maxHeartbeats 4000000 in
set_option maxRecDepth 100000 in
theorem cm_cellOf (l : Launch) (G : va_G) (cI cZ : ClassId) (a : Nat → Nat) (σ : Sg) (cell : Int32) (what : Int32) (hO : mOK σ) : mI l yX6_cellOf wsX6_cellOf ({ frames := 3, cells := 0, slots := 0, locals := 68 } : Room) G cI cZ a σ [.int (cell), .int (what)] (m_cellOf σ cell what) (m_cellOf_s σ cell what) := by
  unfold mI
  refine Met.ofW (cc := cX6_cellOf) (maxL := 3) (ret := (some .int)) (by decide) rfl ?_
  intro p e s m args below meth c s₁ B hml hv
  obtain ⟨rfl, hP, hK, hD⟩ := hv
  have hx := B.exec
  have hb := B.bytes
  have hr := B.returns
  have hts := atoms_spec (ws := wsX6_cellOf) B.pre
  have hown : s.vm.findClass RX6 = some m.cls := findClass_of_methodNamed B.named
  have hlocks := B.notSynchronized
  have hS : va_S (mA a) s.heap s.heap [] := va_S.rf
  have hin : ∀ w ∈ wsX60, w ∈ wsX6_cellOf := fun w h => List.mem_cons_of_mem _ (List.mem_append_right _ h)
  have hl := lv_entry ([.ref (a 0), .int (cell), .int (what)]) (n := 3) (Nat.le_of_ble_eq_true rfl)
  rw [lg_entry_eq]
  generalize (lg_sl ([.ref (a 0), .int (cell), .int (what)]) ++ List.replicate (3 - (lg_sl ([.ref (a 0), .int (cell), .int (what)])).length) Slot.unset).toArray = ls at hl ⊢
  have hl : lv_has ls 3 [(0, .ref (a 0)), (1, .int (cell)), (2, .int (what))] := hl
  refine w_named (fun WW hWW => ?_)
  have hP : va_P G vwCl (wm cI cZ a σ) s.heap := hP
  refine lv_aload_n hx hb dX6_cellOf_0 rfl (lv_at hl 0 rfl) ?_
  refine lv_iload_n hx hb dX6_cellOf_1 rfl (lv_at hl 1 rfl) ?_
  refine m_callS (As := [.int (cell)]) (rest := [.ref (a 0)]) ⟨hx, hb, hml, hown, hts⟩ (cm_isCell l cell ) (va_cwS 1 hts gX6_cellOf_X6_isCell rfl rfl rfl (by decide +kernel) ⟨Nat.le_of_ble_eq_true rfl, Nat.le_of_ble_eq_true rfl⟩) hP hS rfl hl.1 rfl (Nat.le_of_ble_eq_true rfl) dX6_cellOf_2 ⟨Nat.zero_le _, Nat.zero_le _⟩ (fun H locs hP hS => ?_)
  have J27_4 : ∀ (x_3 : Int32), x_3 = (if (m_isCell cell) = 0 then nI (1) else (if (m_within what (nI (0)) (nI (7))) = 0 then nI (2) else nI (0))) → ∀ (H : Heap) (locs : List Loc), va_P G vwCl (wm cI cZ a σ) H → va_D (mA a) (wm cI cZ a σ) → va_S (mA a) s.heap H locs → ∀ (ls : Array Slot), lv_has ls 3 [(0, .ref (a 0)), (1, .int (cell)), (2, .int (what))] → WW H locs 0 0 (F0 m 27 ls [.int (x_3), .ref (a 0)]) := by
    intro x_3 h_5 H locs hP hD hS ls hl
    refine (hWW _ _ _ _ _).mpr ?_
    have hR_6 : m_cellOf σ cell what = m_cellOf_j27 σ cell what x_3 := (by subst h_5; unfold m_cellOf; rfl)
    have hR_7 : m_cellOf_s σ cell what = m_cellOf_j27_s σ cell what x_3 := (by subst h_5; unfold m_cellOf_s; rfl)
    refine m_callI (As := [.int (x_3)]) (rest := []) (fun _ h => h) ⟨hx, hb, hml, hown, hts⟩ (cm_refused l G cI cZ a σ  x_3 ) (cwV 1 hts gX6_cellOf_X6_refused rfl rfl rfl (by decide +kernel) ⟨Nat.le_of_ble_eq_true rfl, Nat.le_of_ble_eq_true rfl⟩) hK hP hD hS rfl hl.1 rfl (Nat.le_of_ble_eq_true rfl) dX6_cellOf_27 ⟨Nat.zero_le _, Nat.zero_le _⟩ (fun H locs hP hD _ _ hS => ?_)
    refine lv_if_eq (x := (m_refused σ x_3)) (tgt := 35) hx hb dX6_cellOf_30 (by decide) (fun c_8 => ?_) (fun c_8 => ?_)
    · have hq := w_isCell (ck_tri h_5 (m_refused_0 c_8)).1
      refine lv_iload_n hx hb dX6_cellOf_35 rfl (lv_at hl 2 rfl) ?_
      refine lv_iconst (v := nI (4)) hx hb dX6_cellOf_36 (by decide) ?_
      refine lv_icmp_ge (x := what) (y := nI (4)) (tgt := 88) hx hb dX6_cellOf_37 (by decide) (fun c_9 => ?_) (fun c_9 => ?_)
      · refine lv_iload_n hx hb dX6_cellOf_88 rfl (lv_at hl 2 rfl) ?_
        refine lv_iconst (v := nI (4)) hx hb dX6_cellOf_89 (by decide) ?_
        have J134_14 : ∀ (x_12 : Int32), x_12 = (if what = nI (4) then ((m_refused_s σ x_3).1 6 ((cell).toNatClampNeg)) else (if what = nI (5) then (m_houseIn (m_refused_s σ x_3) cell) else (if what = nI (6) then (m_lakeOf (m_refused_s σ x_3) cell) else (m_thawed (m_refused_s σ x_3) cell)))) → ∀ (τ_13 : Sg), τ_13 = (if what = nI (4) then (m_refused_s σ x_3) else (if what = nI (5) then (m_refused_s σ x_3) else (if what = nI (6) then (m_lakeOf_s (m_refused_s σ x_3) cell) else (m_refused_s σ x_3)))) → ∀ (H : Heap) (locs : List Loc), va_P G vwCl (wm cI cZ a τ_13) H → va_D (mA a) (wm cI cZ a τ_13) → va_S (mA a) s.heap H locs → ∀ (ls : Array Slot), lv_has ls 3 [(0, .ref (a 0)), (1, .int (cell)), (2, .int (what))] → WW H locs 0 0 (F0 m 134 ls [.int (x_12)]) := by
          intro x_12 h_15 τ_13 h_16 H locs hP hD hS ls hl
          refine (hWW _ _ _ _ _).mpr ?_
          have hR_17 : m_cellOf σ cell what = m_cellOf_j134 σ cell what x_3 x_12 τ_13 := (Eq.trans hR_6 (by subst h_16; subst h_15; unfold m_cellOf_j27; simp only [if_pos c_8, if_pos c_9]))
          have hR_18 : m_cellOf_s σ cell what = m_cellOf_j134_s σ cell what x_3 x_12 τ_13 := (Eq.trans hR_7 (by subst h_16; subst h_15; unfold m_cellOf_j27_s; simp only [if_pos c_8, if_pos c_9]))
          exact m_iret (v := x_12) hx hb hr hlocks hP hK hD hS dX6_cellOf_134 (Eq.trans (by unfold m_cellOf_j134; rfl) hR_17.symm) (Eq.trans (by unfold m_cellOf_j134_s; rfl) hR_18.symm)
        refine lv_icmp_ne (x := what) (y := nI (4)) (tgt := 102) hx hb dX6_cellOf_90 (by decide) (fun c_10 => ?_) (fun c_10 => ?_)
        · refine lv_iload_n hx hb dX6_cellOf_102 rfl (lv_at hl 2 rfl) ?_
          refine lv_iconst (v := nI (5)) hx hb dX6_cellOf_103 (by decide) ?_
          refine lv_icmp_ne (x := what) (y := nI (5)) (tgt := 115) hx hb dX6_cellOf_104 (by decide) (fun c_19 => ?_) (fun c_19 => ?_)
          · refine lv_iload_n hx hb dX6_cellOf_115 rfl (lv_at hl 2 rfl) ?_
            refine lv_bipush (v := nI (6)) hx hb dX6_cellOf_116 (by decide) ?_
            refine lv_icmp_ne (x := what) (y := nI (6)) (tgt := 129) hx hb dX6_cellOf_118 (by decide) (fun c_20 => ?_) (fun c_20 => ?_)
            · refine lv_aload_n hx hb dX6_cellOf_129 rfl (lv_at hl 0 rfl) ?_
              refine lv_iload_n hx hb dX6_cellOf_130 rfl (lv_at hl 1 rfl) ?_
              refine m_callI (As := [.int (cell)]) (rest := []) (fun _ h => h) ⟨hx, hb, hml, hown, hts⟩ (cm_thawed l G cI cZ a (m_refused_s σ x_3)  cell (hq)) (cwV 1 hts gX6_cellOf_X6_thawed rfl rfl rfl (by decide +kernel) ⟨Nat.le_of_ble_eq_true rfl, Nat.le_of_ble_eq_true rfl⟩) hK hP hD hS rfl hl.1 rfl (Nat.le_of_ble_eq_true rfl) dX6_cellOf_131 ⟨Nat.zero_le _, Nat.zero_le _⟩ (fun H locs hP hD _ _ hS => ?_)
              exact (hWW _ _ _ _ _).mp (J134_14 _ (by simp only [if_neg c_10, if_neg c_19, if_neg c_20]) _ (by simp only [if_neg c_10, if_neg c_19, if_neg c_20]) _ _ hP hD hS _ (lv_sub hl [0, 1, 2] rfl))
            · refine lv_aload_n hx hb dX6_cellOf_121 rfl (lv_at hl 0 rfl) ?_
              refine lv_iload_n hx hb dX6_cellOf_122 rfl (lv_at hl 1 rfl) ?_
              refine m_callI (As := [.int (cell)]) (rest := []) (fun _ h => h) ⟨hx, hb, hml, hown, hts⟩ (cm_lakeOf l G cI cZ a (m_refused_s σ x_3)  cell (hq)) (cwV 1 hts gX6_cellOf_X6_lakeOf rfl rfl rfl (by decide +kernel) ⟨Nat.le_of_ble_eq_true rfl, Nat.le_of_ble_eq_true rfl⟩) hK hP hD hS rfl hl.1 rfl (Nat.le_of_ble_eq_true rfl) dX6_cellOf_123 ⟨Nat.zero_le _, Nat.zero_le _⟩ (fun H locs hP hD _ _ hS => ?_)
              refine lv_goto (tgt := 134) hx hb dX6_cellOf_126 (by decide) ?_
              exact (hWW _ _ _ _ _).mp (J134_14 _ (by simp only [if_neg c_10, if_neg c_19, if_pos c_20]) _ (by simp only [if_neg c_10, if_neg c_19, if_pos c_20]) _ _ hP hD hS _ (lv_sub hl [0, 1, 2] rfl))
          · refine lv_aload_n hx hb dX6_cellOf_107 rfl (lv_at hl 0 rfl) ?_
            refine lv_iload_n hx hb dX6_cellOf_108 rfl (lv_at hl 1 rfl) ?_
            refine m_callI (As := [.int (cell)]) (rest := []) (fun _ h => h) ⟨hx, hb, hml, hown, hts⟩ (cm_houseIn l G cI cZ a (m_refused_s σ x_3)  cell hO) (cwV 1 hts gX6_cellOf_X6_houseIn rfl rfl rfl (by decide +kernel) ⟨Nat.le_of_ble_eq_true rfl, Nat.le_of_ble_eq_true rfl⟩) hK hP hD hS rfl hl.1 rfl (Nat.le_of_ble_eq_true rfl) dX6_cellOf_109 ⟨Nat.zero_le _, Nat.zero_le _⟩ (fun H locs hP hD _ _ hS => ?_)
            refine lv_goto (tgt := 134) hx hb dX6_cellOf_112 (by decide) ?_
            exact (hWW _ _ _ _ _).mp (J134_14 _ (by simp only [if_neg c_10, if_pos c_19]) _ (by simp only [if_neg c_10, if_pos c_19]) _ _ hP hD hS _ (lv_sub hl [0, 1, 2] rfl))
        · refine lv_aload_n hx hb dX6_cellOf_93 rfl (lv_at hl 0 rfl) ?_
          refine m_get (v := .ref (a 6)) hx hb hts hin hown hK hP 6 (by decide) rfl (index := 22) (List.mem_of_getElem? (i := 5) rfl) dX6_cellOf_94 ?_
          refine lv_iload_n hx hb dX6_cellOf_97 rfl (lv_at hl 1 rfl) ?_
          refine m_aldI (j := cell) hx hb hK hP 5 6 rfl (hq) dX6_cellOf_98 ?_
          refine W.eq (g2 := F0 m 99 ls [.int (((m_refused_s σ x_3).1 6 ((cell).toNatClampNeg)))]) rfl ?_
          refine lv_goto (tgt := 134) hx hb dX6_cellOf_99 (by decide) ?_
          exact (hWW _ _ _ _ _).mp (J134_14 _ (by simp only [if_pos c_10]) _ (by simp only [if_pos c_10]) _ _ hP hD hS _ (lv_sub hl [0, 1, 2] rfl))
      · refine lv_iload_n hx hb dX6_cellOf_40 rfl (lv_at hl 2 rfl) ?_
        have J87_24 : ∀ (x_23 : Int32), x_23 = (if what = 0 then ((m_refused_s σ x_3).1 2 ((cell).toNatClampNeg)) else (if what = nI (1) then ((m_refused_s σ x_3).1 3 ((cell).toNatClampNeg)) else (if what = nI (2) then ((m_refused_s σ x_3).1 4 ((cell).toNatClampNeg)) else ((m_refused_s σ x_3).1 5 ((cell).toNatClampNeg))))) → ∀ (H : Heap) (locs : List Loc), va_P G vwCl (wm cI cZ a (m_refused_s σ x_3)) H → va_D (mA a) (wm cI cZ a (m_refused_s σ x_3)) → va_S (mA a) s.heap H locs → ∀ (ls : Array Slot), lv_has ls 3 [(0, .ref (a 0)), (1, .int (cell)), (2, .int (what))] → WW H locs 0 0 (F0 m 87 ls [.int (x_23)]) := by
          intro x_23 h_25 H locs hP hD hS ls hl
          refine (hWW _ _ _ _ _).mpr ?_
          have hR_26 : m_cellOf σ cell what = m_cellOf_j87 σ cell what x_3 x_23 := (Eq.trans hR_6 (by subst h_25; unfold m_cellOf_j27; simp only [if_pos c_8, if_neg c_9]))
          have hR_27 : m_cellOf_s σ cell what = m_cellOf_j87_s σ cell what x_3 x_23 := (Eq.trans hR_7 (by subst h_25; unfold m_cellOf_j27_s; simp only [if_pos c_8, if_neg c_9]))
          exact m_iret (v := x_23) hx hb hr hlocks hP hK hD hS dX6_cellOf_87 (Eq.trans (by unfold m_cellOf_j87; rfl) hR_26.symm) (Eq.trans (by unfold m_cellOf_j87_s; rfl) hR_27.symm)
        refine lv_if_ne (x := what) (tgt := 53) hx hb dX6_cellOf_41 (by decide) (fun c_21 => ?_) (fun c_21 => ?_)
        · refine lv_iload_n hx hb dX6_cellOf_53 rfl (lv_at hl 2 rfl) ?_
          refine lv_iconst (v := nI (1)) hx hb dX6_cellOf_54 (by decide) ?_
          refine lv_icmp_ne (x := what) (y := nI (1)) (tgt := 67) hx hb dX6_cellOf_55 (by decide) (fun c_28 => ?_) (fun c_28 => ?_)
          · refine lv_iload_n hx hb dX6_cellOf_67 rfl (lv_at hl 2 rfl) ?_
            refine lv_iconst (v := nI (2)) hx hb dX6_cellOf_68 (by decide) ?_
            refine lv_icmp_ne (x := what) (y := nI (2)) (tgt := 81) hx hb dX6_cellOf_69 (by decide) (fun c_29 => ?_) (fun c_29 => ?_)
            · refine lv_aload_n hx hb dX6_cellOf_81 rfl (lv_at hl 0 rfl) ?_
              refine m_get (v := .ref (a 5)) hx hb hts hin hown hK hP 5 (by decide) rfl (index := 19) (List.mem_of_getElem? (i := 4) rfl) dX6_cellOf_82 ?_
              refine lv_iload_n hx hb dX6_cellOf_85 rfl (lv_at hl 1 rfl) ?_
              refine m_aldI (j := cell) hx hb hK hP 4 5 rfl (hq) dX6_cellOf_86 ?_
              refine W.eq (g2 := F0 m 87 ls [.int (((m_refused_s σ x_3).1 5 ((cell).toNatClampNeg)))]) rfl ?_
              exact (hWW _ _ _ _ _).mp (J87_24 _ (by simp only [if_neg c_21, if_neg c_28, if_neg c_29]) _ _ hP hD hS _ (lv_sub hl [0, 1, 2] rfl))
            · refine lv_aload_n hx hb dX6_cellOf_72 rfl (lv_at hl 0 rfl) ?_
              refine m_get (v := .ref (a 4)) hx hb hts hin hown hK hP 4 (by decide) rfl (index := 16) (List.mem_of_getElem? (i := 3) rfl) dX6_cellOf_73 ?_
              refine lv_iload_n hx hb dX6_cellOf_76 rfl (lv_at hl 1 rfl) ?_
              refine m_aldI (j := cell) hx hb hK hP 3 4 rfl (hq) dX6_cellOf_77 ?_
              refine W.eq (g2 := F0 m 78 ls [.int (((m_refused_s σ x_3).1 4 ((cell).toNatClampNeg)))]) rfl ?_
              refine lv_goto (tgt := 87) hx hb dX6_cellOf_78 (by decide) ?_
              exact (hWW _ _ _ _ _).mp (J87_24 _ (by simp only [if_neg c_21, if_neg c_28, if_pos c_29]) _ _ hP hD hS _ (lv_sub hl [0, 1, 2] rfl))
          · refine lv_aload_n hx hb dX6_cellOf_58 rfl (lv_at hl 0 rfl) ?_
            refine m_get (v := .ref (a 3)) hx hb hts hin hown hK hP 3 (by decide) rfl (index := 13) (List.mem_of_getElem? (i := 2) rfl) dX6_cellOf_59 ?_
            refine lv_iload_n hx hb dX6_cellOf_62 rfl (lv_at hl 1 rfl) ?_
            refine m_aldI (j := cell) hx hb hK hP 2 3 rfl (hq) dX6_cellOf_63 ?_
            refine W.eq (g2 := F0 m 64 ls [.int (((m_refused_s σ x_3).1 3 ((cell).toNatClampNeg)))]) rfl ?_
            refine lv_goto (tgt := 87) hx hb dX6_cellOf_64 (by decide) ?_
            exact (hWW _ _ _ _ _).mp (J87_24 _ (by simp only [if_neg c_21, if_pos c_28]) _ _ hP hD hS _ (lv_sub hl [0, 1, 2] rfl))
        · refine lv_aload_n hx hb dX6_cellOf_44 rfl (lv_at hl 0 rfl) ?_
          refine m_get (v := .ref (a 2)) hx hb hts hin hown hK hP 2 (by decide) rfl (index := 7) (List.mem_of_getElem? (i := 1) rfl) dX6_cellOf_45 ?_
          refine lv_iload_n hx hb dX6_cellOf_48 rfl (lv_at hl 1 rfl) ?_
          refine m_aldI (j := cell) hx hb hK hP 1 2 rfl (hq) dX6_cellOf_49 ?_
          refine W.eq (g2 := F0 m 50 ls [.int (((m_refused_s σ x_3).1 2 ((cell).toNatClampNeg)))]) rfl ?_
          refine lv_goto (tgt := 87) hx hb dX6_cellOf_50 (by decide) ?_
          exact (hWW _ _ _ _ _).mp (J87_24 _ (by simp only [if_pos c_21]) _ _ hP hD hS _ (lv_sub hl [0, 1, 2] rfl))
    · refine lv_iconst (v := nI (0)) hx hb dX6_cellOf_33 (by decide) ?_
      exact m_iret (v := nI (0)) hx hb hr hlocks hP hK hD hS dX6_cellOf_34 (Eq.trans (by unfold m_cellOf_j27; simp only [if_neg c_8]) hR_6.symm) (Eq.trans (by unfold m_cellOf_j27_s; simp only [if_neg c_8]) hR_7.symm)
  refine lv_if_ne (x := (m_isCell cell)) (tgt := 12) hx hb dX6_cellOf_5 (by decide) (fun c_1 => ?_) (fun c_1 => ?_)
  · refine lv_iload_n hx hb dX6_cellOf_12 rfl (lv_at hl 2 rfl) ?_
    refine lv_iconst (v := nI (0)) hx hb dX6_cellOf_13 (by decide) ?_
    refine lv_bipush (v := nI (7)) hx hb dX6_cellOf_14 (by decide) ?_
    refine m_callS (As := [.int (what), .int (nI (0)), .int (nI (7))]) (rest := [.ref (a 0)]) ⟨hx, hb, hml, hown, hts⟩ (cm_within l what (nI (0)) (nI (7)) ) (va_cwS 3 hts gX6_cellOf_X6_within rfl rfl rfl (by decide +kernel) ⟨Nat.le_of_ble_eq_true rfl, Nat.le_of_ble_eq_true rfl⟩) hP hS rfl hl.1 rfl (Nat.le_of_ble_eq_true rfl) dX6_cellOf_16 ⟨Nat.zero_le _, Nat.zero_le _⟩ (fun H locs hP hS => ?_)
    refine lv_if_ne (x := (m_within what (nI (0)) (nI (7)))) (tgt := 26) hx hb dX6_cellOf_19 (by decide) (fun c_30 => ?_) (fun c_30 => ?_)
    · refine lv_iconst (v := nI (0)) hx hb dX6_cellOf_26 (by decide) ?_
      exact (hWW _ _ _ _ _).mp (J27_4 _ (by simp only [if_neg c_1, if_neg c_30]) _ _ hP hD hS _ (lv_sub hl [0, 1, 2] rfl))
    · refine lv_iconst (v := nI (2)) hx hb dX6_cellOf_22 (by decide) ?_
      refine lv_goto (tgt := 27) hx hb dX6_cellOf_23 (by decide) ?_
      exact (hWW _ _ _ _ _).mp (J27_4 _ (by simp only [if_neg c_1, if_pos c_30]) _ _ hP hD hS _ (lv_sub hl [0, 1, 2] rfl))
  · refine lv_iconst (v := nI (1)) hx hb dX6_cellOf_8 (by decide) ?_
    refine lv_goto (tgt := 27) hx hb dX6_cellOf_9 (by decide) ?_
    exact (hWW _ _ _ _ _).mp (J27_4 _ (by simp only [if_pos c_1]) _ _ hP hD hS _ (lv_sub hl [0, 1, 2] rfl))

def m_layerOf_j139 (σ : Sg) (cell : Int32) (layer : Int32) (what : Int32) (x_3 : Int32) (x_10 : Int32) (x_19 : Int32) : Int32 := x_19
def m_layerOf_j139_s (σ : Sg) (cell : Int32) (layer : Int32) (what : Int32) (x_3 : Int32) (x_10 : Int32) (x_19 : Int32) : Sg := (m_refused_s σ x_10)
def m_layerOf_j102 (σ : Sg) (cell : Int32) (layer : Int32) (what : Int32) (x_3 : Int32) (x_10 : Int32) (x_27 : Int32) : Int32 := x_27
def m_layerOf_j102_s (σ : Sg) (cell : Int32) (layer : Int32) (what : Int32) (x_3 : Int32) (x_10 : Int32) (x_27 : Int32) : Sg := (m_refused_s σ x_10)
def m_layerOf_j47 (σ : Sg) (cell : Int32) (layer : Int32) (what : Int32) (x_3 : Int32) (x_10 : Int32) : Int32 := (if (m_refused σ x_10) = 0 then (if nI (3) ≤ what then (m_layerOf_j139 σ cell layer what x_3 x_10 (if what = nI (3) then ((m_refused_s σ x_10).1 9 ((((nI (5)) * (cell)) + (layer)).toNatClampNeg)) else (if what = nI (4) then ((m_refused_s σ x_10).1 11 ((((nI (5)) * (cell)) + (layer)).toNatClampNeg)) else (m_melted (m_refused_s σ x_10) (((nI (5)) * (cell)) + (layer)))))) else (m_layerOf_j102 σ cell layer what x_3 x_10 (if what = 0 then (m_degreesOf (m_refused_s σ x_10) (((nI (5)) * (cell)) + (layer))) else (if what = nI (1) then ((m_refused_s σ x_10).1 10 ((((nI (5)) * (cell)) + (layer)).toNatClampNeg)) else ((m_refused_s σ x_10).1 8 ((((nI (5)) * (cell)) + (layer)).toNatClampNeg)))))) else nI (0))
def m_layerOf_j47_s (σ : Sg) (cell : Int32) (layer : Int32) (what : Int32) (x_3 : Int32) (x_10 : Int32) : Sg := (if (m_refused σ x_10) = 0 then (if nI (3) ≤ what then (m_layerOf_j139_s σ cell layer what x_3 x_10 (if what = nI (3) then ((m_refused_s σ x_10).1 9 ((((nI (5)) * (cell)) + (layer)).toNatClampNeg)) else (if what = nI (4) then ((m_refused_s σ x_10).1 11 ((((nI (5)) * (cell)) + (layer)).toNatClampNeg)) else (m_melted (m_refused_s σ x_10) (((nI (5)) * (cell)) + (layer)))))) else (m_layerOf_j102_s σ cell layer what x_3 x_10 (if what = 0 then (m_degreesOf (m_refused_s σ x_10) (((nI (5)) * (cell)) + (layer))) else (if what = nI (1) then ((m_refused_s σ x_10).1 10 ((((nI (5)) * (cell)) + (layer)).toNatClampNeg)) else ((m_refused_s σ x_10).1 8 ((((nI (5)) * (cell)) + (layer)).toNatClampNeg)))))) else (m_refused_s σ x_10))
def m_layerOf_j21 (σ : Sg) (cell : Int32) (layer : Int32) (what : Int32) (x_3 : Int32) : Int32 := (m_layerOf_j47 σ cell layer what x_3 (if x_3 = 0 then nI (1) else (if (m_within what (nI (0)) (nI (5))) = 0 then nI (2) else nI (0))))
def m_layerOf_j21_s (σ : Sg) (cell : Int32) (layer : Int32) (what : Int32) (x_3 : Int32) : Sg := (m_layerOf_j47_s σ cell layer what x_3 (if x_3 = 0 then nI (1) else (if (m_within what (nI (0)) (nI (5))) = 0 then nI (2) else nI (0))))
def m_layerOf (σ : Sg) (cell : Int32) (layer : Int32) (what : Int32) : Int32 := (m_layerOf_j21 σ cell layer what (if (m_isCell cell) = 0 then nI (0) else (if (m_within layer (nI (0)) (nI (4))) = 0 then nI (0) else nI (1))))
def m_layerOf_s (σ : Sg) (cell : Int32) (layer : Int32) (what : Int32) : Sg := (m_layerOf_j21_s σ cell layer what (if (m_isCell cell) = 0 then nI (0) else (if (m_within layer (nI (0)) (nI (4))) = 0 then nI (0) else nI (1))))
set_option maxHeartbeats 4000000 in
set_option maxRecDepth 100000 in
theorem cm_layerOf (l : Launch) (G : va_G) (cI cZ : ClassId) (a : Nat → Nat) (σ : Sg) (cell : Int32) (layer : Int32) (what : Int32) : mI l yX6_layerOf wsX6_layerOf ({ frames := 2, cells := 0, slots := 0, locals := 42 } : Room) G cI cZ a σ [.int (cell), .int (layer), .int (what)] (m_layerOf σ cell layer what) (m_layerOf_s σ cell layer what) := by
  unfold mI
  refine Met.ofW (cc := cX6_layerOf) (maxL := 6) (ret := (some .int)) (by decide) rfl ?_
  intro p e s m args below meth c s₁ B hml hv
  obtain ⟨rfl, hP, hK, hD⟩ := hv
  have hx := B.exec
  have hb := B.bytes
  have hr := B.returns
  have hts := atoms_spec (ws := wsX6_layerOf) B.pre
  have hown : s.vm.findClass RX6 = some m.cls := findClass_of_methodNamed B.named
  have hlocks := B.notSynchronized
  have hS : va_S (mA a) s.heap s.heap [] := va_S.rf
  have hin : ∀ w ∈ wsX60, w ∈ wsX6_layerOf := fun w h => List.mem_cons_of_mem _ (List.mem_append_right _ h)
  have hl := lv_entry ([.ref (a 0), .int (cell), .int (layer), .int (what)]) (n := 6) (Nat.le_of_ble_eq_true rfl)
  rw [lg_entry_eq]
  generalize (lg_sl ([.ref (a 0), .int (cell), .int (layer), .int (what)]) ++ List.replicate (6 - (lg_sl ([.ref (a 0), .int (cell), .int (layer), .int (what)])).length) Slot.unset).toArray = ls at hl ⊢
  have hl : lv_has ls 6 [(0, .ref (a 0)), (1, .int (cell)), (2, .int (layer)), (3, .int (what))] := hl
  refine w_named (fun WW hWW => ?_)
  have hP : va_P G vwCl (wm cI cZ a σ) s.heap := hP
  refine lv_iload_n hx hb dX6_layerOf_0 rfl (lv_at hl 1 rfl) ?_
  refine m_callS (As := [.int (cell)]) (rest := []) ⟨hx, hb, hml, hown, hts⟩ (cm_isCell l cell ) (va_cwS 1 hts gX6_layerOf_X6_isCell rfl rfl rfl (by decide +kernel) ⟨Nat.le_of_ble_eq_true rfl, Nat.le_of_ble_eq_true rfl⟩) hP hS rfl hl.1 rfl (Nat.le_of_ble_eq_true rfl) dX6_layerOf_1 ⟨Nat.zero_le _, Nat.zero_le _⟩ (fun H locs hP hS => ?_)
  have J21_4 : ∀ (x_3 : Int32), x_3 = (if (m_isCell cell) = 0 then nI (0) else (if (m_within layer (nI (0)) (nI (4))) = 0 then nI (0) else nI (1))) → ∀ (H : Heap) (locs : List Loc), va_P G vwCl (wm cI cZ a σ) H → va_D (mA a) (wm cI cZ a σ) → va_S (mA a) s.heap H locs → ∀ (ls : Array Slot), lv_has ls 6 [(0, .ref (a 0)), (1, .int (cell)), (2, .int (layer)), (3, .int (what))] → WW H locs 0 0 (F0 m 21 ls [.int (x_3)]) := by
    intro x_3 h_5 H locs hP hD hS ls hl
    refine (hWW _ _ _ _ _).mpr ?_
    have hR_6 : m_layerOf σ cell layer what = m_layerOf_j21 σ cell layer what x_3 := (by subst h_5; unfold m_layerOf; rfl)
    have hR_7 : m_layerOf_s σ cell layer what = m_layerOf_j21_s σ cell layer what x_3 := (by subst h_5; unfold m_layerOf_s; rfl)
    refine lv_istore (lv' := [(4, .int (x_3)), (0, .ref (a 0)), (1, .int (cell)), (2, .int (layer)), (3, .int (what))]) hx hb dX6_layerOf_21 hl (by decide) rfl (fun ls hl => ?_)
    refine lv_aload_n hx hb dX6_layerOf_23 rfl (lv_at hl 1 rfl) ?_
    refine lv_iload hx hb dX6_layerOf_24 (lv_at hl 0 rfl) ?_
    have J47_11 : ∀ (x_10 : Int32), x_10 = (if x_3 = 0 then nI (1) else (if (m_within what (nI (0)) (nI (5))) = 0 then nI (2) else nI (0))) → ∀ (H : Heap) (locs : List Loc), va_P G vwCl (wm cI cZ a σ) H → va_D (mA a) (wm cI cZ a σ) → va_S (mA a) s.heap H locs → ∀ (ls : Array Slot), lv_has ls 6 [(4, .int (x_3)), (0, .ref (a 0)), (1, .int (cell)), (2, .int (layer)), (3, .int (what))] → WW H locs 0 0 (F0 m 47 ls [.int (x_10), .ref (a 0)]) := by
      intro x_10 h_12 H locs hP hD hS ls hl
      refine (hWW _ _ _ _ _).mpr ?_
      have hR_13 : m_layerOf σ cell layer what = m_layerOf_j47 σ cell layer what x_3 x_10 := (Eq.trans hR_6 (by subst h_12; unfold m_layerOf_j21; rfl))
      have hR_14 : m_layerOf_s σ cell layer what = m_layerOf_j47_s σ cell layer what x_3 x_10 := (Eq.trans hR_7 (by subst h_12; unfold m_layerOf_j21_s; rfl))
      refine m_callI (As := [.int (x_10)]) (rest := []) (fun _ h => h) ⟨hx, hb, hml, hown, hts⟩ (cm_refused l G cI cZ a σ  x_10 ) (cwV 1 hts gX6_layerOf_X6_refused rfl rfl rfl (by decide +kernel) ⟨Nat.le_of_ble_eq_true rfl, Nat.le_of_ble_eq_true rfl⟩) hK hP hD hS rfl hl.1 rfl (Nat.le_of_ble_eq_true rfl) dX6_layerOf_47 ⟨Nat.zero_le _, Nat.zero_le _⟩ (fun H locs hP hD _ _ hS => ?_)
      refine lv_if_eq (x := (m_refused σ x_10)) (tgt := 55) hx hb dX6_layerOf_50 (by decide) (fun c_15 => ?_) (fun c_15 => ?_)
      · have q0 := ck_tri h_12 (m_refused_0 c_15)
        have q1 := ck_two h_5 q0.1
        have hq : vp_in (nI (5) * (cell) + (layer)) 125 := vp_5l (w_isCell q1.1) (w_in (n := 4) q1.2 (by decide))
        refine lv_iconst (v := nI (5)) hx hb dX6_layerOf_55 (by decide) ?_
        refine lv_iload_n hx hb dX6_layerOf_56 rfl (lv_at hl 2 rfl) ?_
        refine lv_imul (x := nI (5)) (y := cell) hx hb dX6_layerOf_57 ?_
        refine lv_iload_n hx hb dX6_layerOf_58 rfl (lv_at hl 3 rfl) ?_
        refine lv_iadd (x := (nI (5)) * (cell)) (y := layer) hx hb dX6_layerOf_59 ?_
        refine lv_istore (lv' := [(5, .int (((nI (5)) * (cell)) + (layer))), (4, .int (x_3)), (0, .ref (a 0)), (1, .int (cell)), (2, .int (layer)), (3, .int (what))]) hx hb dX6_layerOf_60 hl (by decide) rfl (fun ls hl => ?_)
        refine lv_iload_n hx hb dX6_layerOf_62 rfl (lv_at hl 5 rfl) ?_
        refine lv_iconst (v := nI (3)) hx hb dX6_layerOf_63 (by decide) ?_
        refine lv_icmp_ge (x := what) (y := nI (3)) (tgt := 103) hx hb dX6_layerOf_64 (by decide) (fun c_16 => ?_) (fun c_16 => ?_)
        · refine lv_iload_n hx hb dX6_layerOf_103 rfl (lv_at hl 5 rfl) ?_
          refine lv_iconst (v := nI (3)) hx hb dX6_layerOf_104 (by decide) ?_
          have J139_20 : ∀ (x_19 : Int32), x_19 = (if what = nI (3) then ((m_refused_s σ x_10).1 9 ((((nI (5)) * (cell)) + (layer)).toNatClampNeg)) else (if what = nI (4) then ((m_refused_s σ x_10).1 11 ((((nI (5)) * (cell)) + (layer)).toNatClampNeg)) else (m_melted (m_refused_s σ x_10) (((nI (5)) * (cell)) + (layer))))) → ∀ (H : Heap) (locs : List Loc), va_P G vwCl (wm cI cZ a (m_refused_s σ x_10)) H → va_D (mA a) (wm cI cZ a (m_refused_s σ x_10)) → va_S (mA a) s.heap H locs → ∀ (ls : Array Slot), lv_has ls 6 [(5, .int (((nI (5)) * (cell)) + (layer))), (4, .int (x_3)), (0, .ref (a 0)), (1, .int (cell)), (2, .int (layer)), (3, .int (what))] → WW H locs 0 0 (F0 m 139 ls [.int (x_19)]) := by
            intro x_19 h_21 H locs hP hD hS ls hl
            refine (hWW _ _ _ _ _).mpr ?_
            have hR_22 : m_layerOf σ cell layer what = m_layerOf_j139 σ cell layer what x_3 x_10 x_19 := (Eq.trans hR_13 (by subst h_21; unfold m_layerOf_j47; simp only [if_pos c_15, if_pos c_16]))
            have hR_23 : m_layerOf_s σ cell layer what = m_layerOf_j139_s σ cell layer what x_3 x_10 x_19 := (Eq.trans hR_14 (by subst h_21; unfold m_layerOf_j47_s; simp only [if_pos c_15, if_pos c_16]))
            exact m_iret (v := x_19) hx hb hr hlocks hP hK hD hS dX6_layerOf_139 (Eq.trans (by unfold m_layerOf_j139; rfl) hR_22.symm) (Eq.trans (by unfold m_layerOf_j139_s; rfl) hR_23.symm)
          refine lv_icmp_ne (x := what) (y := nI (3)) (tgt := 118) hx hb dX6_layerOf_105 (by decide) (fun c_17 => ?_) (fun c_17 => ?_)
          · refine lv_iload_n hx hb dX6_layerOf_118 rfl (lv_at hl 5 rfl) ?_
            refine lv_iconst (v := nI (4)) hx hb dX6_layerOf_119 (by decide) ?_
            refine lv_icmp_ne (x := what) (y := nI (4)) (tgt := 133) hx hb dX6_layerOf_120 (by decide) (fun c_24 => ?_) (fun c_24 => ?_)
            · refine lv_aload_n hx hb dX6_layerOf_133 rfl (lv_at hl 2 rfl) ?_
              refine lv_iload hx hb dX6_layerOf_134 (lv_at hl 0 rfl) ?_
              refine m_callI (As := [.int (((nI (5)) * (cell)) + (layer))]) (rest := []) (fun _ h => h) ⟨hx, hb, hml, hown, hts⟩ (cm_melted l G cI cZ a (m_refused_s σ x_10)  (((nI (5)) * (cell)) + (layer)) (hq)) (cwV 1 hts gX6_layerOf_X6_melted rfl rfl rfl (by decide +kernel) ⟨Nat.le_of_ble_eq_true rfl, Nat.le_of_ble_eq_true rfl⟩) hK hP hD hS rfl hl.1 rfl (Nat.le_of_ble_eq_true rfl) dX6_layerOf_136 ⟨Nat.zero_le _, Nat.zero_le _⟩ (fun H locs hP hD _ _ hS => ?_)
              exact (hWW _ _ _ _ _).mp (J139_20 _ (by simp only [if_neg c_17, if_neg c_24]) _ _ hP hD hS _ (lv_sub hl [0, 1, 2, 3, 4, 5] rfl))
            · refine lv_aload_n hx hb dX6_layerOf_123 rfl (lv_at hl 2 rfl) ?_
              refine m_get (v := .ref (a 11)) hx hb hts hin hown hK hP 11 (by decide) rfl (index := 37) (List.mem_of_getElem? (i := 4) rfl) dX6_layerOf_124 ?_
              refine lv_iload hx hb dX6_layerOf_127 (lv_at hl 0 rfl) ?_
              refine m_aldI (j := ((nI (5)) * (cell)) + (layer)) hx hb hK hP 10 11 rfl (hq) dX6_layerOf_129 ?_
              refine W.eq (g2 := F0 m 130 ls [.int (((m_refused_s σ x_10).1 11 ((((nI (5)) * (cell)) + (layer)).toNatClampNeg)))]) rfl ?_
              refine lv_goto (tgt := 139) hx hb dX6_layerOf_130 (by decide) ?_
              exact (hWW _ _ _ _ _).mp (J139_20 _ (by simp only [if_neg c_17, if_pos c_24]) _ _ hP hD hS _ (lv_sub hl [0, 1, 2, 3, 4, 5] rfl))
          · refine lv_aload_n hx hb dX6_layerOf_108 rfl (lv_at hl 2 rfl) ?_
            refine m_get (v := .ref (a 9)) hx hb hts hin hown hK hP 9 (by decide) rfl (index := 31) (List.mem_of_getElem? (i := 3) rfl) dX6_layerOf_109 ?_
            refine lv_iload hx hb dX6_layerOf_112 (lv_at hl 0 rfl) ?_
            refine m_aldI (j := ((nI (5)) * (cell)) + (layer)) hx hb hK hP 8 9 rfl (hq) dX6_layerOf_114 ?_
            refine W.eq (g2 := F0 m 115 ls [.int (((m_refused_s σ x_10).1 9 ((((nI (5)) * (cell)) + (layer)).toNatClampNeg)))]) rfl ?_
            refine lv_goto (tgt := 139) hx hb dX6_layerOf_115 (by decide) ?_
            exact (hWW _ _ _ _ _).mp (J139_20 _ (by simp only [if_pos c_17]) _ _ hP hD hS _ (lv_sub hl [0, 1, 2, 3, 4, 5] rfl))
        · refine lv_iload_n hx hb dX6_layerOf_67 rfl (lv_at hl 5 rfl) ?_
          have J102_28 : ∀ (x_27 : Int32), x_27 = (if what = 0 then (m_degreesOf (m_refused_s σ x_10) (((nI (5)) * (cell)) + (layer))) else (if what = nI (1) then ((m_refused_s σ x_10).1 10 ((((nI (5)) * (cell)) + (layer)).toNatClampNeg)) else ((m_refused_s σ x_10).1 8 ((((nI (5)) * (cell)) + (layer)).toNatClampNeg)))) → ∀ (H : Heap) (locs : List Loc), va_P G vwCl (wm cI cZ a (m_refused_s σ x_10)) H → va_D (mA a) (wm cI cZ a (m_refused_s σ x_10)) → va_S (mA a) s.heap H locs → ∀ (ls : Array Slot), lv_has ls 6 [(5, .int (((nI (5)) * (cell)) + (layer))), (4, .int (x_3)), (0, .ref (a 0)), (1, .int (cell)), (2, .int (layer)), (3, .int (what))] → WW H locs 0 0 (F0 m 102 ls [.int (x_27)]) := by
            intro x_27 h_29 H locs hP hD hS ls hl
            refine (hWW _ _ _ _ _).mpr ?_
            have hR_30 : m_layerOf σ cell layer what = m_layerOf_j102 σ cell layer what x_3 x_10 x_27 := (Eq.trans hR_13 (by subst h_29; unfold m_layerOf_j47; simp only [if_pos c_15, if_neg c_16]))
            have hR_31 : m_layerOf_s σ cell layer what = m_layerOf_j102_s σ cell layer what x_3 x_10 x_27 := (Eq.trans hR_14 (by subst h_29; unfold m_layerOf_j47_s; simp only [if_pos c_15, if_neg c_16]))
            exact m_iret (v := x_27) hx hb hr hlocks hP hK hD hS dX6_layerOf_102 (Eq.trans (by unfold m_layerOf_j102; rfl) hR_30.symm) (Eq.trans (by unfold m_layerOf_j102_s; rfl) hR_31.symm)
          refine lv_if_ne (x := what) (tgt := 80) hx hb dX6_layerOf_68 (by decide) (fun c_25 => ?_) (fun c_25 => ?_)
          · refine lv_iload_n hx hb dX6_layerOf_80 rfl (lv_at hl 5 rfl) ?_
            refine lv_iconst (v := nI (1)) hx hb dX6_layerOf_81 (by decide) ?_
            refine lv_icmp_ne (x := what) (y := nI (1)) (tgt := 95) hx hb dX6_layerOf_82 (by decide) (fun c_32 => ?_) (fun c_32 => ?_)
            · refine lv_aload_n hx hb dX6_layerOf_95 rfl (lv_at hl 2 rfl) ?_
              refine m_get (v := .ref (a 8)) hx hb hts hin hown hK hP 8 (by decide) rfl (index := 28) (List.mem_of_getElem? (i := 2) rfl) dX6_layerOf_96 ?_
              refine lv_iload hx hb dX6_layerOf_99 (lv_at hl 0 rfl) ?_
              refine m_aldI (j := ((nI (5)) * (cell)) + (layer)) hx hb hK hP 7 8 rfl (hq) dX6_layerOf_101 ?_
              refine W.eq (g2 := F0 m 102 ls [.int (((m_refused_s σ x_10).1 8 ((((nI (5)) * (cell)) + (layer)).toNatClampNeg)))]) rfl ?_
              exact (hWW _ _ _ _ _).mp (J102_28 _ (by simp only [if_neg c_25, if_neg c_32]) _ _ hP hD hS _ (lv_sub hl [0, 1, 2, 3, 4, 5] rfl))
            · refine lv_aload_n hx hb dX6_layerOf_85 rfl (lv_at hl 2 rfl) ?_
              refine m_get (v := .ref (a 10)) hx hb hts hin hown hK hP 10 (by decide) rfl (index := 34) (List.mem_of_getElem? (i := 1) rfl) dX6_layerOf_86 ?_
              refine lv_iload hx hb dX6_layerOf_89 (lv_at hl 0 rfl) ?_
              refine m_aldI (j := ((nI (5)) * (cell)) + (layer)) hx hb hK hP 9 10 rfl (hq) dX6_layerOf_91 ?_
              refine W.eq (g2 := F0 m 92 ls [.int (((m_refused_s σ x_10).1 10 ((((nI (5)) * (cell)) + (layer)).toNatClampNeg)))]) rfl ?_
              refine lv_goto (tgt := 102) hx hb dX6_layerOf_92 (by decide) ?_
              exact (hWW _ _ _ _ _).mp (J102_28 _ (by simp only [if_neg c_25, if_pos c_32]) _ _ hP hD hS _ (lv_sub hl [0, 1, 2, 3, 4, 5] rfl))
          · refine lv_aload_n hx hb dX6_layerOf_71 rfl (lv_at hl 2 rfl) ?_
            refine lv_iload hx hb dX6_layerOf_72 (lv_at hl 0 rfl) ?_
            refine m_callI (As := [.int (((nI (5)) * (cell)) + (layer))]) (rest := []) (fun _ h => h) ⟨hx, hb, hml, hown, hts⟩ (cm_degreesOf l G cI cZ a (m_refused_s σ x_10)  (((nI (5)) * (cell)) + (layer)) (hq)) (cwV 1 hts gX6_layerOf_X6_degreesOf rfl rfl rfl (by decide +kernel) ⟨Nat.le_of_ble_eq_true rfl, Nat.le_of_ble_eq_true rfl⟩) hK hP hD hS rfl hl.1 rfl (Nat.le_of_ble_eq_true rfl) dX6_layerOf_74 ⟨Nat.zero_le _, Nat.zero_le _⟩ (fun H locs hP hD _ _ hS => ?_)
            refine lv_goto (tgt := 102) hx hb dX6_layerOf_77 (by decide) ?_
            exact (hWW _ _ _ _ _).mp (J102_28 _ (by simp only [if_pos c_25]) _ _ hP hD hS _ (lv_sub hl [0, 1, 2, 3, 4, 5] rfl))
      · refine lv_iconst (v := nI (0)) hx hb dX6_layerOf_53 (by decide) ?_
        exact m_iret (v := nI (0)) hx hb hr hlocks hP hK hD hS dX6_layerOf_54 (Eq.trans (by unfold m_layerOf_j47; simp only [if_neg c_15]) hR_13.symm) (Eq.trans (by unfold m_layerOf_j47_s; simp only [if_neg c_15]) hR_14.symm)
    refine lv_if_ne (x := x_3) (tgt := 33) hx hb dX6_layerOf_26 (by decide) (fun c_8 => ?_) (fun c_8 => ?_)
    · refine lv_iload_n hx hb dX6_layerOf_33 rfl (lv_at hl 4 rfl) ?_
      refine lv_iconst (v := nI (0)) hx hb dX6_layerOf_34 (by decide) ?_
      refine lv_iconst (v := nI (5)) hx hb dX6_layerOf_35 (by decide) ?_
      refine m_callS (As := [.int (what), .int (nI (0)), .int (nI (5))]) (rest := [.ref (a 0)]) ⟨hx, hb, hml, hown, hts⟩ (cm_within l what (nI (0)) (nI (5)) ) (va_cwS 3 hts gX6_layerOf_X6_within rfl rfl rfl (by decide +kernel) ⟨Nat.le_of_ble_eq_true rfl, Nat.le_of_ble_eq_true rfl⟩) hP hS rfl hl.1 rfl (Nat.le_of_ble_eq_true rfl) dX6_layerOf_36 ⟨Nat.zero_le _, Nat.zero_le _⟩ (fun H locs hP hS => ?_)
      refine lv_if_ne (x := (m_within what (nI (0)) (nI (5)))) (tgt := 46) hx hb dX6_layerOf_39 (by decide) (fun c_33 => ?_) (fun c_33 => ?_)
      · refine lv_iconst (v := nI (0)) hx hb dX6_layerOf_46 (by decide) ?_
        exact (hWW _ _ _ _ _).mp (J47_11 _ (by simp only [if_neg c_8, if_neg c_33]) _ _ hP hD hS _ (lv_sub hl [0, 1, 2, 3, 4] rfl))
      · refine lv_iconst (v := nI (2)) hx hb dX6_layerOf_42 (by decide) ?_
        refine lv_goto (tgt := 47) hx hb dX6_layerOf_43 (by decide) ?_
        exact (hWW _ _ _ _ _).mp (J47_11 _ (by simp only [if_neg c_8, if_pos c_33]) _ _ hP hD hS _ (lv_sub hl [0, 1, 2, 3, 4] rfl))
    · refine lv_iconst (v := nI (1)) hx hb dX6_layerOf_29 (by decide) ?_
      refine lv_goto (tgt := 47) hx hb dX6_layerOf_30 (by decide) ?_
      exact (hWW _ _ _ _ _).mp (J47_11 _ (by simp only [if_pos c_8]) _ _ hP hD hS _ (lv_sub hl [0, 1, 2, 3, 4] rfl))
  refine lv_if_eq (x := (m_isCell cell)) (tgt := 20) hx hb dX6_layerOf_4 (by decide) (fun c_1 => ?_) (fun c_1 => ?_)
  · refine lv_iconst (v := nI (0)) hx hb dX6_layerOf_20 (by decide) ?_
    exact (hWW _ _ _ _ _).mp (J21_4 _ (by simp only [if_pos c_1]) _ _ hP hD hS _ (lv_sub hl [0, 1, 2, 3] rfl))
  · refine lv_iload_n hx hb dX6_layerOf_7 rfl (lv_at hl 2 rfl) ?_
    refine lv_iconst (v := nI (0)) hx hb dX6_layerOf_8 (by decide) ?_
    refine lv_iconst (v := nI (4)) hx hb dX6_layerOf_9 (by decide) ?_
    refine m_callS (As := [.int (layer), .int (nI (0)), .int (nI (4))]) (rest := []) ⟨hx, hb, hml, hown, hts⟩ (cm_within l layer (nI (0)) (nI (4)) ) (va_cwS 3 hts gX6_layerOf_X6_within rfl rfl rfl (by decide +kernel) ⟨Nat.le_of_ble_eq_true rfl, Nat.le_of_ble_eq_true rfl⟩) hP hS rfl hl.1 rfl (Nat.le_of_ble_eq_true rfl) dX6_layerOf_10 ⟨Nat.zero_le _, Nat.zero_le _⟩ (fun H locs hP hS => ?_)
    refine lv_if_eq (x := (m_within layer (nI (0)) (nI (4)))) (tgt := 20) hx hb dX6_layerOf_13 (by decide) (fun c_34 => ?_) (fun c_34 => ?_)
    · refine lv_iconst (v := nI (0)) hx hb dX6_layerOf_20 (by decide) ?_
      exact (hWW _ _ _ _ _).mp (J21_4 _ (by simp only [if_neg c_1, if_pos c_34]) _ _ hP hD hS _ (lv_sub hl [0, 1, 2, 3] rfl))
    · refine lv_iconst (v := nI (1)) hx hb dX6_layerOf_16 (by decide) ?_
      refine lv_goto (tgt := 21) hx hb dX6_layerOf_17 (by decide) ?_
      exact (hWW _ _ _ _ _).mp (J21_4 _ (by simp only [if_neg c_1, if_neg c_34]) _ _ hP hD hS _ (lv_sub hl [0, 1, 2, 3] rfl))

def m_neighbour_x33 (σ : Sg) (cell : Int32) (w : Int32) (x_3 : Int32) (z33 : Int32 × Int32) : Int32 := z33.1
def m_neighbour_x33_s (σ : Sg) (cell : Int32) (w : Int32) (x_3 : Int32) (z33 : Int32 × Int32) : Sg := (m_refused_s σ x_3)
def m_neighbour_j79 (cell : Int32) (w : Int32) (i33 : Nat) (z33 : Int32 × Int32) (x_14 : Int32) (x_20 : Int32) : Int32 × Int32 := (x_14, (z33.2) + (x_20))
def m_neighbour_j65 (cell : Int32) (w : Int32) (i33 : Nat) (z33 : Int32 × Int32) (x_14 : Int32) : Int32 × Int32 := (m_neighbour_j79 cell w i33 z33 x_14 (if (m_beside cell (nI (i33))) = (-1) then nI (0) else nI (1)))
def m_neighbour_b33 (cell w : Int32) (i33 : Nat) (z33 : Int32 × Int32) : Int32 × Int32 := (m_neighbour_j65 cell w i33 z33 (if (m_beside cell (nI (i33))) = (-1) then z33.1 else (if z33.2 = w then (m_beside cell (nI (i33))) else z33.1)))
def m_neighbour_j17 (σ : Sg) (cell : Int32) (w : Int32) (x_3 : Int32) : Int32 := (if (m_refused σ x_3) = 0 then (m_neighbour_x33 σ cell w x_3 (lp (m_neighbour_b33 cell w) 4 ((-1), nI (0)))) else nI (0))
def m_neighbour_j17_s (σ : Sg) (cell : Int32) (w : Int32) (x_3 : Int32) : Sg := (if (m_refused σ x_3) = 0 then (m_neighbour_x33_s σ cell w x_3 (lp (m_neighbour_b33 cell w) 4 ((-1), nI (0)))) else (m_refused_s σ x_3))
def m_neighbour (σ : Sg) (cell : Int32) (w : Int32) : Int32 := (m_neighbour_j17 σ cell w (if (m_isCell cell) = 0 then nI (1) else (if w < 0 then nI (1) else nI (0))))
def m_neighbour_s (σ : Sg) (cell : Int32) (w : Int32) : Sg := (m_neighbour_j17_s σ cell w (if (m_isCell cell) = 0 then nI (1) else (if w < 0 then nI (1) else nI (0))))
set_option maxHeartbeats 4000000 in
set_option maxRecDepth 100000 in
theorem cm_neighbour (l : Launch) (G : va_G) (cI cZ : ClassId) (a : Nat → Nat) (σ : Sg) (cell : Int32) (w : Int32) : mI l yX6_neighbour wsX6_neighbour ({ frames := 2, cells := 0, slots := 0, locals := 42 } : Room) G cI cZ a σ [.int (cell), .int (w)] (m_neighbour σ cell w) (m_neighbour_s σ cell w) := by
  unfold mI
  refine Met.ofW (cc := cX6_neighbour) (maxL := 7) (ret := (some .int)) (by decide) rfl ?_
  intro p e s m args below meth c s₁ B hml hv
  obtain ⟨rfl, hP, hK, hD⟩ := hv
  have hx := B.exec
  have hb := B.bytes
  have hr := B.returns
  have hts := atoms_spec (ws := wsX6_neighbour) B.pre
  have hown : s.vm.findClass RX6 = some m.cls := findClass_of_methodNamed B.named
  have hlocks := B.notSynchronized
  have hS : va_S (mA a) s.heap s.heap [] := va_S.rf
  have hin : ∀ w ∈ wsX60, w ∈ wsX6_neighbour := fun w h => List.mem_cons_of_mem _ (List.mem_append_right _ h)
  have hl := lv_entry ([.ref (a 0), .int (cell), .int (w)]) (n := 7) (Nat.le_of_ble_eq_true rfl)
  rw [lg_entry_eq]
  generalize (lg_sl ([.ref (a 0), .int (cell), .int (w)]) ++ List.replicate (7 - (lg_sl ([.ref (a 0), .int (cell), .int (w)])).length) Slot.unset).toArray = ls at hl ⊢
  have hl : lv_has ls 7 [(0, .ref (a 0)), (1, .int (cell)), (2, .int (w))] := hl
  refine w_named (fun WW hWW => ?_)
  have hP : va_P G vwCl (wm cI cZ a σ) s.heap := hP
  refine lv_aload_n hx hb dX6_neighbour_0 rfl (lv_at hl 0 rfl) ?_
  refine lv_iload_n hx hb dX6_neighbour_1 rfl (lv_at hl 1 rfl) ?_
  refine m_callS (As := [.int (cell)]) (rest := [.ref (a 0)]) ⟨hx, hb, hml, hown, hts⟩ (cm_isCell l cell ) (va_cwS 1 hts gX6_neighbour_X6_isCell rfl rfl rfl (by decide +kernel) ⟨Nat.le_of_ble_eq_true rfl, Nat.le_of_ble_eq_true rfl⟩) hP hS rfl hl.1 rfl (Nat.le_of_ble_eq_true rfl) dX6_neighbour_2 ⟨Nat.zero_le _, Nat.zero_le _⟩ (fun H locs hP hS => ?_)
  have J17_4 : ∀ (x_3 : Int32), x_3 = (if (m_isCell cell) = 0 then nI (1) else (if w < 0 then nI (1) else nI (0))) → ∀ (H : Heap) (locs : List Loc), va_P G vwCl (wm cI cZ a σ) H → va_D (mA a) (wm cI cZ a σ) → va_S (mA a) s.heap H locs → ∀ (ls : Array Slot), lv_has ls 7 [(0, .ref (a 0)), (1, .int (cell)), (2, .int (w))] → WW H locs 0 0 (F0 m 17 ls [.int (x_3), .ref (a 0)]) := by
    intro x_3 h_5 H locs hP hD hS ls hl
    refine (hWW _ _ _ _ _).mpr ?_
    have hR_6 : m_neighbour σ cell w = m_neighbour_j17 σ cell w x_3 := (by subst h_5; unfold m_neighbour; rfl)
    have hR_7 : m_neighbour_s σ cell w = m_neighbour_j17_s σ cell w x_3 := (by subst h_5; unfold m_neighbour_s; rfl)
    refine m_callI (As := [.int (x_3)]) (rest := []) (fun _ h => h) ⟨hx, hb, hml, hown, hts⟩ (cm_refused l G cI cZ a σ  x_3 ) (cwV 1 hts gX6_neighbour_X6_refused rfl rfl rfl (by decide +kernel) ⟨Nat.le_of_ble_eq_true rfl, Nat.le_of_ble_eq_true rfl⟩) hK hP hD hS rfl hl.1 rfl (Nat.le_of_ble_eq_true rfl) dX6_neighbour_17 ⟨Nat.zero_le _, Nat.zero_le _⟩ (fun H locs hP hD _ _ hS => ?_)
    refine lv_if_eq (x := (m_refused σ x_3)) (tgt := 25) hx hb dX6_neighbour_20 (by decide) (fun c_8 => ?_) (fun c_8 => ?_)
    · refine lv_iconst (v := (-1)) hx hb dX6_neighbour_25 (by decide) ?_
      refine lv_istore_n (lv' := [(3, .int ((-1))), (0, .ref (a 0)), (1, .int (cell)), (2, .int (w))]) hx hb dX6_neighbour_26 rfl hl (by decide) rfl (fun ls hl => ?_)
      refine lv_iconst (v := nI (0)) hx hb dX6_neighbour_27 (by decide) ?_
      refine lv_istore (lv' := [(4, .int (nI (0))), (3, .int ((-1))), (0, .ref (a 0)), (1, .int (cell)), (2, .int (w))]) hx hb dX6_neighbour_28 hl (by decide) rfl (fun ls hl => ?_)
      refine lv_iconst (v := nI (0)) hx hb dX6_neighbour_30 (by decide) ?_
      refine lv_istore (lv' := [(5, .int (nI (0))), (4, .int (nI (0))), (3, .int ((-1))), (0, .ref (a 0)), (1, .int (cell)), (2, .int (w))]) hx hb dX6_neighbour_31 hl (by decide) rfl (fun ls hl => ?_)
      have L33 : ∀ (n33 i33 : Nat), i33 ≤ 4 → 4 + 1 ≤ i33 + n33 → ∀ (z33 : Int32 × Int32), z33 = lp (m_neighbour_b33 cell w) i33 ((-1), nI (0)) → ∀ (H : Heap) (locs : List Loc), va_P G vwCl (wm cI cZ a (m_refused_s σ x_3)) H → va_D (mA a) (wm cI cZ a (m_refused_s σ x_3)) → va_S (mA a) s.heap H locs → ∀ (ls : Array Slot), lv_has ls 7 [(5, .int (nI (i33))), (4, .int (z33.2)), (3, .int (z33.1)), (0, .ref (a 0)), (1, .int (cell)), (2, .int (w))] → WW H locs 0 0 (F0 m 33 ls []) := by
        intro n33
        induction n33 with
        | zero => intro i33 h1 h2; exact absurd h2 (by omega)
        | succ n33 ih33 =>
          intro i33 hi33 hn33 z33 hz33  H locs hP hD hS ls hl
          refine (hWW _ _ _ _ _).mpr ?_
          refine lv_iload hx hb dX6_neighbour_33 (lv_at hl 0 rfl) ?_
          refine lv_iconst (v := nI (4)) hx hb dX6_neighbour_35 (by decide) ?_
          refine n_icmp_ge (x := i33) (y := 4) (tgt := 88) hx hb (by omega) (by omega) dX6_neighbour_36 (by decide) (fun c_9 => ?_) (fun c_9 => ?_)
          · have hiN : 4 = i33 := by omega
            subst hiN
            have hR_10 : m_neighbour σ cell w = m_neighbour_x33 σ cell w x_3 z33 := (Eq.trans hR_6 (by subst hz33; unfold m_neighbour_j17; simp only [if_pos c_8]))
            have hR_11 : m_neighbour_s σ cell w = m_neighbour_x33_s σ cell w x_3 z33 := (Eq.trans hR_7 (by subst hz33; unfold m_neighbour_j17_s; simp only [if_pos c_8]))
            refine lv_iload_n hx hb dX6_neighbour_88 rfl (lv_at hl 2 rfl) ?_
            exact m_iret (v := z33.1) hx hb hr hlocks hP hK hD hS dX6_neighbour_89 (Eq.trans (by unfold m_neighbour_x33; rfl) hR_10.symm) (Eq.trans (by unfold m_neighbour_x33_s; rfl) hR_11.symm)
          · refine lv_iload_n hx hb dX6_neighbour_39 rfl (lv_at hl 4 rfl) ?_
            refine lv_iload hx hb dX6_neighbour_40 (lv_at hl 0 rfl) ?_
            refine m_callS (As := [.int (cell), .int (nI (i33))]) (rest := []) ⟨hx, hb, hml, hown, hts⟩ (cm_beside l cell (nI (i33)) ) (va_cwS 2 hts gX6_neighbour_X6_beside rfl rfl rfl (by decide +kernel) ⟨Nat.le_of_ble_eq_true rfl, Nat.le_of_ble_eq_true rfl⟩) hP hS rfl hl.1 rfl (Nat.le_of_ble_eq_true rfl) dX6_neighbour_42 ⟨Nat.zero_le _, Nat.zero_le _⟩ (fun H locs hP hS => ?_)
            refine lv_istore (lv' := [(6, .int ((m_beside cell (nI (i33))))), (5, .int (nI (i33))), (4, .int (z33.2)), (3, .int (z33.1)), (0, .ref (a 0)), (1, .int (cell)), (2, .int (w))]) hx hb dX6_neighbour_45 hl (by decide) rfl (fun ls hl => ?_)
            refine lv_iload hx hb dX6_neighbour_47 (lv_at hl 0 rfl) ?_
            refine lv_iconst (v := (-1)) hx hb dX6_neighbour_49 (by decide) ?_
            have J65_15 : ∀ (x_14 : Int32), x_14 = (if (m_beside cell (nI (i33))) = (-1) then z33.1 else (if z33.2 = w then (m_beside cell (nI (i33))) else z33.1)) → ∀ (H : Heap) (locs : List Loc), va_P G vwCl (wm cI cZ a (m_refused_s σ x_3)) H → va_D (mA a) (wm cI cZ a (m_refused_s σ x_3)) → va_S (mA a) s.heap H locs → ∀ (ls : Array Slot), lv_has ls 7 [(6, .int ((m_beside cell (nI (i33))))), (5, .int (nI (i33))), (4, .int (z33.2)), (3, .int (z33.1)), (0, .ref (a 0)), (1, .int (cell)), (2, .int (w))] → WW H locs 0 0 (F0 m 65 ls [.int (x_14)]) := by
              intro x_14 h_16 H locs hP hD hS ls hl
              refine (hWW _ _ _ _ _).mpr ?_
              have hR_17 : m_neighbour_b33 cell w i33 z33 = m_neighbour_j65 cell w i33 z33 x_14 := (by subst h_16; unfold m_neighbour_b33; rfl)
              refine lv_istore_n (lv' := [(3, .int (x_14)), (6, .int ((m_beside cell (nI (i33))))), (5, .int (nI (i33))), (4, .int (z33.2)), (0, .ref (a 0)), (1, .int (cell)), (2, .int (w))]) hx hb dX6_neighbour_65 rfl hl (by decide) rfl (fun ls hl => ?_)
              refine lv_iload hx hb dX6_neighbour_66 (lv_at hl 3 rfl) ?_
              refine lv_iload hx hb dX6_neighbour_68 (lv_at hl 1 rfl) ?_
              refine lv_iconst (v := (-1)) hx hb dX6_neighbour_70 (by decide) ?_
              have J79_21 : ∀ (x_20 : Int32), x_20 = (if (m_beside cell (nI (i33))) = (-1) then nI (0) else nI (1)) → ∀ (H : Heap) (locs : List Loc), va_P G vwCl (wm cI cZ a (m_refused_s σ x_3)) H → va_D (mA a) (wm cI cZ a (m_refused_s σ x_3)) → va_S (mA a) s.heap H locs → ∀ (ls : Array Slot), lv_has ls 7 [(3, .int (x_14)), (6, .int ((m_beside cell (nI (i33))))), (5, .int (nI (i33))), (4, .int (z33.2)), (0, .ref (a 0)), (1, .int (cell)), (2, .int (w))] → WW H locs 0 0 (F0 m 79 ls [.int (x_20), .int (z33.2)]) := by
                intro x_20 h_22 H locs hP hD hS ls hl
                refine (hWW _ _ _ _ _).mpr ?_
                have hR_23 : m_neighbour_b33 cell w i33 z33 = m_neighbour_j79 cell w i33 z33 x_14 x_20 := (Eq.trans hR_17 (by subst h_22; unfold m_neighbour_j65; rfl))
                refine lv_iadd (x := z33.2) (y := x_20) hx hb dX6_neighbour_79 ?_
                refine lv_istore (lv' := [(4, .int ((z33.2) + (x_20))), (3, .int (x_14)), (6, .int ((m_beside cell (nI (i33))))), (5, .int (nI (i33))), (0, .ref (a 0)), (1, .int (cell)), (2, .int (w))]) hx hb dX6_neighbour_80 hl (by decide) rfl (fun ls hl => ?_)
                refine n_iinc (x := i33) (dN := 1) (k := 3) (lv' := [(5, .int (nI (i33 + 1))), (4, .int ((z33.2) + (x_20))), (3, .int (x_14)), (6, .int ((m_beside cell (nI (i33))))), (0, .ref (a 0)), (1, .int (cell)), (2, .int (w))]) hx hb dX6_neighbour_82 hl rfl (by decide) rfl (fun ls hl => ?_)
                refine lv_goto (tgt := 33) hx hb dX6_neighbour_85 (by decide) ?_
                exact (hWW _ _ _ _ _).mp (ih33 (i33 + 1) (by omega) (by omega) ((x_14, (z33.2) + (x_20))) (by show _ = m_neighbour_b33 cell w i33 (lp (m_neighbour_b33 cell w) i33 ((-1), nI (0))); rw [← hz33]; exact (Eq.trans (by unfold m_neighbour_j79; rfl) hR_23.symm))  _ _ hP hD hS _ (lv_sub hl [0, 1, 2, 4, 5, 6] rfl))
              refine lv_icmp_eq (x := (m_beside cell (nI (i33)))) (y := (-1)) (tgt := 78) hx hb dX6_neighbour_71 (by decide) (fun c_18 => ?_) (fun c_18 => ?_)
              · refine lv_iconst (v := nI (0)) hx hb dX6_neighbour_78 (by decide) ?_
                exact (hWW _ _ _ _ _).mp (J79_21 _ (by simp only [if_pos c_18]) _ _ hP hD hS _ (lv_sub hl [0, 1, 2, 3, 4, 5, 6] rfl))
              · refine lv_iconst (v := nI (1)) hx hb dX6_neighbour_74 (by decide) ?_
                refine lv_goto (tgt := 79) hx hb dX6_neighbour_75 (by decide) ?_
                exact (hWW _ _ _ _ _).mp (J79_21 _ (by simp only [if_neg c_18]) _ _ hP hD hS _ (lv_sub hl [0, 1, 2, 3, 4, 5, 6] rfl))
            refine lv_icmp_eq (x := (m_beside cell (nI (i33)))) (y := (-1)) (tgt := 64) hx hb dX6_neighbour_50 (by decide) (fun c_12 => ?_) (fun c_12 => ?_)
            · refine lv_iload_n hx hb dX6_neighbour_64 rfl (lv_at hl 3 rfl) ?_
              exact (hWW _ _ _ _ _).mp (J65_15 _ (by simp only [if_pos c_12]) _ _ hP hD hS _ (lv_sub hl [0, 1, 2, 3, 4, 5, 6] rfl))
            · refine lv_iload hx hb dX6_neighbour_53 (lv_at hl 2 rfl) ?_
              refine lv_iload_n hx hb dX6_neighbour_55 rfl (lv_at hl 6 rfl) ?_
              refine lv_icmp_ne (x := z33.2) (y := w) (tgt := 64) hx hb dX6_neighbour_56 (by decide) (fun c_24 => ?_) (fun c_24 => ?_)
              · refine lv_iload_n hx hb dX6_neighbour_64 rfl (lv_at hl 3 rfl) ?_
                exact (hWW _ _ _ _ _).mp (J65_15 _ (by simp only [if_neg c_12, if_neg c_24]) _ _ hP hD hS _ (lv_sub hl [0, 1, 2, 3, 4, 5, 6] rfl))
              · refine lv_iload hx hb dX6_neighbour_59 (lv_at hl 0 rfl) ?_
                refine lv_goto (tgt := 65) hx hb dX6_neighbour_61 (by decide) ?_
                exact (hWW _ _ _ _ _).mp (J65_15 _ (by simp only [if_neg c_12, if_pos c_24]) _ _ hP hD hS _ (lv_sub hl [0, 1, 2, 3, 4, 5, 6] rfl))
      exact (hWW _ _ _ _ _).mp (L33 (4 + 1) 0 (Nat.zero_le _) (by omega) ((-1), nI (0)) rfl  _ _ hP hD hS _ (lv_sub hl [0, 1, 2, 3, 4, 5] rfl))
    · refine lv_iconst (v := nI (0)) hx hb dX6_neighbour_23 (by decide) ?_
      exact m_iret (v := nI (0)) hx hb hr hlocks hP hK hD hS dX6_neighbour_24 (Eq.trans (by unfold m_neighbour_j17; simp only [if_neg c_8]) hR_6.symm) (Eq.trans (by unfold m_neighbour_j17_s; simp only [if_neg c_8]) hR_7.symm)
  refine lv_if_eq (x := (m_isCell cell)) (tgt := 16) hx hb dX6_neighbour_5 (by decide) (fun c_1 => ?_) (fun c_1 => ?_)
  · refine lv_iconst (v := nI (1)) hx hb dX6_neighbour_16 (by decide) ?_
    exact (hWW _ _ _ _ _).mp (J17_4 _ (by simp only [if_pos c_1]) _ _ hP hD hS _ (lv_sub hl [0, 1, 2] rfl))
  · refine lv_iload_n hx hb dX6_neighbour_8 rfl (lv_at hl 2 rfl) ?_
    refine lv_if_lt (x := w) (tgt := 16) hx hb dX6_neighbour_9 (by decide) (fun c_25 => ?_) (fun c_25 => ?_)
    · refine lv_iconst (v := nI (1)) hx hb dX6_neighbour_16 (by decide) ?_
      exact (hWW _ _ _ _ _).mp (J17_4 _ (by simp only [if_neg c_1, if_pos c_25]) _ _ hP hD hS _ (lv_sub hl [0, 1, 2] rfl))
    · refine lv_iconst (v := nI (0)) hx hb dX6_neighbour_12 (by decide) ?_
      refine lv_goto (tgt := 17) hx hb dX6_neighbour_13 (by decide) ?_
      exact (hWW _ _ _ _ _).mp (J17_4 _ (by simp only [if_neg c_1, if_neg c_25]) _ _ hP hD hS _ (lv_sub hl [0, 1, 2] rfl))

def m_lakes_x13 (σ : Sg) (z13 : Int32) : Int32 := z13
def m_lakes_x13_s (σ : Sg) (z13 : Int32) : Sg := (m_gather_s (si σ 0 (0) (nI (0))))
def m_lakes_j77 (σ : Sg) (i13 : Nat) (z13 : Int32) (z24 : Int32) (x_8 : Int32) : Int32 := (z13) + (x_8)
def m_lakes_x24 (σ : Sg) (i13 : Nat) (z13 : Int32) (z24 : Int32) : Int32 := (m_lakes_j77 σ i13 z13 z24 (if z24 = 0 then nI (0) else nI (1)))
def m_lakes_j60 (σ : Sg) (i13 : Nat) (i24 : Nat) (z24 : Int32) (x_14 : Int32) : Int32 := x_14
def m_lakes_b24 (σ : Sg) (i13 : Nat) (i24 : Nat) (z24 : Int32) : Int32 := (m_lakes_j60 σ i13 i24 z24 (if z24 = 0 then (if ((m_gather_s (si σ 0 (0) (nI (0)))).1 7 i24) = nI (i13) then (if (m_isLake (m_gather_s (si σ 0 (0) (nI (0)))) (nI (i24))) = 0 then nI (0) else nI (1)) else nI (0)) else nI (1)))
def m_lakes_b13 (σ : Sg) (i13 : Nat) (z13 : Int32) : Int32 := (m_lakes_x24 σ i13 z13 (lp (m_lakes_b24 σ i13) 25 (nI (0))))
def m_lakes (σ : Sg) : Int32 := (m_lakes_x13 σ (lp (m_lakes_b13 σ) 25 (nI (0))))
def m_lakes_s (σ : Sg) : Sg := (m_lakes_x13_s σ (lp (m_lakes_b13 σ) 25 (nI (0))))
set_option maxHeartbeats 4000000 in
set_option maxRecDepth 100000 in
theorem cm_lakes (l : Launch) (G : va_G) (cI cZ : ClassId) (a : Nat → Nat) (σ : Sg)  : mI l yX6_lakes wsX6_lakes ({ frames := 2, cells := 0, slots := 0, locals := 45 } : Room) G cI cZ a σ [] (m_lakes σ) (m_lakes_s σ) := by
  unfold mI
  refine Met.ofW (cc := cX6_lakes) (maxL := 5) (ret := (some .int)) (by decide) rfl ?_
  intro p e s m args below meth c s₁ B hml hv
  obtain ⟨rfl, hP, hK, hD⟩ := hv
  have hx := B.exec
  have hb := B.bytes
  have hr := B.returns
  have hts := atoms_spec (ws := wsX6_lakes) B.pre
  have hown : s.vm.findClass RX6 = some m.cls := findClass_of_methodNamed B.named
  have hlocks := B.notSynchronized
  have hS : va_S (mA a) s.heap s.heap [] := va_S.rf
  have hin : ∀ w ∈ wsX60, w ∈ wsX6_lakes := fun w h => List.mem_cons_of_mem _ (List.mem_append_right _ h)
  have hl := lv_entry ([.ref (a 0)]) (n := 5) (Nat.le_of_ble_eq_true rfl)
  rw [lg_entry_eq]
  generalize (lg_sl ([.ref (a 0)]) ++ List.replicate (5 - (lg_sl ([.ref (a 0)])).length) Slot.unset).toArray = ls at hl ⊢
  have hl : lv_has ls 5 [(0, .ref (a 0))] := hl
  refine w_named (fun WW hWW => ?_)
  have hP : va_P G vwCl (wm cI cZ a σ) s.heap := hP
  refine lv_aload_n hx hb dX6_lakes_0 rfl (lv_at hl 0 rfl) ?_
  refine lv_iconst (v := nI (0)) hx hb dX6_lakes_1 (by decide) ?_
  refine m_putI (v := nI (0)) hx hb hts hin hown hK hP hD hS 0 (by decide) rfl (by decide +kernel) rfl (index := 90) (List.mem_of_getElem? (i := 1) rfl) dX6_lakes_2 (fun H locs hP hD hS => ?_)
  refine lv_aload_n hx hb dX6_lakes_5 rfl (lv_at hl 0 rfl) ?_
  refine m_callV (As := []) (rest := []) (fun _ h => h) ⟨hx, hb, hml, hown, hts⟩ (cm_gather l G cI cZ a (si σ 0 (0) (nI (0)))   ) (cwV 0 hts gX6_lakes_X6_gather rfl rfl rfl (by decide +kernel) ⟨Nat.le_of_ble_eq_true rfl, Nat.le_of_ble_eq_true rfl⟩) hK hP hD hS rfl hl.1 rfl (Nat.le_of_ble_eq_true rfl) dX6_lakes_6 ⟨Nat.zero_le _, Nat.zero_le _⟩ (fun H locs hP hD _ _ hS => ?_)
  refine lv_iconst (v := nI (0)) hx hb dX6_lakes_9 (by decide) ?_
  refine lv_istore_n (lv' := [(1, .int (nI (0))), (0, .ref (a 0))]) hx hb dX6_lakes_10 rfl hl (by decide) rfl (fun ls hl => ?_)
  refine lv_iconst (v := nI (0)) hx hb dX6_lakes_11 (by decide) ?_
  refine lv_istore_n (lv' := [(2, .int (nI (0))), (1, .int (nI (0))), (0, .ref (a 0))]) hx hb dX6_lakes_12 rfl hl (by decide) rfl (fun ls hl => ?_)
  have L13 : ∀ (n13 i13 : Nat), i13 ≤ 25 → 25 + 1 ≤ i13 + n13 → ∀ (z13 : Int32), z13 = lp (m_lakes_b13 σ) i13 (nI (0)) → ∀ (H : Heap) (locs : List Loc), va_P G vwCl (wm cI cZ a (m_gather_s (si σ 0 (0) (nI (0))))) H → va_D (mA a) (wm cI cZ a (m_gather_s (si σ 0 (0) (nI (0))))) → va_S (mA a) s.heap H locs → ∀ (ls : Array Slot), lv_has ls 5 [(2, .int (nI (i13))), (1, .int (z13)), (0, .ref (a 0))] → WW H locs 0 0 (F0 m 13 ls []) := by
    intro n13
    induction n13 with
    | zero => intro i13 h1 h2; exact absurd h2 (by omega)
    | succ n13 ih13 =>
      intro i13 hi13 hn13 z13 hz13  H locs hP hD hS ls hl
      refine (hWW _ _ _ _ _).mpr ?_
      refine lv_iload_n hx hb dX6_lakes_13 rfl (lv_at hl 0 rfl) ?_
      refine lv_bipush (v := nI (25)) hx hb dX6_lakes_14 (by decide) ?_
      refine n_icmp_ge (x := i13) (y := 25) (tgt := 85) hx hb (by omega) (by omega) dX6_lakes_16 (by decide) (fun c_1 => ?_) (fun c_1 => ?_)
      · have hiN : 25 = i13 := by omega
        subst hiN
        have hR_2 : m_lakes σ = m_lakes_x13 σ z13 := (by subst hz13; unfold m_lakes; rfl)
        have hR_3 : m_lakes_s σ = m_lakes_x13_s σ z13 := (by subst hz13; unfold m_lakes_s; rfl)
        refine lv_iload_n hx hb dX6_lakes_85 rfl (lv_at hl 1 rfl) ?_
        exact m_iret (v := z13) hx hb hr hlocks hP hK hD hS dX6_lakes_86 (Eq.trans (by unfold m_lakes_x13; rfl) hR_2.symm) (Eq.trans (by unfold m_lakes_x13_s; rfl) hR_3.symm)
      · refine lv_iconst (v := nI (0)) hx hb dX6_lakes_19 (by decide) ?_
        refine lv_istore_n (lv' := [(3, .int (nI (0))), (2, .int (nI (i13))), (1, .int (z13)), (0, .ref (a 0))]) hx hb dX6_lakes_20 rfl hl (by decide) rfl (fun ls hl => ?_)
        refine lv_iconst (v := nI (0)) hx hb dX6_lakes_21 (by decide) ?_
        refine lv_istore (lv' := [(4, .int (nI (0))), (3, .int (nI (0))), (2, .int (nI (i13))), (1, .int (z13)), (0, .ref (a 0))]) hx hb dX6_lakes_22 hl (by decide) rfl (fun ls hl => ?_)
        have L24 : ∀ (n24 i24 : Nat), i24 ≤ 25 → 25 + 1 ≤ i24 + n24 → ∀ (z24 : Int32), z24 = lp (m_lakes_b24 σ i13) i24 (nI (0)) → ∀ (H : Heap) (locs : List Loc), va_P G vwCl (wm cI cZ a (m_gather_s (si σ 0 (0) (nI (0))))) H → va_D (mA a) (wm cI cZ a (m_gather_s (si σ 0 (0) (nI (0))))) → va_S (mA a) s.heap H locs → ∀ (ls : Array Slot), lv_has ls 5 [(4, .int (nI (i24))), (3, .int (z24)), (2, .int (nI (i13))), (1, .int (z13)), (0, .ref (a 0))] → WW H locs 0 0 (F0 m 24 ls []) := by
          intro n24
          induction n24 with
          | zero => intro i24 h1 h2; exact absurd h2 (by omega)
          | succ n24 ih24 =>
            intro i24 hi24 hn24 z24 hz24  H locs hP hD hS ls hl
            refine (hWW _ _ _ _ _).mpr ?_
            refine lv_iload hx hb dX6_lakes_24 (lv_at hl 0 rfl) ?_
            refine lv_bipush (v := nI (25)) hx hb dX6_lakes_26 (by decide) ?_
            refine n_icmp_ge (x := i24) (y := 25) (tgt := 67) hx hb (by omega) (by omega) dX6_lakes_28 (by decide) (fun c_4 => ?_) (fun c_4 => ?_)
            · have hiN : 25 = i24 := by omega
              subst hiN
              have hR_5 : m_lakes_b13 σ i13 z13 = m_lakes_x24 σ i13 z13 z24 := (by subst hz24; unfold m_lakes_b13; rfl)
              refine lv_iload_n hx hb dX6_lakes_67 rfl (lv_at hl 3 rfl) ?_
              refine lv_iload_n hx hb dX6_lakes_68 rfl (lv_at hl 1 rfl) ?_
              have J77_9 : ∀ (x_8 : Int32), x_8 = (if z24 = 0 then nI (0) else nI (1)) → ∀ (H : Heap) (locs : List Loc), va_P G vwCl (wm cI cZ a (m_gather_s (si σ 0 (0) (nI (0))))) H → va_D (mA a) (wm cI cZ a (m_gather_s (si σ 0 (0) (nI (0))))) → va_S (mA a) s.heap H locs → ∀ (ls : Array Slot), lv_has ls 5 [(4, .int (nI (25))), (3, .int (z24)), (2, .int (nI (i13))), (1, .int (z13)), (0, .ref (a 0))] → WW H locs 0 0 (F0 m 77 ls [.int (x_8), .int (z13)]) := by
                intro x_8 h_10 H locs hP hD hS ls hl
                refine (hWW _ _ _ _ _).mpr ?_
                have hR_11 : m_lakes_b13 σ i13 z13 = m_lakes_j77 σ i13 z13 z24 x_8 := (Eq.trans hR_5 (by subst h_10; unfold m_lakes_x24; rfl))
                refine lv_iadd (x := z13) (y := x_8) hx hb dX6_lakes_77 ?_
                refine lv_istore_n (lv' := [(1, .int ((z13) + (x_8))), (4, .int (nI (25))), (3, .int (z24)), (2, .int (nI (i13))), (0, .ref (a 0))]) hx hb dX6_lakes_78 rfl hl (by decide) rfl (fun ls hl => ?_)
                refine n_iinc (x := i13) (dN := 1) (k := 3) (lv' := [(2, .int (nI (i13 + 1))), (1, .int ((z13) + (x_8))), (4, .int (nI (25))), (3, .int (z24)), (0, .ref (a 0))]) hx hb dX6_lakes_79 hl rfl (by decide) rfl (fun ls hl => ?_)
                refine lv_goto (tgt := 13) hx hb dX6_lakes_82 (by decide) ?_
                exact (hWW _ _ _ _ _).mp (ih13 (i13 + 1) (by omega) (by omega) ((z13) + (x_8)) (by show _ = m_lakes_b13 σ i13 (lp (m_lakes_b13 σ) i13 (nI (0))); rw [← hz13]; exact (Eq.trans (by unfold m_lakes_j77; rfl) hR_11.symm))  _ _ hP hD hS _ (lv_sub hl [0, 1, 4] rfl))
              refine lv_if_eq (x := z24) (tgt := 76) hx hb dX6_lakes_69 (by decide) (fun c_6 => ?_) (fun c_6 => ?_)
              · refine lv_iconst (v := nI (0)) hx hb dX6_lakes_76 (by decide) ?_
                exact (hWW _ _ _ _ _).mp (J77_9 _ (by simp only [if_pos c_6]) _ _ hP hD hS _ (lv_sub hl [0, 1, 2, 3, 4] rfl))
              · refine lv_iconst (v := nI (1)) hx hb dX6_lakes_72 (by decide) ?_
                refine lv_goto (tgt := 77) hx hb dX6_lakes_73 (by decide) ?_
                exact (hWW _ _ _ _ _).mp (J77_9 _ (by simp only [if_neg c_6]) _ _ hP hD hS _ (lv_sub hl [0, 1, 2, 3, 4] rfl))
            · refine lv_iload_n hx hb dX6_lakes_31 rfl (lv_at hl 1 rfl) ?_
              have J60_15 : ∀ (x_14 : Int32), x_14 = (if z24 = 0 then (if ((m_gather_s (si σ 0 (0) (nI (0)))).1 7 i24) = nI (i13) then (if (m_isLake (m_gather_s (si σ 0 (0) (nI (0)))) (nI (i24))) = 0 then nI (0) else nI (1)) else nI (0)) else nI (1)) → ∀ (H : Heap) (locs : List Loc), va_P G vwCl (wm cI cZ a (m_gather_s (si σ 0 (0) (nI (0))))) H → va_D (mA a) (wm cI cZ a (m_gather_s (si σ 0 (0) (nI (0))))) → va_S (mA a) s.heap H locs → ∀ (ls : Array Slot), lv_has ls 5 [(4, .int (nI (i24))), (3, .int (z24)), (2, .int (nI (i13))), (1, .int (z13)), (0, .ref (a 0))] → WW H locs 0 0 (F0 m 60 ls [.int (x_14)]) := by
                intro x_14 h_16 H locs hP hD hS ls hl
                refine (hWW _ _ _ _ _).mpr ?_
                have hR_17 : m_lakes_b24 σ i13 i24 z24 = m_lakes_j60 σ i13 i24 z24 x_14 := (by subst h_16; unfold m_lakes_b24; rfl)
                refine lv_istore_n (lv' := [(3, .int (x_14)), (4, .int (nI (i24))), (2, .int (nI (i13))), (1, .int (z13)), (0, .ref (a 0))]) hx hb dX6_lakes_60 rfl hl (by decide) rfl (fun ls hl => ?_)
                refine n_iinc (x := i24) (dN := 1) (k := 1) (lv' := [(4, .int (nI (i24 + 1))), (3, .int (x_14)), (2, .int (nI (i13))), (1, .int (z13)), (0, .ref (a 0))]) hx hb dX6_lakes_61 hl rfl (by decide) rfl (fun ls hl => ?_)
                refine lv_goto (tgt := 24) hx hb dX6_lakes_64 (by decide) ?_
                exact (hWW _ _ _ _ _).mp (ih24 (i24 + 1) (by omega) (by omega) (x_14) (by show _ = m_lakes_b24 σ i13 i24 (lp (m_lakes_b24 σ i13) i24 (nI (0))); rw [← hz24]; exact (Eq.trans (by unfold m_lakes_j60; rfl) hR_17.symm))  _ _ hP hD hS _ (lv_sub hl [0, 1, 2, 3, 4] rfl))
              refine lv_if_ne (x := z24) (tgt := 55) hx hb dX6_lakes_32 (by decide) (fun c_12 => ?_) (fun c_12 => ?_)
              · refine lv_iconst (v := nI (1)) hx hb dX6_lakes_55 (by decide) ?_
                refine lv_goto (tgt := 60) hx hb dX6_lakes_56 (by decide) ?_
                exact (hWW _ _ _ _ _).mp (J60_15 _ (by simp only [if_neg c_12]) _ _ hP hD hS _ (lv_sub hl [0, 1, 2, 3, 4] rfl))
              · refine lv_aload_n hx hb dX6_lakes_35 rfl (lv_at hl 4 rfl) ?_
                refine m_get (v := .ref (a 7)) hx hb hts hin hown hK hP 7 (by decide) rfl (index := 25) (List.mem_of_getElem? (i := 2) rfl) dX6_lakes_36 ?_
                refine lv_iload hx hb dX6_lakes_39 (lv_at hl 0 rfl) ?_
                refine m_ald (j := i24) hx hb hK hP 6 7 rfl (by decide) (by omega) dX6_lakes_41 ?_
                refine W.eq (g2 := F0 m 42 ls [.int (((m_gather_s (si σ 0 (0) (nI (0)))).1 7 i24))]) rfl ?_
                refine lv_iload_n hx hb dX6_lakes_42 rfl (lv_at hl 2 rfl) ?_
                refine lv_icmp_ne (x := ((m_gather_s (si σ 0 (0) (nI (0)))).1 7 i24)) (y := nI (i13)) (tgt := 59) hx hb dX6_lakes_43 (by decide) (fun c_18 => ?_) (fun c_18 => ?_)
                · refine lv_iconst (v := nI (0)) hx hb dX6_lakes_59 (by decide) ?_
                  exact (hWW _ _ _ _ _).mp (J60_15 _ (by simp only [if_pos c_12, if_neg c_18]) _ _ hP hD hS _ (lv_sub hl [0, 1, 2, 3, 4] rfl))
                · refine lv_aload_n hx hb dX6_lakes_46 rfl (lv_at hl 4 rfl) ?_
                  refine lv_iload hx hb dX6_lakes_47 (lv_at hl 0 rfl) ?_
                  refine m_callI (As := [.int (nI (i24))]) (rest := []) (fun _ h => h) ⟨hx, hb, hml, hown, hts⟩ (cm_isLake l G cI cZ a (m_gather_s (si σ 0 (0) (nI (0))))  (nI (i24)) (vp_in_nI (by omega) (by decide))) (cwV 1 hts gX6_lakes_X6_isLake rfl rfl rfl (by decide +kernel) ⟨Nat.le_of_ble_eq_true rfl, Nat.le_of_ble_eq_true rfl⟩) hK hP hD hS rfl hl.1 rfl (Nat.le_of_ble_eq_true rfl) dX6_lakes_49 ⟨Nat.zero_le _, Nat.zero_le _⟩ (fun H locs hP hD _ _ hS => ?_)
                  refine lv_if_eq (x := (m_isLake (m_gather_s (si σ 0 (0) (nI (0)))) (nI (i24)))) (tgt := 59) hx hb dX6_lakes_52 (by decide) (fun c_19 => ?_) (fun c_19 => ?_)
                  · refine lv_iconst (v := nI (0)) hx hb dX6_lakes_59 (by decide) ?_
                    exact (hWW _ _ _ _ _).mp (J60_15 _ (by simp only [if_pos c_12, if_pos c_18, if_pos c_19]) _ _ hP hD hS _ (lv_sub hl [0, 1, 2, 3, 4] rfl))
                  · refine lv_iconst (v := nI (1)) hx hb dX6_lakes_55 (by decide) ?_
                    refine lv_goto (tgt := 60) hx hb dX6_lakes_56 (by decide) ?_
                    exact (hWW _ _ _ _ _).mp (J60_15 _ (by simp only [if_pos c_12, if_pos c_18, if_neg c_19]) _ _ hP hD hS _ (lv_sub hl [0, 1, 2, 3, 4] rfl))
        exact (hWW _ _ _ _ _).mp (L24 (25 + 1) 0 (Nat.zero_le _) (by omega) (nI (0)) rfl  _ _ hP hD hS _ (lv_sub hl [0, 1, 2, 3, 4] rfl))
  exact (hWW _ _ _ _ _).mp (L13 (25 + 1) 0 (Nat.zero_le _) (by omega) (nI (0)) rfl  _ _ hP hD hS _ (lv_sub hl [0, 1, 2] rfl))

def m_houseOf_j93 (σ : Sg) (h : Int32) (what : Int32) (x_3 : Int32) (x_12 : Int32) : Int32 := x_12
def m_houseOf_j93_s (σ : Sg) (h : Int32) (what : Int32) (x_3 : Int32) (x_12 : Int32) : Sg := (m_refused_s σ x_3)
def m_houseOf_j59 (σ : Sg) (h : Int32) (what : Int32) (x_3 : Int32) (x_20 : Int32) : Int32 := x_20
def m_houseOf_j59_s (σ : Sg) (h : Int32) (what : Int32) (x_3 : Int32) (x_20 : Int32) : Sg := (m_refused_s σ x_3)
def m_houseOf_j27 (σ : Sg) (h : Int32) (what : Int32) (x_3 : Int32) : Int32 := (if (m_refused σ x_3) = 0 then (if nI (2) ≤ what then (m_houseOf_j93 σ h what x_3 (if what = nI (2) then ((m_refused_s σ x_3).1 17 ((h).toNatClampNeg)) else (if what = nI (3) then ((m_refused_s σ x_3).1 18 ((h).toNatClampNeg)) else (m_worth (m_refused_s σ x_3) h)))) else (m_houseOf_j59 σ h what x_3 (if what = 0 then ((m_refused_s σ x_3).1 14 ((h).toNatClampNeg)) else ((m_refused_s σ x_3).1 15 ((h).toNatClampNeg))))) else nI (0))
def m_houseOf_j27_s (σ : Sg) (h : Int32) (what : Int32) (x_3 : Int32) : Sg := (if (m_refused σ x_3) = 0 then (if nI (2) ≤ what then (m_houseOf_j93_s σ h what x_3 (if what = nI (2) then ((m_refused_s σ x_3).1 17 ((h).toNatClampNeg)) else (if what = nI (3) then ((m_refused_s σ x_3).1 18 ((h).toNatClampNeg)) else (m_worth (m_refused_s σ x_3) h)))) else (m_houseOf_j59_s σ h what x_3 (if what = 0 then ((m_refused_s σ x_3).1 14 ((h).toNatClampNeg)) else ((m_refused_s σ x_3).1 15 ((h).toNatClampNeg))))) else (m_refused_s σ x_3))
def m_houseOf (σ : Sg) (h : Int32) (what : Int32) : Int32 := (m_houseOf_j27 σ h what (if (m_isHouse σ h) = 0 then nI (1) else (if (m_within what (nI (0)) (nI (4))) = 0 then nI (2) else nI (0))))
def m_houseOf_s (σ : Sg) (h : Int32) (what : Int32) : Sg := (m_houseOf_j27_s σ h what (if (m_isHouse σ h) = 0 then nI (1) else (if (m_within what (nI (0)) (nI (4))) = 0 then nI (2) else nI (0))))
set_option maxHeartbeats 4000000 in
set_option maxRecDepth 100000 in
theorem cm_houseOf (l : Launch) (G : va_G) (cI cZ : ClassId) (a : Nat → Nat) (σ : Sg) (h : Int32) (what : Int32) (hO : mOK σ) : mI l yX6_houseOf wsX6_houseOf ({ frames := 2, cells := 0, slots := 0, locals := 47 } : Room) G cI cZ a σ [.int (h), .int (what)] (m_houseOf σ h what) (m_houseOf_s σ h what) := by
  unfold mI
  refine Met.ofW (cc := cX6_houseOf) (maxL := 3) (ret := (some .int)) (by decide) rfl ?_
  intro p e s m args below meth c s₁ B hml hv
  obtain ⟨rfl, hP, hK, hD⟩ := hv
  have hx := B.exec
  have hb := B.bytes
  have hr := B.returns
  have hts := atoms_spec (ws := wsX6_houseOf) B.pre
  have hown : s.vm.findClass RX6 = some m.cls := findClass_of_methodNamed B.named
  have hlocks := B.notSynchronized
  have hS : va_S (mA a) s.heap s.heap [] := va_S.rf
  have hin : ∀ w ∈ wsX60, w ∈ wsX6_houseOf := fun w h => List.mem_cons_of_mem _ (List.mem_append_right _ h)
  have hl := lv_entry ([.ref (a 0), .int (h), .int (what)]) (n := 3) (Nat.le_of_ble_eq_true rfl)
  rw [lg_entry_eq]
  generalize (lg_sl ([.ref (a 0), .int (h), .int (what)]) ++ List.replicate (3 - (lg_sl ([.ref (a 0), .int (h), .int (what)])).length) Slot.unset).toArray = ls at hl ⊢
  have hl : lv_has ls 3 [(0, .ref (a 0)), (1, .int (h)), (2, .int (what))] := hl
  refine w_named (fun WW hWW => ?_)
  have hP : va_P G vwCl (wm cI cZ a σ) s.heap := hP
  refine lv_aload_n hx hb dX6_houseOf_0 rfl (lv_at hl 0 rfl) ?_
  refine lv_aload_n hx hb dX6_houseOf_1 rfl (lv_at hl 0 rfl) ?_
  refine lv_iload_n hx hb dX6_houseOf_2 rfl (lv_at hl 1 rfl) ?_
  refine m_callI (As := [.int (h)]) (rest := [.ref (a 0)]) (fun _ h => h) ⟨hx, hb, hml, hown, hts⟩ (cm_isHouse l G cI cZ a σ  h ) (cwV 1 hts gX6_houseOf_X6_isHouse rfl rfl rfl (by decide +kernel) ⟨Nat.le_of_ble_eq_true rfl, Nat.le_of_ble_eq_true rfl⟩) hK hP hD hS rfl hl.1 rfl (Nat.le_of_ble_eq_true rfl) dX6_houseOf_3 ⟨Nat.zero_le _, Nat.zero_le _⟩ (fun H locs hP hD _ _ hS => ?_)
  have J27_4 : ∀ (x_3 : Int32), x_3 = (if (m_isHouse σ h) = 0 then nI (1) else (if (m_within what (nI (0)) (nI (4))) = 0 then nI (2) else nI (0))) → ∀ (H : Heap) (locs : List Loc), va_P G vwCl (wm cI cZ a σ) H → va_D (mA a) (wm cI cZ a σ) → va_S (mA a) s.heap H locs → ∀ (ls : Array Slot), lv_has ls 3 [(0, .ref (a 0)), (1, .int (h)), (2, .int (what))] → WW H locs 0 0 (F0 m 27 ls [.int (x_3), .ref (a 0)]) := by
    intro x_3 h_5 H locs hP hD hS ls hl
    refine (hWW _ _ _ _ _).mpr ?_
    have hR_6 : m_houseOf σ h what = m_houseOf_j27 σ h what x_3 := (by subst h_5; unfold m_houseOf; rfl)
    have hR_7 : m_houseOf_s σ h what = m_houseOf_j27_s σ h what x_3 := (by subst h_5; unfold m_houseOf_s; rfl)
    refine m_callI (As := [.int (x_3)]) (rest := []) (fun _ h => h) ⟨hx, hb, hml, hown, hts⟩ (cm_refused l G cI cZ a σ  x_3 ) (cwV 1 hts gX6_houseOf_X6_refused rfl rfl rfl (by decide +kernel) ⟨Nat.le_of_ble_eq_true rfl, Nat.le_of_ble_eq_true rfl⟩) hK hP hD hS rfl hl.1 rfl (Nat.le_of_ble_eq_true rfl) dX6_houseOf_27 ⟨Nat.zero_le _, Nat.zero_le _⟩ (fun H locs hP hD _ _ hS => ?_)
    refine lv_if_eq (x := (m_refused σ x_3)) (tgt := 35) hx hb dX6_houseOf_30 (by decide) (fun c_8 => ?_) (fun c_8 => ?_)
    · have hh : vp_in h (σ.1 13 0).toNatClampNeg := w_below hO.1 (by decide) (ck_tri h_5 (m_refused_0 c_8)).1
      have h13 := vp_lt hO.1
      have hq : vp_in h 10 := vp_wide hh (by omega)
      refine lv_iload_n hx hb dX6_houseOf_35 rfl (lv_at hl 2 rfl) ?_
      refine lv_iconst (v := nI (2)) hx hb dX6_houseOf_36 (by decide) ?_
      refine lv_icmp_ge (x := what) (y := nI (2)) (tgt := 60) hx hb dX6_houseOf_37 (by decide) (fun c_9 => ?_) (fun c_9 => ?_)
      · refine lv_iload_n hx hb dX6_houseOf_60 rfl (lv_at hl 2 rfl) ?_
        refine lv_iconst (v := nI (2)) hx hb dX6_houseOf_61 (by decide) ?_
        have J93_13 : ∀ (x_12 : Int32), x_12 = (if what = nI (2) then ((m_refused_s σ x_3).1 17 ((h).toNatClampNeg)) else (if what = nI (3) then ((m_refused_s σ x_3).1 18 ((h).toNatClampNeg)) else (m_worth (m_refused_s σ x_3) h))) → ∀ (H : Heap) (locs : List Loc), va_P G vwCl (wm cI cZ a (m_refused_s σ x_3)) H → va_D (mA a) (wm cI cZ a (m_refused_s σ x_3)) → va_S (mA a) s.heap H locs → ∀ (ls : Array Slot), lv_has ls 3 [(0, .ref (a 0)), (1, .int (h)), (2, .int (what))] → WW H locs 0 0 (F0 m 93 ls [.int (x_12)]) := by
          intro x_12 h_14 H locs hP hD hS ls hl
          refine (hWW _ _ _ _ _).mpr ?_
          have hR_15 : m_houseOf σ h what = m_houseOf_j93 σ h what x_3 x_12 := (Eq.trans hR_6 (by subst h_14; unfold m_houseOf_j27; simp only [if_pos c_8, if_pos c_9]))
          have hR_16 : m_houseOf_s σ h what = m_houseOf_j93_s σ h what x_3 x_12 := (Eq.trans hR_7 (by subst h_14; unfold m_houseOf_j27_s; simp only [if_pos c_8, if_pos c_9]))
          exact m_iret (v := x_12) hx hb hr hlocks hP hK hD hS dX6_houseOf_93 (Eq.trans (by unfold m_houseOf_j93; rfl) hR_15.symm) (Eq.trans (by unfold m_houseOf_j93_s; rfl) hR_16.symm)
        refine lv_icmp_ne (x := what) (y := nI (2)) (tgt := 74) hx hb dX6_houseOf_62 (by decide) (fun c_10 => ?_) (fun c_10 => ?_)
        · refine lv_iload_n hx hb dX6_houseOf_74 rfl (lv_at hl 2 rfl) ?_
          refine lv_iconst (v := nI (3)) hx hb dX6_houseOf_75 (by decide) ?_
          refine lv_icmp_ne (x := what) (y := nI (3)) (tgt := 88) hx hb dX6_houseOf_76 (by decide) (fun c_17 => ?_) (fun c_17 => ?_)
          · refine lv_aload_n hx hb dX6_houseOf_88 rfl (lv_at hl 0 rfl) ?_
            refine lv_iload_n hx hb dX6_houseOf_89 rfl (lv_at hl 1 rfl) ?_
            refine m_callI (As := [.int (h)]) (rest := []) (fun _ h => h) ⟨hx, hb, hml, hown, hts⟩ (cm_worth l G cI cZ a (m_refused_s σ x_3)  h hO hh) (cwV 1 hts gX6_houseOf_X6_worth rfl rfl rfl (by decide +kernel) ⟨Nat.le_of_ble_eq_true rfl, Nat.le_of_ble_eq_true rfl⟩) hK hP hD hS rfl hl.1 rfl (Nat.le_of_ble_eq_true rfl) dX6_houseOf_90 ⟨Nat.zero_le _, Nat.zero_le _⟩ (fun H locs hP hD _ _ hS => ?_)
            exact (hWW _ _ _ _ _).mp (J93_13 _ (by simp only [if_neg c_10, if_neg c_17]) _ _ hP hD hS _ (lv_sub hl [0, 1, 2] rfl))
          · refine lv_aload_n hx hb dX6_houseOf_79 rfl (lv_at hl 0 rfl) ?_
            refine m_get (v := .ref (a 18)) hx hb hts hin hown hK hP 18 (by decide) rfl (index := 56) (List.mem_of_getElem? (i := 4) rfl) dX6_houseOf_80 ?_
            refine lv_iload_n hx hb dX6_houseOf_83 rfl (lv_at hl 1 rfl) ?_
            refine m_aldI (j := h) hx hb hK hP 16 18 rfl (hq) dX6_houseOf_84 ?_
            refine W.eq (g2 := F0 m 85 ls [.int (((m_refused_s σ x_3).1 18 ((h).toNatClampNeg)))]) rfl ?_
            refine lv_goto (tgt := 93) hx hb dX6_houseOf_85 (by decide) ?_
            exact (hWW _ _ _ _ _).mp (J93_13 _ (by simp only [if_neg c_10, if_pos c_17]) _ _ hP hD hS _ (lv_sub hl [0, 1, 2] rfl))
        · refine lv_aload_n hx hb dX6_houseOf_65 rfl (lv_at hl 0 rfl) ?_
          refine m_get (v := .ref (a 17)) hx hb hts hin hown hK hP 17 (by decide) rfl (index := 53) (List.mem_of_getElem? (i := 3) rfl) dX6_houseOf_66 ?_
          refine lv_iload_n hx hb dX6_houseOf_69 rfl (lv_at hl 1 rfl) ?_
          refine m_aldI (j := h) hx hb hK hP 15 17 rfl (hq) dX6_houseOf_70 ?_
          refine W.eq (g2 := F0 m 71 ls [.int (((m_refused_s σ x_3).1 17 ((h).toNatClampNeg)))]) rfl ?_
          refine lv_goto (tgt := 93) hx hb dX6_houseOf_71 (by decide) ?_
          exact (hWW _ _ _ _ _).mp (J93_13 _ (by simp only [if_pos c_10]) _ _ hP hD hS _ (lv_sub hl [0, 1, 2] rfl))
      · refine lv_iload_n hx hb dX6_houseOf_40 rfl (lv_at hl 2 rfl) ?_
        have J59_21 : ∀ (x_20 : Int32), x_20 = (if what = 0 then ((m_refused_s σ x_3).1 14 ((h).toNatClampNeg)) else ((m_refused_s σ x_3).1 15 ((h).toNatClampNeg))) → ∀ (H : Heap) (locs : List Loc), va_P G vwCl (wm cI cZ a (m_refused_s σ x_3)) H → va_D (mA a) (wm cI cZ a (m_refused_s σ x_3)) → va_S (mA a) s.heap H locs → ∀ (ls : Array Slot), lv_has ls 3 [(0, .ref (a 0)), (1, .int (h)), (2, .int (what))] → WW H locs 0 0 (F0 m 59 ls [.int (x_20)]) := by
          intro x_20 h_22 H locs hP hD hS ls hl
          refine (hWW _ _ _ _ _).mpr ?_
          have hR_23 : m_houseOf σ h what = m_houseOf_j59 σ h what x_3 x_20 := (Eq.trans hR_6 (by subst h_22; unfold m_houseOf_j27; simp only [if_pos c_8, if_neg c_9]))
          have hR_24 : m_houseOf_s σ h what = m_houseOf_j59_s σ h what x_3 x_20 := (Eq.trans hR_7 (by subst h_22; unfold m_houseOf_j27_s; simp only [if_pos c_8, if_neg c_9]))
          exact m_iret (v := x_20) hx hb hr hlocks hP hK hD hS dX6_houseOf_59 (Eq.trans (by unfold m_houseOf_j59; rfl) hR_23.symm) (Eq.trans (by unfold m_houseOf_j59_s; rfl) hR_24.symm)
        refine lv_if_ne (x := what) (tgt := 53) hx hb dX6_houseOf_41 (by decide) (fun c_18 => ?_) (fun c_18 => ?_)
        · refine lv_aload_n hx hb dX6_houseOf_53 rfl (lv_at hl 0 rfl) ?_
          refine m_get (v := .ref (a 15)) hx hb hts hin hown hK hP 15 (by decide) rfl (index := 46) (List.mem_of_getElem? (i := 2) rfl) dX6_houseOf_54 ?_
          refine lv_iload_n hx hb dX6_houseOf_57 rfl (lv_at hl 1 rfl) ?_
          refine m_aldI (j := h) hx hb hK hP 13 15 rfl (hq) dX6_houseOf_58 ?_
          refine W.eq (g2 := F0 m 59 ls [.int (((m_refused_s σ x_3).1 15 ((h).toNatClampNeg)))]) rfl ?_
          exact (hWW _ _ _ _ _).mp (J59_21 _ (by simp only [if_neg c_18]) _ _ hP hD hS _ (lv_sub hl [0, 1, 2] rfl))
        · refine lv_aload_n hx hb dX6_houseOf_44 rfl (lv_at hl 0 rfl) ?_
          refine m_get (v := .ref (a 14)) hx hb hts hin hown hK hP 14 (by decide) rfl (index := 43) (List.mem_of_getElem? (i := 1) rfl) dX6_houseOf_45 ?_
          refine lv_iload_n hx hb dX6_houseOf_48 rfl (lv_at hl 1 rfl) ?_
          refine m_aldI (j := h) hx hb hK hP 12 14 rfl (hq) dX6_houseOf_49 ?_
          refine W.eq (g2 := F0 m 50 ls [.int (((m_refused_s σ x_3).1 14 ((h).toNatClampNeg)))]) rfl ?_
          refine lv_goto (tgt := 59) hx hb dX6_houseOf_50 (by decide) ?_
          exact (hWW _ _ _ _ _).mp (J59_21 _ (by simp only [if_pos c_18]) _ _ hP hD hS _ (lv_sub hl [0, 1, 2] rfl))
    · refine lv_iconst (v := nI (0)) hx hb dX6_houseOf_33 (by decide) ?_
      exact m_iret (v := nI (0)) hx hb hr hlocks hP hK hD hS dX6_houseOf_34 (Eq.trans (by unfold m_houseOf_j27; simp only [if_neg c_8]) hR_6.symm) (Eq.trans (by unfold m_houseOf_j27_s; simp only [if_neg c_8]) hR_7.symm)
  refine lv_if_ne (x := (m_isHouse σ h)) (tgt := 13) hx hb dX6_houseOf_6 (by decide) (fun c_1 => ?_) (fun c_1 => ?_)
  · refine lv_iload_n hx hb dX6_houseOf_13 rfl (lv_at hl 2 rfl) ?_
    refine lv_iconst (v := nI (0)) hx hb dX6_houseOf_14 (by decide) ?_
    refine lv_iconst (v := nI (4)) hx hb dX6_houseOf_15 (by decide) ?_
    refine m_callS (As := [.int (what), .int (nI (0)), .int (nI (4))]) (rest := [.ref (a 0)]) ⟨hx, hb, hml, hown, hts⟩ (cm_within l what (nI (0)) (nI (4)) ) (va_cwS 3 hts gX6_houseOf_X6_within rfl rfl rfl (by decide +kernel) ⟨Nat.le_of_ble_eq_true rfl, Nat.le_of_ble_eq_true rfl⟩) hP hS rfl hl.1 rfl (Nat.le_of_ble_eq_true rfl) dX6_houseOf_16 ⟨Nat.zero_le _, Nat.zero_le _⟩ (fun H locs hP hS => ?_)
    refine lv_if_ne (x := (m_within what (nI (0)) (nI (4)))) (tgt := 26) hx hb dX6_houseOf_19 (by decide) (fun c_25 => ?_) (fun c_25 => ?_)
    · refine lv_iconst (v := nI (0)) hx hb dX6_houseOf_26 (by decide) ?_
      exact (hWW _ _ _ _ _).mp (J27_4 _ (by simp only [if_neg c_1, if_neg c_25]) _ _ hP hD hS _ (lv_sub hl [0, 1, 2] rfl))
    · refine lv_iconst (v := nI (2)) hx hb dX6_houseOf_22 (by decide) ?_
      refine lv_goto (tgt := 27) hx hb dX6_houseOf_23 (by decide) ?_
      exact (hWW _ _ _ _ _).mp (J27_4 _ (by simp only [if_neg c_1, if_pos c_25]) _ _ hP hD hS _ (lv_sub hl [0, 1, 2] rfl))
  · refine lv_iconst (v := nI (1)) hx hb dX6_houseOf_9 (by decide) ?_
    refine lv_goto (tgt := 27) hx hb dX6_houseOf_10 (by decide) ?_
    exact (hWW _ _ _ _ _).mp (J27_4 _ (by simp only [if_pos c_1]) _ _ hP hD hS _ (lv_sub hl [0, 1, 2] rfl))

def m_reading_j86 (σ : Sg) (b : Int32) (mo : Int32) (y : Int32) (x_3 : Int32) (x_10 : Int32) (x_17 : Int32) : Int32 := x_17
def m_reading_j86_s (σ : Sg) (b : Int32) (mo : Int32) (y : Int32) (x_3 : Int32) (x_10 : Int32) (x_17 : Int32) : Sg := (m_refused_s σ x_10)
def m_reading_j60 (σ : Sg) (b : Int32) (mo : Int32) (y : Int32) (x_3 : Int32) (x_10 : Int32) : Int32 := (m_reading_j86 σ b mo y x_3 x_10 (if (m_refused σ x_10) = 0 then ((m_refused_s σ x_10).1 23 (((((nI (3000)) * (b)) + ((nI (5)) * (mo))) + (y)).toNatClampNeg)) else nI (0)))
def m_reading_j60_s (σ : Sg) (b : Int32) (mo : Int32) (y : Int32) (x_3 : Int32) (x_10 : Int32) : Sg := (m_reading_j86_s σ b mo y x_3 x_10 (if (m_refused σ x_10) = 0 then ((m_refused_s σ x_10).1 23 (((((nI (3000)) * (b)) + ((nI (5)) * (mo))) + (y)).toNatClampNeg)) else nI (0)))
def m_reading_j47 (σ : Sg) (b : Int32) (mo : Int32) (y : Int32) (x_3 : Int32) : Int32 := (m_reading_j60 σ b mo y x_3 (if x_3 = 0 then nI (1) else nI (0)))
def m_reading_j47_s (σ : Sg) (b : Int32) (mo : Int32) (y : Int32) (x_3 : Int32) : Sg := (m_reading_j60_s σ b mo y x_3 (if x_3 = 0 then nI (1) else nI (0)))
def m_reading (σ : Sg) (b : Int32) (mo : Int32) (y : Int32) : Int32 := (m_reading_j47 σ b mo y (if (m_within b (nI (0)) (((σ.1 19 0)) - (nI (1)))) = 0 then nI (0) else (if (m_within y (nI (0)) (nI (4))) = 0 then nI (0) else (if (m_within mo (σ.1 22 ((b).toNatClampNeg)) (((σ.1 1 0)) - (nI (1)))) = 0 then nI (0) else nI (1)))))
def m_reading_s (σ : Sg) (b : Int32) (mo : Int32) (y : Int32) : Sg := (m_reading_j47_s σ b mo y (if (m_within b (nI (0)) (((σ.1 19 0)) - (nI (1)))) = 0 then nI (0) else (if (m_within y (nI (0)) (nI (4))) = 0 then nI (0) else (if (m_within mo (σ.1 22 ((b).toNatClampNeg)) (((σ.1 1 0)) - (nI (1)))) = 0 then nI (0) else nI (1)))))
set_option maxHeartbeats 4000000 in
set_option maxRecDepth 100000 in
theorem cm_reading (l : Launch) (G : va_G) (cI cZ : ClassId) (a : Nat → Nat) (σ : Sg) (b : Int32) (mo : Int32) (y : Int32) (hO : mOK σ) (hB : ∀ j, j < (σ.1 19 0).toNatClampNeg → vp_in (σ.1 22 j) 601) : mI l yX6_reading wsX6_reading ({ frames := 1, cells := 0, slots := 0, locals := 22 } : Room) G cI cZ a σ [.int (b), .int (mo), .int (y)] (m_reading σ b mo y) (m_reading_s σ b mo y) := by
  unfold mI
  refine Met.ofW (cc := cX6_reading) (maxL := 5) (ret := (some .int)) (by decide) rfl ?_
  intro p e s m args below meth c s₁ B hml hv
  obtain ⟨rfl, hP, hK, hD⟩ := hv
  have hx := B.exec
  have hb := B.bytes
  have hr := B.returns
  have hts := atoms_spec (ws := wsX6_reading) B.pre
  have hown : s.vm.findClass RX6 = some m.cls := findClass_of_methodNamed B.named
  have hlocks := B.notSynchronized
  have hS : va_S (mA a) s.heap s.heap [] := va_S.rf
  have hin : ∀ w ∈ wsX60, w ∈ wsX6_reading := fun w h => List.mem_cons_of_mem _ (List.mem_append_right _ h)
  have hl := lv_entry ([.ref (a 0), .int (b), .int (mo), .int (y)]) (n := 5) (Nat.le_of_ble_eq_true rfl)
  rw [lg_entry_eq]
  generalize (lg_sl ([.ref (a 0), .int (b), .int (mo), .int (y)]) ++ List.replicate (5 - (lg_sl ([.ref (a 0), .int (b), .int (mo), .int (y)])).length) Slot.unset).toArray = ls at hl ⊢
  have hl : lv_has ls 5 [(0, .ref (a 0)), (1, .int (b)), (2, .int (mo)), (3, .int (y))] := hl
  refine w_named (fun WW hWW => ?_)
  have hP : va_P G vwCl (wm cI cZ a σ) s.heap := hP
  have h19 := vp_lt hO.2.1
  refine lv_iload_n hx hb dX6_reading_0 rfl (lv_at hl 1 rfl) ?_
  refine lv_iconst (v := nI (0)) hx hb dX6_reading_1 (by decide) ?_
  refine lv_aload_n hx hb dX6_reading_2 rfl (lv_at hl 0 rfl) ?_
  refine m_get (v := .int ((σ.1 19 0))) hx hb hts hin hown hK hP 19 (by decide) rfl (index := 135) (List.mem_of_getElem? (i := 1) rfl) dX6_reading_3 ?_
  refine lv_iconst (v := nI (1)) hx hb dX6_reading_6 (by decide) ?_
  refine lv_isub (x := (σ.1 19 0)) (y := nI (1)) hx hb dX6_reading_7 ?_
  refine m_callS (As := [.int (b), .int (nI (0)), .int (((σ.1 19 0)) - (nI (1)))]) (rest := []) ⟨hx, hb, hml, hown, hts⟩ (cm_within l b (nI (0)) (((σ.1 19 0)) - (nI (1))) ) (va_cwS 3 hts gX6_reading_X6_within rfl rfl rfl (by decide +kernel) ⟨Nat.le_of_ble_eq_true rfl, Nat.le_of_ble_eq_true rfl⟩) hP hS rfl hl.1 rfl (Nat.le_of_ble_eq_true rfl) dX6_reading_8 ⟨Nat.zero_le _, Nat.zero_le _⟩ (fun H locs hP hS => ?_)
  have J47_4 : ∀ (x_3 : Int32), x_3 = (if (m_within b (nI (0)) (((σ.1 19 0)) - (nI (1)))) = 0 then nI (0) else (if (m_within y (nI (0)) (nI (4))) = 0 then nI (0) else (if (m_within mo (σ.1 22 ((b).toNatClampNeg)) (((σ.1 1 0)) - (nI (1)))) = 0 then nI (0) else nI (1)))) → ∀ (H : Heap) (locs : List Loc), va_P G vwCl (wm cI cZ a σ) H → va_D (mA a) (wm cI cZ a σ) → va_S (mA a) s.heap H locs → ∀ (ls : Array Slot), lv_has ls 5 [(0, .ref (a 0)), (1, .int (b)), (2, .int (mo)), (3, .int (y))] → WW H locs 0 0 (F0 m 47 ls [.int (x_3)]) := by
    intro x_3 h_5 H locs hP hD hS ls hl
    refine (hWW _ _ _ _ _).mpr ?_
    have hR_6 : m_reading σ b mo y = m_reading_j47 σ b mo y x_3 := (by subst h_5; unfold m_reading; rfl)
    have hR_7 : m_reading_s σ b mo y = m_reading_j47_s σ b mo y x_3 := (by subst h_5; unfold m_reading_s; rfl)
    refine lv_istore (lv' := [(4, .int (x_3)), (0, .ref (a 0)), (1, .int (b)), (2, .int (mo)), (3, .int (y))]) hx hb dX6_reading_47 hl (by decide) rfl (fun ls hl => ?_)
    refine lv_aload_n hx hb dX6_reading_49 rfl (lv_at hl 1 rfl) ?_
    refine lv_iload hx hb dX6_reading_50 (lv_at hl 0 rfl) ?_
    have J60_11 : ∀ (x_10 : Int32), x_10 = (if x_3 = 0 then nI (1) else nI (0)) → ∀ (H : Heap) (locs : List Loc), va_P G vwCl (wm cI cZ a σ) H → va_D (mA a) (wm cI cZ a σ) → va_S (mA a) s.heap H locs → ∀ (ls : Array Slot), lv_has ls 5 [(4, .int (x_3)), (0, .ref (a 0)), (1, .int (b)), (2, .int (mo)), (3, .int (y))] → WW H locs 0 0 (F0 m 60 ls [.int (x_10), .ref (a 0)]) := by
      intro x_10 h_12 H locs hP hD hS ls hl
      refine (hWW _ _ _ _ _).mpr ?_
      have hR_13 : m_reading σ b mo y = m_reading_j60 σ b mo y x_3 x_10 := (Eq.trans hR_6 (by subst h_12; unfold m_reading_j47; rfl))
      have hR_14 : m_reading_s σ b mo y = m_reading_j60_s σ b mo y x_3 x_10 := (Eq.trans hR_7 (by subst h_12; unfold m_reading_j47_s; rfl))
      refine m_callI (As := [.int (x_10)]) (rest := []) (fun _ h => h) ⟨hx, hb, hml, hown, hts⟩ (cm_refused l G cI cZ a σ  x_10 ) (cwV 1 hts gX6_reading_X6_refused rfl rfl rfl (by decide +kernel) ⟨Nat.le_of_ble_eq_true rfl, Nat.le_of_ble_eq_true rfl⟩) hK hP hD hS rfl hl.1 rfl (Nat.le_of_ble_eq_true rfl) dX6_reading_60 ⟨Nat.zero_le _, Nat.zero_le _⟩ (fun H locs hP hD _ _ hS => ?_)
      have J86_18 : ∀ (x_17 : Int32), x_17 = (if (m_refused σ x_10) = 0 then ((m_refused_s σ x_10).1 23 (((((nI (3000)) * (b)) + ((nI (5)) * (mo))) + (y)).toNatClampNeg)) else nI (0)) → ∀ (H : Heap) (locs : List Loc), va_P G vwCl (wm cI cZ a (m_refused_s σ x_10)) H → va_D (mA a) (wm cI cZ a (m_refused_s σ x_10)) → va_S (mA a) s.heap H locs → ∀ (ls : Array Slot), lv_has ls 5 [(4, .int (x_3)), (0, .ref (a 0)), (1, .int (b)), (2, .int (mo)), (3, .int (y))] → WW H locs 0 0 (F0 m 86 ls [.int (x_17)]) := by
        intro x_17 h_19 H locs hP hD hS ls hl
        refine (hWW _ _ _ _ _).mpr ?_
        have hR_20 : m_reading σ b mo y = m_reading_j86 σ b mo y x_3 x_10 x_17 := (Eq.trans hR_13 (by subst h_19; unfold m_reading_j60; rfl))
        have hR_21 : m_reading_s σ b mo y = m_reading_j86_s σ b mo y x_3 x_10 x_17 := (Eq.trans hR_14 (by subst h_19; unfold m_reading_j60_s; rfl))
        exact m_iret (v := x_17) hx hb hr hlocks hP hK hD hS dX6_reading_86 (Eq.trans (by unfold m_reading_j86; rfl) hR_20.symm) (Eq.trans (by unfold m_reading_j86_s; rfl) hR_21.symm)
      refine lv_if_eq (x := (m_refused σ x_10)) (tgt := 70) hx hb dX6_reading_63 (by decide) (fun c_15 => ?_) (fun c_15 => ?_)
      · have q1 := ck_3 h_5 (ck_b h_12 (m_refused_0 c_15))
        have hb9 := w_below hO.2.1 (by decide) q1.1
        have hm9 := w_mon hO.2.2.2.1 (hB _ (vp_lt hb9)) q1.2.2
        refine lv_aload_n hx hb dX6_reading_70 rfl (lv_at hl 1 rfl) ?_
        refine m_get (v := .ref (a 23)) hx hb hts hin hown hK hP 23 (by decide) rfl (index := 68) (List.mem_of_getElem? (i := 4) rfl) dX6_reading_71 ?_
        refine lv_sipush (v := nI (3000)) hx hb dX6_reading_74 (by decide) ?_
        refine lv_iload_n hx hb dX6_reading_77 rfl (lv_at hl 2 rfl) ?_
        refine lv_imul (x := nI (3000)) (y := b) hx hb dX6_reading_78 ?_
        refine lv_iconst (v := nI (5)) hx hb dX6_reading_79 (by decide) ?_
        refine lv_iload_n hx hb dX6_reading_80 rfl (lv_at hl 3 rfl) ?_
        refine lv_imul (x := nI (5)) (y := mo) hx hb dX6_reading_81 ?_
        refine lv_iadd (x := (nI (3000)) * (b)) (y := (nI (5)) * (mo)) hx hb dX6_reading_82 ?_
        refine lv_iload_n hx hb dX6_reading_83 rfl (lv_at hl 4 rfl) ?_
        refine lv_iadd (x := ((nI (3000)) * (b)) + ((nI (5)) * (mo))) (y := y) hx hb dX6_reading_84 ?_
        refine m_aldI (j := (((nI (3000)) * (b)) + ((nI (5)) * (mo))) + (y)) hx hb hK hP 20 23 rfl (vp_rd (vp_wide hb9 (by omega)) hm9 (w_in (n := 4) q1.2.1 (by decide))) dX6_reading_85 ?_
        refine W.eq (g2 := F0 m 86 ls [.int (((m_refused_s σ x_10).1 23 (((((nI (3000)) * (b)) + ((nI (5)) * (mo))) + (y)).toNatClampNeg)))]) rfl ?_
        exact (hWW _ _ _ _ _).mp (J86_18 _ (by simp only [if_pos c_15]) _ _ hP hD hS _ (lv_sub hl [0, 1, 2, 3, 4] rfl))
      · refine lv_iconst (v := nI (0)) hx hb dX6_reading_66 (by decide) ?_
        refine lv_goto (tgt := 86) hx hb dX6_reading_67 (by decide) ?_
        exact (hWW _ _ _ _ _).mp (J86_18 _ (by simp only [if_neg c_15]) _ _ hP hD hS _ (lv_sub hl [0, 1, 2, 3, 4] rfl))
    refine lv_if_eq (x := x_3) (tgt := 59) hx hb dX6_reading_52 (by decide) (fun c_8 => ?_) (fun c_8 => ?_)
    · refine lv_iconst (v := nI (1)) hx hb dX6_reading_59 (by decide) ?_
      exact (hWW _ _ _ _ _).mp (J60_11 _ (by simp only [if_pos c_8]) _ _ hP hD hS _ (lv_sub hl [0, 1, 2, 3, 4] rfl))
    · refine lv_iconst (v := nI (0)) hx hb dX6_reading_55 (by decide) ?_
      refine lv_goto (tgt := 60) hx hb dX6_reading_56 (by decide) ?_
      exact (hWW _ _ _ _ _).mp (J60_11 _ (by simp only [if_neg c_8]) _ _ hP hD hS _ (lv_sub hl [0, 1, 2, 3, 4] rfl))
  refine lv_if_eq (x := (m_within b (nI (0)) (((σ.1 19 0)) - (nI (1))))) (tgt := 46) hx hb dX6_reading_11 (by decide) (fun c_1 => ?_) (fun c_1 => ?_)
  · refine lv_iconst (v := nI (0)) hx hb dX6_reading_46 (by decide) ?_
    exact (hWW _ _ _ _ _).mp (J47_4 _ (by simp only [if_pos c_1]) _ _ hP hD hS _ (lv_sub hl [0, 1, 2, 3] rfl))
  · refine lv_iload_n hx hb dX6_reading_14 rfl (lv_at hl 3 rfl) ?_
    refine lv_iconst (v := nI (0)) hx hb dX6_reading_15 (by decide) ?_
    refine lv_iconst (v := nI (4)) hx hb dX6_reading_16 (by decide) ?_
    refine m_callS (As := [.int (y), .int (nI (0)), .int (nI (4))]) (rest := []) ⟨hx, hb, hml, hown, hts⟩ (cm_within l y (nI (0)) (nI (4)) ) (va_cwS 3 hts gX6_reading_X6_within rfl rfl rfl (by decide +kernel) ⟨Nat.le_of_ble_eq_true rfl, Nat.le_of_ble_eq_true rfl⟩) hP hS rfl hl.1 rfl (Nat.le_of_ble_eq_true rfl) dX6_reading_17 ⟨Nat.zero_le _, Nat.zero_le _⟩ (fun H locs hP hS => ?_)
    refine lv_if_eq (x := (m_within y (nI (0)) (nI (4)))) (tgt := 46) hx hb dX6_reading_20 (by decide) (fun c_22 => ?_) (fun c_22 => ?_)
    · refine lv_iconst (v := nI (0)) hx hb dX6_reading_46 (by decide) ?_
      exact (hWW _ _ _ _ _).mp (J47_4 _ (by simp only [if_neg c_1, if_pos c_22]) _ _ hP hD hS _ (lv_sub hl [0, 1, 2, 3] rfl))
    · refine lv_iload_n hx hb dX6_reading_23 rfl (lv_at hl 2 rfl) ?_
      refine lv_aload_n hx hb dX6_reading_24 rfl (lv_at hl 0 rfl) ?_
      refine m_get (v := .ref (a 22)) hx hb hts hin hown hK hP 22 (by decide) rfl (index := 65) (List.mem_of_getElem? (i := 2) rfl) dX6_reading_25 ?_
      refine lv_iload_n hx hb dX6_reading_28 rfl (lv_at hl 1 rfl) ?_
      refine m_aldI (j := b) hx hb hK hP 19 22 rfl (vp_wide (w_below hO.2.1 (by decide) c_1) (by omega)) dX6_reading_29 ?_
      refine W.eq (g2 := F0 m 30 ls [.int ((σ.1 22 ((b).toNatClampNeg))), .int (mo)]) rfl ?_
      refine lv_aload_n hx hb dX6_reading_30 rfl (lv_at hl 0 rfl) ?_
      refine m_get (v := .int ((σ.1 1 0))) hx hb hts hin hown hK hP 1 (by decide) rfl (index := 109) (List.mem_of_getElem? (i := 3) rfl) dX6_reading_31 ?_
      refine lv_iconst (v := nI (1)) hx hb dX6_reading_34 (by decide) ?_
      refine lv_isub (x := (σ.1 1 0)) (y := nI (1)) hx hb dX6_reading_35 ?_
      refine m_callS (As := [.int (mo), .int ((σ.1 22 ((b).toNatClampNeg))), .int (((σ.1 1 0)) - (nI (1)))]) (rest := []) ⟨hx, hb, hml, hown, hts⟩ (cm_within l mo (σ.1 22 ((b).toNatClampNeg)) (((σ.1 1 0)) - (nI (1))) ) (va_cwS 3 hts gX6_reading_X6_within rfl rfl rfl (by decide +kernel) ⟨Nat.le_of_ble_eq_true rfl, Nat.le_of_ble_eq_true rfl⟩) hP hS rfl hl.1 rfl (Nat.le_of_ble_eq_true rfl) dX6_reading_36 ⟨Nat.zero_le _, Nat.zero_le _⟩ (fun H locs hP hS => ?_)
      refine lv_if_eq (x := (m_within mo (σ.1 22 ((b).toNatClampNeg)) (((σ.1 1 0)) - (nI (1))))) (tgt := 46) hx hb dX6_reading_39 (by decide) (fun c_23 => ?_) (fun c_23 => ?_)
      · refine lv_iconst (v := nI (0)) hx hb dX6_reading_46 (by decide) ?_
        exact (hWW _ _ _ _ _).mp (J47_4 _ (by simp only [if_neg c_1, if_neg c_22, if_pos c_23]) _ _ hP hD hS _ (lv_sub hl [0, 1, 2, 3] rfl))
      · refine lv_iconst (v := nI (1)) hx hb dX6_reading_42 (by decide) ?_
        refine lv_goto (tgt := 47) hx hb dX6_reading_43 (by decide) ?_
        exact (hWW _ _ _ _ _).mp (J47_4 _ (by simp only [if_neg c_1, if_neg c_22, if_neg c_23]) _ _ hP hD hS _ (lv_sub hl [0, 1, 2, 3] rfl))

def m_claimOf_j36 (σ : Sg) (k : Int32) (x_3 : Int32) (x_10 : Int32) : Int32 := x_10
def m_claimOf_j36_s (σ : Sg) (k : Int32) (x_3 : Int32) (x_10 : Int32) : Sg := (m_refused_s σ x_3)
def m_claimOf_j20 (σ : Sg) (k : Int32) (x_3 : Int32) : Int32 := (m_claimOf_j36 σ k x_3 (if (m_refused σ x_3) = 0 then ((m_refused_s σ x_3).1 25 ((k).toNatClampNeg)) else nI (0)))
def m_claimOf_j20_s (σ : Sg) (k : Int32) (x_3 : Int32) : Sg := (m_claimOf_j36_s σ k x_3 (if (m_refused σ x_3) = 0 then ((m_refused_s σ x_3).1 25 ((k).toNatClampNeg)) else nI (0)))
def m_claimOf (σ : Sg) (k : Int32) : Int32 := (m_claimOf_j20 σ k (if (m_within k (nI (0)) (((σ.1 24 0)) - (nI (1)))) = 0 then nI (1) else nI (0)))
def m_claimOf_s (σ : Sg) (k : Int32) : Sg := (m_claimOf_j20_s σ k (if (m_within k (nI (0)) (((σ.1 24 0)) - (nI (1)))) = 0 then nI (1) else nI (0)))
set_option maxHeartbeats 4000000 in
set_option maxRecDepth 100000 in
theorem cm_claimOf (l : Launch) (G : va_G) (cI cZ : ClassId) (a : Nat → Nat) (σ : Sg) (k : Int32) (hO : mOK σ) : mI l yX6_claimOf wsX6_claimOf ({ frames := 1, cells := 0, slots := 0, locals := 22 } : Room) G cI cZ a σ [.int (k)] (m_claimOf σ k) (m_claimOf_s σ k) := by
  unfold mI
  refine Met.ofW (cc := cX6_claimOf) (maxL := 2) (ret := (some .int)) (by decide) rfl ?_
  intro p e s m args below meth c s₁ B hml hv
  obtain ⟨rfl, hP, hK, hD⟩ := hv
  have hx := B.exec
  have hb := B.bytes
  have hr := B.returns
  have hts := atoms_spec (ws := wsX6_claimOf) B.pre
  have hown : s.vm.findClass RX6 = some m.cls := findClass_of_methodNamed B.named
  have hlocks := B.notSynchronized
  have hS : va_S (mA a) s.heap s.heap [] := va_S.rf
  have hin : ∀ w ∈ wsX60, w ∈ wsX6_claimOf := fun w h => List.mem_cons_of_mem _ (List.mem_append_right _ h)
  have hl := lv_entry ([.ref (a 0), .int (k)]) (n := 2) (Nat.le_of_ble_eq_true rfl)
  rw [lg_entry_eq]
  generalize (lg_sl ([.ref (a 0), .int (k)]) ++ List.replicate (2 - (lg_sl ([.ref (a 0), .int (k)])).length) Slot.unset).toArray = ls at hl ⊢
  have hl : lv_has ls 2 [(0, .ref (a 0)), (1, .int (k))] := hl
  refine w_named (fun WW hWW => ?_)
  have hP : va_P G vwCl (wm cI cZ a σ) s.heap := hP
  have h24 := vp_lt hO.2.2.1
  refine lv_aload_n hx hb dX6_claimOf_0 rfl (lv_at hl 0 rfl) ?_
  refine lv_iload_n hx hb dX6_claimOf_1 rfl (lv_at hl 1 rfl) ?_
  refine lv_iconst (v := nI (0)) hx hb dX6_claimOf_2 (by decide) ?_
  refine lv_aload_n hx hb dX6_claimOf_3 rfl (lv_at hl 0 rfl) ?_
  refine m_get (v := .int ((σ.1 24 0))) hx hb hts hin hown hK hP 24 (by decide) rfl (index := 177) (List.mem_of_getElem? (i := 1) rfl) dX6_claimOf_4 ?_
  refine lv_iconst (v := nI (1)) hx hb dX6_claimOf_7 (by decide) ?_
  refine lv_isub (x := (σ.1 24 0)) (y := nI (1)) hx hb dX6_claimOf_8 ?_
  refine m_callS (As := [.int (k), .int (nI (0)), .int (((σ.1 24 0)) - (nI (1)))]) (rest := [.ref (a 0)]) ⟨hx, hb, hml, hown, hts⟩ (cm_within l k (nI (0)) (((σ.1 24 0)) - (nI (1))) ) (va_cwS 3 hts gX6_claimOf_X6_within rfl rfl rfl (by decide +kernel) ⟨Nat.le_of_ble_eq_true rfl, Nat.le_of_ble_eq_true rfl⟩) hP hS rfl hl.1 rfl (Nat.le_of_ble_eq_true rfl) dX6_claimOf_9 ⟨Nat.zero_le _, Nat.zero_le _⟩ (fun H locs hP hS => ?_)
  have J20_4 : ∀ (x_3 : Int32), x_3 = (if (m_within k (nI (0)) (((σ.1 24 0)) - (nI (1)))) = 0 then nI (1) else nI (0)) → ∀ (H : Heap) (locs : List Loc), va_P G vwCl (wm cI cZ a σ) H → va_D (mA a) (wm cI cZ a σ) → va_S (mA a) s.heap H locs → ∀ (ls : Array Slot), lv_has ls 2 [(0, .ref (a 0)), (1, .int (k))] → WW H locs 0 0 (F0 m 20 ls [.int (x_3), .ref (a 0)]) := by
    intro x_3 h_5 H locs hP hD hS ls hl
    refine (hWW _ _ _ _ _).mpr ?_
    have hR_6 : m_claimOf σ k = m_claimOf_j20 σ k x_3 := (by subst h_5; unfold m_claimOf; rfl)
    have hR_7 : m_claimOf_s σ k = m_claimOf_j20_s σ k x_3 := (by subst h_5; unfold m_claimOf_s; rfl)
    refine m_callI (As := [.int (x_3)]) (rest := []) (fun _ h => h) ⟨hx, hb, hml, hown, hts⟩ (cm_refused l G cI cZ a σ  x_3 ) (cwV 1 hts gX6_claimOf_X6_refused rfl rfl rfl (by decide +kernel) ⟨Nat.le_of_ble_eq_true rfl, Nat.le_of_ble_eq_true rfl⟩) hK hP hD hS rfl hl.1 rfl (Nat.le_of_ble_eq_true rfl) dX6_claimOf_20 ⟨Nat.zero_le _, Nat.zero_le _⟩ (fun H locs hP hD _ _ hS => ?_)
    have J36_11 : ∀ (x_10 : Int32), x_10 = (if (m_refused σ x_3) = 0 then ((m_refused_s σ x_3).1 25 ((k).toNatClampNeg)) else nI (0)) → ∀ (H : Heap) (locs : List Loc), va_P G vwCl (wm cI cZ a (m_refused_s σ x_3)) H → va_D (mA a) (wm cI cZ a (m_refused_s σ x_3)) → va_S (mA a) s.heap H locs → ∀ (ls : Array Slot), lv_has ls 2 [(0, .ref (a 0)), (1, .int (k))] → WW H locs 0 0 (F0 m 36 ls [.int (x_10)]) := by
      intro x_10 h_12 H locs hP hD hS ls hl
      refine (hWW _ _ _ _ _).mpr ?_
      have hR_13 : m_claimOf σ k = m_claimOf_j36 σ k x_3 x_10 := (Eq.trans hR_6 (by subst h_12; unfold m_claimOf_j20; rfl))
      have hR_14 : m_claimOf_s σ k = m_claimOf_j36_s σ k x_3 x_10 := (Eq.trans hR_7 (by subst h_12; unfold m_claimOf_j20_s; rfl))
      exact m_iret (v := x_10) hx hb hr hlocks hP hK hD hS dX6_claimOf_36 (Eq.trans (by unfold m_claimOf_j36; rfl) hR_13.symm) (Eq.trans (by unfold m_claimOf_j36_s; rfl) hR_14.symm)
    refine lv_if_eq (x := (m_refused σ x_3)) (tgt := 30) hx hb dX6_claimOf_23 (by decide) (fun c_8 => ?_) (fun c_8 => ?_)
    · have hq : vp_in k 40 := vp_wide (w_below hO.2.2.1 (by decide) (ck_b h_5 (m_refused_0 c_8))) (by omega)
      refine lv_aload_n hx hb dX6_claimOf_30 rfl (lv_at hl 0 rfl) ?_
      refine m_get (v := .ref (a 25)) hx hb hts hin hown hK hP 25 (by decide) rfl (index := 71) (List.mem_of_getElem? (i := 2) rfl) dX6_claimOf_31 ?_
      refine lv_iload_n hx hb dX6_claimOf_34 rfl (lv_at hl 1 rfl) ?_
      refine m_aldI (j := k) hx hb hK hP 21 25 rfl (hq) dX6_claimOf_35 ?_
      refine W.eq (g2 := F0 m 36 ls [.int (((m_refused_s σ x_3).1 25 ((k).toNatClampNeg)))]) rfl ?_
      exact (hWW _ _ _ _ _).mp (J36_11 _ (by simp only [if_pos c_8]) _ _ hP hD hS _ (lv_sub hl [0, 1] rfl))
    · refine lv_iconst (v := nI (0)) hx hb dX6_claimOf_26 (by decide) ?_
      refine lv_goto (tgt := 36) hx hb dX6_claimOf_27 (by decide) ?_
      exact (hWW _ _ _ _ _).mp (J36_11 _ (by simp only [if_neg c_8]) _ _ hP hD hS _ (lv_sub hl [0, 1] rfl))
  refine lv_if_eq (x := (m_within k (nI (0)) (((σ.1 24 0)) - (nI (1))))) (tgt := 19) hx hb dX6_claimOf_12 (by decide) (fun c_1 => ?_) (fun c_1 => ?_)
  · refine lv_iconst (v := nI (1)) hx hb dX6_claimOf_19 (by decide) ?_
    exact (hWW _ _ _ _ _).mp (J20_4 _ (by simp only [if_pos c_1]) _ _ hP hD hS _ (lv_sub hl [0, 1] rfl))
  · refine lv_iconst (v := nI (0)) hx hb dX6_claimOf_15 (by decide) ?_
    refine lv_goto (tgt := 20) hx hb dX6_claimOf_16 (by decide) ?_
    exact (hWW _ _ _ _ _).mp (J20_4 _ (by simp only [if_neg c_1]) _ _ hP hD hS _ (lv_sub hl [0, 1] rfl))

def m_claimAnew (σ : Sg) (k : Int32) : Int32 := (m_claimOf σ k)
def m_claimAnew_s (σ : Sg) (k : Int32) : Sg := (m_claimOf_s σ k)
set_option maxHeartbeats 4000000 in
set_option maxRecDepth 100000 in
theorem cm_claimAnew (l : Launch) (G : va_G) (cI cZ : ClassId) (a : Nat → Nat) (σ : Sg) (k : Int32) (hO : mOK σ) : mI l yX6_claimAnew wsX6_claimAnew ({ frames := 2, cells := 0, slots := 0, locals := 43 } : Room) G cI cZ a σ [.int (k)] (m_claimAnew σ k) (m_claimAnew_s σ k) := by
  unfold mI
  refine Met.ofW (cc := cX6_claimAnew) (maxL := 2) (ret := (some .int)) (by decide) rfl ?_
  intro p e s m args below meth c s₁ B hml hv
  obtain ⟨rfl, hP, hK, hD⟩ := hv
  have hx := B.exec
  have hb := B.bytes
  have hr := B.returns
  have hts := atoms_spec (ws := wsX6_claimAnew) B.pre
  have hown : s.vm.findClass RX6 = some m.cls := findClass_of_methodNamed B.named
  have hlocks := B.notSynchronized
  have hS : va_S (mA a) s.heap s.heap [] := va_S.rf
  have hin : ∀ w ∈ wsX60, w ∈ wsX6_claimAnew := fun w h => List.mem_cons_of_mem _ (List.mem_append_right _ h)
  have hl := lv_entry ([.ref (a 0), .int (k)]) (n := 2) (Nat.le_of_ble_eq_true rfl)
  rw [lg_entry_eq]
  generalize (lg_sl ([.ref (a 0), .int (k)]) ++ List.replicate (2 - (lg_sl ([.ref (a 0), .int (k)])).length) Slot.unset).toArray = ls at hl ⊢
  have hl : lv_has ls 2 [(0, .ref (a 0)), (1, .int (k))] := hl
  refine w_named (fun WW hWW => ?_)
  have hP : va_P G vwCl (wm cI cZ a σ) s.heap := hP
  refine lv_aload_n hx hb dX6_claimAnew_0 rfl (lv_at hl 0 rfl) ?_
  refine lv_iload_n hx hb dX6_claimAnew_1 rfl (lv_at hl 1 rfl) ?_
  refine m_callI (As := [.int (k)]) (rest := []) (fun _ h => h) ⟨hx, hb, hml, hown, hts⟩ (cm_claimOf l G cI cZ a σ  k hO) (cwV 1 hts gX6_claimAnew_X6_claimOf rfl rfl rfl (by decide +kernel) ⟨Nat.le_of_ble_eq_true rfl, Nat.le_of_ble_eq_true rfl⟩) hK hP hD hS rfl hl.1 rfl (Nat.le_of_ble_eq_true rfl) dX6_claimAnew_2 ⟨Nat.zero_le _, Nat.zero_le _⟩ (fun H locs hP hD _ _ hS => ?_)
  exact m_iret (v := (m_claimOf σ k)) hx hb hr hlocks hP hK hD hS dX6_claimAnew_5 (by unfold m_claimAnew; rfl) (by unfold m_claimAnew_s; rfl)

def m_inLand_x71 (σ : Sg) (kind : Int32) (z5 : Int64) (z71 : Int64) : Int64 := z71
def m_inLand_j115 (σ : Sg) (kind : Int32) (i71 : Nat) (z71 : Int64) (x_7 : Int64) : Int64 := (z71) + (x_7)
def m_inLand_b71 (σ : Sg) (kind : Int32) (i71 : Nat) (z71 : Int64) : Int64 := (m_inLand_j115 σ kind i71 z71 (if kind = 0 then ((nI (1000)) * ((σ.1 3 i71))).toInt64 else (if kind = nI (1) then ((σ.1 3 i71)).toInt64 else (0 : Int64))))
def m_inLand_x5 (σ : Sg) (kind : Int32) (z5 : Int64) : Int64 := (m_inLand_x71 σ kind z5 (lp (m_inLand_b71 σ kind) 25 z5))
def m_inLand_j60 (σ : Sg) (kind : Int32) (i5 : Nat) (z5 : Int64) (x_14 : Int64) : Int64 := (z5) + (x_14)
def m_inLand_b5 (σ : Sg) (kind : Int32) (i5 : Nat) (z5 : Int64) : Int64 := (m_inLand_j60 σ kind i5 z5 (if kind = 0 then ((σ.1 10 i5)).toInt64 else (if kind = nI (1) then (((σ.1 8 i5)) + ((σ.1 9 i5))).toInt64 else ((σ.1 11 i5)).toInt64)))
def m_inLand (σ : Sg) (kind : Int32) : Int64 := (m_inLand_x5 σ kind (lp (m_inLand_b5 σ kind) 125 (0 : Int64)))
set_option maxHeartbeats 4000000 in
set_option maxRecDepth 100000 in
theorem cm_inLand (l : Launch) (G : va_G) (cI cZ : ClassId) (a : Nat → Nat) (σ : Sg) (kind : Int32) : mL l yX6_inLand wsX6_inLand ({ frames := 0, cells := 0, slots := 0, locals := 0 } : Room) G cI cZ a σ [.int (kind)] (m_inLand σ kind) σ := by
  unfold mL
  refine Met.ofW (cc := cX6_inLand) (maxL := 5) (ret := (some .long)) (by decide) rfl ?_
  intro p e s m args below meth c s₁ B hml hv
  obtain ⟨rfl, hP, hK, hD⟩ := hv
  have hx := B.exec
  have hb := B.bytes
  have hr := B.returns
  have hts := atoms_spec (ws := wsX6_inLand) B.pre
  have hown : s.vm.findClass RX6 = some m.cls := findClass_of_methodNamed B.named
  have hlocks := B.notSynchronized
  have hS : va_S (mA a) s.heap s.heap [] := va_S.rf
  have hin : ∀ w ∈ wsX60, w ∈ wsX6_inLand := fun w h => List.mem_cons_of_mem _ (List.mem_append_right _ h)
  have hl := lv_entry ([.ref (a 0), .int (kind)]) (n := 5) (Nat.le_of_ble_eq_true rfl)
  rw [lg_entry_eq]
  generalize (lg_sl ([.ref (a 0), .int (kind)]) ++ List.replicate (5 - (lg_sl ([.ref (a 0), .int (kind)])).length) Slot.unset).toArray = ls at hl ⊢
  have hl : lv_has ls 5 [(0, .ref (a 0)), (1, .int (kind))] := hl
  refine w_named (fun WW hWW => ?_)
  have hP : va_P G vwCl (wm cI cZ a σ) s.heap := hP
  refine lv_lconst (v := 0) hx hb dX6_inLand_0 (by decide) ?_
  refine lv_lstore_n (lv' := [(2, .long ((0 : Int64))), (0, .ref (a 0)), (1, .int (kind))]) hx hb dX6_inLand_1 rfl hl (by decide) rfl (fun ls hl => ?_)
  refine lv_iconst (v := nI (0)) hx hb dX6_inLand_2 (by decide) ?_
  refine lv_istore (lv' := [(4, .int (nI (0))), (2, .long ((0 : Int64))), (0, .ref (a 0)), (1, .int (kind))]) hx hb dX6_inLand_3 hl (by decide) rfl (fun ls hl => ?_)
  have L5 : ∀ (n5 i5 : Nat), i5 ≤ 125 → 125 + 1 ≤ i5 + n5 → ∀ (z5 : Int64), z5 = lp (m_inLand_b5 σ kind) i5 (0 : Int64) → ∀ (H : Heap) (locs : List Loc), va_P G vwCl (wm cI cZ a σ) H → va_D (mA a) (wm cI cZ a σ) → va_S (mA a) s.heap H locs → ∀ (ls : Array Slot), lv_has ls 5 [(4, .int (nI (i5))), (2, .long (z5)), (0, .ref (a 0)), (1, .int (kind))] → WW H locs 0 0 (F0 m 5 ls []) := by
    intro n5
    induction n5 with
    | zero => intro i5 h1 h2; exact absurd h2 (by omega)
    | succ n5 ih5 =>
      intro i5 hi5 hn5 z5 hz5  H locs hP hD hS ls hl
      refine (hWW _ _ _ _ _).mpr ?_
      refine lv_iload hx hb dX6_inLand_5 (lv_at hl 0 rfl) ?_
      refine lv_bipush (v := nI (125)) hx hb dX6_inLand_7 (by decide) ?_
      refine n_icmp_ge (x := i5) (y := 125) (tgt := 68) hx hb (by omega) (by omega) dX6_inLand_9 (by decide) (fun c_1 => ?_) (fun c_1 => ?_)
      · have hiN : 125 = i5 := by omega
        subst hiN
        have hR_2 : m_inLand σ kind = m_inLand_x5 σ kind z5 := (by subst hz5; unfold m_inLand; rfl)
        refine lv_iconst (v := nI (0)) hx hb dX6_inLand_68 (by decide) ?_
        refine lv_istore (lv' := [(4, .int (nI (0))), (2, .long (z5)), (0, .ref (a 0)), (1, .int (kind))]) hx hb dX6_inLand_69 hl (by decide) rfl (fun ls hl => ?_)
        have L71 : ∀ (n71 i71 : Nat), i71 ≤ 25 → 25 + 1 ≤ i71 + n71 → ∀ (z71 : Int64), z71 = lp (m_inLand_b71 σ kind) i71 z5 → ∀ (H : Heap) (locs : List Loc), va_P G vwCl (wm cI cZ a σ) H → va_D (mA a) (wm cI cZ a σ) → va_S (mA a) s.heap H locs → ∀ (ls : Array Slot), lv_has ls 5 [(4, .int (nI (i71))), (2, .long (z71)), (0, .ref (a 0)), (1, .int (kind))] → WW H locs 0 0 (F0 m 71 ls []) := by
          intro n71
          induction n71 with
          | zero => intro i71 h1 h2; exact absurd h2 (by omega)
          | succ n71 ih71 =>
            intro i71 hi71 hn71 z71 hz71  H locs hP hD hS ls hl
            refine (hWW _ _ _ _ _).mpr ?_
            refine lv_iload hx hb dX6_inLand_71 (lv_at hl 0 rfl) ?_
            refine lv_bipush (v := nI (25)) hx hb dX6_inLand_73 (by decide) ?_
            refine n_icmp_ge (x := i71) (y := 25) (tgt := 123) hx hb (by omega) (by omega) dX6_inLand_75 (by decide) (fun c_3 => ?_) (fun c_3 => ?_)
            · have hiN : 25 = i71 := by omega
              subst hiN
              have hR_4 : m_inLand σ kind = m_inLand_x71 σ kind z5 z71 := (Eq.trans hR_2 (by subst hz71; unfold m_inLand_x5; rfl))
              refine lv_lload_n hx hb dX6_inLand_123 rfl (lv_at hl 1 rfl) ?_
              exact m_lret (v := z71) hx hb hr hlocks hP hK hD hS dX6_inLand_124 (Eq.trans (by unfold m_inLand_x71; rfl) hR_4.symm) (Eq.refl _)
            · refine lv_lload_n hx hb dX6_inLand_78 rfl (lv_at hl 1 rfl) ?_
              refine lv_iload_n hx hb dX6_inLand_79 rfl (lv_at hl 3 rfl) ?_
              have J115_8 : ∀ (x_7 : Int64), x_7 = (if kind = 0 then ((nI (1000)) * ((σ.1 3 i71))).toInt64 else (if kind = nI (1) then ((σ.1 3 i71)).toInt64 else (0 : Int64))) → ∀ (H : Heap) (locs : List Loc), va_P G vwCl (wm cI cZ a σ) H → va_D (mA a) (wm cI cZ a σ) → va_S (mA a) s.heap H locs → ∀ (ls : Array Slot), lv_has ls 5 [(4, .int (nI (i71))), (2, .long (z71)), (0, .ref (a 0)), (1, .int (kind))] → WW H locs 0 0 (F0 m 115 ls [.long (x_7), .long (z71)]) := by
                intro x_7 h_9 H locs hP hD hS ls hl
                refine (hWW _ _ _ _ _).mpr ?_
                have hR_10 : m_inLand_b71 σ kind i71 z71 = m_inLand_j115 σ kind i71 z71 x_7 := (by subst h_9; unfold m_inLand_b71; rfl)
                refine lv_ladd hx hb dX6_inLand_115 ?_
                refine lv_lstore_n (lv' := [(2, .long ((z71) + (x_7))), (4, .int (nI (i71))), (0, .ref (a 0)), (1, .int (kind))]) hx hb dX6_inLand_116 rfl hl (by decide) rfl (fun ls hl => ?_)
                refine n_iinc (x := i71) (dN := 1) (k := 1) (lv' := [(4, .int (nI (i71 + 1))), (2, .long ((z71) + (x_7))), (0, .ref (a 0)), (1, .int (kind))]) hx hb dX6_inLand_117 hl rfl (by decide) rfl (fun ls hl => ?_)
                refine lv_goto (tgt := 71) hx hb dX6_inLand_120 (by decide) ?_
                exact (hWW _ _ _ _ _).mp (ih71 (i71 + 1) (by omega) (by omega) ((z71) + (x_7)) (by show _ = m_inLand_b71 σ kind i71 (lp (m_inLand_b71 σ kind) i71 z5); rw [← hz71]; exact (Eq.trans (by unfold m_inLand_j115; rfl) hR_10.symm))  _ _ hP hD hS _ (lv_sub hl [0, 1, 2, 3] rfl))
              refine lv_if_ne (x := kind) (tgt := 98) hx hb dX6_inLand_80 (by decide) (fun c_5 => ?_) (fun c_5 => ?_)
              · refine lv_iload_n hx hb dX6_inLand_98 rfl (lv_at hl 3 rfl) ?_
                refine lv_iconst (v := nI (1)) hx hb dX6_inLand_99 (by decide) ?_
                refine lv_icmp_ne (x := kind) (y := nI (1)) (tgt := 114) hx hb dX6_inLand_100 (by decide) (fun c_11 => ?_) (fun c_11 => ?_)
                · refine lv_lconst (v := 0) hx hb dX6_inLand_114 (by decide) ?_
                  exact (hWW _ _ _ _ _).mp (J115_8 _ (by simp only [if_neg c_5, if_neg c_11]) _ _ hP hD hS _ (lv_sub hl [0, 1, 2, 3] rfl))
                · refine lv_aload_n hx hb dX6_inLand_103 rfl (lv_at hl 2 rfl) ?_
                  refine m_get (v := .ref (a 3)) hx hb hts hin hown hK hP 3 (by decide) rfl (index := 13) (List.mem_of_getElem? (i := 5) rfl) dX6_inLand_104 ?_
                  refine lv_iload hx hb dX6_inLand_107 (lv_at hl 0 rfl) ?_
                  refine m_ald (j := i71) hx hb hK hP 2 3 rfl (by decide) (by omega) dX6_inLand_109 ?_
                  refine W.eq (g2 := F0 m 110 ls [.int ((σ.1 3 i71)), .long (z71)]) rfl ?_
                  refine lv_i2l (v := ((σ.1 3 i71)).toInt64) hx hb dX6_inLand_110 rfl ?_
                  refine lv_goto (tgt := 115) hx hb dX6_inLand_111 (by decide) ?_
                  exact (hWW _ _ _ _ _).mp (J115_8 _ (by simp only [if_neg c_5, if_pos c_11]) _ _ hP hD hS _ (lv_sub hl [0, 1, 2, 3] rfl))
              · refine lv_sipush (v := nI (1000)) hx hb dX6_inLand_83 (by decide) ?_
                refine lv_aload_n hx hb dX6_inLand_86 rfl (lv_at hl 2 rfl) ?_
                refine m_get (v := .ref (a 3)) hx hb hts hin hown hK hP 3 (by decide) rfl (index := 13) (List.mem_of_getElem? (i := 5) rfl) dX6_inLand_87 ?_
                refine lv_iload hx hb dX6_inLand_90 (lv_at hl 0 rfl) ?_
                refine m_ald (j := i71) hx hb hK hP 2 3 rfl (by decide) (by omega) dX6_inLand_92 ?_
                refine W.eq (g2 := F0 m 93 ls [.int ((σ.1 3 i71)), .int (nI (1000)), .long (z71)]) rfl ?_
                refine lv_imul (x := nI (1000)) (y := (σ.1 3 i71)) hx hb dX6_inLand_93 ?_
                refine lv_i2l (v := ((nI (1000)) * ((σ.1 3 i71))).toInt64) hx hb dX6_inLand_94 rfl ?_
                refine lv_goto (tgt := 115) hx hb dX6_inLand_95 (by decide) ?_
                exact (hWW _ _ _ _ _).mp (J115_8 _ (by simp only [if_pos c_5]) _ _ hP hD hS _ (lv_sub hl [0, 1, 2, 3] rfl))
        exact (hWW _ _ _ _ _).mp (L71 (25 + 1) 0 (Nat.zero_le _) (by omega) z5 rfl  _ _ hP hD hS _ (lv_sub hl [0, 1, 2, 3] rfl))
      · refine lv_lload_n hx hb dX6_inLand_12 rfl (lv_at hl 1 rfl) ?_
        refine lv_iload_n hx hb dX6_inLand_13 rfl (lv_at hl 3 rfl) ?_
        have J60_15 : ∀ (x_14 : Int64), x_14 = (if kind = 0 then ((σ.1 10 i5)).toInt64 else (if kind = nI (1) then (((σ.1 8 i5)) + ((σ.1 9 i5))).toInt64 else ((σ.1 11 i5)).toInt64)) → ∀ (H : Heap) (locs : List Loc), va_P G vwCl (wm cI cZ a σ) H → va_D (mA a) (wm cI cZ a σ) → va_S (mA a) s.heap H locs → ∀ (ls : Array Slot), lv_has ls 5 [(4, .int (nI (i5))), (2, .long (z5)), (0, .ref (a 0)), (1, .int (kind))] → WW H locs 0 0 (F0 m 60 ls [.long (x_14), .long (z5)]) := by
          intro x_14 h_16 H locs hP hD hS ls hl
          refine (hWW _ _ _ _ _).mpr ?_
          have hR_17 : m_inLand_b5 σ kind i5 z5 = m_inLand_j60 σ kind i5 z5 x_14 := (by subst h_16; unfold m_inLand_b5; rfl)
          refine lv_ladd hx hb dX6_inLand_60 ?_
          refine lv_lstore_n (lv' := [(2, .long ((z5) + (x_14))), (4, .int (nI (i5))), (0, .ref (a 0)), (1, .int (kind))]) hx hb dX6_inLand_61 rfl hl (by decide) rfl (fun ls hl => ?_)
          refine n_iinc (x := i5) (dN := 1) (k := 1) (lv' := [(4, .int (nI (i5 + 1))), (2, .long ((z5) + (x_14))), (0, .ref (a 0)), (1, .int (kind))]) hx hb dX6_inLand_62 hl rfl (by decide) rfl (fun ls hl => ?_)
          refine lv_goto (tgt := 5) hx hb dX6_inLand_65 (by decide) ?_
          exact (hWW _ _ _ _ _).mp (ih5 (i5 + 1) (by omega) (by omega) ((z5) + (x_14)) (by show _ = m_inLand_b5 σ kind i5 (lp (m_inLand_b5 σ kind) i5 (0 : Int64)); rw [← hz5]; exact (Eq.trans (by unfold m_inLand_j60; rfl) hR_17.symm))  _ _ hP hD hS _ (lv_sub hl [0, 1, 2, 3] rfl))
        refine lv_if_ne (x := kind) (tgt := 28) hx hb dX6_inLand_14 (by decide) (fun c_12 => ?_) (fun c_12 => ?_)
        · refine lv_iload_n hx hb dX6_inLand_28 rfl (lv_at hl 3 rfl) ?_
          refine lv_iconst (v := nI (1)) hx hb dX6_inLand_29 (by decide) ?_
          refine lv_icmp_ne (x := kind) (y := nI (1)) (tgt := 52) hx hb dX6_inLand_30 (by decide) (fun c_18 => ?_) (fun c_18 => ?_)
          · refine lv_aload_n hx hb dX6_inLand_52 rfl (lv_at hl 2 rfl) ?_
            refine m_get (v := .ref (a 11)) hx hb hts hin hown hK hP 11 (by decide) rfl (index := 37) (List.mem_of_getElem? (i := 4) rfl) dX6_inLand_53 ?_
            refine lv_iload hx hb dX6_inLand_56 (lv_at hl 0 rfl) ?_
            refine m_ald (j := i5) hx hb hK hP 10 11 rfl (by decide) (by omega) dX6_inLand_58 ?_
            refine W.eq (g2 := F0 m 59 ls [.int ((σ.1 11 i5)), .long (z5)]) rfl ?_
            refine lv_i2l (v := ((σ.1 11 i5)).toInt64) hx hb dX6_inLand_59 rfl ?_
            exact (hWW _ _ _ _ _).mp (J60_15 _ (by simp only [if_neg c_12, if_neg c_18]) _ _ hP hD hS _ (lv_sub hl [0, 1, 2, 3] rfl))
          · refine lv_aload_n hx hb dX6_inLand_33 rfl (lv_at hl 2 rfl) ?_
            refine m_get (v := .ref (a 8)) hx hb hts hin hown hK hP 8 (by decide) rfl (index := 28) (List.mem_of_getElem? (i := 2) rfl) dX6_inLand_34 ?_
            refine lv_iload hx hb dX6_inLand_37 (lv_at hl 0 rfl) ?_
            refine m_ald (j := i5) hx hb hK hP 7 8 rfl (by decide) (by omega) dX6_inLand_39 ?_
            refine W.eq (g2 := F0 m 40 ls [.int ((σ.1 8 i5)), .long (z5)]) rfl ?_
            refine lv_aload_n hx hb dX6_inLand_40 rfl (lv_at hl 2 rfl) ?_
            refine m_get (v := .ref (a 9)) hx hb hts hin hown hK hP 9 (by decide) rfl (index := 31) (List.mem_of_getElem? (i := 3) rfl) dX6_inLand_41 ?_
            refine lv_iload hx hb dX6_inLand_44 (lv_at hl 0 rfl) ?_
            refine m_ald (j := i5) hx hb hK hP 8 9 rfl (by decide) (by omega) dX6_inLand_46 ?_
            refine W.eq (g2 := F0 m 47 ls [.int ((σ.1 9 i5)), .int ((σ.1 8 i5)), .long (z5)]) rfl ?_
            refine lv_iadd (x := (σ.1 8 i5)) (y := (σ.1 9 i5)) hx hb dX6_inLand_47 ?_
            refine lv_i2l (v := (((σ.1 8 i5)) + ((σ.1 9 i5))).toInt64) hx hb dX6_inLand_48 rfl ?_
            refine lv_goto (tgt := 60) hx hb dX6_inLand_49 (by decide) ?_
            exact (hWW _ _ _ _ _).mp (J60_15 _ (by simp only [if_neg c_12, if_pos c_18]) _ _ hP hD hS _ (lv_sub hl [0, 1, 2, 3] rfl))
        · refine lv_aload_n hx hb dX6_inLand_17 rfl (lv_at hl 2 rfl) ?_
          refine m_get (v := .ref (a 10)) hx hb hts hin hown hK hP 10 (by decide) rfl (index := 34) (List.mem_of_getElem? (i := 1) rfl) dX6_inLand_18 ?_
          refine lv_iload hx hb dX6_inLand_21 (lv_at hl 0 rfl) ?_
          refine m_ald (j := i5) hx hb hK hP 9 10 rfl (by decide) (by omega) dX6_inLand_23 ?_
          refine W.eq (g2 := F0 m 24 ls [.int ((σ.1 10 i5)), .long (z5)]) rfl ?_
          refine lv_i2l (v := ((σ.1 10 i5)).toInt64) hx hb dX6_inLand_24 rfl ?_
          refine lv_goto (tgt := 60) hx hb dX6_inLand_25 (by decide) ?_
          exact (hWW _ _ _ _ _).mp (J60_15 _ (by simp only [if_pos c_12]) _ _ hP hD hS _ (lv_sub hl [0, 1, 2, 3] rfl))
  exact (hWW _ _ _ _ _).mp (L5 (125 + 1) 0 (Nat.zero_le _) (by omega) (0 : Int64) rfl  _ _ hP hD hS _ (lv_sub hl [0, 1, 2, 3] rfl))

def m_balance_j139 (σ : Sg) (kind : Int32) (what : Int32) (x_3 : Int32) (x_11 : Int64) (x_18 : Int64) (x_25 : Int64) : Int64 := x_25
def m_balance_j139_s (σ : Sg) (kind : Int32) (what : Int32) (x_3 : Int32) (x_11 : Int64) (x_18 : Int64) (x_25 : Int64) : Sg := (m_refused_s σ x_3)
def m_balance_j96 (σ : Sg) (kind : Int32) (what : Int32) (x_3 : Int32) (x_11 : Int64) (x_18 : Int64) : Int64 := (m_balance_j139 σ kind what x_3 x_11 x_18 (if what = 0 then (m_inLand (m_refused_s σ x_3) kind) else (if what = nI (1) then x_11 else (if what = nI (2) then x_18 else ((x_11) - ((m_inLand (m_refused_s σ x_3) kind))) - (x_18)))))
def m_balance_j96_s (σ : Sg) (kind : Int32) (what : Int32) (x_3 : Int32) (x_11 : Int64) (x_18 : Int64) : Sg := (m_balance_j139_s σ kind what x_3 x_11 x_18 (if what = 0 then (m_inLand (m_refused_s σ x_3) kind) else (if what = nI (1) then x_11 else (if what = nI (2) then x_18 else ((x_11) - ((m_inLand (m_refused_s σ x_3) kind))) - (x_18)))))
def m_balance_j59 (σ : Sg) (kind : Int32) (what : Int32) (x_3 : Int32) (x_11 : Int64) : Int64 := (m_balance_j96 σ kind what x_3 x_11 (if kind = 0 then ((1000 : Int64)) * (((m_refused_s σ x_3).2 29)) else (if kind = nI (1) then ((m_refused_s σ x_3).2 29) else (((m_refused_s σ x_3).2 30)) + (((m_refused_s σ x_3).2 31)))))
def m_balance_j59_s (σ : Sg) (kind : Int32) (what : Int32) (x_3 : Int32) (x_11 : Int64) : Sg := (m_balance_j96_s σ kind what x_3 x_11 (if kind = 0 then ((1000 : Int64)) * (((m_refused_s σ x_3).2 29)) else (if kind = nI (1) then ((m_refused_s σ x_3).2 29) else (((m_refused_s σ x_3).2 30)) + (((m_refused_s σ x_3).2 31)))))
def m_balance_j24 (σ : Sg) (kind : Int32) (what : Int32) (x_3 : Int32) : Int64 := (if (m_refused σ x_3) = 0 then (m_balance_j59 σ kind what x_3 (if kind = 0 then ((m_refused_s σ x_3).2 26) else (if kind = nI (1) then ((m_refused_s σ x_3).2 27) else ((m_refused_s σ x_3).2 28)))) else (0 : Int64))
def m_balance_j24_s (σ : Sg) (kind : Int32) (what : Int32) (x_3 : Int32) : Sg := (if (m_refused σ x_3) = 0 then (m_balance_j59_s σ kind what x_3 (if kind = 0 then ((m_refused_s σ x_3).2 26) else (if kind = nI (1) then ((m_refused_s σ x_3).2 27) else ((m_refused_s σ x_3).2 28)))) else (m_refused_s σ x_3))
def m_balance (σ : Sg) (kind : Int32) (what : Int32) : Int64 := (m_balance_j24 σ kind what (if (m_within kind (nI (0)) (nI (2))) = 0 then nI (1) else (if (m_within what (nI (0)) (nI (3))) = 0 then nI (1) else nI (0))))
def m_balance_s (σ : Sg) (kind : Int32) (what : Int32) : Sg := (m_balance_j24_s σ kind what (if (m_within kind (nI (0)) (nI (2))) = 0 then nI (1) else (if (m_within what (nI (0)) (nI (3))) = 0 then nI (1) else nI (0))))
set_option maxHeartbeats 4000000 in
set_option maxRecDepth 100000 in
theorem cm_balance (l : Launch) (G : va_G) (cI cZ : ClassId) (a : Nat → Nat) (σ : Sg) (kind : Int32) (what : Int32) : mL l yX6_balance wsX6_balance ({ frames := 1, cells := 0, slots := 0, locals := 24 } : Room) G cI cZ a σ [.int (kind), .int (what)] (m_balance σ kind what) (m_balance_s σ kind what) := by
  unfold mL
  refine Met.ofW (cc := cX6_balance) (maxL := 7) (ret := (some .long)) (by decide) rfl ?_
  intro p e s m args below meth c s₁ B hml hv
  obtain ⟨rfl, hP, hK, hD⟩ := hv
  have hx := B.exec
  have hb := B.bytes
  have hr := B.returns
  have hts := atoms_spec (ws := wsX6_balance) B.pre
  have hown : s.vm.findClass RX6 = some m.cls := findClass_of_methodNamed B.named
  have hlocks := B.notSynchronized
  have hS : va_S (mA a) s.heap s.heap [] := va_S.rf
  have hin : ∀ w ∈ wsX60, w ∈ wsX6_balance := fun w h => List.mem_cons_of_mem _ (List.mem_append_right _ h)
  have hl := lv_entry ([.ref (a 0), .int (kind), .int (what)]) (n := 7) (Nat.le_of_ble_eq_true rfl)
  rw [lg_entry_eq]
  generalize (lg_sl ([.ref (a 0), .int (kind), .int (what)]) ++ List.replicate (7 - (lg_sl ([.ref (a 0), .int (kind), .int (what)])).length) Slot.unset).toArray = ls at hl ⊢
  have hl : lv_has ls 7 [(0, .ref (a 0)), (1, .int (kind)), (2, .int (what))] := hl
  refine w_named (fun WW hWW => ?_)
  have hP : va_P G vwCl (wm cI cZ a σ) s.heap := hP
  refine lv_aload_n hx hb dX6_balance_0 rfl (lv_at hl 0 rfl) ?_
  refine lv_iload_n hx hb dX6_balance_1 rfl (lv_at hl 1 rfl) ?_
  refine lv_iconst (v := nI (0)) hx hb dX6_balance_2 (by decide) ?_
  refine lv_iconst (v := nI (2)) hx hb dX6_balance_3 (by decide) ?_
  refine m_callS (As := [.int (kind), .int (nI (0)), .int (nI (2))]) (rest := [.ref (a 0)]) ⟨hx, hb, hml, hown, hts⟩ (cm_within l kind (nI (0)) (nI (2)) ) (va_cwS 3 hts gX6_balance_X6_within rfl rfl rfl (by decide +kernel) ⟨Nat.le_of_ble_eq_true rfl, Nat.le_of_ble_eq_true rfl⟩) hP hS rfl hl.1 rfl (Nat.le_of_ble_eq_true rfl) dX6_balance_4 ⟨Nat.zero_le _, Nat.zero_le _⟩ (fun H locs hP hS => ?_)
  have J24_4 : ∀ (x_3 : Int32), x_3 = (if (m_within kind (nI (0)) (nI (2))) = 0 then nI (1) else (if (m_within what (nI (0)) (nI (3))) = 0 then nI (1) else nI (0))) → ∀ (H : Heap) (locs : List Loc), va_P G vwCl (wm cI cZ a σ) H → va_D (mA a) (wm cI cZ a σ) → va_S (mA a) s.heap H locs → ∀ (ls : Array Slot), lv_has ls 7 [(0, .ref (a 0)), (1, .int (kind)), (2, .int (what))] → WW H locs 0 0 (F0 m 24 ls [.int (x_3), .ref (a 0)]) := by
    intro x_3 h_5 H locs hP hD hS ls hl
    refine (hWW _ _ _ _ _).mpr ?_
    have hR_6 : m_balance σ kind what = m_balance_j24 σ kind what x_3 := (by subst h_5; unfold m_balance; rfl)
    have hR_7 : m_balance_s σ kind what = m_balance_j24_s σ kind what x_3 := (by subst h_5; unfold m_balance_s; rfl)
    refine m_callI (As := [.int (x_3)]) (rest := []) (fun _ h => h) ⟨hx, hb, hml, hown, hts⟩ (cm_refused l G cI cZ a σ  x_3 ) (cwV 1 hts gX6_balance_X6_refused rfl rfl rfl (by decide +kernel) ⟨Nat.le_of_ble_eq_true rfl, Nat.le_of_ble_eq_true rfl⟩) hK hP hD hS rfl hl.1 rfl (Nat.le_of_ble_eq_true rfl) dX6_balance_24 ⟨Nat.zero_le _, Nat.zero_le _⟩ (fun H locs hP hD _ _ hS => ?_)
    refine lv_if_eq (x := (m_refused σ x_3)) (tgt := 32) hx hb dX6_balance_27 (by decide) (fun c_8 => ?_) (fun c_8 => ?_)
    · refine lv_iload_n hx hb dX6_balance_32 rfl (lv_at hl 1 rfl) ?_
      have J59_12 : ∀ (x_11 : Int64), x_11 = (if kind = 0 then ((m_refused_s σ x_3).2 26) else (if kind = nI (1) then ((m_refused_s σ x_3).2 27) else ((m_refused_s σ x_3).2 28))) → ∀ (H : Heap) (locs : List Loc), va_P G vwCl (wm cI cZ a (m_refused_s σ x_3)) H → va_D (mA a) (wm cI cZ a (m_refused_s σ x_3)) → va_S (mA a) s.heap H locs → ∀ (ls : Array Slot), lv_has ls 7 [(0, .ref (a 0)), (1, .int (kind)), (2, .int (what))] → WW H locs 0 0 (F0 m 59 ls [.long (x_11)]) := by
        intro x_11 h_13 H locs hP hD hS ls hl
        refine (hWW _ _ _ _ _).mpr ?_
        have hR_14 : m_balance σ kind what = m_balance_j59 σ kind what x_3 x_11 := (Eq.trans hR_6 (by subst h_13; unfold m_balance_j24; simp only [if_pos c_8]))
        have hR_15 : m_balance_s σ kind what = m_balance_j59_s σ kind what x_3 x_11 := (Eq.trans hR_7 (by subst h_13; unfold m_balance_j24_s; simp only [if_pos c_8]))
        refine lv_lstore_n (lv' := [(3, .long (x_11)), (0, .ref (a 0)), (1, .int (kind)), (2, .int (what))]) hx hb dX6_balance_59 rfl hl (by decide) rfl (fun ls hl => ?_)
        refine lv_iload_n hx hb dX6_balance_60 rfl (lv_at hl 2 rfl) ?_
        have J96_19 : ∀ (x_18 : Int64), x_18 = (if kind = 0 then ((1000 : Int64)) * (((m_refused_s σ x_3).2 29)) else (if kind = nI (1) then ((m_refused_s σ x_3).2 29) else (((m_refused_s σ x_3).2 30)) + (((m_refused_s σ x_3).2 31)))) → ∀ (H : Heap) (locs : List Loc), va_P G vwCl (wm cI cZ a (m_refused_s σ x_3)) H → va_D (mA a) (wm cI cZ a (m_refused_s σ x_3)) → va_S (mA a) s.heap H locs → ∀ (ls : Array Slot), lv_has ls 7 [(3, .long (x_11)), (0, .ref (a 0)), (1, .int (kind)), (2, .int (what))] → WW H locs 0 0 (F0 m 96 ls [.long (x_18)]) := by
          intro x_18 h_20 H locs hP hD hS ls hl
          refine (hWW _ _ _ _ _).mpr ?_
          have hR_21 : m_balance σ kind what = m_balance_j96 σ kind what x_3 x_11 x_18 := (Eq.trans hR_14 (by subst h_20; unfold m_balance_j59; rfl))
          have hR_22 : m_balance_s σ kind what = m_balance_j96_s σ kind what x_3 x_11 x_18 := (Eq.trans hR_15 (by subst h_20; unfold m_balance_j59_s; rfl))
          refine lv_lstore (lv' := [(5, .long (x_18)), (3, .long (x_11)), (0, .ref (a 0)), (1, .int (kind)), (2, .int (what))]) hx hb dX6_balance_96 hl (by decide) rfl (fun ls hl => ?_)
          refine lv_iload_n hx hb dX6_balance_98 rfl (lv_at hl 4 rfl) ?_
          have J139_26 : ∀ (x_25 : Int64), x_25 = (if what = 0 then (m_inLand (m_refused_s σ x_3) kind) else (if what = nI (1) then x_11 else (if what = nI (2) then x_18 else ((x_11) - ((m_inLand (m_refused_s σ x_3) kind))) - (x_18)))) → ∀ (H : Heap) (locs : List Loc), va_P G vwCl (wm cI cZ a (m_refused_s σ x_3)) H → va_D (mA a) (wm cI cZ a (m_refused_s σ x_3)) → va_S (mA a) s.heap H locs → ∀ (ls : Array Slot), lv_has ls 7 [(5, .long (x_18)), (3, .long (x_11)), (0, .ref (a 0)), (1, .int (kind)), (2, .int (what))] → WW H locs 0 0 (F0 m 139 ls [.long (x_25)]) := by
            intro x_25 h_27 H locs hP hD hS ls hl
            refine (hWW _ _ _ _ _).mpr ?_
            have hR_28 : m_balance σ kind what = m_balance_j139 σ kind what x_3 x_11 x_18 x_25 := (Eq.trans hR_21 (by subst h_27; unfold m_balance_j96; rfl))
            have hR_29 : m_balance_s σ kind what = m_balance_j139_s σ kind what x_3 x_11 x_18 x_25 := (Eq.trans hR_22 (by subst h_27; unfold m_balance_j96_s; rfl))
            exact m_lret (v := x_25) hx hb hr hlocks hP hK hD hS dX6_balance_139 (Eq.trans (by unfold m_balance_j139; rfl) hR_28.symm) (Eq.trans (by unfold m_balance_j139_s; rfl) hR_29.symm)
          refine lv_if_ne (x := what) (tgt := 110) hx hb dX6_balance_99 (by decide) (fun c_23 => ?_) (fun c_23 => ?_)
          · refine lv_iload_n hx hb dX6_balance_110 rfl (lv_at hl 4 rfl) ?_
            refine lv_iconst (v := nI (1)) hx hb dX6_balance_111 (by decide) ?_
            refine lv_icmp_ne (x := what) (y := nI (1)) (tgt := 119) hx hb dX6_balance_112 (by decide) (fun c_30 => ?_) (fun c_30 => ?_)
            · refine lv_iload_n hx hb dX6_balance_119 rfl (lv_at hl 4 rfl) ?_
              refine lv_iconst (v := nI (2)) hx hb dX6_balance_120 (by decide) ?_
              refine lv_icmp_ne (x := what) (y := nI (2)) (tgt := 129) hx hb dX6_balance_121 (by decide) (fun c_31 => ?_) (fun c_31 => ?_)
              · refine lv_lload_n hx hb dX6_balance_129 rfl (lv_at hl 1 rfl) ?_
                refine lv_aload_n hx hb dX6_balance_130 rfl (lv_at hl 2 rfl) ?_
                refine lv_iload_n hx hb dX6_balance_131 rfl (lv_at hl 3 rfl) ?_
                refine m_callL (As := [.int (kind)]) (rest := [.long (x_11)]) (fun _ h => h) ⟨hx, hb, hml, hown, hts⟩ (cm_inLand l G cI cZ a (m_refused_s σ x_3)  kind ) (cwV 1 hts gX6_balance_X6_inLand rfl rfl rfl (by decide +kernel) ⟨Nat.le_of_ble_eq_true rfl, Nat.le_of_ble_eq_true rfl⟩) hK hP hD hS rfl hl.1 rfl (Nat.le_of_ble_eq_true rfl) dX6_balance_132 ⟨Nat.zero_le _, Nat.zero_le _⟩ (fun H locs hP hD _ _ hS => ?_)
                refine lv_lsub hx hb dX6_balance_135 ?_
                refine lv_lload hx hb dX6_balance_136 (lv_at hl 0 rfl) ?_
                refine lv_lsub hx hb dX6_balance_138 ?_
                exact (hWW _ _ _ _ _).mp (J139_26 _ (by simp only [if_neg c_23, if_neg c_30, if_neg c_31]) _ _ hP hD hS _ (lv_sub hl [0, 1, 2, 3, 4] rfl))
              · refine lv_lload hx hb dX6_balance_124 (lv_at hl 0 rfl) ?_
                refine lv_goto (tgt := 139) hx hb dX6_balance_126 (by decide) ?_
                exact (hWW _ _ _ _ _).mp (J139_26 _ (by simp only [if_neg c_23, if_neg c_30, if_pos c_31]) _ _ hP hD hS _ (lv_sub hl [0, 1, 2, 3, 4] rfl))
            · refine lv_lload_n hx hb dX6_balance_115 rfl (lv_at hl 1 rfl) ?_
              refine lv_goto (tgt := 139) hx hb dX6_balance_116 (by decide) ?_
              exact (hWW _ _ _ _ _).mp (J139_26 _ (by simp only [if_neg c_23, if_pos c_30]) _ _ hP hD hS _ (lv_sub hl [0, 1, 2, 3, 4] rfl))
          · refine lv_aload_n hx hb dX6_balance_102 rfl (lv_at hl 2 rfl) ?_
            refine lv_iload_n hx hb dX6_balance_103 rfl (lv_at hl 3 rfl) ?_
            refine m_callL (As := [.int (kind)]) (rest := []) (fun _ h => h) ⟨hx, hb, hml, hown, hts⟩ (cm_inLand l G cI cZ a (m_refused_s σ x_3)  kind ) (cwV 1 hts gX6_balance_X6_inLand rfl rfl rfl (by decide +kernel) ⟨Nat.le_of_ble_eq_true rfl, Nat.le_of_ble_eq_true rfl⟩) hK hP hD hS rfl hl.1 rfl (Nat.le_of_ble_eq_true rfl) dX6_balance_104 ⟨Nat.zero_le _, Nat.zero_le _⟩ (fun H locs hP hD _ _ hS => ?_)
            refine lv_goto (tgt := 139) hx hb dX6_balance_107 (by decide) ?_
            exact (hWW _ _ _ _ _).mp (J139_26 _ (by simp only [if_pos c_23]) _ _ hP hD hS _ (lv_sub hl [0, 1, 2, 3, 4] rfl))
        refine lv_if_ne (x := kind) (tgt := 75) hx hb dX6_balance_61 (by decide) (fun c_16 => ?_) (fun c_16 => ?_)
        · refine lv_iload_n hx hb dX6_balance_75 rfl (lv_at hl 2 rfl) ?_
          refine lv_iconst (v := nI (1)) hx hb dX6_balance_76 (by decide) ?_
          refine lv_icmp_ne (x := kind) (y := nI (1)) (tgt := 87) hx hb dX6_balance_77 (by decide) (fun c_32 => ?_) (fun c_32 => ?_)
          · refine lv_aload_n hx hb dX6_balance_87 rfl (lv_at hl 1 rfl) ?_
            refine m_get (v := .long (((m_refused_s σ x_3).2 30))) hx hb hts hin hown hK hP 30 (by decide) rfl (index := 162) (List.mem_of_getElem? (i := 6) rfl) dX6_balance_88 ?_
            refine lv_aload_n hx hb dX6_balance_91 rfl (lv_at hl 1 rfl) ?_
            refine m_get (v := .long (((m_refused_s σ x_3).2 31))) hx hb hts hin hown hK hP 31 (by decide) rfl (index := 159) (List.mem_of_getElem? (i := 7) rfl) dX6_balance_92 ?_
            refine lv_ladd hx hb dX6_balance_95 ?_
            exact (hWW _ _ _ _ _).mp (J96_19 _ (by simp only [if_neg c_16, if_neg c_32]) _ _ hP hD hS _ (lv_sub hl [0, 1, 2, 3] rfl))
          · refine lv_aload_n hx hb dX6_balance_80 rfl (lv_at hl 1 rfl) ?_
            refine m_get (v := .long (((m_refused_s σ x_3).2 29))) hx hb hts hin hown hK hP 29 (by decide) rfl (index := 168) (List.mem_of_getElem? (i := 5) rfl) dX6_balance_81 ?_
            refine lv_goto (tgt := 96) hx hb dX6_balance_84 (by decide) ?_
            exact (hWW _ _ _ _ _).mp (J96_19 _ (by simp only [if_neg c_16, if_pos c_32]) _ _ hP hD hS _ (lv_sub hl [0, 1, 2, 3] rfl))
        · refine lv_ldc2 (own := RX6) (v := 1000) hx hb hown (hts _ (List.mem_of_getElem? (i := 4) rfl)) dX6_balance_64 ?_
          refine lv_aload_n hx hb dX6_balance_67 rfl (lv_at hl 1 rfl) ?_
          refine m_get (v := .long (((m_refused_s σ x_3).2 29))) hx hb hts hin hown hK hP 29 (by decide) rfl (index := 168) (List.mem_of_getElem? (i := 5) rfl) dX6_balance_68 ?_
          refine lv_lmul hx hb dX6_balance_71 ?_
          refine lv_goto (tgt := 96) hx hb dX6_balance_72 (by decide) ?_
          exact (hWW _ _ _ _ _).mp (J96_19 _ (by simp only [if_pos c_16]) _ _ hP hD hS _ (lv_sub hl [0, 1, 2, 3] rfl))
      refine lv_if_ne (x := kind) (tgt := 43) hx hb dX6_balance_33 (by decide) (fun c_9 => ?_) (fun c_9 => ?_)
      · refine lv_iload_n hx hb dX6_balance_43 rfl (lv_at hl 1 rfl) ?_
        refine lv_iconst (v := nI (1)) hx hb dX6_balance_44 (by decide) ?_
        refine lv_icmp_ne (x := kind) (y := nI (1)) (tgt := 55) hx hb dX6_balance_45 (by decide) (fun c_33 => ?_) (fun c_33 => ?_)
        · refine lv_aload_n hx hb dX6_balance_55 rfl (lv_at hl 0 rfl) ?_
          refine m_get (v := .long (((m_refused_s σ x_3).2 28))) hx hb hts hin hown hK hP 28 (by decide) rfl (index := 87) (List.mem_of_getElem? (i := 3) rfl) dX6_balance_56 ?_
          exact (hWW _ _ _ _ _).mp (J59_12 _ (by simp only [if_neg c_9, if_neg c_33]) _ _ hP hD hS _ (lv_sub hl [0, 1, 2] rfl))
        · refine lv_aload_n hx hb dX6_balance_48 rfl (lv_at hl 0 rfl) ?_
          refine m_get (v := .long (((m_refused_s σ x_3).2 27))) hx hb hts hin hown hK hP 27 (by decide) rfl (index := 82) (List.mem_of_getElem? (i := 2) rfl) dX6_balance_49 ?_
          refine lv_goto (tgt := 59) hx hb dX6_balance_52 (by decide) ?_
          exact (hWW _ _ _ _ _).mp (J59_12 _ (by simp only [if_neg c_9, if_pos c_33]) _ _ hP hD hS _ (lv_sub hl [0, 1, 2] rfl))
      · refine lv_aload_n hx hb dX6_balance_36 rfl (lv_at hl 0 rfl) ?_
        refine m_get (v := .long (((m_refused_s σ x_3).2 26))) hx hb hts hin hown hK hP 26 (by decide) rfl (index := 76) (List.mem_of_getElem? (i := 1) rfl) dX6_balance_37 ?_
        refine lv_goto (tgt := 59) hx hb dX6_balance_40 (by decide) ?_
        exact (hWW _ _ _ _ _).mp (J59_12 _ (by simp only [if_pos c_9]) _ _ hP hD hS _ (lv_sub hl [0, 1, 2] rfl))
    · refine lv_lconst (v := 0) hx hb dX6_balance_30 (by decide) ?_
      exact m_lret (v := (0 : Int64)) hx hb hr hlocks hP hK hD hS dX6_balance_31 (Eq.trans (by unfold m_balance_j24; simp only [if_neg c_8]) hR_6.symm) (Eq.trans (by unfold m_balance_j24_s; simp only [if_neg c_8]) hR_7.symm)
  refine lv_if_eq (x := (m_within kind (nI (0)) (nI (2)))) (tgt := 23) hx hb dX6_balance_7 (by decide) (fun c_1 => ?_) (fun c_1 => ?_)
  · refine lv_iconst (v := nI (1)) hx hb dX6_balance_23 (by decide) ?_
    exact (hWW _ _ _ _ _).mp (J24_4 _ (by simp only [if_pos c_1]) _ _ hP hD hS _ (lv_sub hl [0, 1, 2] rfl))
  · refine lv_iload_n hx hb dX6_balance_10 rfl (lv_at hl 2 rfl) ?_
    refine lv_iconst (v := nI (0)) hx hb dX6_balance_11 (by decide) ?_
    refine lv_iconst (v := nI (3)) hx hb dX6_balance_12 (by decide) ?_
    refine m_callS (As := [.int (what), .int (nI (0)), .int (nI (3))]) (rest := [.ref (a 0)]) ⟨hx, hb, hml, hown, hts⟩ (cm_within l what (nI (0)) (nI (3)) ) (va_cwS 3 hts gX6_balance_X6_within rfl rfl rfl (by decide +kernel) ⟨Nat.le_of_ble_eq_true rfl, Nat.le_of_ble_eq_true rfl⟩) hP hS rfl hl.1 rfl (Nat.le_of_ble_eq_true rfl) dX6_balance_13 ⟨Nat.zero_le _, Nat.zero_le _⟩ (fun H locs hP hS => ?_)
    refine lv_if_eq (x := (m_within what (nI (0)) (nI (3)))) (tgt := 23) hx hb dX6_balance_16 (by decide) (fun c_34 => ?_) (fun c_34 => ?_)
    · refine lv_iconst (v := nI (1)) hx hb dX6_balance_23 (by decide) ?_
      exact (hWW _ _ _ _ _).mp (J24_4 _ (by simp only [if_neg c_1, if_pos c_34]) _ _ hP hD hS _ (lv_sub hl [0, 1, 2] rfl))
    · refine lv_iconst (v := nI (0)) hx hb dX6_balance_19 (by decide) ?_
      refine lv_goto (tgt := 24) hx hb dX6_balance_20 (by decide) ?_
      exact (hWW _ _ _ _ _).mp (J24_4 _ (by simp only [if_neg c_1, if_neg c_34]) _ _ hP hD hS _ (lv_sub hl [0, 1, 2] rfl))

def m_air_j40 (σ : Sg) (gas : Int32) (x_3 : Int32) (x_10 : Int64) : Int64 := x_10
def m_air_j40_s (σ : Sg) (gas : Int32) (x_3 : Int32) (x_10 : Int64) : Sg := (m_refused_s σ x_3)
def m_air_j15 (σ : Sg) (gas : Int32) (x_3 : Int32) : Int64 := (m_air_j40 σ gas x_3 (if (m_refused σ x_3) = 0 then (if gas = 0 then ((m_refused_s σ x_3).2 30) else ((m_refused_s σ x_3).2 31)) else (0 : Int64)))
def m_air_j15_s (σ : Sg) (gas : Int32) (x_3 : Int32) : Sg := (m_air_j40_s σ gas x_3 (if (m_refused σ x_3) = 0 then (if gas = 0 then ((m_refused_s σ x_3).2 30) else ((m_refused_s σ x_3).2 31)) else (0 : Int64)))
def m_air (σ : Sg) (gas : Int32) : Int64 := (m_air_j15 σ gas (if (m_within gas (nI (0)) (nI (1))) = 0 then nI (1) else nI (0)))
def m_air_s (σ : Sg) (gas : Int32) : Sg := (m_air_j15_s σ gas (if (m_within gas (nI (0)) (nI (1))) = 0 then nI (1) else nI (0)))
set_option maxHeartbeats 4000000 in
set_option maxRecDepth 100000 in
theorem cm_air (l : Launch) (G : va_G) (cI cZ : ClassId) (a : Nat → Nat) (σ : Sg) (gas : Int32) : mL l yX6_air wsX6_air ({ frames := 1, cells := 0, slots := 0, locals := 22 } : Room) G cI cZ a σ [.int (gas)] (m_air σ gas) (m_air_s σ gas) := by
  unfold mL
  refine Met.ofW (cc := cX6_air) (maxL := 2) (ret := (some .long)) (by decide) rfl ?_
  intro p e s m args below meth c s₁ B hml hv
  obtain ⟨rfl, hP, hK, hD⟩ := hv
  have hx := B.exec
  have hb := B.bytes
  have hr := B.returns
  have hts := atoms_spec (ws := wsX6_air) B.pre
  have hown : s.vm.findClass RX6 = some m.cls := findClass_of_methodNamed B.named
  have hlocks := B.notSynchronized
  have hS : va_S (mA a) s.heap s.heap [] := va_S.rf
  have hin : ∀ w ∈ wsX60, w ∈ wsX6_air := fun w h => List.mem_cons_of_mem _ (List.mem_append_right _ h)
  have hl := lv_entry ([.ref (a 0), .int (gas)]) (n := 2) (Nat.le_of_ble_eq_true rfl)
  rw [lg_entry_eq]
  generalize (lg_sl ([.ref (a 0), .int (gas)]) ++ List.replicate (2 - (lg_sl ([.ref (a 0), .int (gas)])).length) Slot.unset).toArray = ls at hl ⊢
  have hl : lv_has ls 2 [(0, .ref (a 0)), (1, .int (gas))] := hl
  refine w_named (fun WW hWW => ?_)
  have hP : va_P G vwCl (wm cI cZ a σ) s.heap := hP
  refine lv_aload_n hx hb dX6_air_0 rfl (lv_at hl 0 rfl) ?_
  refine lv_iload_n hx hb dX6_air_1 rfl (lv_at hl 1 rfl) ?_
  refine lv_iconst (v := nI (0)) hx hb dX6_air_2 (by decide) ?_
  refine lv_iconst (v := nI (1)) hx hb dX6_air_3 (by decide) ?_
  refine m_callS (As := [.int (gas), .int (nI (0)), .int (nI (1))]) (rest := [.ref (a 0)]) ⟨hx, hb, hml, hown, hts⟩ (cm_within l gas (nI (0)) (nI (1)) ) (va_cwS 3 hts gX6_air_X6_within rfl rfl rfl (by decide +kernel) ⟨Nat.le_of_ble_eq_true rfl, Nat.le_of_ble_eq_true rfl⟩) hP hS rfl hl.1 rfl (Nat.le_of_ble_eq_true rfl) dX6_air_4 ⟨Nat.zero_le _, Nat.zero_le _⟩ (fun H locs hP hS => ?_)
  have J15_4 : ∀ (x_3 : Int32), x_3 = (if (m_within gas (nI (0)) (nI (1))) = 0 then nI (1) else nI (0)) → ∀ (H : Heap) (locs : List Loc), va_P G vwCl (wm cI cZ a σ) H → va_D (mA a) (wm cI cZ a σ) → va_S (mA a) s.heap H locs → ∀ (ls : Array Slot), lv_has ls 2 [(0, .ref (a 0)), (1, .int (gas))] → WW H locs 0 0 (F0 m 15 ls [.int (x_3), .ref (a 0)]) := by
    intro x_3 h_5 H locs hP hD hS ls hl
    refine (hWW _ _ _ _ _).mpr ?_
    have hR_6 : m_air σ gas = m_air_j15 σ gas x_3 := (by subst h_5; unfold m_air; rfl)
    have hR_7 : m_air_s σ gas = m_air_j15_s σ gas x_3 := (by subst h_5; unfold m_air_s; rfl)
    refine m_callI (As := [.int (x_3)]) (rest := []) (fun _ h => h) ⟨hx, hb, hml, hown, hts⟩ (cm_refused l G cI cZ a σ  x_3 ) (cwV 1 hts gX6_air_X6_refused rfl rfl rfl (by decide +kernel) ⟨Nat.le_of_ble_eq_true rfl, Nat.le_of_ble_eq_true rfl⟩) hK hP hD hS rfl hl.1 rfl (Nat.le_of_ble_eq_true rfl) dX6_air_15 ⟨Nat.zero_le _, Nat.zero_le _⟩ (fun H locs hP hD _ _ hS => ?_)
    have J40_11 : ∀ (x_10 : Int64), x_10 = (if (m_refused σ x_3) = 0 then (if gas = 0 then ((m_refused_s σ x_3).2 30) else ((m_refused_s σ x_3).2 31)) else (0 : Int64)) → ∀ (H : Heap) (locs : List Loc), va_P G vwCl (wm cI cZ a (m_refused_s σ x_3)) H → va_D (mA a) (wm cI cZ a (m_refused_s σ x_3)) → va_S (mA a) s.heap H locs → ∀ (ls : Array Slot), lv_has ls 2 [(0, .ref (a 0)), (1, .int (gas))] → WW H locs 0 0 (F0 m 40 ls [.long (x_10)]) := by
      intro x_10 h_12 H locs hP hD hS ls hl
      refine (hWW _ _ _ _ _).mpr ?_
      have hR_13 : m_air σ gas = m_air_j40 σ gas x_3 x_10 := (Eq.trans hR_6 (by subst h_12; unfold m_air_j15; rfl))
      have hR_14 : m_air_s σ gas = m_air_j40_s σ gas x_3 x_10 := (Eq.trans hR_7 (by subst h_12; unfold m_air_j15_s; rfl))
      exact m_lret (v := x_10) hx hb hr hlocks hP hK hD hS dX6_air_40 (Eq.trans (by unfold m_air_j40; rfl) hR_13.symm) (Eq.trans (by unfold m_air_j40_s; rfl) hR_14.symm)
    refine lv_if_eq (x := (m_refused σ x_3)) (tgt := 25) hx hb dX6_air_18 (by decide) (fun c_8 => ?_) (fun c_8 => ?_)
    · refine lv_iload_n hx hb dX6_air_25 rfl (lv_at hl 1 rfl) ?_
      refine lv_if_ne (x := gas) (tgt := 36) hx hb dX6_air_26 (by decide) (fun c_15 => ?_) (fun c_15 => ?_)
      · refine lv_aload_n hx hb dX6_air_36 rfl (lv_at hl 0 rfl) ?_
        refine m_get (v := .long (((m_refused_s σ x_3).2 31))) hx hb hts hin hown hK hP 31 (by decide) rfl (index := 159) (List.mem_of_getElem? (i := 2) rfl) dX6_air_37 ?_
        exact (hWW _ _ _ _ _).mp (J40_11 _ (by simp only [if_pos c_8, if_neg c_15]) _ _ hP hD hS _ (lv_sub hl [0, 1] rfl))
      · refine lv_aload_n hx hb dX6_air_29 rfl (lv_at hl 0 rfl) ?_
        refine m_get (v := .long (((m_refused_s σ x_3).2 30))) hx hb hts hin hown hK hP 30 (by decide) rfl (index := 162) (List.mem_of_getElem? (i := 1) rfl) dX6_air_30 ?_
        refine lv_goto (tgt := 40) hx hb dX6_air_33 (by decide) ?_
        exact (hWW _ _ _ _ _).mp (J40_11 _ (by simp only [if_pos c_8, if_pos c_15]) _ _ hP hD hS _ (lv_sub hl [0, 1] rfl))
    · refine lv_lconst (v := 0) hx hb dX6_air_21 (by decide) ?_
      refine lv_goto (tgt := 40) hx hb dX6_air_22 (by decide) ?_
      exact (hWW _ _ _ _ _).mp (J40_11 _ (by simp only [if_neg c_8]) _ _ hP hD hS _ (lv_sub hl [0, 1] rfl))
  refine lv_if_eq (x := (m_within gas (nI (0)) (nI (1)))) (tgt := 14) hx hb dX6_air_7 (by decide) (fun c_1 => ?_) (fun c_1 => ?_)
  · refine lv_iconst (v := nI (1)) hx hb dX6_air_14 (by decide) ?_
    exact (hWW _ _ _ _ _).mp (J15_4 _ (by simp only [if_pos c_1]) _ _ hP hD hS _ (lv_sub hl [0, 1] rfl))
  · refine lv_iconst (v := nI (0)) hx hb dX6_air_10 (by decide) ?_
    refine lv_goto (tgt := 15) hx hb dX6_air_11 (by decide) ?_
    exact (hWW _ _ _ _ _).mp (J15_4 _ (by simp only [if_neg c_1]) _ _ hP hD hS _ (lv_sub hl [0, 1] rfl))
