def m_lakeOf_x8 (σ : Sg) (cl : Int32) (s_1 : Sg) (z8 : Int32) : Int32 := z8
def m_lakeOf_x8_s (σ : Sg) (cl : Int32) (s_1 : Sg) (z8 : Int32) : Sg := s_1
def m_lakeOf_j45 (s_1 : Sg) (cl : Int32) (i8 : Nat) (z8 : Int32) (x_10 : Int32) : Int32 := (z8) + (x_10)
def m_lakeOf_b8 (s_1 : Sg) (cl : Int32) (i8 : Nat) (z8 : Int32) : Int32 := (m_lakeOf_j45 s_1 cl i8 z8 (if (s_1.1 7 ((cl).toNatClampNeg)) = (-1) then nI (0) else (if (s_1.1 7 i8) = (s_1.1 7 ((cl).toNatClampNeg)) then nI (1) else nI (0))))
def m_lakeOf_k4 (σ : Sg) (cl : Int32) (s_1 : Sg) : Int32 := (m_lakeOf_x8 σ cl s_1 (lp (m_lakeOf_b8 s_1 cl) 25 (nI (0))))
def m_lakeOf_k4_s (σ : Sg) (cl : Int32) (s_1 : Sg) : Sg := (m_lakeOf_x8_s σ cl s_1 (lp (m_lakeOf_b8 s_1 cl) 25 (nI (0))))
def m_lakeOf (σ : Sg) (cl : Int32) : Int32 := (m_lakeOf_k4 σ cl (m_gather_s σ))
def m_lakeOf_s (σ : Sg) (cl : Int32) : Sg := (m_lakeOf_k4_s σ cl (m_gather_s σ))
set_option maxHeartbeats 4000000 in
set_option maxRecDepth 100000 in
theorem cm_lakeOf (l : Launch) (G : va_G) (cI cZ : ClassId) (a : Nat → Nat) (σ : Sg) (cl : Int32) (hc : vp_in cl 25) : mI l yX6_lakeOf wsX6_lakeOf ({ frames := 2, cells := 0, slots := 0, locals := 45 } : Room) G cI cZ a σ [.int (cl)] (m_lakeOf σ cl) (m_lakeOf_s σ cl) := by
  unfold mI
  refine Met.ofW (cc := cX6_lakeOf) (maxL := 4) (ret := (some .int)) (by decide) rfl ?_
  intro p e s m args below meth c s₁ B hml hv
  obtain ⟨rfl, hP, hK, hD⟩ := hv
  have hx := B.exec
  have hb := B.bytes
  have hr := B.returns
  have hts := atoms_spec (ws := wsX6_lakeOf) B.pre
  have hown : s.vm.findClass RX6 = some m.cls := findClass_of_methodNamed B.named
  have hlocks := B.notSynchronized
  have hS : va_S (mA a) s.heap s.heap [] := va_S.rf
  have hin : ∀ w ∈ wsX60, w ∈ wsX6_lakeOf := fun w h => List.mem_cons_of_mem _ (List.mem_append_right _ h)
  have hl := lv_entry ([.ref (a 0), .int (cl)]) (n := 4) (Nat.le_of_ble_eq_true rfl)
  rw [lg_entry_eq]
  generalize (lg_sl ([.ref (a 0), .int (cl)]) ++ List.replicate (4 - (lg_sl ([.ref (a 0), .int (cl)])).length) Slot.unset).toArray = ls at hl ⊢
  have hl : lv_has ls 4 [(0, .ref (a 0)), (1, .int (cl))] := hl
  refine w_named (fun WW hWW => ?_)
  have hP : va_P G vwCl (wm cI cZ a σ) s.heap := hP
  refine lv_aload_n hx hb dX6_lakeOf_0 rfl (lv_at hl 0 rfl) ?_
  refine m_callV (As := []) (rest := []) (fun _ h => h) ⟨hx, hb, hml, hown, hts⟩ (cm_gather l G cI cZ a σ   ) (cwV 0 hts gX6_lakeOf_X6_gather rfl rfl rfl (by decide +kernel) ⟨Nat.le_of_ble_eq_true rfl, Nat.le_of_ble_eq_true rfl⟩) hK hP hD hS rfl hl.1 rfl (Nat.le_of_ble_eq_true rfl) dX6_lakeOf_1 ⟨Nat.zero_le _, Nat.zero_le _⟩ (fun H locs hP hD _ _ hS => ?_)
  obtain ⟨s_1, e_2⟩ : ∃ z : Sg, z = (m_gather_s σ) := ⟨_, rfl⟩
  rw [← e_2] at hP hD
  have hR_3 : m_lakeOf σ cl = m_lakeOf_k4 σ cl s_1 := (by have q_ := e_2.symm; subst q_; unfold m_lakeOf; rfl)
  have hR_4 : m_lakeOf_s σ cl = m_lakeOf_k4_s σ cl s_1 := (by have q_ := e_2.symm; subst q_; unfold m_lakeOf_s; rfl)
  refine lv_iconst (v := nI (0)) hx hb dX6_lakeOf_4 (by decide) ?_
  refine lv_istore_n (lv' := [(2, .int (nI (0))), (0, .ref (a 0)), (1, .int (cl))]) hx hb dX6_lakeOf_5 rfl hl (by decide) rfl (fun ls hl => ?_)
  refine lv_iconst (v := nI (0)) hx hb dX6_lakeOf_6 (by decide) ?_
  refine lv_istore_n (lv' := [(3, .int (nI (0))), (2, .int (nI (0))), (0, .ref (a 0)), (1, .int (cl))]) hx hb dX6_lakeOf_7 rfl hl (by decide) rfl (fun ls hl => ?_)
  have L8 : ∀ (n8 i8 : Nat), i8 ≤ 25 → 25 + 1 ≤ i8 + n8 → ∀ (z8 : Int32), z8 = lp (m_lakeOf_b8 s_1 cl) i8 (nI (0)) → ∀ (H : Heap) (locs : List Loc), va_P G vwCl (wm cI cZ a s_1) H → va_D (mA a) (wm cI cZ a s_1) → va_S (mA a) s.heap H locs → ∀ (ls : Array Slot), lv_has ls 4 [(3, .int (nI (i8))), (2, .int (z8)), (0, .ref (a 0)), (1, .int (cl))] → WW H locs 0 0 (F0 m 8 ls []) := by
    intro n8
    induction n8 with
    | zero => intro i8 h1 h2; exact absurd h2 (by omega)
    | succ n8 ih8 =>
      intro i8 hi8 hn8 z8 hz8  H locs hP hD hS ls hl
      refine (hWW _ _ _ _ _).mpr ?_
      refine lv_iload_n hx hb dX6_lakeOf_8 rfl (lv_at hl 0 rfl) ?_
      refine lv_bipush (v := nI (25)) hx hb dX6_lakeOf_9 (by decide) ?_
      refine n_icmp_ge (x := i8) (y := 25) (tgt := 53) hx hb (by omega) (by omega) dX6_lakeOf_11 (by decide) (fun c_5 => ?_) (fun c_5 => ?_)
      · have hiN : 25 = i8 := by omega
        subst hiN
        have hR_6 : m_lakeOf σ cl = m_lakeOf_x8 σ cl s_1 z8 := (Eq.trans hR_3 (by have q_ := hz8.symm; subst q_; unfold m_lakeOf_k4; rfl))
        have hR_7 : m_lakeOf_s σ cl = m_lakeOf_x8_s σ cl s_1 z8 := (Eq.trans hR_4 (by have q_ := hz8.symm; subst q_; unfold m_lakeOf_k4_s; rfl))
        refine lv_iload_n hx hb dX6_lakeOf_53 rfl (lv_at hl 1 rfl) ?_
        exact m_iret (v := z8) hx hb hr hlocks hP hK hD hS dX6_lakeOf_54 (Eq.trans (by unfold m_lakeOf_x8; rfl) hR_6.symm) (Eq.trans (by unfold m_lakeOf_x8_s; rfl) hR_7.symm)
      · refine lv_iload_n hx hb dX6_lakeOf_14 rfl (lv_at hl 1 rfl) ?_
        refine lv_aload_n hx hb dX6_lakeOf_15 rfl (lv_at hl 2 rfl) ?_
        refine m_get (v := .ref (a 7)) hx hb hts hin hown hK hP 7 (by decide) rfl (index := 25) (List.mem_of_getElem? (i := 1) rfl) dX6_lakeOf_16 ?_
        refine lv_iload_n hx hb dX6_lakeOf_19 rfl (lv_at hl 3 rfl) ?_
        refine m_aldI (j := cl) hx hb hK hP 6 7 rfl (hc) dX6_lakeOf_20 ?_
        refine W.eq (g2 := F0 m 21 ls [.int ((s_1.1 7 ((cl).toNatClampNeg))), .int (z8)]) rfl ?_
        refine lv_iconst (v := (-1)) hx hb dX6_lakeOf_21 (by decide) ?_
        have J45_11 : ∀ (x_10 : Int32), x_10 = (if (s_1.1 7 ((cl).toNatClampNeg)) = (-1) then nI (0) else (if (s_1.1 7 i8) = (s_1.1 7 ((cl).toNatClampNeg)) then nI (1) else nI (0))) → ∀ (H : Heap) (locs : List Loc), va_P G vwCl (wm cI cZ a s_1) H → va_D (mA a) (wm cI cZ a s_1) → va_S (mA a) s.heap H locs → ∀ (ls : Array Slot), lv_has ls 4 [(3, .int (nI (i8))), (2, .int (z8)), (0, .ref (a 0)), (1, .int (cl))] → WW H locs 0 0 (F0 m 45 ls [.int (x_10), .int (z8)]) := by
          intro x_10 h_12 H locs hP hD hS ls hl
          refine (hWW _ _ _ _ _).mpr ?_
          have hR_13 : m_lakeOf_b8 s_1 cl i8 z8 = m_lakeOf_j45 s_1 cl i8 z8 x_10 := (by have q_ := h_12.symm; subst q_; unfold m_lakeOf_b8; rfl)
          refine lv_iadd (x := z8) (y := x_10) hx hb dX6_lakeOf_45 ?_
          refine lv_istore_n (lv' := [(2, .int ((z8) + (x_10))), (3, .int (nI (i8))), (0, .ref (a 0)), (1, .int (cl))]) hx hb dX6_lakeOf_46 rfl hl (by decide) rfl (fun ls hl => ?_)
          refine n_iinc (x := i8) (dN := 1) (k := 1) (lv' := [(3, .int (nI (i8 + 1))), (2, .int ((z8) + (x_10))), (0, .ref (a 0)), (1, .int (cl))]) hx hb dX6_lakeOf_47 hl rfl (by decide) rfl (fun ls hl => ?_)
          refine lv_goto (tgt := 8) hx hb dX6_lakeOf_50 (by decide) ?_
          exact (hWW _ _ _ _ _).mp (ih8 (i8 + 1) (by omega) (by omega) ((z8) + (x_10)) (by show _ = m_lakeOf_b8 s_1 cl i8 (lp (m_lakeOf_b8 s_1 cl) i8 (nI (0))); rw [← hz8]; exact (Eq.trans (by unfold m_lakeOf_j45; rfl) hR_13.symm))  _ _ hP hD hS _ (lv_sub hl [0, 1, 2, 3] rfl))
        refine lv_icmp_eq (x := (s_1.1 7 ((cl).toNatClampNeg))) (y := (-1)) (tgt := 44) hx hb dX6_lakeOf_22 (by decide) (fun c_8 => ?_) (fun c_8 => ?_)
        · refine lv_iconst (v := nI (0)) hx hb dX6_lakeOf_44 (by decide) ?_
          exact (hWW _ _ _ _ _).mp (J45_11 _ (by simp only [if_pos c_8]) _ _ hP hD hS _ (lv_sub hl [0, 1, 2, 3] rfl))
        · refine lv_aload_n hx hb dX6_lakeOf_25 rfl (lv_at hl 2 rfl) ?_
          refine m_get (v := .ref (a 7)) hx hb hts hin hown hK hP 7 (by decide) rfl (index := 25) (List.mem_of_getElem? (i := 1) rfl) dX6_lakeOf_26 ?_
          refine lv_iload_n hx hb dX6_lakeOf_29 rfl (lv_at hl 0 rfl) ?_
          refine m_ald (j := i8) hx hb hK hP 6 7 rfl (by decide) (by omega) dX6_lakeOf_30 ?_
          refine W.eq (g2 := F0 m 31 ls [.int ((s_1.1 7 i8)), .int (z8)]) rfl ?_
          refine lv_aload_n hx hb dX6_lakeOf_31 rfl (lv_at hl 2 rfl) ?_
          refine m_get (v := .ref (a 7)) hx hb hts hin hown hK hP 7 (by decide) rfl (index := 25) (List.mem_of_getElem? (i := 1) rfl) dX6_lakeOf_32 ?_
          refine lv_iload_n hx hb dX6_lakeOf_35 rfl (lv_at hl 3 rfl) ?_
          refine m_aldI (j := cl) hx hb hK hP 6 7 rfl (hc) dX6_lakeOf_36 ?_
          refine W.eq (g2 := F0 m 37 ls [.int ((s_1.1 7 ((cl).toNatClampNeg))), .int ((s_1.1 7 i8)), .int (z8)]) rfl ?_
          refine lv_icmp_ne (x := (s_1.1 7 i8)) (y := (s_1.1 7 ((cl).toNatClampNeg))) (tgt := 44) hx hb dX6_lakeOf_37 (by decide) (fun c_14 => ?_) (fun c_14 => ?_)
          · refine lv_iconst (v := nI (0)) hx hb dX6_lakeOf_44 (by decide) ?_
            exact (hWW _ _ _ _ _).mp (J45_11 _ (by simp only [if_neg c_8, if_neg c_14]) _ _ hP hD hS _ (lv_sub hl [0, 1, 2, 3] rfl))
          · refine lv_iconst (v := nI (1)) hx hb dX6_lakeOf_40 (by decide) ?_
            refine lv_goto (tgt := 45) hx hb dX6_lakeOf_41 (by decide) ?_
            exact (hWW _ _ _ _ _).mp (J45_11 _ (by simp only [if_neg c_8, if_pos c_14]) _ _ hP hD hS _ (lv_sub hl [0, 1, 2, 3] rfl))
  exact (hWW _ _ _ _ _).mp (L8 (25 + 1) 0 (Nat.zero_le _) (by omega) (nI (0)) rfl  _ _ hP hD hS _ (lv_sub hl [0, 1, 2, 3] rfl))
