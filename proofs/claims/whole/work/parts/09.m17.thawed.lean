def m_thawed_j26 (σ : Sg) (cl : Int32) (y_4 : Int32) : Int32 := y_4
def m_thawed (σ : Sg) (cl : Int32) : Int32 := (m_thawed_j26 σ cl (if (σ.1 10 ((((nI (5)) * (cl)) + (nI (0))).toNatClampNeg)) < 0 then nI (0) else (if (σ.1 10 ((((nI (5)) * (cl)) + (nI (1))).toNatClampNeg)) < 0 then nI (1) else (if (σ.1 10 ((((nI (5)) * (cl)) + (nI (2))).toNatClampNeg)) < 0 then nI (2) else (if (σ.1 10 ((((nI (5)) * (cl)) + (nI (3))).toNatClampNeg)) < 0 then nI (3) else (if (σ.1 10 ((((nI (5)) * (cl)) + (nI (4))).toNatClampNeg)) < 0 then nI (4) else nI (5)))))))
set_option maxHeartbeats 4000000 in
set_option maxRecDepth 100000 in
theorem cm_thawed (l : Launch) (G : va_G) (cI cZ : ClassId) (a : Nat → Nat) (σ : Sg) (cl : Int32) (hc : vp_in cl 25) : mI l yX6_thawed wsX6_thawed ({ frames := 0, cells := 0, slots := 0, locals := 0 } : Room) G cI cZ a σ [.int (cl)] (m_thawed σ cl) σ := by
  unfold mI
  refine Met.ofW (cc := cX6_thawed) (maxL := 3) (ret := (some .int)) (by decide) rfl ?_
  intro p e s m args below meth c s₁ B hml hv
  obtain ⟨rfl, hP, hK, hD⟩ := hv
  have hx := B.exec
  have hb := B.bytes
  have hr := B.returns
  have hts := atoms_spec (ws := wsX6_thawed) B.pre
  have hown : s.vm.findClass RX6 = some m.cls := findClass_of_methodNamed B.named
  have hlocks := B.notSynchronized
  have hS : va_S (mA a) s.heap s.heap [] := va_S.rf
  have hin : ∀ w ∈ wsX60, w ∈ wsX6_thawed := fun w h => List.mem_cons_of_mem _ (List.mem_append_right _ h)
  have hl := lv_entry ([.ref (a 0), .int (cl)]) (n := 3) (Nat.le_of_ble_eq_true rfl)
  rw [lg_entry_eq]
  generalize (lg_sl ([.ref (a 0), .int (cl)]) ++ List.replicate (3 - (lg_sl ([.ref (a 0), .int (cl)])).length) Slot.unset).toArray = ls at hl ⊢
  have hl : lv_has ls 3 [(0, .ref (a 0)), (1, .int (cl))] := hl
  refine w_named (fun WW hWW => ?_)
  have hP : va_P G vwCl (wm cI cZ a σ) s.heap := hP
  refine lv_iconst (v := nI (0)) hx hb dX6_thawed_0 (by decide) ?_
  refine lv_istore_n (lv' := [(2, .int (nI (0))), (0, .ref (a 0)), (1, .int (cl))]) hx hb dX6_thawed_1 rfl hl (by decide) rfl (fun ls hl => ?_)
  refine lv_iload_n hx hb dX6_thawed_2 rfl (lv_at hl 0 rfl) ?_
  refine lv_iconst (v := nI (5)) hx hb dX6_thawed_3 (by decide) ?_
  refine n_icmp_ge (x := 0) (y := 5) (tgt := 26) hx hb (by omega) (by omega) dX6_thawed_4 (by decide) (fun c_1 => absurd c_1 (by omega)) (fun c_1 => ?_)
  refine lv_aload_n hx hb dX6_thawed_7 rfl (lv_at hl 1 rfl) ?_
  refine m_get (v := .ref (a 10)) hx hb hts hin hown hK hP 10 (by decide) rfl (index := 34) (List.mem_of_getElem? (i := 1) rfl) dX6_thawed_8 ?_
  refine lv_iconst (v := nI (5)) hx hb dX6_thawed_11 (by decide) ?_
  refine lv_iload_n hx hb dX6_thawed_12 rfl (lv_at hl 2 rfl) ?_
  refine lv_imul (x := nI (5)) (y := cl) hx hb dX6_thawed_13 ?_
  refine lv_iload_n hx hb dX6_thawed_14 rfl (lv_at hl 0 rfl) ?_
  refine lv_iadd (x := (nI (5)) * (cl)) (y := nI (0)) hx hb dX6_thawed_15 ?_
  refine m_aldI (j := ((nI (5)) * (cl)) + (nI (0))) hx hb hK hP 9 10 rfl (vp_5l hc (vp_in_nI (by decide) (by decide))) dX6_thawed_16 ?_
  refine W.eq (g2 := F0 m 17 ls [.int ((σ.1 10 ((((nI (5)) * (cl)) + (nI (0))).toNatClampNeg)))]) rfl ?_
  have J26_5 : ∀ (y_4 : Int32), y_4 = (if (σ.1 10 ((((nI (5)) * (cl)) + (nI (0))).toNatClampNeg)) < 0 then nI (0) else (if (σ.1 10 ((((nI (5)) * (cl)) + (nI (1))).toNatClampNeg)) < 0 then nI (1) else (if (σ.1 10 ((((nI (5)) * (cl)) + (nI (2))).toNatClampNeg)) < 0 then nI (2) else (if (σ.1 10 ((((nI (5)) * (cl)) + (nI (3))).toNatClampNeg)) < 0 then nI (3) else (if (σ.1 10 ((((nI (5)) * (cl)) + (nI (4))).toNatClampNeg)) < 0 then nI (4) else nI (5)))))) → ∀ (H : Heap) (locs : List Loc), va_P G vwCl (wm cI cZ a σ) H → va_D (mA a) (wm cI cZ a σ) → va_S (mA a) s.heap H locs → ∀ (ls : Array Slot), lv_has ls 3 [(2, .int (y_4)), (0, .ref (a 0)), (1, .int (cl))] → WW H locs 0 0 (F0 m 26 ls []) := by
    intro y_4 h_6 H locs hP hD hS ls hl
    refine (hWW _ _ _ _ _).mpr ?_
    have hR_7 : m_thawed σ cl = m_thawed_j26 σ cl y_4 := (by have q_ := h_6.symm; subst q_; unfold m_thawed; rfl)
    refine lv_iload_n hx hb dX6_thawed_26 rfl (lv_at hl 0 rfl) ?_
    exact m_iret (v := y_4) hx hb hr hlocks hP hK hD hS dX6_thawed_27 (Eq.trans (by unfold m_thawed_j26; rfl) hR_7.symm) (Eq.refl _)
  refine lv_if_lt (x := (σ.1 10 ((((nI (5)) * (cl)) + (nI (0))).toNatClampNeg))) (tgt := 26) hx hb dX6_thawed_17 (by decide) (fun c_2 => ?_) (fun c_2 => ?_)
  · exact (hWW _ _ _ _ _).mp (J26_5 _ (by simp only [if_pos c_2]) _ _ hP hD hS _ (lv_sub hl [0, 1, 2] rfl))
  · refine n_iinc (x := 0) (dN := 1) (k := 0) (lv' := [(2, .int (nI (1))), (0, .ref (a 0)), (1, .int (cl))]) hx hb dX6_thawed_20 hl rfl (by decide) rfl (fun ls hl => ?_)
    refine lv_goto (tgt := 2) hx hb dX6_thawed_23 (by decide) ?_
    refine lv_iload_n hx hb dX6_thawed_2 rfl (lv_at hl 0 rfl) ?_
    refine lv_iconst (v := nI (5)) hx hb dX6_thawed_3 (by decide) ?_
    refine n_icmp_ge (x := 1) (y := 5) (tgt := 26) hx hb (by omega) (by omega) dX6_thawed_4 (by decide) (fun c_8 => absurd c_8 (by omega)) (fun c_8 => ?_)
    refine lv_aload_n hx hb dX6_thawed_7 rfl (lv_at hl 1 rfl) ?_
    refine m_get (v := .ref (a 10)) hx hb hts hin hown hK hP 10 (by decide) rfl (index := 34) (List.mem_of_getElem? (i := 1) rfl) dX6_thawed_8 ?_
    refine lv_iconst (v := nI (5)) hx hb dX6_thawed_11 (by decide) ?_
    refine lv_iload_n hx hb dX6_thawed_12 rfl (lv_at hl 2 rfl) ?_
    refine lv_imul (x := nI (5)) (y := cl) hx hb dX6_thawed_13 ?_
    refine lv_iload_n hx hb dX6_thawed_14 rfl (lv_at hl 0 rfl) ?_
    refine lv_iadd (x := (nI (5)) * (cl)) (y := nI (1)) hx hb dX6_thawed_15 ?_
    refine m_aldI (j := ((nI (5)) * (cl)) + (nI (1))) hx hb hK hP 9 10 rfl (vp_5l hc (vp_in_nI (by decide) (by decide))) dX6_thawed_16 ?_
    refine W.eq (g2 := F0 m 17 ls [.int ((σ.1 10 ((((nI (5)) * (cl)) + (nI (1))).toNatClampNeg)))]) rfl ?_
    refine lv_if_lt (x := (σ.1 10 ((((nI (5)) * (cl)) + (nI (1))).toNatClampNeg))) (tgt := 26) hx hb dX6_thawed_17 (by decide) (fun c_9 => ?_) (fun c_9 => ?_)
    · exact (hWW _ _ _ _ _).mp (J26_5 _ (by simp only [if_neg c_2, if_pos c_9]) _ _ hP hD hS _ (lv_sub hl [0, 1, 2] rfl))
    · refine n_iinc (x := 1) (dN := 1) (k := 0) (lv' := [(2, .int (nI (2))), (0, .ref (a 0)), (1, .int (cl))]) hx hb dX6_thawed_20 hl rfl (by decide) rfl (fun ls hl => ?_)
      refine lv_goto (tgt := 2) hx hb dX6_thawed_23 (by decide) ?_
      refine lv_iload_n hx hb dX6_thawed_2 rfl (lv_at hl 0 rfl) ?_
      refine lv_iconst (v := nI (5)) hx hb dX6_thawed_3 (by decide) ?_
      refine n_icmp_ge (x := 2) (y := 5) (tgt := 26) hx hb (by omega) (by omega) dX6_thawed_4 (by decide) (fun c_10 => absurd c_10 (by omega)) (fun c_10 => ?_)
      refine lv_aload_n hx hb dX6_thawed_7 rfl (lv_at hl 1 rfl) ?_
      refine m_get (v := .ref (a 10)) hx hb hts hin hown hK hP 10 (by decide) rfl (index := 34) (List.mem_of_getElem? (i := 1) rfl) dX6_thawed_8 ?_
      refine lv_iconst (v := nI (5)) hx hb dX6_thawed_11 (by decide) ?_
      refine lv_iload_n hx hb dX6_thawed_12 rfl (lv_at hl 2 rfl) ?_
      refine lv_imul (x := nI (5)) (y := cl) hx hb dX6_thawed_13 ?_
      refine lv_iload_n hx hb dX6_thawed_14 rfl (lv_at hl 0 rfl) ?_
      refine lv_iadd (x := (nI (5)) * (cl)) (y := nI (2)) hx hb dX6_thawed_15 ?_
      refine m_aldI (j := ((nI (5)) * (cl)) + (nI (2))) hx hb hK hP 9 10 rfl (vp_5l hc (vp_in_nI (by decide) (by decide))) dX6_thawed_16 ?_
      refine W.eq (g2 := F0 m 17 ls [.int ((σ.1 10 ((((nI (5)) * (cl)) + (nI (2))).toNatClampNeg)))]) rfl ?_
      refine lv_if_lt (x := (σ.1 10 ((((nI (5)) * (cl)) + (nI (2))).toNatClampNeg))) (tgt := 26) hx hb dX6_thawed_17 (by decide) (fun c_11 => ?_) (fun c_11 => ?_)
      · exact (hWW _ _ _ _ _).mp (J26_5 _ (by simp only [if_neg c_2, if_neg c_9, if_pos c_11]) _ _ hP hD hS _ (lv_sub hl [0, 1, 2] rfl))
      · refine n_iinc (x := 2) (dN := 1) (k := 0) (lv' := [(2, .int (nI (3))), (0, .ref (a 0)), (1, .int (cl))]) hx hb dX6_thawed_20 hl rfl (by decide) rfl (fun ls hl => ?_)
        refine lv_goto (tgt := 2) hx hb dX6_thawed_23 (by decide) ?_
        refine lv_iload_n hx hb dX6_thawed_2 rfl (lv_at hl 0 rfl) ?_
        refine lv_iconst (v := nI (5)) hx hb dX6_thawed_3 (by decide) ?_
        refine n_icmp_ge (x := 3) (y := 5) (tgt := 26) hx hb (by omega) (by omega) dX6_thawed_4 (by decide) (fun c_12 => absurd c_12 (by omega)) (fun c_12 => ?_)
        refine lv_aload_n hx hb dX6_thawed_7 rfl (lv_at hl 1 rfl) ?_
        refine m_get (v := .ref (a 10)) hx hb hts hin hown hK hP 10 (by decide) rfl (index := 34) (List.mem_of_getElem? (i := 1) rfl) dX6_thawed_8 ?_
        refine lv_iconst (v := nI (5)) hx hb dX6_thawed_11 (by decide) ?_
        refine lv_iload_n hx hb dX6_thawed_12 rfl (lv_at hl 2 rfl) ?_
        refine lv_imul (x := nI (5)) (y := cl) hx hb dX6_thawed_13 ?_
        refine lv_iload_n hx hb dX6_thawed_14 rfl (lv_at hl 0 rfl) ?_
        refine lv_iadd (x := (nI (5)) * (cl)) (y := nI (3)) hx hb dX6_thawed_15 ?_
        refine m_aldI (j := ((nI (5)) * (cl)) + (nI (3))) hx hb hK hP 9 10 rfl (vp_5l hc (vp_in_nI (by decide) (by decide))) dX6_thawed_16 ?_
        refine W.eq (g2 := F0 m 17 ls [.int ((σ.1 10 ((((nI (5)) * (cl)) + (nI (3))).toNatClampNeg)))]) rfl ?_
        refine lv_if_lt (x := (σ.1 10 ((((nI (5)) * (cl)) + (nI (3))).toNatClampNeg))) (tgt := 26) hx hb dX6_thawed_17 (by decide) (fun c_13 => ?_) (fun c_13 => ?_)
        · exact (hWW _ _ _ _ _).mp (J26_5 _ (by simp only [if_neg c_2, if_neg c_9, if_neg c_11, if_pos c_13]) _ _ hP hD hS _ (lv_sub hl [0, 1, 2] rfl))
        · refine n_iinc (x := 3) (dN := 1) (k := 0) (lv' := [(2, .int (nI (4))), (0, .ref (a 0)), (1, .int (cl))]) hx hb dX6_thawed_20 hl rfl (by decide) rfl (fun ls hl => ?_)
          refine lv_goto (tgt := 2) hx hb dX6_thawed_23 (by decide) ?_
          refine lv_iload_n hx hb dX6_thawed_2 rfl (lv_at hl 0 rfl) ?_
          refine lv_iconst (v := nI (5)) hx hb dX6_thawed_3 (by decide) ?_
          refine n_icmp_ge (x := 4) (y := 5) (tgt := 26) hx hb (by omega) (by omega) dX6_thawed_4 (by decide) (fun c_14 => absurd c_14 (by omega)) (fun c_14 => ?_)
          refine lv_aload_n hx hb dX6_thawed_7 rfl (lv_at hl 1 rfl) ?_
          refine m_get (v := .ref (a 10)) hx hb hts hin hown hK hP 10 (by decide) rfl (index := 34) (List.mem_of_getElem? (i := 1) rfl) dX6_thawed_8 ?_
          refine lv_iconst (v := nI (5)) hx hb dX6_thawed_11 (by decide) ?_
          refine lv_iload_n hx hb dX6_thawed_12 rfl (lv_at hl 2 rfl) ?_
          refine lv_imul (x := nI (5)) (y := cl) hx hb dX6_thawed_13 ?_
          refine lv_iload_n hx hb dX6_thawed_14 rfl (lv_at hl 0 rfl) ?_
          refine lv_iadd (x := (nI (5)) * (cl)) (y := nI (4)) hx hb dX6_thawed_15 ?_
          refine m_aldI (j := ((nI (5)) * (cl)) + (nI (4))) hx hb hK hP 9 10 rfl (vp_5l hc (vp_in_nI (by decide) (by decide))) dX6_thawed_16 ?_
          refine W.eq (g2 := F0 m 17 ls [.int ((σ.1 10 ((((nI (5)) * (cl)) + (nI (4))).toNatClampNeg)))]) rfl ?_
          refine lv_if_lt (x := (σ.1 10 ((((nI (5)) * (cl)) + (nI (4))).toNatClampNeg))) (tgt := 26) hx hb dX6_thawed_17 (by decide) (fun c_15 => ?_) (fun c_15 => ?_)
          · exact (hWW _ _ _ _ _).mp (J26_5 _ (by simp only [if_neg c_2, if_neg c_9, if_neg c_11, if_neg c_13, if_pos c_15]) _ _ hP hD hS _ (lv_sub hl [0, 1, 2] rfl))
          · refine n_iinc (x := 4) (dN := 1) (k := 0) (lv' := [(2, .int (nI (5))), (0, .ref (a 0)), (1, .int (cl))]) hx hb dX6_thawed_20 hl rfl (by decide) rfl (fun ls hl => ?_)
            refine lv_goto (tgt := 2) hx hb dX6_thawed_23 (by decide) ?_
            refine lv_iload_n hx hb dX6_thawed_2 rfl (lv_at hl 0 rfl) ?_
            refine lv_iconst (v := nI (5)) hx hb dX6_thawed_3 (by decide) ?_
            refine n_icmp_ge (x := 5) (y := 5) (tgt := 26) hx hb (by omega) (by omega) dX6_thawed_4 (by decide) (fun c_16 => ?_) (fun c_16 => absurd c_16 (by omega))
            exact (hWW _ _ _ _ _).mp (J26_5 _ (by simp only [if_neg c_2, if_neg c_9, if_neg c_11, if_neg c_13, if_neg c_15]) _ _ hP hD hS _ (lv_sub hl [0, 1, 2] rfl))
