def m_houseIn_x4 (σ : Sg) (cell : Int32) (z4 : Int32) : Int32 := z4
def m_houseIn_j27 (σ : Sg) (cell : Int32) (i4 : Nat) (z4 : Int32) (x_5 : Int32) : Int32 := x_5
def m_houseIn_b4 (σ : Sg) (cell : Int32) (i4 : Nat) (z4 : Int32) : Int32 := (m_houseIn_j27 σ cell i4 z4 (if (σ.1 14 i4) = cell then nI (i4) else z4))
def m_houseIn (σ : Sg) (cell : Int32) : Int32 := (m_houseIn_x4 σ cell (lp (m_houseIn_b4 σ cell) ((σ.1 13 0).toNatClampNeg) (-1)))
set_option maxHeartbeats 4000000 in
set_option maxRecDepth 100000 in
theorem cm_houseIn (l : Launch) (G : va_G) (cI cZ : ClassId) (a : Nat → Nat) (σ : Sg) (cell : Int32) (hO : mOK σ) : mI l yX6_houseIn wsX6_houseIn ({ frames := 0, cells := 0, slots := 0, locals := 0 } : Room) G cI cZ a σ [.int (cell)] (m_houseIn σ cell) σ := by
  unfold mI
  refine Met.ofW (cc := cX6_houseIn) (maxL := 4) (ret := (some .int)) (by decide) rfl ?_
  intro p e s m args below meth c s₁ B hml hv
  obtain ⟨rfl, hP, hK, hD⟩ := hv
  have hx := B.exec
  have hb := B.bytes
  have hr := B.returns
  have hts := atoms_spec (ws := wsX6_houseIn) B.pre
  have hown : s.vm.findClass RX6 = some m.cls := findClass_of_methodNamed B.named
  have hlocks := B.notSynchronized
  have hS : va_S (mA a) s.heap s.heap [] := va_S.rf
  have hin : ∀ w ∈ wsX60, w ∈ wsX6_houseIn := fun w h => List.mem_cons_of_mem _ (List.mem_append_right _ h)
  have hl := lv_entry ([.ref (a 0), .int (cell)]) (n := 4) (Nat.le_of_ble_eq_true rfl)
  rw [lg_entry_eq]
  generalize (lg_sl ([.ref (a 0), .int (cell)]) ++ List.replicate (4 - (lg_sl ([.ref (a 0), .int (cell)])).length) Slot.unset).toArray = ls at hl ⊢
  have hl : lv_has ls 4 [(0, .ref (a 0)), (1, .int (cell))] := hl
  refine w_named (fun WW hWW => ?_)
  have hP : va_P G vwCl (wm cI cZ a σ) s.heap := hP
  have h13 := vp_lt hO.1
  have e13 := vp_self hO.1
  refine lv_iconst (v := (-1)) hx hb dX6_houseIn_0 (by decide) ?_
  refine lv_istore_n (lv' := [(2, .int ((-1))), (0, .ref (a 0)), (1, .int (cell))]) hx hb dX6_houseIn_1 rfl hl (by decide) rfl (fun ls hl => ?_)
  refine lv_iconst (v := nI (0)) hx hb dX6_houseIn_2 (by decide) ?_
  refine lv_istore_n (lv' := [(3, .int (nI (0))), (2, .int ((-1))), (0, .ref (a 0)), (1, .int (cell))]) hx hb dX6_houseIn_3 rfl hl (by decide) rfl (fun ls hl => ?_)
  have L4 : ∀ (n4 i4 : Nat), i4 ≤ (σ.1 13 0).toNatClampNeg → ((σ.1 13 0).toNatClampNeg) + 1 ≤ i4 + n4 → ∀ (z4 : Int32), z4 = lp (m_houseIn_b4 σ cell) i4 (-1) → ∀ (H : Heap) (locs : List Loc), va_P G vwCl (wm cI cZ a σ) H → va_D (mA a) (wm cI cZ a σ) → va_S (mA a) s.heap H locs → ∀ (ls : Array Slot), lv_has ls 4 [(3, .int (nI (i4))), (2, .int (z4)), (0, .ref (a 0)), (1, .int (cell))] → WW H locs 0 0 (F0 m 4 ls []) := by
    intro n4
    induction n4 with
    | zero => intro i4 h1 h2; exact absurd h2 (by omega)
    | succ n4 ih4 =>
      intro i4 hi4 hn4 z4 hz4  H locs hP hD hS ls hl
      refine (hWW _ _ _ _ _).mpr ?_
      refine lv_iload_n hx hb dX6_houseIn_4 rfl (lv_at hl 0 rfl) ?_
      refine lv_aload_n hx hb dX6_houseIn_5 rfl (lv_at hl 2 rfl) ?_
      refine m_get (v := .int ((σ.1 13 0))) hx hb hts hin hown hK hP 13 (by decide) rfl (index := 132) (List.mem_of_getElem? (i := 1) rfl) dX6_houseIn_6 ?_
      refine W.eq (g2 := F0 m 9 ls (.int (nI ((σ.1 13 0).toNatClampNeg)) :: .int (nI (i4)) :: [])) (congrArg (fun v => F0 m 9 ls (Value.int v :: .int (nI (i4)) :: [])) (e13)) ?_
      refine n_icmp_ge (x := i4) (y := (σ.1 13 0).toNatClampNeg) (tgt := 34) hx hb (by omega) (by omega) dX6_houseIn_9 (by decide) (fun c_1 => ?_) (fun c_1 => ?_)
      · have hiN : (σ.1 13 0).toNatClampNeg = i4 := by omega
        subst hiN
        have hR_2 : m_houseIn σ cell = m_houseIn_x4 σ cell z4 := (by have q_ := hz4.symm; subst q_; unfold m_houseIn; rfl)
        refine lv_iload_n hx hb dX6_houseIn_34 rfl (lv_at hl 1 rfl) ?_
        exact m_iret (v := z4) hx hb hr hlocks hP hK hD hS dX6_houseIn_35 (Eq.trans (by unfold m_houseIn_x4; rfl) hR_2.symm) (Eq.refl _)
      · refine lv_aload_n hx hb dX6_houseIn_12 rfl (lv_at hl 2 rfl) ?_
        refine m_get (v := .ref (a 14)) hx hb hts hin hown hK hP 14 (by decide) rfl (index := 43) (List.mem_of_getElem? (i := 2) rfl) dX6_houseIn_13 ?_
        refine lv_iload_n hx hb dX6_houseIn_16 rfl (lv_at hl 0 rfl) ?_
        refine m_ald (j := i4) hx hb hK hP 12 14 rfl (by decide) (by omega) dX6_houseIn_17 ?_
        refine W.eq (g2 := F0 m 18 ls [.int ((σ.1 14 i4))]) rfl ?_
        refine lv_iload_n hx hb dX6_houseIn_18 rfl (lv_at hl 3 rfl) ?_
        have J27_6 : ∀ (x_5 : Int32), x_5 = (if (σ.1 14 i4) = cell then nI (i4) else z4) → ∀ (H : Heap) (locs : List Loc), va_P G vwCl (wm cI cZ a σ) H → va_D (mA a) (wm cI cZ a σ) → va_S (mA a) s.heap H locs → ∀ (ls : Array Slot), lv_has ls 4 [(3, .int (nI (i4))), (2, .int (z4)), (0, .ref (a 0)), (1, .int (cell))] → WW H locs 0 0 (F0 m 27 ls [.int (x_5)]) := by
          intro x_5 h_7 H locs hP hD hS ls hl
          refine (hWW _ _ _ _ _).mpr ?_
          have hR_8 : m_houseIn_b4 σ cell i4 z4 = m_houseIn_j27 σ cell i4 z4 x_5 := (by have q_ := h_7.symm; subst q_; unfold m_houseIn_b4; rfl)
          refine lv_istore_n (lv' := [(2, .int (x_5)), (3, .int (nI (i4))), (0, .ref (a 0)), (1, .int (cell))]) hx hb dX6_houseIn_27 rfl hl (by decide) rfl (fun ls hl => ?_)
          refine n_iinc (x := i4) (dN := 1) (k := 1) (lv' := [(3, .int (nI (i4 + 1))), (2, .int (x_5)), (0, .ref (a 0)), (1, .int (cell))]) hx hb dX6_houseIn_28 hl rfl (by decide) rfl (fun ls hl => ?_)
          refine lv_goto (tgt := 4) hx hb dX6_houseIn_31 (by decide) ?_
          exact (hWW _ _ _ _ _).mp (ih4 (i4 + 1) (by omega) (by omega) (x_5) (by show _ = m_houseIn_b4 σ cell i4 (lp (m_houseIn_b4 σ cell) i4 (-1)); rw [← hz4]; exact (Eq.trans (by unfold m_houseIn_j27; rfl) hR_8.symm))  _ _ hP hD hS _ (lv_sub hl [0, 1, 2, 3] rfl))
        refine lv_icmp_ne (x := (σ.1 14 i4)) (y := cell) (tgt := 26) hx hb dX6_houseIn_19 (by decide) (fun c_3 => ?_) (fun c_3 => ?_)
        · refine lv_iload_n hx hb dX6_houseIn_26 rfl (lv_at hl 1 rfl) ?_
          exact (hWW _ _ _ _ _).mp (J27_6 _ (by simp only [if_neg c_3]) _ _ hP hD hS _ (lv_sub hl [0, 1, 2, 3] rfl))
        · refine lv_iload_n hx hb dX6_houseIn_22 rfl (lv_at hl 0 rfl) ?_
          refine lv_goto (tgt := 27) hx hb dX6_houseIn_23 (by decide) ?_
          exact (hWW _ _ _ _ _).mp (J27_6 _ (by simp only [if_pos c_3]) _ _ hP hD hS _ (lv_sub hl [0, 1, 2, 3] rfl))
  exact (hWW _ _ _ _ _).mp (L4 ((σ.1 13 0).toNatClampNeg + 1) 0 (Nat.zero_le _) (by omega) (-1) rfl  _ _ hP hD hS _ (lv_sub hl [0, 1, 2, 3] rfl))
