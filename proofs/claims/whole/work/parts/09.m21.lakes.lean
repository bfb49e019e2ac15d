def m_lakes_x13 (σ : Sg) (s_1 : Sg) (s_5 : Sg) (z13 : Int32) : Int32 := z13
def m_lakes_x13_s (σ : Sg) (s_1 : Sg) (s_5 : Sg) (z13 : Int32) : Sg := s_5
def m_lakes_j77 (s_5 : Sg) (i13 : Nat) (z13 : Int32) (z24 : Int32) (x_16 : Int32) : Int32 := (z13) + (x_16)
def m_lakes_x24 (s_5 : Sg) (i13 : Nat) (z13 : Int32) (z24 : Int32) : Int32 := (m_lakes_j77 s_5 i13 z13 z24 (if z24 = 0 then nI (0) else nI (1)))
def m_lakes_j60 (s_5 : Sg) (i13 : Nat) (i24 : Nat) (z24 : Int32) (x_22 : Int32) : Int32 := x_22
def m_lakes_b24 (s_5 : Sg) (i13 : Nat) (i24 : Nat) (z24 : Int32) : Int32 := (m_lakes_j60 s_5 i13 i24 z24 (if z24 = 0 then (if (s_5.1 7 i24) = nI (i13) then (if (m_isLake s_5 (nI (i24))) = 0 then nI (0) else nI (1)) else nI (0)) else nI (1)))
def m_lakes_b13 (s_5 : Sg) (i13 : Nat) (z13 : Int32) : Int32 := (m_lakes_x24 s_5 i13 z13 (lp (m_lakes_b24 s_5 i13) 25 (nI (0))))
def m_lakes_k9 (σ : Sg) (s_1 : Sg) (s_5 : Sg) : Int32 := (m_lakes_x13 σ s_1 s_5 (lp (m_lakes_b13 s_5) 25 (nI (0))))
def m_lakes_k9_s (σ : Sg) (s_1 : Sg) (s_5 : Sg) : Sg := (m_lakes_x13_s σ s_1 s_5 (lp (m_lakes_b13 s_5) 25 (nI (0))))
def m_lakes_k5 (σ : Sg) (s_1 : Sg) : Int32 := (m_lakes_k9 σ s_1 (m_gather_s s_1))
def m_lakes_k5_s (σ : Sg) (s_1 : Sg) : Sg := (m_lakes_k9_s σ s_1 (m_gather_s s_1))
def m_lakes (σ : Sg) : Int32 := (m_lakes_k5 σ (si σ 0 (0) (nI (0))))
def m_lakes_s (σ : Sg) : Sg := (m_lakes_k5_s σ (si σ 0 (0) (nI (0))))
set_option maxHeartbeats 4000000 in
set_option maxRecDepth 100000 in
theorem cm_lakes (l : Launch) (G : va_G) (cI cZ : ClassId) (a : Nat → Nat) (σ : Sg)  : mI l yX6_lakes wsX6_lakes ({ frames := 2, cells := 0, slots := 0, locals := 45 } : Room) G cI cZ a σ [] (m_lakes σ) (m_lakes_s σ) := by
  unfold mI
  refine Met.ofW (cc := cX6_lakes) (maxL := 5) (ret := (some .int)) (by decide) rfl ?_
  intro p e s m args below meth c s₁ B hml hv
  obtain ⟨rfl, hP, hK, hD⟩ := hv
  have hx := B.exec
  have hb := B.bytes
  have hr := B.returns
  have hts := atoms_spec (ws := wsX6_lakes) B.pre
  have hown : s.vm.findClass RX6 = some m.cls := findClass_of_methodNamed B.named
  have hlocks := B.notSynchronized
  have hS : va_S (mA a) s.heap s.heap [] := va_S.rf
  have hin : ∀ w ∈ wsX60, w ∈ wsX6_lakes := fun w h => List.mem_cons_of_mem _ (List.mem_append_right _ h)
  have hl := lv_entry ([.ref (a 0)]) (n := 5) (Nat.le_of_ble_eq_true rfl)
  rw [lg_entry_eq]
  generalize (lg_sl ([.ref (a 0)]) ++ List.replicate (5 - (lg_sl ([.ref (a 0)])).length) Slot.unset).toArray = ls at hl ⊢
  have hl : lv_has ls 5 [(0, .ref (a 0))] := hl
  refine w_named (fun WW hWW => ?_)
  have hP : va_P G vwCl (wm cI cZ a σ) s.heap := hP
  refine lv_aload_n hx hb dX6_lakes_0 rfl (lv_at hl 0 rfl) ?_
  refine lv_iconst (v := nI (0)) hx hb dX6_lakes_1 (by decide) ?_
  refine m_putI (v := nI (0)) hx hb hts hin hown hK hP hD hS 0 (by decide) rfl (by decide +kernel) rfl (index := 90) (List.mem_of_getElem? (i := 1) rfl) dX6_lakes_2 (fun H locs hP hD hS => ?_)
  obtain ⟨s_1, e_2⟩ : ∃ z : Sg, z = (si σ 0 (0) (nI (0))) := ⟨_, rfl⟩
  rw [← e_2] at hP hD
  have hR_3 : m_lakes σ = m_lakes_k5 σ s_1 := (by have q_ := e_2.symm; subst q_; unfold m_lakes; rfl)
  have hR_4 : m_lakes_s σ = m_lakes_k5_s σ s_1 := (by have q_ := e_2.symm; subst q_; unfold m_lakes_s; rfl)
  refine lv_aload_n hx hb dX6_lakes_5 rfl (lv_at hl 0 rfl) ?_
  refine m_callV (As := []) (rest := []) (fun _ h => h) ⟨hx, hb, hml, hown, hts⟩ (cm_gather l G cI cZ a s_1   ) (cwV 0 hts gX6_lakes_X6_gather rfl rfl rfl (by decide +kernel) ⟨Nat.le_of_ble_eq_true rfl, Nat.le_of_ble_eq_true rfl⟩) hK hP hD hS rfl hl.1 rfl (Nat.le_of_ble_eq_true rfl) dX6_lakes_6 ⟨Nat.zero_le _, Nat.zero_le _⟩ (fun H locs hP hD _ _ hS => ?_)
  obtain ⟨s_5, e_6⟩ : ∃ z : Sg, z = (m_gather_s s_1) := ⟨_, rfl⟩
  rw [← e_6] at hP hD
  have hR_7 : m_lakes σ = m_lakes_k9 σ s_1 s_5 := (Eq.trans hR_3 (by have q_ := e_6.symm; subst q_; unfold m_lakes_k5; rfl))
  have hR_8 : m_lakes_s σ = m_lakes_k9_s σ s_1 s_5 := (Eq.trans hR_4 (by have q_ := e_6.symm; subst q_; unfold m_lakes_k5_s; rfl))
  refine lv_iconst (v := nI (0)) hx hb dX6_lakes_9 (by decide) ?_
  refine lv_istore_n (lv' := [(1, .int (nI (0))), (0, .ref (a 0))]) hx hb dX6_lakes_10 rfl hl (by decide) rfl (fun ls hl => ?_)
  refine lv_iconst (v := nI (0)) hx hb dX6_lakes_11 (by decide) ?_
  refine lv_istore_n (lv' := [(2, .int (nI (0))), (1, .int (nI (0))), (0, .ref (a 0))]) hx hb dX6_lakes_12 rfl hl (by decide) rfl (fun ls hl => ?_)
  have L13 : ∀ (n13 i13 : Nat), i13 ≤ 25 → 25 + 1 ≤ i13 + n13 → ∀ (z13 : Int32), z13 = lp (m_lakes_b13 s_5) i13 (nI (0)) → ∀ (H : Heap) (locs : List Loc), va_P G vwCl (wm cI cZ a s_5) H → va_D (mA a) (wm cI cZ a s_5) → va_S (mA a) s.heap H locs → ∀ (ls : Array Slot), lv_has ls 5 [(2, .int (nI (i13))), (1, .int (z13)), (0, .ref (a 0))] → WW H locs 0 0 (F0 m 13 ls []) := by
    intro n13
    induction n13 with
    | zero => intro i13 h1 h2; exact absurd h2 (by omega)
    | succ n13 ih13 =>
      intro i13 hi13 hn13 z13 hz13  H locs hP hD hS ls hl
      refine (hWW _ _ _ _ _).mpr ?_
      refine lv_iload_n hx hb dX6_lakes_13 rfl (lv_at hl 0 rfl) ?_
      refine lv_bipush (v := nI (25)) hx hb dX6_lakes_14 (by decide) ?_
      refine n_icmp_ge (x := i13) (y := 25) (tgt := 85) hx hb (by omega) (by omega) dX6_lakes_16 (by decide) (fun c_9 => ?_) (fun c_9 => ?_)
      · have hiN : 25 = i13 := by omega
        subst hiN
        have hR_10 : m_lakes σ = m_lakes_x13 σ s_1 s_5 z13 := (Eq.trans hR_7 (by have q_ := hz13.symm; subst q_; unfold m_lakes_k9; rfl))
        have hR_11 : m_lakes_s σ = m_lakes_x13_s σ s_1 s_5 z13 := (Eq.trans hR_8 (by have q_ := hz13.symm; subst q_; unfold m_lakes_k9_s; rfl))
        refine lv_iload_n hx hb dX6_lakes_85 rfl (lv_at hl 1 rfl) ?_
        exact m_iret (v := z13) hx hb hr hlocks hP hK hD hS dX6_lakes_86 (Eq.trans (by unfold m_lakes_x13; rfl) hR_10.symm) (Eq.trans (by unfold m_lakes_x13_s; rfl) hR_11.symm)
      · refine lv_iconst (v := nI (0)) hx hb dX6_lakes_19 (by decide) ?_
        refine lv_istore_n (lv' := [(3, .int (nI (0))), (2, .int (nI (i13))), (1, .int (z13)), (0, .ref (a 0))]) hx hb dX6_lakes_20 rfl hl (by decide) rfl (fun ls hl => ?_)
        refine lv_iconst (v := nI (0)) hx hb dX6_lakes_21 (by decide) ?_
        refine lv_istore (lv' := [(4, .int (nI (0))), (3, .int (nI (0))), (2, .int (nI (i13))), (1, .int (z13)), (0, .ref (a 0))]) hx hb dX6_lakes_22 hl (by decide) rfl (fun ls hl => ?_)
        have L24 : ∀ (n24 i24 : Nat), i24 ≤ 25 → 25 + 1 ≤ i24 + n24 → ∀ (z24 : Int32), z24 = lp (m_lakes_b24 s_5 i13) i24 (nI (0)) → ∀ (H : Heap) (locs : List Loc), va_P G vwCl (wm cI cZ a s_5) H → va_D (mA a) (wm cI cZ a s_5) → va_S (mA a) s.heap H locs → ∀ (ls : Array Slot), lv_has ls 5 [(4, .int (nI (i24))), (3, .int (z24)), (2, .int (nI (i13))), (1, .int (z13)), (0, .ref (a 0))] → WW H locs 0 0 (F0 m 24 ls []) := by
          intro n24
          induction n24 with
          | zero => intro i24 h1 h2; exact absurd h2 (by omega)
          | succ n24 ih24 =>
            intro i24 hi24 hn24 z24 hz24  H locs hP hD hS ls hl
            refine (hWW _ _ _ _ _).mpr ?_
            refine lv_iload hx hb dX6_lakes_24 (lv_at hl 0 rfl) ?_
            refine lv_bipush (v := nI (25)) hx hb dX6_lakes_26 (by decide) ?_
            refine n_icmp_ge (x := i24) (y := 25) (tgt := 67) hx hb (by omega) (by omega) dX6_lakes_28 (by decide) (fun c_12 => ?_) (fun c_12 => ?_)
            · have hiN : 25 = i24 := by omega
              subst hiN
              have hR_13 : m_lakes_b13 s_5 i13 z13 = m_lakes_x24 s_5 i13 z13 z24 := (by have q_ := hz24.symm; subst q_; unfold m_lakes_b13; rfl)
              refine lv_iload_n hx hb dX6_lakes_67 rfl (lv_at hl 3 rfl) ?_
              refine lv_iload_n hx hb dX6_lakes_68 rfl (lv_at hl 1 rfl) ?_
              have J77_17 : ∀ (x_16 : Int32), x_16 = (if z24 = 0 then nI (0) else nI (1)) → ∀ (H : Heap) (locs : List Loc), va_P G vwCl (wm cI cZ a s_5) H → va_D (mA a) (wm cI cZ a s_5) → va_S (mA a) s.heap H locs → ∀ (ls : Array Slot), lv_has ls 5 [(4, .int (nI (25))), (3, .int (z24)), (2, .int (nI (i13))), (1, .int (z13)), (0, .ref (a 0))] → WW H locs 0 0 (F0 m 77 ls [.int (x_16), .int (z13)]) := by
                intro x_16 h_18 H locs hP hD hS ls hl
                refine (hWW _ _ _ _ _).mpr ?_
                have hR_19 : m_lakes_b13 s_5 i13 z13 = m_lakes_j77 s_5 i13 z13 z24 x_16 := (Eq.trans hR_13 (by have q_ := h_18.symm; subst q_; unfold m_lakes_x24; rfl))
                refine lv_iadd (x := z13) (y := x_16) hx hb dX6_lakes_77 ?_
                refine lv_istore_n (lv' := [(1, .int ((z13) + (x_16))), (4, .int (nI (25))), (3, .int (z24)), (2, .int (nI (i13))), (0, .ref (a 0))]) hx hb dX6_lakes_78 rfl hl (by decide) rfl (fun ls hl => ?_)
                refine n_iinc (x := i13) (dN := 1) (k := 3) (lv' := [(2, .int (nI (i13 + 1))), (1, .int ((z13) + (x_16))), (4, .int (nI (25))), (3, .int (z24)), (0, .ref (a 0))]) hx hb dX6_lakes_79 hl rfl (by decide) rfl (fun ls hl => ?_)
                refine lv_goto (tgt := 13) hx hb dX6_lakes_82 (by decide) ?_
                exact (hWW _ _ _ _ _).mp (ih13 (i13 + 1) (by omega) (by omega) ((z13) + (x_16)) (by show _ = m_lakes_b13 s_5 i13 (lp (m_lakes_b13 s_5) i13 (nI (0))); rw [← hz13]; exact (Eq.trans (by unfold m_lakes_j77; rfl) hR_19.symm))  _ _ hP hD hS _ (lv_sub hl [0, 1, 4] rfl))
              refine lv_if_eq (x := z24) (tgt := 76) hx hb dX6_lakes_69 (by decide) (fun c_14 => ?_) (fun c_14 => ?_)
              · refine lv_iconst (v := nI (0)) hx hb dX6_lakes_76 (by decide) ?_
                exact (hWW _ _ _ _ _).mp (J77_17 _ (by simp only [if_pos c_14]) _ _ hP hD hS _ (lv_sub hl [0, 1, 2, 3, 4] rfl))
              · refine lv_iconst (v := nI (1)) hx hb dX6_lakes_72 (by decide) ?_
                refine lv_goto (tgt := 77) hx hb dX6_lakes_73 (by decide) ?_
                exact (hWW _ _ _ _ _).mp (J77_17 _ (by simp only [if_neg c_14]) _ _ hP hD hS _ (lv_sub hl [0, 1, 2, 3, 4] rfl))
            · refine lv_iload_n hx hb dX6_lakes_31 rfl (lv_at hl 1 rfl) ?_
              have J60_23 : ∀ (x_22 : Int32), x_22 = (if z24 = 0 then (if (s_5.1 7 i24) = nI (i13) then (if (m_isLake s_5 (nI (i24))) = 0 then nI (0) else nI (1)) else nI (0)) else nI (1)) → ∀ (H : Heap) (locs : List Loc), va_P G vwCl (wm cI cZ a s_5) H → va_D (mA a) (wm cI cZ a s_5) → va_S (mA a) s.heap H locs → ∀ (ls : Array Slot), lv_has ls 5 [(4, .int (nI (i24))), (3, .int (z24)), (2, .int (nI (i13))), (1, .int (z13)), (0, .ref (a 0))] → WW H locs 0 0 (F0 m 60 ls [.int (x_22)]) := by
                intro x_22 h_24 H locs hP hD hS ls hl
                refine (hWW _ _ _ _ _).mpr ?_
                have hR_25 : m_lakes_b24 s_5 i13 i24 z24 = m_lakes_j60 s_5 i13 i24 z24 x_22 := (by have q_ := h_24.symm; subst q_; unfold m_lakes_b24; rfl)
                refine lv_istore_n (lv' := [(3, .int (x_22)), (4, .int (nI (i24))), (2, .int (nI (i13))), (1, .int (z13)), (0, .ref (a 0))]) hx hb dX6_lakes_60 rfl hl (by decide) rfl (fun ls hl => ?_)
                refine n_iinc (x := i24) (dN := 1) (k := 1) (lv' := [(4, .int (nI (i24 + 1))), (3, .int (x_22)), (2, .int (nI (i13))), (1, .int (z13)), (0, .ref (a 0))]) hx hb dX6_lakes_61 hl rfl (by decide) rfl (fun ls hl => ?_)
                refine lv_goto (tgt := 24) hx hb dX6_lakes_64 (by decide) ?_
                exact (hWW _ _ _ _ _).mp (ih24 (i24 + 1) (by omega) (by omega) (x_22) (by show _ = m_lakes_b24 s_5 i13 i24 (lp (m_lakes_b24 s_5 i13) i24 (nI (0))); rw [← hz24]; exact (Eq.trans (by unfold m_lakes_j60; rfl) hR_25.symm))  _ _ hP hD hS _ (lv_sub hl [0, 1, 2, 3, 4] rfl))
              refine lv_if_ne (x := z24) (tgt := 55) hx hb dX6_lakes_32 (by decide) (fun c_20 => ?_) (fun c_20 => ?_)
              · refine lv_iconst (v := nI (1)) hx hb dX6_lakes_55 (by decide) ?_
                refine lv_goto (tgt := 60) hx hb dX6_lakes_56 (by decide) ?_
                exact (hWW _ _ _ _ _).mp (J60_23 _ (by simp only [if_neg c_20]) _ _ hP hD hS _ (lv_sub hl [0, 1, 2, 3, 4] rfl))
              · refine lv_aload_n hx hb dX6_lakes_35 rfl (lv_at hl 4 rfl) ?_
                refine m_get (v := .ref (a 7)) hx hb hts hin hown hK hP 7 (by decide) rfl (index := 25) (List.mem_of_getElem? (i := 2) rfl) dX6_lakes_36 ?_
                refine lv_iload hx hb dX6_lakes_39 (lv_at hl 0 rfl) ?_
                refine m_ald (j := i24) hx hb hK hP 6 7 rfl (by decide) (by omega) dX6_lakes_41 ?_
                refine W.eq (g2 := F0 m 42 ls [.int ((s_5.1 7 i24))]) rfl ?_
                refine lv_iload_n hx hb dX6_lakes_42 rfl (lv_at hl 2 rfl) ?_
                refine lv_icmp_ne (x := (s_5.1 7 i24)) (y := nI (i13)) (tgt := 59) hx hb dX6_lakes_43 (by decide) (fun c_26 => ?_) (fun c_26 => ?_)
                · refine lv_iconst (v := nI (0)) hx hb dX6_lakes_59 (by decide) ?_
                  exact (hWW _ _ _ _ _).mp (J60_23 _ (by simp only [if_pos c_20, if_neg c_26]) _ _ hP hD hS _ (lv_sub hl [0, 1, 2, 3, 4] rfl))
                · refine lv_aload_n hx hb dX6_lakes_46 rfl (lv_at hl 4 rfl) ?_
                  refine lv_iload hx hb dX6_lakes_47 (lv_at hl 0 rfl) ?_
                  refine m_callI (As := [.int (nI (i24))]) (rest := []) (fun _ h => h) ⟨hx, hb, hml, hown, hts⟩ (cm_isLake l G cI cZ a s_5  (nI (i24)) (vp_in_nI (by omega) (by decide))) (cwV 1 hts gX6_lakes_X6_isLake rfl rfl rfl (by decide +kernel) ⟨Nat.le_of_ble_eq_true rfl, Nat.le_of_ble_eq_true rfl⟩) hK hP hD hS rfl hl.1 rfl (Nat.le_of_ble_eq_true rfl) dX6_lakes_49 ⟨Nat.zero_le _, Nat.zero_le _⟩ (fun H locs hP hD _ _ hS => ?_)
                  refine lv_if_eq (x := (m_isLake s_5 (nI (i24)))) (tgt := 59) hx hb dX6_lakes_52 (by decide) (fun c_27 => ?_) (fun c_27 => ?_)
                  · refine lv_iconst (v := nI (0)) hx hb dX6_lakes_59 (by decide) ?_
                    exact (hWW _ _ _ _ _).mp (J60_23 _ (by simp only [if_pos c_20, if_pos c_26, if_pos c_27]) _ _ hP hD hS _ (lv_sub hl [0, 1, 2, 3, 4] rfl))
                  · refine lv_iconst (v := nI (1)) hx hb dX6_lakes_55 (by decide) ?_
                    refine lv_goto (tgt := 60) hx hb dX6_lakes_56 (by decide) ?_
                    exact (hWW _ _ _ _ _).mp (J60_23 _ (by simp only [if_pos c_20, if_pos c_26, if_neg c_27]) _ _ hP hD hS _ (lv_sub hl [0, 1, 2, 3, 4] rfl))
        exact (hWW _ _ _ _ _).mp (L24 (25 + 1) 0 (Nat.zero_le _) (by omega) (nI (0)) rfl  _ _ hP hD hS _ (lv_sub hl [0, 1, 2, 3, 4] rfl))
  exact (hWW _ _ _ _ _).mp (L13 (25 + 1) 0 (Nat.zero_le _) (by omega) (nI (0)) rfl  _ _ hP hD hS _ (lv_sub hl [0, 1, 2] rfl))
