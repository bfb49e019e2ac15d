def m_neighbour_x33 (σ : Sg) (cell : Int32) (w : Int32) (x_3 : Int32) (s_8 : Sg) (z33 : Int32 × Int32) : Int32 := z33.1
def m_neighbour_x33_s (σ : Sg) (cell : Int32) (w : Int32) (x_3 : Int32) (s_8 : Sg) (z33 : Int32 × Int32) : Sg := s_8
def m_neighbour_j79 (cell : Int32) (w : Int32) (i33 : Nat) (z33 : Int32 × Int32) (x_18 : Int32) (x_24 : Int32) : Int32 × Int32 := (x_18, (z33.2) + (x_24))
def m_neighbour_j65 (cell : Int32) (w : Int32) (i33 : Nat) (z33 : Int32 × Int32) (x_18 : Int32) : Int32 × Int32 := (m_neighbour_j79 cell w i33 z33 x_18 (if (m_beside cell (nI (i33))) = (-1) then nI (0) else nI (1)))
def m_neighbour_b33 (cell w : Int32) (i33 : Nat) (z33 : Int32 × Int32) : Int32 × Int32 := (m_neighbour_j65 cell w i33 z33 (if (m_beside cell (nI (i33))) = (-1) then z33.1 else (if z33.2 = w then (m_beside cell (nI (i33))) else z33.1)))
def m_neighbour_k20 (σ : Sg) (cell : Int32) (w : Int32) (x_3 : Int32) (s_8 : Sg) : Int32 := (if (m_refused σ x_3) = 0 then (m_neighbour_x33 σ cell w x_3 s_8 (lp (m_neighbour_b33 cell w) 4 ((-1), nI (0)))) else nI (0))
def m_neighbour_k20_s (σ : Sg) (cell : Int32) (w : Int32) (x_3 : Int32) (s_8 : Sg) : Sg := (if (m_refused σ x_3) = 0 then (m_neighbour_x33_s σ cell w x_3 s_8 (lp (m_neighbour_b33 cell w) 4 ((-1), nI (0)))) else s_8)
def m_neighbour_j17 (σ : Sg) (cell : Int32) (w : Int32) (x_3 : Int32) : Int32 := (m_neighbour_k20 σ cell w x_3 (m_refused_s σ x_3))
def m_neighbour_j17_s (σ : Sg) (cell : Int32) (w : Int32) (x_3 : Int32) : Sg := (m_neighbour_k20_s σ cell w x_3 (m_refused_s σ x_3))
def m_neighbour (σ : Sg) (cell : Int32) (w : Int32) : Int32 := (m_neighbour_j17 σ cell w (if (m_isCell cell) = 0 then nI (1) else (if w < 0 then nI (1) else nI (0))))
def m_neighbour_s (σ : Sg) (cell : Int32) (w : Int32) : Sg := (m_neighbour_j17_s σ cell w (if (m_isCell cell) = 0 then nI (1) else (if w < 0 then nI (1) else nI (0))))
set_option maxHeartbeats 4000000 in
set_option maxRecDepth 100000 in
theorem cm_neighbour (l : Launch) (G : va_G) (cI cZ : ClassId) (a : Nat → Nat) (σ : Sg) (cell : Int32) (w : Int32) : mI l yX6_neighbour wsX6_neighbour ({ frames := 2, cells := 0, slots := 0, locals := 42 } : Room) G cI cZ a σ [.int (cell), .int (w)] (m_neighbour σ cell w) (m_neighbour_s σ cell w) := by
  unfold mI
  refine Met.ofW (cc := cX6_neighbour) (maxL := 7) (ret := (some .int)) (by decide) rfl ?_
  intro p e s m args below meth c s₁ B hml hv
  obtain ⟨rfl, hP, hK, hD⟩ := hv
  have hx := B.exec
  have hb := B.bytes
  have hr := B.returns
  have hts := atoms_spec (ws := wsX6_neighbour) B.pre
  have hown : s.vm.findClass RX6 = some m.cls := findClass_of_methodNamed B.named
  have hlocks := B.notSynchronized
  have hS : va_S (mA a) s.heap s.heap [] := va_S.rf
  have hin : ∀ w ∈ wsX60, w ∈ wsX6_neighbour := fun w h => List.mem_cons_of_mem _ (List.mem_append_right _ h)
  have hl := lv_entry ([.ref (a 0), .int (cell), .int (w)]) (n := 7) (Nat.le_of_ble_eq_true rfl)
  rw [lg_entry_eq]
  generalize (lg_sl ([.ref (a 0), .int (cell), .int (w)]) ++ List.replicate (7 - (lg_sl ([.ref (a 0), .int (cell), .int (w)])).length) Slot.unset).toArray = ls at hl ⊢
  have hl : lv_has ls 7 [(0, .ref (a 0)), (1, .int (cell)), (2, .int (w))] := hl
  refine w_named (fun WW hWW => ?_)
  have hP : va_P G vwCl (wm cI cZ a σ) s.heap := hP
  refine lv_aload_n hx hb dX6_neighbour_0 rfl (lv_at hl 0 rfl) ?_
  refine lv_iload_n hx hb dX6_neighbour_1 rfl (lv_at hl 1 rfl) ?_
  refine m_callS (As := [.int (cell)]) (rest := [.ref (a 0)]) ⟨hx, hb, hml, hown, hts⟩ (cm_isCell l cell ) (va_cwS 1 hts gX6_neighbour_X6_isCell rfl rfl rfl (by decide +kernel) ⟨Nat.le_of_ble_eq_true rfl, Nat.le_of_ble_eq_true rfl⟩) hP hS rfl hl.1 rfl (Nat.le_of_ble_eq_true rfl) dX6_neighbour_2 ⟨Nat.zero_le _, Nat.zero_le _⟩ (fun H locs hP hS => ?_)
  have J17_4 : ∀ (x_3 : Int32), x_3 = (if (m_isCell cell) = 0 then nI (1) else (if w < 0 then nI (1) else nI (0))) → ∀ (H : Heap) (locs : List Loc), va_P G vwCl (wm cI cZ a σ) H → va_D (mA a) (wm cI cZ a σ) → va_S (mA a) s.heap H locs → ∀ (ls : Array Slot), lv_has ls 7 [(0, .ref (a 0)), (1, .int (cell)), (2, .int (w))] → WW H locs 0 0 (F0 m 17 ls [.int (x_3), .ref (a 0)]) := by
    intro x_3 h_5 H locs hP hD hS ls hl
    refine (hWW _ _ _ _ _).mpr ?_
    have hR_6 : m_neighbour σ cell w = m_neighbour_j17 σ cell w x_3 := (by have q_ := h_5.symm; subst q_; unfold m_neighbour; rfl)
    have hR_7 : m_neighbour_s σ cell w = m_neighbour_j17_s σ cell w x_3 := (by have q_ := h_5.symm; subst q_; unfold m_neighbour_s; rfl)
    refine m_callI (As := [.int (x_3)]) (rest := []) (fun _ h => h) ⟨hx, hb, hml, hown, hts⟩ (cm_refused l G cI cZ a σ  x_3 ) (cwV 1 hts gX6_neighbour_X6_refused rfl rfl rfl (by decide +kernel) ⟨Nat.le_of_ble_eq_true rfl, Nat.le_of_ble_eq_true rfl⟩) hK hP hD hS rfl hl.1 rfl (Nat.le_of_ble_eq_true rfl) dX6_neighbour_17 ⟨Nat.zero_le _, Nat.zero_le _⟩ (fun H locs hP hD _ _ hS => ?_)
    obtain ⟨s_8, e_9⟩ : ∃ z : Sg, z = (m_refused_s σ x_3) := ⟨_, rfl⟩
    rw [← e_9] at hP hD
    have hR_10 : m_neighbour σ cell w = m_neighbour_k20 σ cell w x_3 s_8 := (Eq.trans hR_6 (by have q_ := e_9.symm; subst q_; unfold m_neighbour_j17; rfl))
    have hR_11 : m_neighbour_s σ cell w = m_neighbour_k20_s σ cell w x_3 s_8 := (Eq.trans hR_7 (by have q_ := e_9.symm; subst q_; unfold m_neighbour_j17_s; rfl))
    refine lv_if_eq (x := (m_refused σ x_3)) (tgt := 25) hx hb dX6_neighbour_20 (by decide) (fun c_12 => ?_) (fun c_12 => ?_)
    · refine lv_iconst (v := (-1)) hx hb dX6_neighbour_25 (by decide) ?_
      refine lv_istore_n (lv' := [(3, .int ((-1))), (0, .ref (a 0)), (1, .int (cell)), (2, .int (w))]) hx hb dX6_neighbour_26 rfl hl (by decide) rfl (fun ls hl => ?_)
      refine lv_iconst (v := nI (0)) hx hb dX6_neighbour_27 (by decide) ?_
      refine lv_istore (lv' := [(4, .int (nI (0))), (3, .int ((-1))), (0, .ref (a 0)), (1, .int (cell)), (2, .int (w))]) hx hb dX6_neighbour_28 hl (by decide) rfl (fun ls hl => ?_)
      refine lv_iconst (v := nI (0)) hx hb dX6_neighbour_30 (by decide) ?_
      refine lv_istore (lv' := [(5, .int (nI (0))), (4, .int (nI (0))), (3, .int ((-1))), (0, .ref (a 0)), (1, .int (cell)), (2, .int (w))]) hx hb dX6_neighbour_31 hl (by decide) rfl (fun ls hl => ?_)
      have L33 : ∀ (n33 i33 : Nat), i33 ≤ 4 → 4 + 1 ≤ i33 + n33 → ∀ (z33 : Int32 × Int32), z33 = lp (m_neighbour_b33 cell w) i33 ((-1), nI (0)) → ∀ (H : Heap) (locs : List Loc), va_P G vwCl (wm cI cZ a s_8) H → va_D (mA a) (wm cI cZ a s_8) → va_S (mA a) s.heap H locs → ∀ (ls : Array Slot), lv_has ls 7 [(5, .int (nI (i33))), (4, .int (z33.2)), (3, .int (z33.1)), (0, .ref (a 0)), (1, .int (cell)), (2, .int (w))] → WW H locs 0 0 (F0 m 33 ls []) := by
        intro n33
        induction n33 with
        | zero => intro i33 h1 h2; exact absurd h2 (by omega)
        | succ n33 ih33 =>
          intro i33 hi33 hn33 z33 hz33  H locs hP hD hS ls hl
          refine (hWW _ _ _ _ _).mpr ?_
          refine lv_iload hx hb dX6_neighbour_33 (lv_at hl 0 rfl) ?_
          refine lv_iconst (v := nI (4)) hx hb dX6_neighbour_35 (by decide) ?_
          refine n_icmp_ge (x := i33) (y := 4) (tgt := 88) hx hb (by omega) (by omega) dX6_neighbour_36 (by decide) (fun c_13 => ?_) (fun c_13 => ?_)
          · have hiN : 4 = i33 := by omega
            subst hiN
            have hR_14 : m_neighbour σ cell w = m_neighbour_x33 σ cell w x_3 s_8 z33 := (Eq.trans hR_10 (by have q_ := hz33.symm; subst q_; unfold m_neighbour_k20; simp only [if_pos c_12]))
            have hR_15 : m_neighbour_s σ cell w = m_neighbour_x33_s σ cell w x_3 s_8 z33 := (Eq.trans hR_11 (by have q_ := hz33.symm; subst q_; unfold m_neighbour_k20_s; simp only [if_pos c_12]))
            refine lv_iload_n hx hb dX6_neighbour_88 rfl (lv_at hl 2 rfl) ?_
            exact m_iret (v := z33.1) hx hb hr hlocks hP hK hD hS dX6_neighbour_89 (Eq.trans (by unfold m_neighbour_x33; rfl) hR_14.symm) (Eq.trans (by unfold m_neighbour_x33_s; rfl) hR_15.symm)
          · refine lv_iload_n hx hb dX6_neighbour_39 rfl (lv_at hl 4 rfl) ?_
            refine lv_iload hx hb dX6_neighbour_40 (lv_at hl 0 rfl) ?_
            refine m_callS (As := [.int (cell), .int (nI (i33))]) (rest := []) ⟨hx, hb, hml, hown, hts⟩ (cm_beside l cell (nI (i33)) ) (va_cwS 2 hts gX6_neighbour_X6_beside rfl rfl rfl (by decide +kernel) ⟨Nat.le_of_ble_eq_true rfl, Nat.le_of_ble_eq_true rfl⟩) hP hS rfl hl.1 rfl (Nat.le_of_ble_eq_true rfl) dX6_neighbour_42 ⟨Nat.zero_le _, Nat.zero_le _⟩ (fun H locs hP hS => ?_)
            refine lv_istore (lv' := [(6, .int ((m_beside cell (nI (i33))))), (5, .int (nI (i33))), (4, .int (z33.2)), (3, .int (z33.1)), (0, .ref (a 0)), (1, .int (cell)), (2, .int (w))]) hx hb dX6_neighbour_45 hl (by decide) rfl (fun ls hl => ?_)
            refine lv_iload hx hb dX6_neighbour_47 (lv_at hl 0 rfl) ?_
            refine lv_iconst (v := (-1)) hx hb dX6_neighbour_49 (by decide) ?_
            have J65_19 : ∀ (x_18 : Int32), x_18 = (if (m_beside cell (nI (i33))) = (-1) then z33.1 else (if z33.2 = w then (m_beside cell (nI (i33))) else z33.1)) → ∀ (H : Heap) (locs : List Loc), va_P G vwCl (wm cI cZ a s_8) H → va_D (mA a) (wm cI cZ a s_8) → va_S (mA a) s.heap H locs → ∀ (ls : Array Slot), lv_has ls 7 [(6, .int ((m_beside cell (nI (i33))))), (5, .int (nI (i33))), (4, .int (z33.2)), (3, .int (z33.1)), (0, .ref (a 0)), (1, .int (cell)), (2, .int (w))] → WW H locs 0 0 (F0 m 65 ls [.int (x_18)]) := by
              intro x_18 h_20 H locs hP hD hS ls hl
              refine (hWW _ _ _ _ _).mpr ?_
              have hR_21 : m_neighbour_b33 cell w i33 z33 = m_neighbour_j65 cell w i33 z33 x_18 := (by have q_ := h_20.symm; subst q_; unfold m_neighbour_b33; rfl)
              refine lv_istore_n (lv' := [(3, .int (x_18)), (6, .int ((m_beside cell (nI (i33))))), (5, .int (nI (i33))), (4, .int (z33.2)), (0, .ref (a 0)), (1, .int (cell)), (2, .int (w))]) hx hb dX6_neighbour_65 rfl hl (by decide) rfl (fun ls hl => ?_)
              refine lv_iload hx hb dX6_neighbour_66 (lv_at hl 3 rfl) ?_
              refine lv_iload hx hb dX6_neighbour_68 (lv_at hl 1 rfl) ?_
              refine lv_iconst (v := (-1)) hx hb dX6_neighbour_70 (by decide) ?_
              have J79_25 : ∀ (x_24 : Int32), x_24 = (if (m_beside cell (nI (i33))) = (-1) then nI (0) else nI (1)) → ∀ (H : Heap) (locs : List Loc), va_P G vwCl (wm cI cZ a s_8) H → va_D (mA a) (wm cI cZ a s_8) → va_S (mA a) s.heap H locs → ∀ (ls : Array Slot), lv_has ls 7 [(3, .int (x_18)), (6, .int ((m_beside cell (nI (i33))))), (5, .int (nI (i33))), (4, .int (z33.2)), (0, .ref (a 0)), (1, .int (cell)), (2, .int (w))] → WW H locs 0 0 (F0 m 79 ls [.int (x_24), .int (z33.2)]) := by
                intro x_24 h_26 H locs hP hD hS ls hl
                refine (hWW _ _ _ _ _).mpr ?_
                have hR_27 : m_neighbour_b33 cell w i33 z33 = m_neighbour_j79 cell w i33 z33 x_18 x_24 := (Eq.trans hR_21 (by have q_ := h_26.symm; subst q_; unfold m_neighbour_j65; rfl))
                refine lv_iadd (x := z33.2) (y := x_24) hx hb dX6_neighbour_79 ?_
                refine lv_istore (lv' := [(4, .int ((z33.2) + (x_24))), (3, .int (x_18)), (6, .int ((m_beside cell (nI (i33))))), (5, .int (nI (i33))), (0, .ref (a 0)), (1, .int (cell)), (2, .int (w))]) hx hb dX6_neighbour_80 hl (by decide) rfl (fun ls hl => ?_)
                refine n_iinc (x := i33) (dN := 1) (k := 3) (lv' := [(5, .int (nI (i33 + 1))), (4, .int ((z33.2) + (x_24))), (3, .int (x_18)), (6, .int ((m_beside cell (nI (i33))))), (0, .ref (a 0)), (1, .int (cell)), (2, .int (w))]) hx hb dX6_neighbour_82 hl rfl (by decide) rfl (fun ls hl => ?_)
                refine lv_goto (tgt := 33) hx hb dX6_neighbour_85 (by decide) ?_
                exact (hWW _ _ _ _ _).mp (ih33 (i33 + 1) (by omega) (by omega) ((x_18, (z33.2) + (x_24))) (by show _ = m_neighbour_b33 cell w i33 (lp (m_neighbour_b33 cell w) i33 ((-1), nI (0))); rw [← hz33]; exact (Eq.trans (by unfold m_neighbour_j79; rfl) hR_27.symm))  _ _ hP hD hS _ (lv_sub hl [0, 1, 2, 4, 5, 6] rfl))
              refine lv_icmp_eq (x := (m_beside cell (nI (i33)))) (y := (-1)) (tgt := 78) hx hb dX6_neighbour_71 (by decide) (fun c_22 => ?_) (fun c_22 => ?_)
              · refine lv_iconst (v := nI (0)) hx hb dX6_neighbour_78 (by decide) ?_
                exact (hWW _ _ _ _ _).mp (J79_25 _ (by simp only [if_pos c_22]) _ _ hP hD hS _ (lv_sub hl [0, 1, 2, 3, 4, 5, 6] rfl))
              · refine lv_iconst (v := nI (1)) hx hb dX6_neighbour_74 (by decide) ?_
                refine lv_goto (tgt := 79) hx hb dX6_neighbour_75 (by decide) ?_
                exact (hWW _ _ _ _ _).mp (J79_25 _ (by simp only [if_neg c_22]) _ _ hP hD hS _ (lv_sub hl [0, 1, 2, 3, 4, 5, 6] rfl))
            refine lv_icmp_eq (x := (m_beside cell (nI (i33)))) (y := (-1)) (tgt := 64) hx hb dX6_neighbour_50 (by decide) (fun c_16 => ?_) (fun c_16 => ?_)
            · refine lv_iload_n hx hb dX6_neighbour_64 rfl (lv_at hl 3 rfl) ?_
              exact (hWW _ _ _ _ _).mp (J65_19 _ (by simp only [if_pos c_16]) _ _ hP hD hS _ (lv_sub hl [0, 1, 2, 3, 4, 5, 6] rfl))
            · refine lv_iload hx hb dX6_neighbour_53 (lv_at hl 2 rfl) ?_
              refine lv_iload_n hx hb dX6_neighbour_55 rfl (lv_at hl 6 rfl) ?_
              refine lv_icmp_ne (x := z33.2) (y := w) (tgt := 64) hx hb dX6_neighbour_56 (by decide) (fun c_28 => ?_) (fun c_28 => ?_)
              · refine lv_iload_n hx hb dX6_neighbour_64 rfl (lv_at hl 3 rfl) ?_
                exact (hWW _ _ _ _ _).mp (J65_19 _ (by simp only [if_neg c_16, if_neg c_28]) _ _ hP hD hS _ (lv_sub hl [0, 1, 2, 3, 4, 5, 6] rfl))
              · refine lv_iload hx hb dX6_neighbour_59 (lv_at hl 0 rfl) ?_
                refine lv_goto (tgt := 65) hx hb dX6_neighbour_61 (by decide) ?_
                exact (hWW _ _ _ _ _).mp (J65_19 _ (by simp only [if_neg c_16, if_pos c_28]) _ _ hP hD hS _ (lv_sub hl [0, 1, 2, 3, 4, 5, 6] rfl))
      exact (hWW _ _ _ _ _).mp (L33 (4 + 1) 0 (Nat.zero_le _) (by omega) ((-1), nI (0)) rfl  _ _ hP hD hS _ (lv_sub hl [0, 1, 2, 3, 4, 5] rfl))
    · refine lv_iconst (v := nI (0)) hx hb dX6_neighbour_23 (by decide) ?_
      exact m_iret (v := nI (0)) hx hb hr hlocks hP hK hD hS dX6_neighbour_24 (Eq.trans (by unfold m_neighbour_k20; simp only [if_neg c_12]) hR_10.symm) (Eq.trans (by unfold m_neighbour_k20_s; simp only [if_neg c_12]) hR_11.symm)
  refine lv_if_eq (x := (m_isCell cell)) (tgt := 16) hx hb dX6_neighbour_5 (by decide) (fun c_1 => ?_) (fun c_1 => ?_)
  · refine lv_iconst (v := nI (1)) hx hb dX6_neighbour_16 (by decide) ?_
    exact (hWW _ _ _ _ _).mp (J17_4 _ (by simp only [if_pos c_1]) _ _ hP hD hS _ (lv_sub hl [0, 1, 2] rfl))
  · refine lv_iload_n hx hb dX6_neighbour_8 rfl (lv_at hl 2 rfl) ?_
    refine lv_if_lt (x := w) (tgt := 16) hx hb dX6_neighbour_9 (by decide) (fun c_29 => ?_) (fun c_29 => ?_)
    · refine lv_iconst (v := nI (1)) hx hb dX6_neighbour_16 (by decide) ?_
      exact (hWW _ _ _ _ _).mp (J17_4 _ (by simp only [if_neg c_1, if_pos c_29]) _ _ hP hD hS _ (lv_sub hl [0, 1, 2] rfl))
    · refine lv_iconst (v := nI (0)) hx hb dX6_neighbour_12 (by decide) ?_
      refine lv_goto (tgt := 17) hx hb dX6_neighbour_13 (by decide) ?_
      exact (hWW _ _ _ _ _).mp (J17_4 _ (by simp only [if_neg c_1, if_neg c_29]) _ _ hP hD hS _ (lv_sub hl [0, 1, 2] rfl))
