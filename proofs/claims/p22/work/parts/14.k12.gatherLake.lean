def k_gatherLake_x9 (σ : Sg) (cell : Int32) (s_1 : Sg) (z9 : Int32 × Sg) : Int32 := z9.1
def k_gatherLake_x9_s (σ : Sg) (cell : Int32) (s_1 : Sg) (z9 : Int32 × Sg) : Sg := z9.2
def k_gatherLake_x26 (i9 : Nat) (z9 : Int32 × Sg) (z26 : Int32 × Sg) : Int32 × Sg := (z26.1, z26.2)
def k_gatherLake_k55 (i9 : Nat) (i26 : Nat) (z26 : Int32 × Sg) (s_14 : Sg) : Int32 × Sg := ((k_gatherCell z26.2 (k_stepFrom (z26.2.1 32 i9) (cpS i26)) z26.1), s_14)
def k_gatherLake_b26 (i9 : Nat) (i26 : Nat) (z26 : Int32 × Sg) : Int32 × Sg := (k_gatherLake_k55 i9 i26 z26 (k_gatherCell_s z26.2 (k_stepFrom (z26.2.1 32 i9) (cpS i26)) z26.1))
def k_gatherLake_b9  (i9 : Nat) (z9 : Int32 × Sg) : Int32 × Sg := (if z9.1 ≤ nI (i9) then z9 else (k_gatherLake_x26 i9 z9 (lp (k_gatherLake_b26 i9) 4 (z9.1, z9.2))))
def k_gatherLake_k6 (σ : Sg) (cell : Int32) (s_1 : Sg) : Int32 := (k_gatherLake_x9 σ cell s_1 (lp (k_gatherLake_b9) 25 ((k_gatherCell σ cell (nI (0))), s_1)))
def k_gatherLake_k6_s (σ : Sg) (cell : Int32) (s_1 : Sg) : Sg := (k_gatherLake_x9_s σ cell s_1 (lp (k_gatherLake_b9) 25 ((k_gatherCell σ cell (nI (0))), s_1)))
def k_gatherLake (σ : Sg) (cell : Int32) : Int32 := (k_gatherLake_k6 σ cell (k_gatherCell_s σ cell (nI (0))))
def k_gatherLake_s (σ : Sg) (cell : Int32) : Sg := (k_gatherLake_k6_s σ cell (k_gatherCell_s σ cell (nI (0))))
theorem k_gatherCell_26 {σ : Sg} {cell size : Int32} (hs : vp_in size 26) : vp_in (k_gatherCell σ cell size) 26 := by
  simp only [k_gatherCell_k51, k_gatherCell_k51_s, k_gatherCell_k44, k_gatherCell_k44_s, k_gatherCell, k_gatherCell_s]
  split
  · exact hs
  · split
    · exact hs
    · split
      · split
        · rename_i h
          have h25 := vp_26 hs h
          have e := vp_self h25
          have hlt := vp_lt h25
          rw [e, nI_add]
          exact vp_in_nI (by omega) (by decide)
        · exact hs
      · exact hs
theorem k_gl26 (i9 : Nat) (z : Int32 × Sg) (hz : vp_in z.1 26) (i : Nat) : vp_in (lp (k_gatherLake_b26 i9) i z).1 26 := by
  refine lp_inv (f := k_gatherLake_b26 i9) (z := z) (P := fun _ w => vp_in w.1 26) hz (fun i w hw => ?_) i
  simp only [k_gatherLake_b26, k_gatherLake_x9, k_gatherLake_x9_s, k_gatherLake_x26, k_gatherLake_k55, k_gatherLake_k6, k_gatherLake_k6_s, k_gatherLake, k_gatherLake_s]
  exact k_gatherCell_26 hw
theorem p_eta (q : Int32 × Sg) : (q.1, q.2) = q := rfl
theorem k_gl_x26 (i : Nat) (w q : Int32 × Sg) : k_gatherLake_x26 i w q = q := rfl
theorem k_gl9b (i : Nat) (w : Int32 × Sg) : k_gatherLake_b9 i w = if w.1 ≤ nI i then w else lp (k_gatherLake_b26 i) 4 w := by
  unfold k_gatherLake_b9
  by_cases h : w.1 ≤ nI i
  · exact (if_pos h).trans (if_pos h).symm
  · exact (if_neg h).trans (((k_gl_x26 i w _).trans (congrArg (lp (k_gatherLake_b26 i) 4) (p_eta w))).trans (if_neg h).symm)
theorem k_gl9 {x : Int32} {τ : Sg} (hx : vp_in x 26) (i : Nat) : vp_in (lp k_gatherLake_b9 i (x, τ)).1 26 := by
  refine lp_inv (f := k_gatherLake_b9) (z := (x, τ)) (P := fun _ w => vp_in w.1 26) hx (fun i w hw => ?_) i
  show vp_in (k_gatherLake_b9 i w).1 26
  rw [k_gl9b]
  by_cases h : w.1 ≤ nI i
  · rw [if_pos h]; exact hw
  · rw [if_neg h]; exact k_gl26 i w hw 4
set_option maxHeartbeats 4000000 in
set_option maxRecDepth 100000 in
theorem ck_gatherLake (l : Launch) (G : va_G) (ids : Nat → ClassId) (o z tS tE : Nat) (d : Nat → Nat → Nat) (w : Nat → Nat) (σ : Sg) (cell : Int32) (hc : ¬ cell = -1 → vp_in cell 25) : yI l yX5_gatherLake wsX5_gatherLake ({ frames := 1, cells := 0, slots := 0, locals := 23 } : Room) G ids tS tE [.ref (o), .int (cell)] (CPic G ids o z tE d w σ) (k_gatherLake σ cell) (CPic G ids o z tE d w (k_gatherLake_s σ cell)) (cpG o z) := by
  unfold yI
  refine Met.ofW (cc := cX5_gatherLake) (maxL := 5) (ret := (some .int)) (by decide) rfl ?_
  intro p e s m args below meth c s₁ B hml hv
  obtain ⟨rfl, hP, hK, hZ⟩ := hv
  have hx := B.exec
  have hb := B.bytes
  have hr := B.returns
  have hts := atoms_spec (ws := wsX5_gatherLake) B.pre
  have hown : s.vm.findClass RX5 = some m.cls := findClass_of_methodNamed B.named
  have hlocks := B.notSynchronized
  have hS : va_S (cpG o z) s.heap s.heap [] := va_S.rf
  have hin_wsX50 : ∀ w ∈ wsX50, w ∈ wsX5_gatherLake := fun w h => List.mem_cons_of_mem _ (List.mem_append_left _ (List.mem_append_right _ h))
  have hin_wsX10 : ∀ w ∈ wsX10, w ∈ wsX5_gatherLake := fun w h => List.mem_cons_of_mem _ (List.mem_append_right _ h)
  have hl := lv_entry ([.ref (o), .int (cell)]) (n := 5) (Nat.le_of_ble_eq_true rfl)
  rw [lg_entry_eq]
  generalize (lg_sl ([.ref (o), .int (cell)]) ++ List.replicate (5 - (lg_sl ([.ref (o), .int (cell)])).length) Slot.unset).toArray = ls at hl ⊢
  have hl : lv_has ls 5 [(0, .ref (o)), (1, .int (cell))] := hl
  refine w_named (fun WW hWW => ?_)
  refine lv_aload_n hx hb dX5_gatherLake_0 rfl (lv_at hl 0 rfl) ?_
  refine lv_iload_n hx hb dX5_gatherLake_1 rfl (lv_at hl 1 rfl) ?_
  refine lv_iconst (v := nI (0)) hx hb dX5_gatherLake_2 (by decide) ?_
  refine y_callI (As := [.int (cell), .int (nI (0))]) (rest := []) ⟨hx, hb, hml, hown, hts⟩ (ck_gatherCell l G ids o z tS tE d w σ cell (nI (0)) hc (vp_in_nI (by decide) (by decide))) (cwV 2 hts gX5_gatherLake_X5_gatherCell rfl rfl rfl (by decide +kernel) ⟨Nat.le_of_ble_eq_true rfl, Nat.le_of_ble_eq_true rfl⟩) hK hZ hP.main rfl hP hS rfl hl.1 rfl (Nat.le_of_ble_eq_true rfl) dX5_gatherLake_3 ⟨Nat.zero_le _, Nat.zero_le _⟩ (fun H locs hP hS => ?_)
  obtain ⟨s_1, e_2⟩ : ∃ z : Sg, z = (k_gatherCell_s σ cell (nI (0))) := ⟨_, rfl⟩
  rw [← e_2] at hP
  have hR_3 : k_gatherLake σ cell = k_gatherLake_k6 σ cell s_1 := (by have q_ := e_2.symm; subst q_; unfold k_gatherLake; rfl)
  have hR_4 : k_gatherLake_s σ cell = k_gatherLake_k6_s σ cell s_1 := (by have q_ := e_2.symm; subst q_; unfold k_gatherLake_s; rfl)
  refine lv_istore_n (lv' := [(2, .int ((k_gatherCell σ cell (nI (0))))), (0, .ref (o)), (1, .int (cell))]) hx hb dX5_gatherLake_6 rfl hl (by decide) rfl (fun ls hl => ?_)
  refine lv_iconst (v := nI (0)) hx hb dX5_gatherLake_7 (by decide) ?_
  refine lv_istore_n (lv' := [(3, .int (nI (0))), (2, .int ((k_gatherCell σ cell (nI (0))))), (0, .ref (o)), (1, .int (cell))]) hx hb dX5_gatherLake_8 rfl hl (by decide) rfl (fun ls hl => ?_)
  have L9 : ∀ (n9 i9 : Nat), i9 ≤ 25 → 25 + 1 ≤ i9 + n9 → ∀ (z9 : Int32 × Sg), z9 = lp (k_gatherLake_b9) i9 ((k_gatherCell σ cell (nI (0))), s_1) → ∀ (H : Heap) (locs : List Loc), CPic G ids o z tE d w z9.2 H → va_S (cpG o z) s.heap H locs → ∀ (ls : Array Slot), lv_has ls 5 [(3, .int (nI (i9))), (2, .int (z9.1)), (0, .ref (o)), (1, .int (cell))] → WW H locs 0 0 (F0 m 9 ls []) := by
    intro n9
    induction n9 with
    | zero => intro i9 h1 h2; exact absurd h2 (by omega)
    | succ n9 ih9 =>
      intro i9 hi9 hn9 z9 hz9  H locs hP hS ls hl
      refine (hWW _ _ _ _ _).mpr ?_
      have hv : vp_in z9.1 26 := by rw [hz9]; exact k_gl9 (k_gatherCell_26 (vp_in_nI (by decide) (by decide))) i9
      refine lv_iload_n hx hb dX5_gatherLake_9 rfl (lv_at hl 0 rfl) ?_
      refine lv_iload_n hx hb dX5_gatherLake_10 rfl (lv_at hl 1 rfl) ?_
      refine lv_icmp_ge (x := nI (i9)) (y := z9.1) (tgt := 68) hx hb dX5_gatherLake_11 (by decide) (fun c_5 => ?_) (fun c_5 => ?_)
      · have hX_6 : z9 = lp (k_gatherLake_b9) 25 ((k_gatherCell σ cell (nI (0))), s_1) := (lp_stop hz9 (by omega) (fun j h1 h2 => if_pos (nI_le_mono c_5 h1 (by omega)))).symm
        have hR_7 : k_gatherLake σ cell = k_gatherLake_x9 σ cell s_1 z9 := (Eq.trans hR_3 (by have q_ := hX_6.symm; subst q_; unfold k_gatherLake_k6; rfl))
        have hR_8 : k_gatherLake_s σ cell = k_gatherLake_x9_s σ cell s_1 z9 := (Eq.trans hR_4 (by have q_ := hX_6.symm; subst q_; unfold k_gatherLake_k6_s; rfl))
        refine lv_iload_n hx hb dX5_gatherLake_68 rfl (lv_at hl 1 rfl) ?_
        have hsp : z9.2 = k_gatherLake_s σ cell := (Eq.trans (by unfold k_gatherLake_x9_s; rfl) hR_8.symm)
        rw [hsp] at hP
        exact x_iret (v := z9.1) hx hb hr hlocks hP hS dX5_gatherLake_69 (Eq.trans (by unfold k_gatherLake_x9; rfl) hR_7.symm)
      · refine lv_iload_n hx hb dX5_gatherLake_14 rfl (lv_at hl 0 rfl) ?_
        refine lv_aload_n hx hb dX5_gatherLake_15 rfl (lv_at hl 2 rfl) ?_
        refine x_get (C := RX5) (T := TX5) (N := 10) (ci := 6) (fs := (cpOf o z9.2)) (v := .ref (o + 7)) hx hb hts hin_wsX50 hown hK hP.main rfl 8 (by decide) (index := 35) (List.mem_of_getElem? (i := 1) rfl) rfl dX5_gatherLake_16 ?_
        refine x_alen hx hb hK 0 rfl hP.lake (n := 25) rfl dX5_gatherLake_19 ?_
        refine n_icmp_ge (x := i9) (y := 25) (tgt := 68) hx hb (by omega) (by omega) dX5_gatherLake_20 (by decide) (fun c_9 => ?_) (fun c_9 => ?_)
        · have hiN : 25 = i9 := by omega
          subst hiN
          have hR_10 : k_gatherLake σ cell = k_gatherLake_x9 σ cell s_1 z9 := (Eq.trans hR_3 (by have q_ := hz9.symm; subst q_; unfold k_gatherLake_k6; rfl))
          have hR_11 : k_gatherLake_s σ cell = k_gatherLake_x9_s σ cell s_1 z9 := (Eq.trans hR_4 (by have q_ := hz9.symm; subst q_; unfold k_gatherLake_k6_s; rfl))
          refine lv_iload_n hx hb dX5_gatherLake_68 rfl (lv_at hl 1 rfl) ?_
          have hsp : z9.2 = k_gatherLake_s σ cell := (Eq.trans (by unfold k_gatherLake_x9_s; rfl) hR_11.symm)
          rw [hsp] at hP
          exact x_iret (v := z9.1) hx hb hr hlocks hP hS dX5_gatherLake_69 (Eq.trans (by unfold k_gatherLake_x9; rfl) hR_10.symm)
        · refine lv_iconst (v := nI (0)) hx hb dX5_gatherLake_23 (by decide) ?_
          refine lv_istore (lv' := [(4, .int (nI (0))), (3, .int (nI (i9))), (2, .int (z9.1)), (0, .ref (o)), (1, .int (cell))]) hx hb dX5_gatherLake_24 hl (by decide) rfl (fun ls hl => ?_)
          have L26 : ∀ (n26 i26 : Nat), i26 ≤ 4 → 4 + 1 ≤ i26 + n26 → ∀ (z26 : Int32 × Sg), z26 = lp (k_gatherLake_b26 i9) i26 (z9.1, z9.2) → ∀ (H : Heap) (locs : List Loc), CPic G ids o z tE d w z26.2 H → va_S (cpG o z) s.heap H locs → ∀ (ls : Array Slot), lv_has ls 5 [(4, .int (nI (i26))), (3, .int (nI (i9))), (2, .int (z26.1)), (0, .ref (o)), (1, .int (cell))] → WW H locs 0 0 (F0 m 26 ls []) := by
            intro n26
            induction n26 with
            | zero => intro i26 h1 h2; exact absurd h2 (by omega)
            | succ n26 ih26 =>
              intro i26 hi26 hn26 z26 hz26  H locs hP hS ls hl
              refine (hWW _ _ _ _ _).mpr ?_
              have hv2 : vp_in z26.1 26 := by rw [hz26]; exact k_gl26 i9 (z9.1, z9.2) hv i26
              refine lv_iload hx hb dX5_gatherLake_26 (lv_at hl 0 rfl) ?_
              refine va_gets hx hb hZ.1.1 hS hown (hts _ (List.mem_of_getElem? (i := 2) rfl)) (fun _ h => h) dX5_gatherLake_28 ?_
              refine va_tlen hx hb hZ.1.2 hS (v := nI 4) rfl dX5_gatherLake_31 ?_
              refine n_icmp_ge (x := i26) (y := 4) (tgt := 62) hx hb (by omega) (by omega) dX5_gatherLake_32 (by decide) (fun c_12 => ?_) (fun c_12 => ?_)
              · have hiN : 4 = i26 := by omega
                subst hiN
                have hR_13 : k_gatherLake_b9 i9 z9 = k_gatherLake_x26 i9 z9 z26 := (by have q_ := hz26.symm; subst q_; unfold k_gatherLake_b9; simp only [if_neg c_5])
                refine n_iinc (x := i9) (dN := 1) (k := 1) (lv' := [(3, .int (nI (i9 + 1))), (4, .int (nI (4))), (2, .int (z26.1)), (0, .ref (o)), (1, .int (cell))]) hx hb dX5_gatherLake_62 hl rfl (by decide) rfl (fun ls hl => ?_)
                refine lv_goto (tgt := 9) hx hb dX5_gatherLake_65 (by decide) ?_
                exact (hWW _ _ _ _ _).mp (ih9 (i9 + 1) (by omega) (by omega) ((z26.1, z26.2)) (by show _ = k_gatherLake_b9 i9 (lp (k_gatherLake_b9) i9 ((k_gatherCell σ cell (nI (0))), s_1)); rw [← hz9]; exact (Eq.trans (by unfold k_gatherLake_x26; rfl) hR_13.symm))  _ _ hP hS _ (lv_sub hl [0, 2, 3, 4] rfl))
              · refine lv_aload_n hx hb dX5_gatherLake_35 rfl (lv_at hl 3 rfl) ?_
                refine lv_aload_n hx hb dX5_gatherLake_36 rfl (lv_at hl 3 rfl) ?_
                refine x_get (C := RX5) (T := TX5) (N := 10) (ci := 6) (fs := (cpOf o z26.2)) (v := .ref (o + 7)) hx hb hts hin_wsX50 hown hK hP.main rfl 8 (by decide) (index := 35) (List.mem_of_getElem? (i := 1) rfl) rfl dX5_gatherLake_37 ?_
                refine lv_iload_n hx hb dX5_gatherLake_40 rfl (lv_at hl 1 rfl) ?_
                refine x_iald (v := (z26.2.1 32 i9)) hx hb hK hP.lake (vp_in_nI (by omega) (by decide)) (by rw [nI_clamp (by omega)]) dX5_gatherLake_41 ?_
                refine va_gets hx hb hZ.1.1 hS hown (hts _ (List.mem_of_getElem? (i := 2) rfl)) (fun _ h => h) dX5_gatherLake_42 ?_
                refine lv_iload hx hb dX5_gatherLake_45 (lv_at hl 0 rfl) ?_
                refine va_ti hx hb hZ.1.2 hS (vp_in_nI (by omega) (by decide)) (v := .int (cpS i26)) (by show Value.int (cpS (nI (i26)).toNatClampNeg) = _; rw [nI_clamp (by omega)]) dX5_gatherLake_47 ?_
                refine p_callS (As := [.int ((z26.2.1 32 i9)), .int (cpS i26)]) (rest := [.ref (o)]) ⟨hx, hb, hml, hown, hts⟩ (ck_stepFrom l (z26.2.1 32 i9) (cpS i26)) (va_cwS 2 hts gX5_gatherLake_X5_stepFrom rfl rfl rfl (by decide +kernel) ⟨Nat.le_of_ble_eq_true rfl, Nat.le_of_ble_eq_true rfl⟩) hP hS rfl hl.1 rfl (Nat.le_of_ble_eq_true rfl) dX5_gatherLake_48 ⟨Nat.zero_le _, Nat.zero_le _⟩ (fun H locs hP hS => ?_)
                refine lv_iload_n hx hb dX5_gatherLake_51 rfl (lv_at hl 2 rfl) ?_
                refine y_callI (As := [.int ((k_stepFrom (z26.2.1 32 i9) (cpS i26))), .int (z26.1)]) (rest := []) ⟨hx, hb, hml, hown, hts⟩ (ck_gatherCell l G ids o z tS tE d w z26.2 (k_stepFrom (z26.2.1 32 i9) (cpS i26)) z26.1 (fun h => k_stepFrom_in h) hv2) (cwV 2 hts gX5_gatherLake_X5_gatherCell rfl rfl rfl (by decide +kernel) ⟨Nat.le_of_ble_eq_true rfl, Nat.le_of_ble_eq_true rfl⟩) hK hZ hP.main rfl hP hS rfl hl.1 rfl (Nat.le_of_ble_eq_true rfl) dX5_gatherLake_52 ⟨Nat.zero_le _, Nat.zero_le _⟩ (fun H locs hP hS => ?_)
                obtain ⟨s_14, e_15⟩ : ∃ z : Sg, z = (k_gatherCell_s z26.2 (k_stepFrom (z26.2.1 32 i9) (cpS i26)) z26.1) := ⟨_, rfl⟩
                rw [← e_15] at hP
                have hR_16 : k_gatherLake_b26 i9 i26 z26 = k_gatherLake_k55 i9 i26 z26 s_14 := (by have q_ := e_15.symm; subst q_; unfold k_gatherLake_b26; rfl)
                refine lv_istore_n (lv' := [(2, .int ((k_gatherCell z26.2 (k_stepFrom (z26.2.1 32 i9) (cpS i26)) z26.1))), (4, .int (nI (i26))), (3, .int (nI (i9))), (0, .ref (o)), (1, .int (cell))]) hx hb dX5_gatherLake_55 rfl hl (by decide) rfl (fun ls hl => ?_)
                refine n_iinc (x := i26) (dN := 1) (k := 1) (lv' := [(4, .int (nI (i26 + 1))), (2, .int ((k_gatherCell z26.2 (k_stepFrom (z26.2.1 32 i9) (cpS i26)) z26.1))), (3, .int (nI (i9))), (0, .ref (o)), (1, .int (cell))]) hx hb dX5_gatherLake_56 hl rfl (by decide) rfl (fun ls hl => ?_)
                refine lv_goto (tgt := 26) hx hb dX5_gatherLake_59 (by decide) ?_
                exact (hWW _ _ _ _ _).mp (ih26 (i26 + 1) (by omega) (by omega) (((k_gatherCell z26.2 (k_stepFrom (z26.2.1 32 i9) (cpS i26)) z26.1), s_14)) (by show _ = k_gatherLake_b26 i9 i26 (lp (k_gatherLake_b26 i9) i26 (z9.1, z9.2)); rw [← hz26]; exact (Eq.trans (by unfold k_gatherLake_k55; rfl) hR_16.symm))  _ _ hP hS _ (lv_sub hl [0, 2, 1, 3, 4] rfl))
          exact (hWW _ _ _ _ _).mp (L26 (4 + 1) 0 (Nat.zero_le _) (by omega) (z9.1, z9.2) rfl  _ _ hP hS _ (lv_sub hl [0, 1, 2, 3, 4] rfl))
  exact (hWW _ _ _ _ _).mp (L9 (25 + 1) 0 (Nat.zero_le _) (by omega) ((k_gatherCell σ cell (nI (0))), s_1) rfl  _ _ hP hS _ (lv_sub hl [0, 1, 2, 3] rfl))
