def c_letMeltedExcessOut_x2_s (σ : Sg) (i : Nat) (z2 : Sg) : Sg := z2
def c_letMeltedExcessOut_k41 (i : Nat) (i2 : Nat) (z2 : Sg) (s_3 : Sg) (s_6 : Sg) (s_9 : Sg) : Sg := s_9
def c_letMeltedExcessOut_k31 (i : Nat) (i2 : Nat) (z2 : Sg) (s_3 : Sg) (s_6 : Sg) : Sg := (c_letMeltedExcessOut_k41 i i2 z2 s_3 s_6 (si s_6 3 (i) (((s_6.1 3 i)) + ((l_letMeltedExcessOut z2 (5 * i + i2))))))
def c_letMeltedExcessOut_k20 (i : Nat) (i2 : Nat) (z2 : Sg) (s_3 : Sg) : Sg := (c_letMeltedExcessOut_k31 i i2 z2 s_3 (si s_3 2 (i) (((s_3.1 2 i)) - ((l_letMeltedExcessOut z2 (5 * i + i2))))))
def c_letMeltedExcessOut_b2 (i : Nat) (i2 : Nat) (z2 : Sg) : Sg := (c_letMeltedExcessOut_k20 i i2 z2 (l_letMeltedExcessOut_s z2 (5 * i + i2)))
def c_letMeltedExcessOut_s (σ : Sg) (i : Nat) : Sg := (c_letMeltedExcessOut_x2_s σ i (lp (c_letMeltedExcessOut_b2 i) 5 σ))
set_option maxHeartbeats 4000000 in
set_option maxRecDepth 100000 in
theorem cc_letMeltedExcessOut (l : Launch) (G : va_G) (ids : Nat → ClassId) (b i : Nat) (σ : Sg) : xV l yX1_letMeltedExcessOut wsX1_letMeltedExcessOut ({ frames := 3, cells := 0, slots := 0, locals := 62 } : Room) G ids [.ref (b)] (XBP G ids b i σ) (XBP G ids b i (c_letMeltedExcessOut_s σ i)) (bA b) := by
  unfold xV
  refine Met.ofW (cc := cX1_letMeltedExcessOut) (maxL := 3) (ret := none) (by decide) rfl ?_
  intro p e s m args below meth c s₁ B hml hv
  obtain ⟨rfl, hP, hK⟩ := hv
  have hx := B.exec
  have hb := B.bytes
  have hr := B.returns
  have hts := atoms_spec (ws := wsX1_letMeltedExcessOut) B.pre
  have hown : s.vm.findClass RX1 = some m.cls := findClass_of_methodNamed B.named
  have hlocks := B.notSynchronized
  have hS : va_S (bA b) s.heap s.heap [] := va_S.rf
  have hin_wsX10 : ∀ w ∈ wsX10, w ∈ wsX1_letMeltedExcessOut := fun w h => List.mem_cons_of_mem _ (List.mem_append_left _ (List.mem_append_right _ h))
  have hin_wsX40 : ∀ w ∈ wsX40, w ∈ wsX1_letMeltedExcessOut := fun w h => List.mem_cons_of_mem _ (List.mem_append_right _ h)
  have hl := lv_entry ([.ref (b)]) (n := 3) (Nat.le_of_ble_eq_true rfl)
  rw [lg_entry_eq]
  generalize (lg_sl ([.ref (b)]) ++ List.replicate (3 - (lg_sl ([.ref (b)])).length) Slot.unset).toArray = ls at hl ⊢
  have hl : lv_has ls 3 [(0, .ref (b))] := hl
  refine w_named (fun WW hWW => ?_)
  refine lv_iconst (v := nI (0)) hx hb dX1_letMeltedExcessOut_0 (by decide) ?_
  refine lv_istore_n (lv' := [(1, .int (nI (0))), (0, .ref (b))]) hx hb dX1_letMeltedExcessOut_1 rfl hl (by decide) rfl (fun ls hl => ?_)
  have L2 : ∀ (n2 i2 : Nat), i2 ≤ 5 → 5 + 1 ≤ i2 + n2 → ∀ (z2 : Sg), z2 = lp (c_letMeltedExcessOut_b2 i) i2 σ → ∀ (H : Heap) (locs : List Loc), XBP G ids b i z2 H → va_S (bA b) s.heap H locs → ∀ (ls : Array Slot), lv_has ls 3 [(1, .int (nI (i2))), (0, .ref (b))] → WW H locs 0 0 (F0 m 2 ls []) := by
    intro n2
    induction n2 with
    | zero => intro i2 h1 h2; exact absurd h2 (by omega)
    | succ n2 ih2 =>
      intro i2 hi2 hn2 z2 hz2  H locs hP hS ls hl
      refine (hWW _ _ _ _ _).mpr ?_
      refine lv_iload_n hx hb dX1_letMeltedExcessOut_2 rfl (lv_at hl 0 rfl) ?_
      refine lv_aload_n hx hb dX1_letMeltedExcessOut_3 rfl (lv_at hl 1 rfl) ?_
      refine x_get (C := RX1) (T := TX1) (N := 7) (ci := 2) (fs := (cfs b i z2)) (v := .ref (b + 1)) hx hb hts hin_wsX10 hown hK hP.1 rfl 0 (by decide) (index := 14) (List.mem_of_getElem? (i := 1) rfl) rfl dX1_letMeltedExcessOut_4 ?_
      refine x_alen hx hb hK 4 rfl hP.2.1 (n := 5) rfl dX1_letMeltedExcessOut_7 ?_
      refine n_icmp_ge (x := i2) (y := 5) (tgt := 47) hx hb (by omega) (by omega) dX1_letMeltedExcessOut_8 (by decide) (fun c_1 => ?_) (fun c_1 => ?_)
      · have hiN : 5 = i2 := by omega
        subst hiN
        have hR_2 : c_letMeltedExcessOut_s σ i = c_letMeltedExcessOut_x2_s σ i z2 := (by have q_ := hz2.symm; subst q_; unfold c_letMeltedExcessOut_s; rfl)
        have hsp : z2 = c_letMeltedExcessOut_s σ i := (Eq.trans (by unfold c_letMeltedExcessOut_x2_s; rfl) hR_2.symm)
        rw [hsp] at hP
        exact x_vret hx hb hr hlocks hP hS dX1_letMeltedExcessOut_47
      · refine lv_aload_n hx hb dX1_letMeltedExcessOut_11 rfl (lv_at hl 1 rfl) ?_
        refine x_get (C := RX1) (T := TX1) (N := 7) (ci := 2) (fs := (cfs b i z2)) (v := .ref (b + 1)) hx hb hts hin_wsX10 hown hK hP.1 rfl 0 (by decide) (index := 14) (List.mem_of_getElem? (i := 1) rfl) rfl dX1_letMeltedExcessOut_12 ?_
        refine lv_iload_n hx hb dX1_letMeltedExcessOut_15 rfl (lv_at hl 0 rfl) ?_
        refine x_aald (r := b + 2 + i2) hx hb hK 4 rfl hP.2.1 (vp_in_nI (by omega) (by decide)) (by rw [nI_clamp (by omega)]) dX1_letMeltedExcessOut_16 ?_
        refine x_callI (As := []) (rest := []) (fun q h => by subst h; unfold bA; omega) ⟨hx, hb, hml, hown, hts⟩ (cl_letMeltedExcessOut l G ids (b + 2 + i2) (5 * i + i2) z2) (cwV 0 hts gX1_letMeltedExcessOut_X4_letMeltedExcessOut rfl rfl rfl (by decide +kernel) ⟨Nat.le_of_ble_eq_true rfl, Nat.le_of_ble_eq_true rfl⟩) hK (hP.2.2 i2 (by omega)) rfl (hP.2.2 i2 (by omega)) hS rfl hl.1 rfl (Nat.le_of_ble_eq_true rfl) dX1_letMeltedExcessOut_17 ⟨Nat.zero_le _, Nat.zero_le _⟩ (fun H locs hP1 _ hk1 hS => ?_)
        replace hP := hP.join (by omega) hP1 hk1 (l_letMeltedExcessOut_same)
        obtain ⟨s_3, e_4⟩ : ∃ z : Sg, z = (l_letMeltedExcessOut_s z2 (5 * i + i2)) := ⟨_, rfl⟩
        rw [← e_4] at hP
        have hR_5 : c_letMeltedExcessOut_b2 i i2 z2 = c_letMeltedExcessOut_k20 i i2 z2 s_3 := (by have q_ := e_4.symm; subst q_; unfold c_letMeltedExcessOut_b2; rfl)
        refine lv_istore_n (lv' := [(2, .int ((l_letMeltedExcessOut z2 (5 * i + i2)))), (1, .int (nI (i2))), (0, .ref (b))]) hx hb dX1_letMeltedExcessOut_20 rfl hl (by decide) rfl (fun ls hl => ?_)
        refine lv_aload_n hx hb dX1_letMeltedExcessOut_21 rfl (lv_at hl 2 rfl) ?_
        refine lv_dup hx hb dX1_letMeltedExcessOut_22 rfl ?_
        refine x_get (C := RX1) (T := TX1) (N := 7) (ci := 2) (fs := (cfs b i s_3)) (v := .int ((s_3.1 2 i))) hx hb hts hin_wsX10 hown hK hP.1 rfl 1 (by decide) (index := 20) (List.mem_of_getElem? (i := 2) rfl) rfl dX1_letMeltedExcessOut_23 ?_
        refine lv_iload_n hx hb dX1_letMeltedExcessOut_26 rfl (lv_at hl 0 rfl) ?_
        refine lv_isub (x := (s_3.1 2 i)) (y := (l_letMeltedExcessOut z2 (5 * i + i2))) hx hb dX1_letMeltedExcessOut_27 ?_
        refine b_put (v := ((s_3.1 2 i)) - ((l_letMeltedExcessOut z2 (5 * i + i2)))) hx hb hts hin_wsX10 hown hK hP (by unfold bA; omega) hS 1 2 (by decide) (index := 20) (List.mem_of_getElem? (i := 2) rfl) dX1_letMeltedExcessOut_28 (fun H locs hP _ hS => ?_)
        obtain ⟨s_6, e_7⟩ : ∃ z : Sg, z = (si s_3 2 (i) (((s_3.1 2 i)) - ((l_letMeltedExcessOut z2 (5 * i + i2))))) := ⟨_, rfl⟩
        rw [← e_7] at hP
        have hR_8 : c_letMeltedExcessOut_b2 i i2 z2 = c_letMeltedExcessOut_k31 i i2 z2 s_3 s_6 := (Eq.trans hR_5 (by have q_ := e_7.symm; subst q_; unfold c_letMeltedExcessOut_k20; rfl))
        refine lv_aload_n hx hb dX1_letMeltedExcessOut_31 rfl (lv_at hl 2 rfl) ?_
        refine lv_dup hx hb dX1_letMeltedExcessOut_32 rfl ?_
        refine x_get (C := RX1) (T := TX1) (N := 7) (ci := 2) (fs := (cfs b i s_6)) (v := .int ((s_6.1 3 i))) hx hb hts hin_wsX10 hown hK hP.1 rfl 2 (by decide) (index := 30) (List.mem_of_getElem? (i := 3) rfl) rfl dX1_letMeltedExcessOut_33 ?_
        refine lv_iload_n hx hb dX1_letMeltedExcessOut_36 rfl (lv_at hl 0 rfl) ?_
        refine lv_iadd (x := (s_6.1 3 i)) (y := (l_letMeltedExcessOut z2 (5 * i + i2))) hx hb dX1_letMeltedExcessOut_37 ?_
        refine b_put (v := ((s_6.1 3 i)) + ((l_letMeltedExcessOut z2 (5 * i + i2)))) hx hb hts hin_wsX10 hown hK hP (by unfold bA; omega) hS 2 3 (by decide) (index := 30) (List.mem_of_getElem? (i := 3) rfl) dX1_letMeltedExcessOut_38 (fun H locs hP _ hS => ?_)
        obtain ⟨s_9, e_10⟩ : ∃ z : Sg, z = (si s_6 3 (i) (((s_6.1 3 i)) + ((l_letMeltedExcessOut z2 (5 * i + i2))))) := ⟨_, rfl⟩
        rw [← e_10] at hP
        have hR_11 : c_letMeltedExcessOut_b2 i i2 z2 = c_letMeltedExcessOut_k41 i i2 z2 s_3 s_6 s_9 := (Eq.trans hR_8 (by have q_ := e_10.symm; subst q_; unfold c_letMeltedExcessOut_k31; rfl))
        refine n_iinc (x := i2) (dN := 1) (k := 1) (lv' := [(1, .int (nI (i2 + 1))), (2, .int ((l_letMeltedExcessOut z2 (5 * i + i2)))), (0, .ref (b))]) hx hb dX1_letMeltedExcessOut_41 hl rfl (by decide) rfl (fun ls hl => ?_)
        refine lv_goto (tgt := 2) hx hb dX1_letMeltedExcessOut_44 (by decide) ?_
        exact (hWW _ _ _ _ _).mp (ih2 (i2 + 1) (by omega) (by omega) (s_9) (by show _ = c_letMeltedExcessOut_b2 i i2 (lp (c_letMeltedExcessOut_b2 i) i2 σ); rw [← hz2]; exact (Eq.trans (by unfold c_letMeltedExcessOut_k41; rfl) hR_11.symm))  _ _ hP hS _ (lv_sub hl [0, 2] rfl))
  exact (hWW _ _ _ _ _).mp (L2 (5 + 1) 0 (Nat.zero_le _) (by omega) σ rfl  _ _ hP hS _ (lv_sub hl [0, 1] rfl))
