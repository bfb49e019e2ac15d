def k_letMeltedExcessOut_x2_s (σ : Sg) (z2 : Sg) : Sg := z2
def k_letMeltedExcessOut_k20 (i2 : Nat) (z2 : Sg) (s_3 : Sg) : Sg := s_3
def k_letMeltedExcessOut_b2  (i2 : Nat) (z2 : Sg) : Sg := (k_letMeltedExcessOut_k20 i2 z2 (c_letMeltedExcessOut_s z2 i2))
def k_letMeltedExcessOut_s (σ : Sg) : Sg := (k_letMeltedExcessOut_x2_s σ (lp (k_letMeltedExcessOut_b2) 25 σ))
set_option maxHeartbeats 4000000 in
set_option maxRecDepth 100000 in
theorem ck_letMeltedExcessOut (l : Launch) (G : va_G) (ids : Nat → ClassId) (o z tS tE : Nat) (d : Nat → Nat → Nat) (w : Nat → Nat) (σ : Sg) : yV l yX5_letMeltedExcessOut wsX5_letMeltedExcessOut ({ frames := 4, cells := 0, slots := 0, locals := 84 } : Room) G ids tS tE [.ref (o)] (CPic G ids o z tE d w σ) (CPic G ids o z tE d w (k_letMeltedExcessOut_s σ)) (cpG o z) := by
  unfold yV
  refine Met.ofW (cc := cX5_letMeltedExcessOut) (maxL := 2) (ret := none) (by decide) rfl ?_
  intro p e s m args below meth c s₁ B hml hv
  obtain ⟨rfl, hP, hK, hZ⟩ := hv
  have hx := B.exec
  have hb := B.bytes
  have hr := B.returns
  have hts := atoms_spec (ws := wsX5_letMeltedExcessOut) B.pre
  have hown : s.vm.findClass RX5 = some m.cls := findClass_of_methodNamed B.named
  have hlocks := B.notSynchronized
  have hS : va_S (cpG o z) s.heap s.heap [] := va_S.rf
  have hin_wsX50 : ∀ w ∈ wsX50, w ∈ wsX5_letMeltedExcessOut := fun w h => List.mem_cons_of_mem _ (List.mem_append_left _ (List.mem_append_left _ (List.mem_append_right _ h)))
  have hin_wsX10 : ∀ w ∈ wsX10, w ∈ wsX5_letMeltedExcessOut := fun w h => List.mem_cons_of_mem _ (List.mem_append_left _ (List.mem_append_right _ h))
  have hin_wsX40 : ∀ w ∈ wsX40, w ∈ wsX5_letMeltedExcessOut := fun w h => List.mem_cons_of_mem _ (List.mem_append_right _ h)
  have hl := lv_entry ([.ref (o)]) (n := 2) (Nat.le_of_ble_eq_true rfl)
  rw [lg_entry_eq]
  generalize (lg_sl ([.ref (o)]) ++ List.replicate (2 - (lg_sl ([.ref (o)])).length) Slot.unset).toArray = ls at hl ⊢
  have hl : lv_has ls 2 [(0, .ref (o))] := hl
  refine w_named (fun WW hWW => ?_)
  refine lv_iconst (v := nI (0)) hx hb dX5_letMeltedExcessOut_0 (by decide) ?_
  refine lv_istore_n (lv' := [(1, .int (nI (0))), (0, .ref (o))]) hx hb dX5_letMeltedExcessOut_1 rfl hl (by decide) rfl (fun ls hl => ?_)
  have L2 : ∀ (n2 i2 : Nat), i2 ≤ 25 → 25 + 1 ≤ i2 + n2 → ∀ (z2 : Sg), z2 = lp (k_letMeltedExcessOut_b2) i2 σ → ∀ (H : Heap) (locs : List Loc), CPic G ids o z tE d w z2 H → va_S (cpG o z) s.heap H locs → ∀ (ls : Array Slot), lv_has ls 2 [(1, .int (nI (i2))), (0, .ref (o))] → WW H locs 0 0 (F0 m 2 ls []) := by
    intro n2
    induction n2 with
    | zero => intro i2 h1 h2; exact absurd h2 (by omega)
    | succ n2 ih2 =>
      intro i2 hi2 hn2 z2 hz2  H locs hP hS ls hl
      refine (hWW _ _ _ _ _).mpr ?_
      refine lv_iload_n hx hb dX5_letMeltedExcessOut_2 rfl (lv_at hl 0 rfl) ?_
      refine lv_aload_n hx hb dX5_letMeltedExcessOut_3 rfl (lv_at hl 1 rfl) ?_
      refine x_get (C := RX5) (T := TX5) (N := 10) (ci := 6) (fs := (cpOf o z2)) (v := .ref (o + 1)) hx hb hts hin_wsX50 hown hK hP.main rfl 0 (by decide) (index := 11) (List.mem_of_getElem? (i := 1) rfl) rfl dX5_letMeltedExcessOut_4 ?_
      refine x_alen hx hb hK 3 rfl hP.crow (n := 25) rfl dX5_letMeltedExcessOut_7 ?_
      refine n_icmp_ge (x := i2) (y := 25) (tgt := 26) hx hb (by omega) (by omega) dX5_letMeltedExcessOut_8 (by decide) (fun c_1 => ?_) (fun c_1 => ?_)
      · have hiN : 25 = i2 := by omega
        subst hiN
        have hR_2 : k_letMeltedExcessOut_s σ = k_letMeltedExcessOut_x2_s σ z2 := (by have q_ := hz2.symm; subst q_; unfold k_letMeltedExcessOut_s; rfl)
        have hsp : z2 = k_letMeltedExcessOut_s σ := (Eq.trans (by unfold k_letMeltedExcessOut_x2_s; rfl) hR_2.symm)
        rw [hsp] at hP
        exact x_vret hx hb hr hlocks hP hS dX5_letMeltedExcessOut_26
      · refine lv_aload_n hx hb dX5_letMeltedExcessOut_11 rfl (lv_at hl 1 rfl) ?_
        refine x_get (C := RX5) (T := TX5) (N := 10) (ci := 6) (fs := (cpOf o z2)) (v := .ref (o + 1)) hx hb hts hin_wsX50 hown hK hP.main rfl 0 (by decide) (index := 11) (List.mem_of_getElem? (i := 1) rfl) rfl dX5_letMeltedExcessOut_12 ?_
        refine lv_iload_n hx hb dX5_letMeltedExcessOut_15 rfl (lv_at hl 0 rfl) ?_
        refine x_aald (r := o + 9 + 7 * i2) hx hb hK 3 rfl hP.crow (vp_in_nI (by omega) (by decide)) (by rw [nI_clamp (by omega)]) dX5_letMeltedExcessOut_16 ?_
        refine x_callV (As := []) (rest := []) (fun q h => cpG_blk (by omega) h) ⟨hx, hb, hml, hown, hts⟩ (cc_letMeltedExcessOut l G ids (o + 9 + 7 * i2) i2 z2) (cwV 0 hts gX5_letMeltedExcessOut_X1_letMeltedExcessOut rfl rfl rfl (by decide +kernel) ⟨Nat.le_of_ble_eq_true rfl, Nat.le_of_ble_eq_true rfl⟩) hK (hP.cell (by omega)) rfl (hP.blk (by omega)) hS rfl hl.1 rfl (Nat.le_of_ble_eq_true rfl) dX5_letMeltedExcessOut_17 ⟨Nat.zero_le _, Nat.zero_le _⟩ (fun H locs hP1 _ hk1 hS => ?_)
        replace hP := hP.join (by omega) hP1 hk1 c_letMeltedExcessOut_same c_letMeltedExcessOut_2
        obtain ⟨s_3, e_4⟩ : ∃ z : Sg, z = (c_letMeltedExcessOut_s z2 i2) := ⟨_, rfl⟩
        rw [← e_4] at hP
        have hR_5 : k_letMeltedExcessOut_b2 i2 z2 = k_letMeltedExcessOut_k20 i2 z2 s_3 := (by have q_ := e_4.symm; subst q_; unfold k_letMeltedExcessOut_b2; rfl)
        refine n_iinc (x := i2) (dN := 1) (k := 0) (lv' := [(1, .int (nI (i2 + 1))), (0, .ref (o))]) hx hb dX5_letMeltedExcessOut_20 hl rfl (by decide) rfl (fun ls hl => ?_)
        refine lv_goto (tgt := 2) hx hb dX5_letMeltedExcessOut_23 (by decide) ?_
        exact (hWW _ _ _ _ _).mp (ih2 (i2 + 1) (by omega) (by omega) (s_3) (by show _ = k_letMeltedExcessOut_b2 i2 (lp (k_letMeltedExcessOut_b2) i2 σ); rw [← hz2]; exact (Eq.trans (by unfold k_letMeltedExcessOut_k20; rfl) hR_5.symm))  _ _ hP hS _ (lv_sub hl [0, 1] rfl))
  exact (hWW _ _ _ _ _).mp (L2 (25 + 1) 0 (Nat.zero_le _) (by omega) σ rfl  _ _ hP hS _ (lv_sub hl [0, 1] rfl))
