def k_pass_x45 (σ : Sg) (months : Int32) (air : Int32) (snow : Int32) (x_9 : Int32) (z45 : Sg) : Int32 := (z45.1 1 0)
def k_pass_x45_s (σ : Sg) (months : Int32) (air : Int32) (snow : Int32) (x_9 : Int32) (z45 : Sg) : Sg := z45
def k_pass_k57 (air : Int32) (snow : Int32) (i45 : Nat) (z45 : Sg) (s_19 : Sg) : Sg := s_19
def k_pass_b45 (air snow : Int32) (i45 : Nat) (z45 : Sg) : Sg := (k_pass_k57 air snow i45 z45 (k_passOneMonth_s z45 air snow))
def k_pass_j39 (σ : Sg) (months : Int32) (air : Int32) (snow : Int32) (x_9 : Int32) : Int32 := (k_pass_x45 σ months air snow x_9 (lp (k_pass_b45 air snow) ((months).toNatClampNeg) σ))
def k_pass_j39_s (σ : Sg) (months : Int32) (air : Int32) (snow : Int32) (x_9 : Int32) : Sg := (k_pass_x45_s σ months air snow x_9 (lp (k_pass_b45 air snow) ((months).toNatClampNeg) σ))
def k_pass (σ : Sg) (months : Int32) (air : Int32) (snow : Int32) : Int32 := (k_pass_j39 σ months air snow (if nI (600) < ((σ.1 1 0)) + (months) then nI (0) else nI (1)))
def k_pass_s (σ : Sg) (months : Int32) (air : Int32) (snow : Int32) : Sg := (k_pass_j39_s σ months air snow (if nI (600) < ((σ.1 1 0)) + (months) then nI (0) else nI (1)))
def kx_pass (σ : Sg) (months : Int32) (air : Int32) (snow : Int32) : Nat := xs (xRg (months) (nI (1)) (nI (24))) (xs (xRg (air) ((-50)) (nI (30))) (xs (xRg (snow) (nI (0)) (nI (9))) (xs (xSt ((if nI (600) < ((σ.1 1 0)) + (months) then nI (0) else nI (1)))) (0))))
set_option maxHeartbeats 4000000 in
set_option maxRecDepth 100000 in
theorem cx_pass (l : Launch) (hl0 : l.stackTraces = false) (G : va_G) (ids : Nat → ClassId) (o z tS tE : Nat) (d : Nat → Nat → Nat) (w : Nat → Nat) (σ : Sg) (months : Int32) (air : Int32) (snow : Int32) (hO : cOK σ) (hR : cRd σ) : zI l yX5_pass wsX5_pass ({ frames := 7, cells := 4, slots := 24, locals := 130 } : Room) G ids tS tE [.ref (o), .int (months), .int (air), .int (snow)] (CPic G ids o z tE d w σ) (kx_pass σ months air snow) (k_pass σ months air snow) (CPic G ids o z tE d w (k_pass_s σ months air snow)) (cpG o z) 4 24 := by
  unfold zI
  refine vx_ofW (cc := cX5_pass) (maxL := 5) (ret := (some .int)) (by decide) rfl ?_
  intro p e s m args below meth c s₁ B hml hno hv
  obtain ⟨rfl, hP, hK, hZ⟩ := hv
  have hx := B.exec
  have hb := B.bytes
  have hr := B.returns
  have hts := atoms_spec (ws := wsX5_pass) B.pre
  have hown : s.vm.findClass RX5 = some m.cls := findClass_of_methodNamed B.named
  have hlocks := B.notSynchronized
  have hS : va_S (cpG o z) s.heap s.heap [] := va_S.rf
  have hin_wsX50 : ∀ w ∈ wsX50, w ∈ wsX5_pass := fun w h => List.mem_cons_of_mem _ (List.mem_append_left _ (List.mem_append_left _ (List.mem_append_left _ (List.mem_append_left _ (List.mem_append_left _ (List.mem_append_left _ (List.mem_append_left _ (List.mem_append_right _ h))))))))
  have hin_wsX10 : ∀ w ∈ wsX10, w ∈ wsX5_pass := fun w h => List.mem_cons_of_mem _ (List.mem_append_left _ (List.mem_append_left _ (List.mem_append_left _ (List.mem_append_left _ (List.mem_append_left _ (List.mem_append_left _ (List.mem_append_right _ h)))))))
  have hin_wsX40 : ∀ w ∈ wsX40, w ∈ wsX5_pass := fun w h => List.mem_cons_of_mem _ (List.mem_append_left _ (List.mem_append_left _ (List.mem_append_left _ (List.mem_append_left _ (List.mem_append_left _ (List.mem_append_right _ h))))))
  have hin_wsX30 : ∀ w ∈ wsX30, w ∈ wsX5_pass := fun w h => List.mem_cons_of_mem _ (List.mem_append_left _ (List.mem_append_left _ (List.mem_append_left _ (List.mem_append_left _ (List.mem_append_right _ h)))))
  have hin_wsJx4a65c0 : ∀ w ∈ wsJx4a65c0, w ∈ wsX5_pass := fun w h => List.mem_cons_of_mem _ (List.mem_append_left _ (List.mem_append_left _ (List.mem_append_left _ (List.mem_append_right _ h))))
  have hin_wsX00 : ∀ w ∈ wsX00, w ∈ wsX5_pass := fun w h => List.mem_cons_of_mem _ (List.mem_append_left _ (List.mem_append_left _ (List.mem_append_right _ h)))
  have hl := lv_entry ([.ref (o), .int (months), .int (air), .int (snow)]) (n := 5) (Nat.le_of_ble_eq_true rfl)
  rw [lg_entry_eq]
  generalize (lg_sl ([.ref (o), .int (months), .int (air), .int (snow)]) ++ List.replicate (5 - (lg_sl ([.ref (o), .int (months), .int (air), .int (snow)])).length) Slot.unset).toArray = ls at hl ⊢
  have hl : lv_has ls 5 [(0, .ref (o)), (1, .int (months)), (2, .int (air)), (3, .int (snow))] := hl
  refine w_named (fun WW hWW => ?_)
  refine lv_iload_n hx hb dX5_pass_0 rfl (lv_at hl 1 rfl) ?_
  refine lv_iconst (v := nI (1)) hx hb dX5_pass_1 (by decide) ?_
  refine lv_bipush (v := nI (24)) hx hb dX5_pass_2 (by decide) ?_
  refine p_need (As := [.int (months), .int (nI (1)), .int (nI (24))]) (rest := []) (X := xRg (months) (nI (1)) (nI (24))) (c1 := 1) (s1 := 6) ⟨hx, hb, hml, hown, hts⟩ (ck_needRange l hl0 tS tE (months) (nI (1)) (nI (24))) (va_cwS 3 hts gX5_pass_X5_needRange rfl rfl rfl (by decide +kernel) ⟨Nat.le_of_ble_eq_true rfl, Nat.le_of_ble_eq_true rfl⟩) hno hlocks hZ hP hS rfl hl.1 rfl (Nat.le_of_ble_eq_true rfl) dX5_pass_4 ⟨Nat.le_of_ble_eq_true rfl, Nat.le_of_ble_eq_true rfl⟩ rfl rfl (Nat.le_of_ble_eq_true rfl) (Nat.le_of_ble_eq_true rfl) (fun hq_2 => by unfold kx_pass; simp only [xs, if_neg hq_2]) (fun hX_1 H locs hP hS => ?_)
  have hn1 := hX_1
  refine lv_iload_n hx hb dX5_pass_7 rfl (lv_at hl 2 rfl) ?_
  refine lv_bipush (v := (-50)) hx hb dX5_pass_8 (by decide) ?_
  refine lv_bipush (v := nI (30)) hx hb dX5_pass_10 (by decide) ?_
  refine p_need (As := [.int (air), .int ((-50)), .int (nI (30))]) (rest := []) (X := xRg (air) ((-50)) (nI (30))) (c1 := 2) (s1 := 12) ⟨hx, hb, hml, hown, hts⟩ (ck_needRange l hl0 tS tE (air) ((-50)) (nI (30))) (va_cwS 3 hts gX5_pass_X5_needRange rfl rfl rfl (by decide +kernel) ⟨Nat.le_of_ble_eq_true rfl, Nat.le_of_ble_eq_true rfl⟩) hno hlocks hZ hP hS rfl hl.1 rfl (Nat.le_of_ble_eq_true rfl) dX5_pass_12 ⟨Nat.le_of_ble_eq_true rfl, Nat.le_of_ble_eq_true rfl⟩ rfl rfl (Nat.le_of_ble_eq_true rfl) (Nat.le_of_ble_eq_true rfl) (fun hq_4 => by unfold kx_pass; simp only [xs, if_pos hX_1, if_neg hq_4]) (fun hX_3 H locs hP hS => ?_)
  refine lv_iload_n hx hb dX5_pass_15 rfl (lv_at hl 3 rfl) ?_
  refine lv_iconst (v := nI (0)) hx hb dX5_pass_16 (by decide) ?_
  refine lv_bipush (v := nI (9)) hx hb dX5_pass_17 (by decide) ?_
  refine p_need (As := [.int (snow), .int (nI (0)), .int (nI (9))]) (rest := []) (X := xRg (snow) (nI (0)) (nI (9))) (c1 := 3) (s1 := 18) ⟨hx, hb, hml, hown, hts⟩ (ck_needRange l hl0 tS tE (snow) (nI (0)) (nI (9))) (va_cwS 3 hts gX5_pass_X5_needRange rfl rfl rfl (by decide +kernel) ⟨Nat.le_of_ble_eq_true rfl, Nat.le_of_ble_eq_true rfl⟩) hno hlocks hZ hP hS rfl hl.1 rfl (Nat.le_of_ble_eq_true rfl) dX5_pass_19 ⟨Nat.le_of_ble_eq_true rfl, Nat.le_of_ble_eq_true rfl⟩ rfl rfl (Nat.le_of_ble_eq_true rfl) (Nat.le_of_ble_eq_true rfl) (fun hq_6 => by unfold kx_pass; simp only [xs, if_pos hX_1, if_pos hX_3, if_neg hq_6]) (fun hX_5 H locs hP hS => ?_)
  refine lv_aload_n hx hb dX5_pass_22 rfl (lv_at hl 0 rfl) ?_
  refine x_get (C := RX5) (T := TX5) (N := 10) (ci := 6) (fs := (cpOf o σ)) (v := .int ((σ.1 1 0))) hx hb hts hin_wsX50 hown hK hP.main rfl 4 (by decide) (index := 82) (List.mem_of_getElem? (i := 1) rfl) rfl dX5_pass_23 ?_
  refine lv_iload_n hx hb dX5_pass_26 rfl (lv_at hl 1 rfl) ?_
  refine lv_iadd (x := (σ.1 1 0)) (y := months) hx hb dX5_pass_27 ?_
  refine lv_sipush (v := nI (600)) hx hb dX5_pass_28 (by decide) ?_
  have J39_10 : ∀ (x_9 : Int32), x_9 = (if nI (600) < ((σ.1 1 0)) + (months) then nI (0) else nI (1)) → ∀ (H : Heap) (locs : List Loc), CPic G ids o z tE d w σ H → va_S (cpG o z) s.heap H locs → ∀ (ls : Array Slot), lv_has ls 5 [(0, .ref (o)), (1, .int (months)), (2, .int (air)), (3, .int (snow))] → WW H locs 3 18 (F0 m 39 ls [.int (x_9)]) := by
    intro x_9 h_11 H locs hP hS ls hl
    refine (hWW _ _ _ _ _).mpr ?_
    have hR_12 : k_pass σ months air snow = k_pass_j39 σ months air snow x_9 := (by have q_ := h_11.symm; subst q_; unfold k_pass; rfl)
    have hR_13 : k_pass_s σ months air snow = k_pass_j39_s σ months air snow x_9 := (by have q_ := h_11.symm; subst q_; unfold k_pass_s; rfl)
    refine p_need (As := [.int (x_9)]) (rest := []) (X := xSt (x_9)) (c1 := 4) (s1 := 24) ⟨hx, hb, hml, hown, hts⟩ (ck_needState l hl0 tS tE (x_9)) (va_cwS 1 hts gX5_pass_X5_needState rfl rfl rfl (by decide +kernel) ⟨Nat.le_of_ble_eq_true rfl, Nat.le_of_ble_eq_true rfl⟩) hno hlocks hZ hP hS rfl hl.1 rfl (Nat.le_of_ble_eq_true rfl) dX5_pass_39 ⟨Nat.le_of_ble_eq_true rfl, Nat.le_of_ble_eq_true rfl⟩ rfl rfl (Nat.le_of_ble_eq_true rfl) (Nat.le_of_ble_eq_true rfl) (fun hq_15 => by have q_ := h_11.symm; subst q_; unfold kx_pass; simp only [xs, if_pos hX_1, if_pos hX_3, if_pos hX_5, if_neg hq_15]) (fun hX_14 H locs hP hS => ?_)
    have hn4 := hX_14
    have hXz : (kx_pass σ months air snow) = 0 := by have q_ := h_11.symm; subst q_; unfold kx_pass; simp only [xs, if_pos hX_1, if_pos hX_3, if_pos hX_5, if_pos hX_14]
    have hmo := (pass_mo hn1).1
    have h600 := pass_600 hO.2.2.2.1 hmo h_11 (xSt_ne hn4)
    have hmo9 := vp_lt hmo
    refine lv_iconst (v := nI (0)) hx hb dX5_pass_42 (by decide) ?_
    refine lv_istore (lv' := [(4, .int (nI (0))), (0, .ref (o)), (1, .int (months)), (2, .int (air)), (3, .int (snow))]) hx hb dX5_pass_43 hl (by decide) rfl (fun ls hl => ?_)
    have L45 : ∀ (n45 i45 : Nat), i45 ≤ (months).toNatClampNeg → ((months).toNatClampNeg) + 1 ≤ i45 + n45 → ∀ (z45 : Sg), z45 = lp (k_pass_b45 air snow) i45 σ → ∀ (H : Heap) (locs : List Loc), CPic G ids o z tE d w z45 H → va_S (cpG o z) s.heap H locs → ∀ (ls : Array Slot), lv_has ls 5 [(4, .int (nI (i45))), (0, .ref (o)), (1, .int (months)), (2, .int (air)), (3, .int (snow))] → WW H locs 4 24 (F0 m 45 ls []) := by
      intro n45
      induction n45 with
      | zero => intro i45 h1 h2; exact absurd h2 (by omega)
      | succ n45 ih45 =>
        intro i45 hi45 hn45 z45 hz45  H locs hP hS ls hl
        refine (hWW _ _ _ _ _).mpr ?_
        have hv := k_pass_lp (k_pass_b45 air snow) (fun _ _ => rfl) hO hR h600 i45 hi45
        rw [← hz45] at hv
        refine lv_iload hx hb dX5_pass_45 (lv_at hl 0 rfl) ?_
        refine lv_iload_n hx hb dX5_pass_47 rfl (lv_at hl 2 rfl) ?_
        refine W.eq (g2 := F0 m 48 ls (.int (nI ((months).toNatClampNeg)) :: .int (nI (i45)) :: [])) (congrArg (fun v => F0 m 48 ls (Value.int v :: .int (nI (i45)) :: [])) (vp_self hmo)) ?_
        refine n_icmp_ge (x := i45) (y := (months).toNatClampNeg) (tgt := 63) hx hb (by omega) (by omega) dX5_pass_48 (by decide) (fun c_16 => ?_) (fun c_16 => ?_)
        · have hiN : (months).toNatClampNeg = i45 := by omega
          subst hiN
          have hR_17 : k_pass σ months air snow = k_pass_x45 σ months air snow x_9 z45 := (Eq.trans hR_12 (by have q_ := hz45.symm; subst q_; unfold k_pass_j39; rfl))
          have hR_18 : k_pass_s σ months air snow = k_pass_x45_s σ months air snow x_9 z45 := (Eq.trans hR_13 (by have q_ := hz45.symm; subst q_; unfold k_pass_j39_s; rfl))
          refine lv_aload_n hx hb dX5_pass_63 rfl (lv_at hl 1 rfl) ?_
          refine x_get (C := RX5) (T := TX5) (N := 10) (ci := 6) (fs := (cpOf o z45)) (v := .int ((z45.1 1 0))) hx hb hts hin_wsX50 hown hK hP.main rfl 4 (by decide) (index := 82) (List.mem_of_getElem? (i := 1) rfl) rfl dX5_pass_64 ?_
          have hsp : z45 = k_pass_s σ months air snow := (Eq.trans (by unfold k_pass_x45_s; rfl) hR_18.symm)
          rw [hsp] at hP
          exact z_iret (v := (z45.1 1 0)) hx hb hr hlocks hXz (Nat.le_of_ble_eq_true rfl) (Nat.le_of_ble_eq_true rfl) hP hS dX5_pass_67 (Eq.trans (by unfold k_pass_x45; rfl) hR_17.symm)
        · refine lv_aload_n hx hb dX5_pass_51 rfl (lv_at hl 1 rfl) ?_
          refine lv_iload_n hx hb dX5_pass_52 rfl (lv_at hl 3 rfl) ?_
          refine lv_iload_n hx hb dX5_pass_53 rfl (lv_at hl 4 rfl) ?_
          refine y_callV (As := [.int (air), .int (snow)]) (rest := []) ⟨hx, hb, hml, hown, hts⟩ (ck_passOneMonth l G ids o z tS tE d w z45 air snow hv.1 (cRd_R hv.1 hv.2.1 (by omega))) (cwV 2 hts gX5_pass_X5_passOneMonth rfl rfl rfl (by decide +kernel) ⟨Nat.le_of_ble_eq_true rfl, Nat.le_of_ble_eq_true rfl⟩) hK hZ hP.main rfl hP hS rfl hl.1 rfl (Nat.le_of_ble_eq_true rfl) dX5_pass_54 ⟨Nat.le_of_ble_eq_true rfl, Nat.le_of_ble_eq_true rfl⟩ (fun H locs hP hS => ?_)
          obtain ⟨s_19, e_20⟩ : ∃ z : Sg, z = (k_passOneMonth_s z45 air snow) := ⟨_, rfl⟩
          rw [← e_20] at hP
          have hR_21 : k_pass_b45 air snow i45 z45 = k_pass_k57 air snow i45 z45 s_19 := (by have q_ := e_20.symm; subst q_; unfold k_pass_b45; rfl)
          refine n_iinc (x := i45) (dN := 1) (k := 0) (lv' := [(4, .int (nI (i45 + 1))), (0, .ref (o)), (1, .int (months)), (2, .int (air)), (3, .int (snow))]) hx hb dX5_pass_57 hl rfl (by decide) rfl (fun ls hl => ?_)
          refine lv_goto (tgt := 45) hx hb dX5_pass_60 (by decide) ?_
          exact (hWW _ _ _ _ _).mp (ih45 (i45 + 1) (by omega) (by omega) (s_19) (by show _ = k_pass_b45 air snow i45 (lp (k_pass_b45 air snow) i45 σ); rw [← hz45]; exact (Eq.trans (by unfold k_pass_k57; rfl) hR_21.symm))  _ _ hP hS _ (lv_sub hl [0, 1, 2, 3, 4] rfl))
    exact (hWW _ _ _ _ _).mp (L45 ((months).toNatClampNeg + 1) 0 (Nat.zero_le _) (by omega) σ rfl  _ _ hP hS _ (lv_sub hl [0, 1, 2, 3, 4] rfl))
  refine lv_icmp_gt (x := ((σ.1 1 0)) + (months)) (y := nI (600)) (tgt := 38) hx hb dX5_pass_31 (by decide) (fun c_7 => ?_) (fun c_7 => ?_)
  · refine lv_iconst (v := nI (0)) hx hb dX5_pass_38 (by decide) ?_
    exact (hWW _ _ _ _ _).mp (J39_10 _ (by simp only [if_pos c_7]) _ _ hP hS _ (lv_sub hl [0, 1, 2, 3] rfl))
  · refine lv_iconst (v := nI (1)) hx hb dX5_pass_34 (by decide) ?_
    refine lv_goto (tgt := 39) hx hb dX5_pass_35 (by decide) ?_
    exact (hWW _ _ _ _ _).mp (J39_10 _ (by simp only [if_neg c_7]) _ _ hP hS _ (lv_sub hl [0, 1, 2, 3] rfl))
