def k_tiltHouses_x2_s (σ : Sg) (z2 : Sg) : Sg := z2
def k_tiltHouses_j58 (i2 : Nat) (z2 : Sg) (τ_5 : Sg) : Sg := τ_5
def k_tiltHouses_b2  (i2 : Nat) (z2 : Sg) : Sg := (k_tiltHouses_j58 i2 z2 (if (l_isThawed z2 (5 * (((z2.1 14 i2)).toNatClampNeg) + (((z2.1 15 i2)).toNatClampNeg))) = 0 then z2 else (si z2 17 (i2) (((z2.1 17 i2)) + (nI (1))))))
def k_tiltHouses_s (σ : Sg) : Sg := (k_tiltHouses_x2_s σ (lp (k_tiltHouses_b2) ((σ.1 13 0).toNatClampNeg) σ))
theorem k_tih (k : Nat) (hk : k ≠ 17) (n : Nat) (z : Sg) : (lp (k_tiltHouses_b2) n z).1 k = z.1 k := lp_kp (fun i z => by simp [k_tiltHouses_b2, k_tiltHouses_x2_s, k_tiltHouses_j58, k_tiltHouses_s, si, hk, apply_ite Prod.fst, ite_k]) n z
set_option maxHeartbeats 4000000 in
set_option maxRecDepth 100000 in
theorem ck_tiltHouses (l : Launch) (G : va_G) (ids : Nat → ClassId) (o z tS tE : Nat) (d : Nat → Nat → Nat) (w : Nat → Nat) (σ : Sg) (hO : cOK σ) : yV l yX5_tiltHouses wsX5_tiltHouses ({ frames := 3, cells := 0, slots := 0, locals := 64 } : Room) G ids tS tE [.ref (o)] (CPic G ids o z tE d w σ) (CPic G ids o z tE d w (k_tiltHouses_s σ)) (cpG o z) := by
  unfold yV
  refine Met.ofW (cc := cX5_tiltHouses) (maxL := 3) (ret := none) (by decide) rfl ?_
  intro p e s m args below meth c s₁ B hml hv
  obtain ⟨rfl, hP, hK, hZ⟩ := hv
  have hx := B.exec
  have hb := B.bytes
  have hr := B.returns
  have hts := atoms_spec (ws := wsX5_tiltHouses) B.pre
  have hown : s.vm.findClass RX5 = some m.cls := findClass_of_methodNamed B.named
  have hlocks := B.notSynchronized
  have hS : va_S (cpG o z) s.heap s.heap [] := va_S.rf
  have hin_wsX50 : ∀ w ∈ wsX50, w ∈ wsX5_tiltHouses := fun w h => List.mem_cons_of_mem _ (List.mem_append_left _ (List.mem_append_left _ (List.mem_append_left _ (List.mem_append_left _ (List.mem_append_right _ h)))))
  have hin_wsX30 : ∀ w ∈ wsX30, w ∈ wsX5_tiltHouses := fun w h => List.mem_cons_of_mem _ (List.mem_append_left _ (List.mem_append_left _ (List.mem_append_left _ (List.mem_append_right _ h))))
  have hin_wsX10 : ∀ w ∈ wsX10, w ∈ wsX5_tiltHouses := fun w h => List.mem_cons_of_mem _ (List.mem_append_left _ (List.mem_append_left _ (List.mem_append_right _ h)))
  have hin_wsJx4a65c0 : ∀ w ∈ wsJx4a65c0, w ∈ wsX5_tiltHouses := fun w h => List.mem_cons_of_mem _ (List.mem_append_left _ (List.mem_append_right _ h))
  have hin_wsX40 : ∀ w ∈ wsX40, w ∈ wsX5_tiltHouses := fun w h => List.mem_cons_of_mem _ (List.mem_append_right _ h)
  have hl := lv_entry ([.ref (o)]) (n := 3) (Nat.le_of_ble_eq_true rfl)
  rw [lg_entry_eq]
  generalize (lg_sl ([.ref (o)]) ++ List.replicate (3 - (lg_sl ([.ref (o)])).length) Slot.unset).toArray = ls at hl ⊢
  have hl : lv_has ls 3 [(0, .ref (o))] := hl
  refine w_named (fun WW hWW => ?_)
  have h13 := vp_lt hO.1
  have e13 := vp_self hO.1
  refine lv_iconst (v := nI (0)) hx hb dX5_tiltHouses_0 (by decide) ?_
  refine lv_istore_n (lv' := [(1, .int (nI (0))), (0, .ref (o))]) hx hb dX5_tiltHouses_1 rfl hl (by decide) rfl (fun ls hl => ?_)
  have L2 : ∀ (n2 i2 : Nat), i2 ≤ (σ.1 13 0).toNatClampNeg → ((σ.1 13 0).toNatClampNeg) + 1 ≤ i2 + n2 → ∀ (z2 : Sg), z2 = lp (k_tiltHouses_b2) i2 σ → ∀ (H : Heap) (locs : List Loc), CPic G ids o z tE d w z2 H → va_S (cpG o z) s.heap H locs → ∀ (ls : Array Slot), lv_has ls 3 [(1, .int (nI (i2))), (0, .ref (o))] → WW H locs 0 0 (F0 m 2 ls []) := by
    intro n2
    induction n2 with
    | zero => intro i2 h1 h2; exact absurd h2 (by omega)
    | succ n2 ih2 =>
      intro i2 hi2 hn2 z2 hz2  H locs hP hS ls hl
      refine (hWW _ _ _ _ _).mpr ?_
      have k13 : ∀ k, (k = 13 ∨ k = 14 ∨ k = 15) → z2.1 k = σ.1 k := fun k hk => by rw [hz2]; exact k_tih k (by omega) _ _
      have ev : z2.1 13 0 = nI (cpN z2 0) := by show z2.1 13 0 = nI (z2.1 13 0).toNatClampNeg; rw [k13 13 (by omega)]; exact e13
      refine lv_iload_n hx hb dX5_tiltHouses_2 rfl (lv_at hl 0 rfl) ?_
      refine lv_aload_n hx hb dX5_tiltHouses_3 rfl (lv_at hl 1 rfl) ?_
      refine x_get (C := RX5) (T := TX5) (N := 10) (ci := 6) (fs := (cpOf o z2)) (v := .ref (o + 2)) hx hb hts hin_wsX50 hown hK hP.main rfl 1 (by decide) (index := 18) (List.mem_of_getElem? (i := 1) rfl) rfl dX5_tiltHouses_4 ?_
      refine p_size (L := 0) (rest := [.int (nI (i2))]) (by decide) rfl ⟨hx, hb, hml, hown, hts⟩ (cwV 0 hts gX5_tiltHouses_Jx4a65c_size_8abf5 rfl rfl rfl (by decide +kernel) ⟨Nat.le_of_ble_eq_true rfl, Nat.le_of_ble_eq_true rfl⟩) hK hP hS hl.1 (v := (z2.1 13 0)) rfl (Nat.le_of_ble_eq_true rfl) dX5_tiltHouses_7 ⟨Nat.zero_le _, Nat.zero_le _⟩ (fun H locs hP hS => ?_)
      refine W.eq (g2 := F0 m 10 ls (.int (nI ((σ.1 13 0).toNatClampNeg)) :: .int (nI (i2)) :: [])) (congrArg (fun v => F0 m 10 ls (Value.int v :: .int (nI (i2)) :: [])) ((by rw [k13 13 (by omega)]; exact e13))) ?_
      refine n_icmp_ge (x := i2) (y := (σ.1 13 0).toNatClampNeg) (tgt := 64) hx hb (by omega) (by omega) dX5_tiltHouses_10 (by decide) (fun c_1 => ?_) (fun c_1 => ?_)
      · have hiN : (σ.1 13 0).toNatClampNeg = i2 := by omega
        subst hiN
        have hR_2 : k_tiltHouses_s σ = k_tiltHouses_x2_s σ z2 := (by have q_ := hz2.symm; subst q_; unfold k_tiltHouses_s; rfl)
        have hsp : z2 = k_tiltHouses_s σ := (Eq.trans (by unfold k_tiltHouses_x2_s; rfl) hR_2.symm)
        rw [hsp] at hP
        exact x_vret hx hb hr hlocks hP hS dX5_tiltHouses_64
      · have hj : i2 < cpN z2 0 := by show i2 < (z2.1 13 0).toNatClampNeg; rw [k13 13 (by omega)]; omega
        have hc : vp_in (z2.1 14 i2) 25 := by rw [k13 14 (by omega)]; exact (hO.2.2.2.2.1 i2 (by omega)).1
        have hpl : vp_in (z2.1 15 i2) 5 := by rw [k13 15 (by omega)]; exact (hO.2.2.2.2.1 i2 (by omega)).2.1
        refine lv_aload_n hx hb dX5_tiltHouses_13 rfl (lv_at hl 1 rfl) ?_
        refine x_get (C := RX5) (T := TX5) (N := 10) (ci := 6) (fs := (cpOf o z2)) (v := .ref (o + 2)) hx hb hts hin_wsX50 hown hK hP.main rfl 1 (by decide) (index := 18) (List.mem_of_getElem? (i := 1) rfl) rfl dX5_tiltHouses_14 ?_
        refine lv_iload_n hx hb dX5_tiltHouses_17 rfl (lv_at hl 0 rfl) ?_
        refine p_getL (L := 0) (j := i2) (kd := 1) (rest := []) (by decide) rfl rfl ⟨hx, hb, hml, hown, hts⟩ (cwV 1 hts gX5_tiltHouses_Jx4a65c_get_915e3 rfl rfl rfl (by decide +kernel) ⟨Nat.le_of_ble_eq_true rfl, Nat.le_of_ble_eq_true rfl⟩) hK hP hS ev hj hl.1 (Nat.le_of_ble_eq_true rfl) dX5_tiltHouses_18 ⟨Nat.zero_le _, Nat.zero_le _⟩ (fun H locs hP hS => ?_)
        refine x_cast hx hb hown (hts _ (List.mem_of_getElem? (i := 2) rfl)) hK (hP.house hj) rfl dX5_tiltHouses_21 ?_
        refine lv_astore_n (lv' := [(2, .ref (d 1 i2)), (1, .int (nI (i2))), (0, .ref (o))]) hx hb dX5_tiltHouses_24 rfl hl (by decide) rfl (fun ls hl => ?_)
        refine lv_aload_n hx hb dX5_tiltHouses_25 rfl (lv_at hl 2 rfl) ?_
        refine x_get (C := RX5) (T := TX5) (N := 10) (ci := 6) (fs := (cpOf o z2)) (v := .ref (o + 1)) hx hb hts hin_wsX50 hown hK hP.main rfl 0 (by decide) (index := 11) (List.mem_of_getElem? (i := 3) rfl) rfl dX5_tiltHouses_26 ?_
        refine lv_aload_n hx hb dX5_tiltHouses_29 rfl (lv_at hl 0 rfl) ?_
        refine x_get (C := RX3) (T := TX3) (N := 5) (ci := 4) (fs := _) (v := .int ((z2.1 14 i2))) hx hb hts hin_wsX30 hown hK (hP.house hj) rfl 0 (by decide) (index := 180) (List.mem_of_getElem? (i := 4) rfl) rfl dX5_tiltHouses_30 ?_
        refine x_aald (r := o + 9 + 7 * (((z2.1 14 i2)).toNatClampNeg)) hx hb hK 3 rfl hP.crow (hc) rfl dX5_tiltHouses_33 ?_
        refine x_get (C := RX1) (T := TX1) (N := 7) (ci := 2) (fs := (cfs (o + 9 + 7 * (((z2.1 14 i2)).toNatClampNeg)) (((z2.1 14 i2)).toNatClampNeg) z2)) (v := .ref (o + 9 + 7 * (((z2.1 14 i2)).toNatClampNeg) + 1)) hx hb hts hin_wsX10 hown hK (hP.cell (vp_lt (hc))) rfl 0 (by decide) (index := 56) (List.mem_of_getElem? (i := 5) rfl) rfl dX5_tiltHouses_34 ?_
        refine lv_aload_n hx hb dX5_tiltHouses_37 rfl (lv_at hl 0 rfl) ?_
        refine x_get (C := RX3) (T := TX3) (N := 5) (ci := 4) (fs := _) (v := .int ((z2.1 15 i2))) hx hb hts hin_wsX30 hown hK (hP.house hj) rfl 1 (by decide) (index := 183) (List.mem_of_getElem? (i := 6) rfl) rfl dX5_tiltHouses_38 ?_
        refine x_aald (r := o + 9 + 7 * (((z2.1 14 i2)).toNatClampNeg) + 2 + (((z2.1 15 i2)).toNatClampNeg)) hx hb hK 4 rfl (hP.row (vp_lt (hc))) (hpl) rfl dX5_tiltHouses_41 ?_
        refine x_callI (As := []) (rest := []) (fun q h => cpG_lay (vp_lt (hc)) (vp_lt (hpl)) h) ⟨hx, hb, hml, hown, hts⟩ (cl_isThawed l G ids (o + 9 + 7 * (((z2.1 14 i2)).toNatClampNeg) + 2 + (((z2.1 15 i2)).toNatClampNeg)) (5 * (((z2.1 14 i2)).toNatClampNeg) + (((z2.1 15 i2)).toNatClampNeg)) z2) (cwV 0 hts gX5_tiltHouses_X4_isThawed rfl rfl rfl (by decide +kernel) ⟨Nat.le_of_ble_eq_true rfl, Nat.le_of_ble_eq_true rfl⟩) hK (hP.lay (vp_lt (hc)) (vp_lt (hpl))) rfl (hP.lay (vp_lt (hc)) (vp_lt (hpl))) hS rfl hl.1 rfl (Nat.le_of_ble_eq_true rfl) dX5_tiltHouses_42 ⟨Nat.zero_le _, Nat.zero_le _⟩ (fun H locs hP1 _ hk1 hS => ?_)
        replace hP := hP.joinL (vp_lt (hc)) (vp_lt (hpl)) hP1 hk1
        have J58_6 : ∀ (τ_5 : Sg), τ_5 = (if (l_isThawed z2 (5 * (((z2.1 14 i2)).toNatClampNeg) + (((z2.1 15 i2)).toNatClampNeg))) = 0 then z2 else (si z2 17 (i2) (((z2.1 17 i2)) + (nI (1))))) → ∀ (H : Heap) (locs : List Loc), CPic G ids o z tE d w τ_5 H → va_S (cpG o z) s.heap H locs → ∀ (ls : Array Slot), lv_has ls 3 [(2, .ref (d 1 i2)), (1, .int (nI (i2))), (0, .ref (o))] → WW H locs 0 0 (F0 m 58 ls []) := by
          intro τ_5 h_7 H locs hP hS ls hl
          refine (hWW _ _ _ _ _).mpr ?_
          have hR_8 : k_tiltHouses_b2 i2 z2 = k_tiltHouses_j58 i2 z2 τ_5 := (by have q_ := h_7.symm; subst q_; unfold k_tiltHouses_b2; rfl)
          refine n_iinc (x := i2) (dN := 1) (k := 1) (lv' := [(1, .int (nI (i2 + 1))), (2, .ref (d 1 i2)), (0, .ref (o))]) hx hb dX5_tiltHouses_58 hl rfl (by decide) rfl (fun ls hl => ?_)
          refine lv_goto (tgt := 2) hx hb dX5_tiltHouses_61 (by decide) ?_
          exact (hWW _ _ _ _ _).mp (ih2 (i2 + 1) (by omega) (by omega) (τ_5) (by show _ = k_tiltHouses_b2 i2 (lp (k_tiltHouses_b2) i2 σ); rw [← hz2]; exact (Eq.trans (by unfold k_tiltHouses_j58; rfl) hR_8.symm))  _ _ hP hS _ (lv_sub hl [0, 2] rfl))
        refine lv_if_eq (x := (l_isThawed z2 (5 * (((z2.1 14 i2)).toNatClampNeg) + (((z2.1 15 i2)).toNatClampNeg)))) (tgt := 58) hx hb dX5_tiltHouses_45 (by decide) (fun c_3 => ?_) (fun c_3 => ?_)
        · exact (hWW _ _ _ _ _).mp (J58_6 _ (by simp only [if_pos c_3]) _ _ hP hS _ (lv_sub hl [0, 1, 2] rfl))
        · refine lv_aload_n hx hb dX5_tiltHouses_48 rfl (lv_at hl 0 rfl) ?_
          refine lv_dup hx hb dX5_tiltHouses_49 rfl ?_
          refine x_get (C := RX3) (T := TX3) (N := 5) (ci := 4) (fs := _) (v := .int ((z2.1 17 i2))) hx hb hts hin_wsX30 hown hK (hP.house hj) rfl 4 (by decide) (index := 135) (List.mem_of_getElem? (i := 7) rfl) rfl dX5_tiltHouses_50 ?_
          refine lv_iconst (v := nI (1)) hx hb dX5_tiltHouses_53 (by decide) ?_
          refine lv_iadd (x := (z2.1 17 i2)) (y := nI (1)) hx hb dX5_tiltHouses_54 ?_
          refine p_tilt (h := i2) (v := ((z2.1 17 i2)) + (nI (1))) hx hb hts hin_wsX30 hown hK hP hj hS (index := 135) (List.mem_of_getElem? (i := 7) rfl) dX5_tiltHouses_55 (fun H locs hP hS => ?_)
          exact (hWW _ _ _ _ _).mp (J58_6 _ (by simp only [if_neg c_3]) _ _ hP hS _ (lv_sub hl [0, 1, 2] rfl))
  exact (hWW _ _ _ _ _).mp (L2 ((σ.1 13 0).toNatClampNeg + 1) 0 (Nat.zero_le _) (by omega) σ rfl  _ _ hP hS _ (lv_sub hl [0, 1] rfl))
