def k_readBoreholes_x2_s (σ : Sg) (z2 : Sg) : Sg := z2
def k_readBoreholes_k41 (i2 : Nat) (z2 : Sg) (s_3 : Sg) : Sg := s_3
def k_readBoreholes_b2  (i2 : Nat) (z2 : Sg) : Sg := (k_readBoreholes_k41 i2 z2 (h_readLayers_s z2 i2 (((z2.1 20 i2)).toNatClampNeg)))
def k_readBoreholes_s (σ : Sg) : Sg := (k_readBoreholes_x2_s σ (lp (k_readBoreholes_b2) ((σ.1 19 0).toNatClampNeg) σ))
theorem k_rbk (k : Nat) (h1 : k ≠ 35) (h2 : k < 40) (n : Nat) (z : Sg) : (lp (k_readBoreholes_b2) n z).1 k = z.1 k := lp_kp (fun i z => by
  simp only [k_readBoreholes_b2, k_readBoreholes_x2_s, k_readBoreholes_k41, k_readBoreholes_s]
  exact h_readLayers_k k h1 (by omega)) n z
theorem k_rb35 (n : Nat) (z : Sg) : ∀ j, n ≤ j → (lp (k_readBoreholes_b2) n z).1 35 j = z.1 35 j := by
  refine lp_inv (f := k_readBoreholes_b2) (z := z) (P := fun i (w : Sg) => ∀ j, i ≤ j → w.1 35 j = z.1 35 j) (fun j _ => rfl) (fun i w hw j hj => ?_) n
  simp only [k_readBoreholes_b2, k_readBoreholes_x2_s, k_readBoreholes_k41, k_readBoreholes_s]
  rw [h_readLayers_35 j (by omega)]
  exact hw j (by omega)
set_option maxHeartbeats 4000000 in
set_option maxRecDepth 100000 in
theorem ck_readBoreholes (l : Launch) (G : va_G) (ids : Nat → ClassId) (o z tS tE : Nat) (d : Nat → Nat → Nat) (w : Nat → Nat) (σ : Sg) (hO : cOK σ) (hR : ∀ b, b < cpN σ 1 → vp_in (σ.1 35 b) 601 ∧ (σ.1 35 b).toNatClampNeg < 600 - (σ.1 22 b).toNatClampNeg) : yV l yX5_readBoreholes wsX5_readBoreholes ({ frames := 3, cells := 0, slots := 0, locals := 65 } : Room) G ids tS tE [.ref (o)] (CPic G ids o z tE d w σ) (CPic G ids o z tE d w (k_readBoreholes_s σ)) (cpG o z) := by
  unfold yV
  refine Met.ofW (cc := cX5_readBoreholes) (maxL := 3) (ret := none) (by decide) rfl ?_
  intro p e s m args below meth c s₁ B hml hv
  obtain ⟨rfl, hP, hK, hZ⟩ := hv
  have hx := B.exec
  have hb := B.bytes
  have hr := B.returns
  have hts := atoms_spec (ws := wsX5_readBoreholes) B.pre
  have hown : s.vm.findClass RX5 = some m.cls := findClass_of_methodNamed B.named
  have hlocks := B.notSynchronized
  have hS : va_S (cpG o z) s.heap s.heap [] := va_S.rf
  have hin_wsX50 : ∀ w ∈ wsX50, w ∈ wsX5_readBoreholes := fun w h => List.mem_cons_of_mem _ (List.mem_append_left _ (List.mem_append_left _ (List.mem_append_left _ (List.mem_append_left _ (List.mem_append_right _ h)))))
  have hin_wsX00 : ∀ w ∈ wsX00, w ∈ wsX5_readBoreholes := fun w h => List.mem_cons_of_mem _ (List.mem_append_left _ (List.mem_append_left _ (List.mem_append_left _ (List.mem_append_right _ h))))
  have hin_wsX10 : ∀ w ∈ wsX10, w ∈ wsX5_readBoreholes := fun w h => List.mem_cons_of_mem _ (List.mem_append_left _ (List.mem_append_left _ (List.mem_append_right _ h)))
  have hin_wsJx4a65c0 : ∀ w ∈ wsJx4a65c0, w ∈ wsX5_readBoreholes := fun w h => List.mem_cons_of_mem _ (List.mem_append_left _ (List.mem_append_right _ h))
  have hin_wsX40 : ∀ w ∈ wsX40, w ∈ wsX5_readBoreholes := fun w h => List.mem_cons_of_mem _ (List.mem_append_right _ h)
  have hl := lv_entry ([.ref (o)]) (n := 3) (Nat.le_of_ble_eq_true rfl)
  rw [lg_entry_eq]
  generalize (lg_sl ([.ref (o)]) ++ List.replicate (3 - (lg_sl ([.ref (o)])).length) Slot.unset).toArray = ls at hl ⊢
  have hl : lv_has ls 3 [(0, .ref (o))] := hl
  refine w_named (fun WW hWW => ?_)
  have h19 := vp_lt hO.2.1
  have e19 := vp_self hO.2.1
  refine lv_iconst (v := nI (0)) hx hb dX5_readBoreholes_0 (by decide) ?_
  refine lv_istore_n (lv' := [(1, .int (nI (0))), (0, .ref (o))]) hx hb dX5_readBoreholes_1 rfl hl (by decide) rfl (fun ls hl => ?_)
  have L2 : ∀ (n2 i2 : Nat), i2 ≤ (σ.1 19 0).toNatClampNeg → ((σ.1 19 0).toNatClampNeg) + 1 ≤ i2 + n2 → ∀ (z2 : Sg), z2 = lp (k_readBoreholes_b2) i2 σ → ∀ (H : Heap) (locs : List Loc), CPic G ids o z tE d w z2 H → va_S (cpG o z) s.heap H locs → ∀ (ls : Array Slot), lv_has ls 3 [(1, .int (nI (i2))), (0, .ref (o))] → WW H locs 0 0 (F0 m 2 ls []) := by
    intro n2
    induction n2 with
    | zero => intro i2 h1 h2; exact absurd h2 (by omega)
    | succ n2 ih2 =>
      intro i2 hi2 hn2 z2 hz2  H locs hP hS ls hl
      refine (hWW _ _ _ _ _).mpr ?_
      have k19 : ∀ k, k ≠ 35 → k < 40 → z2.1 k = σ.1 k := fun k h1 h2 => by rw [hz2]; exact k_rbk k h1 h2 _ _
      have k35 : z2.1 35 i2 = σ.1 35 i2 := by rw [hz2]; exact k_rb35 _ _ _ (Nat.le_refl _)
      have ev : z2.1 19 0 = nI (cpN z2 1) := by show z2.1 19 0 = nI (z2.1 19 0).toNatClampNeg; rw [k19 19 (by decide) (by decide)]; exact e19
      refine lv_iload_n hx hb dX5_readBoreholes_2 rfl (lv_at hl 0 rfl) ?_
      refine lv_aload_n hx hb dX5_readBoreholes_3 rfl (lv_at hl 1 rfl) ?_
      refine x_get (C := RX5) (T := TX5) (N := 10) (ci := 6) (fs := (cpOf o z2)) (v := .ref (o + 3)) hx hb hts hin_wsX50 hown hK hP.main rfl 2 (by decide) (index := 22) (List.mem_of_getElem? (i := 1) rfl) rfl dX5_readBoreholes_4 ?_
      refine p_size (L := 1) (rest := [.int (nI (i2))]) (by decide) rfl ⟨hx, hb, hml, hown, hts⟩ (cwV 0 hts gX5_readBoreholes_Jx4a65c_size_8abf5 rfl rfl rfl (by decide +kernel) ⟨Nat.le_of_ble_eq_true rfl, Nat.le_of_ble_eq_true rfl⟩) hK hP hS hl.1 (v := (z2.1 19 0)) rfl (Nat.le_of_ble_eq_true rfl) dX5_readBoreholes_7 ⟨Nat.zero_le _, Nat.zero_le _⟩ (fun H locs hP hS => ?_)
      refine W.eq (g2 := F0 m 10 ls (.int (nI ((σ.1 19 0).toNatClampNeg)) :: .int (nI (i2)) :: [])) (congrArg (fun v => F0 m 10 ls (Value.int v :: .int (nI (i2)) :: [])) ((by rw [k19 19 (by decide) (by decide)]; exact e19))) ?_
      refine n_icmp_ge (x := i2) (y := (σ.1 19 0).toNatClampNeg) (tgt := 47) hx hb (by omega) (by omega) dX5_readBoreholes_10 (by decide) (fun c_1 => ?_) (fun c_1 => ?_)
      · have hiN : (σ.1 19 0).toNatClampNeg = i2 := by omega
        subst hiN
        have hR_2 : k_readBoreholes_s σ = k_readBoreholes_x2_s σ z2 := (by have q_ := hz2.symm; subst q_; unfold k_readBoreholes_s; rfl)
        have hsp : z2 = k_readBoreholes_s σ := (Eq.trans (by unfold k_readBoreholes_x2_s; rfl) hR_2.symm)
        rw [hsp] at hP
        exact x_vret hx hb hr hlocks hP hS dX5_readBoreholes_47
      · have hj0 : i2 < cpN σ 1 := by show i2 < (σ.1 19 0).toNatClampNeg; omega
        have hj : i2 < cpN z2 1 := by show i2 < (z2.1 19 0).toNatClampNeg; rw [k19 19 (by decide) (by decide)]; omega
        have hc : vp_in (z2.1 20 i2) 25 := by rw [k19 20 (by decide) (by decide)]; exact hO.2.2.2.2.2 i2 (by omega)
        refine lv_aload_n hx hb dX5_readBoreholes_13 rfl (lv_at hl 1 rfl) ?_
        refine x_get (C := RX5) (T := TX5) (N := 10) (ci := 6) (fs := (cpOf o z2)) (v := .ref (o + 3)) hx hb hts hin_wsX50 hown hK hP.main rfl 2 (by decide) (index := 22) (List.mem_of_getElem? (i := 1) rfl) rfl dX5_readBoreholes_14 ?_
        refine lv_iload_n hx hb dX5_readBoreholes_17 rfl (lv_at hl 0 rfl) ?_
        refine p_getL (L := 1) (j := i2) (kd := 2) (rest := []) (by decide) rfl rfl ⟨hx, hb, hml, hown, hts⟩ (cwV 1 hts gX5_readBoreholes_Jx4a65c_get_915e3 rfl rfl rfl (by decide +kernel) ⟨Nat.le_of_ble_eq_true rfl, Nat.le_of_ble_eq_true rfl⟩) hK hP hS ev hj hl.1 (Nat.le_of_ble_eq_true rfl) dX5_readBoreholes_18 ⟨Nat.zero_le _, Nat.zero_le _⟩ (fun H locs hP hS => ?_)
        refine x_cast hx hb hown (hts _ (List.mem_of_getElem? (i := 2) rfl)) hK (hP.hole hj) rfl dX5_readBoreholes_21 ?_
        refine lv_astore_n (lv' := [(2, .ref (d 2 i2)), (1, .int (nI (i2))), (0, .ref (o))]) hx hb dX5_readBoreholes_24 rfl hl (by decide) rfl (fun ls hl => ?_)
        refine lv_aload_n hx hb dX5_readBoreholes_25 rfl (lv_at hl 0 rfl) ?_
        refine lv_aload_n hx hb dX5_readBoreholes_26 rfl (lv_at hl 2 rfl) ?_
        refine x_get (C := RX5) (T := TX5) (N := 10) (ci := 6) (fs := (cpOf o z2)) (v := .ref (o + 1)) hx hb hts hin_wsX50 hown hK hP.main rfl 0 (by decide) (index := 11) (List.mem_of_getElem? (i := 3) rfl) rfl dX5_readBoreholes_27 ?_
        refine lv_aload_n hx hb dX5_readBoreholes_30 rfl (lv_at hl 0 rfl) ?_
        refine x_get (C := RX0) (T := TX0) (N := 5) (ci := 1) (fs := _) (v := .int ((z2.1 20 i2))) hx hb hts hin_wsX00 hown hK (hP.hole hj) rfl 0 (by decide) (index := 274) (List.mem_of_getElem? (i := 4) rfl) rfl dX5_readBoreholes_31 ?_
        refine x_aald (r := o + 9 + 7 * (((z2.1 20 i2)).toNatClampNeg)) hx hb hK 3 rfl hP.crow (hc) rfl dX5_readBoreholes_34 ?_
        refine x_get (C := RX1) (T := TX1) (N := 7) (ci := 2) (fs := (cfs (o + 9 + 7 * (((z2.1 20 i2)).toNatClampNeg)) (((z2.1 20 i2)).toNatClampNeg) z2)) (v := .ref (o + 9 + 7 * (((z2.1 20 i2)).toNatClampNeg) + 1)) hx hb hts hin_wsX10 hown hK (hP.cell (vp_lt (hc))) rfl 0 (by decide) (index := 56) (List.mem_of_getElem? (i := 5) rfl) rfl dX5_readBoreholes_35 ?_
        refine y_callV (As := [.ref (o + 9 + 7 * (((z2.1 20 i2)).toNatClampNeg) + 1)]) (rest := []) ⟨hx, hb, hml, hown, hts⟩ (ch_readLayers l G ids o z tS tE d w z2 i2 (((z2.1 20 i2)).toNatClampNeg) hj (vp_lt hc) (by rw [k35]; exact (hR i2 hj0).1) (by rw [k35, k19 22 (by decide) (by decide)]; exact (hR i2 hj0).2)) (cwV 1 hts gX5_readBoreholes_X0_readLayers rfl rfl rfl (by decide +kernel) ⟨Nat.le_of_ble_eq_true rfl, Nat.le_of_ble_eq_true rfl⟩) hK hZ (hP.hole hj) rfl hP hS rfl hl.1 rfl (Nat.le_of_ble_eq_true rfl) dX5_readBoreholes_38 ⟨Nat.zero_le _, Nat.zero_le _⟩ (fun H locs hP hS => ?_)
        obtain ⟨s_3, e_4⟩ : ∃ z : Sg, z = (h_readLayers_s z2 i2 (((z2.1 20 i2)).toNatClampNeg)) := ⟨_, rfl⟩
        rw [← e_4] at hP
        have hR_5 : k_readBoreholes_b2 i2 z2 = k_readBoreholes_k41 i2 z2 s_3 := (by have q_ := e_4.symm; subst q_; unfold k_readBoreholes_b2; rfl)
        refine n_iinc (x := i2) (dN := 1) (k := 1) (lv' := [(1, .int (nI (i2 + 1))), (2, .ref (d 2 i2)), (0, .ref (o))]) hx hb dX5_readBoreholes_41 hl rfl (by decide) rfl (fun ls hl => ?_)
        refine lv_goto (tgt := 2) hx hb dX5_readBoreholes_44 (by decide) ?_
        exact (hWW _ _ _ _ _).mp (ih2 (i2 + 1) (by omega) (by omega) (s_3) (by show _ = k_readBoreholes_b2 i2 (lp (k_readBoreholes_b2) i2 σ); rw [← hz2]; exact (Eq.trans (by unfold k_readBoreholes_k41; rfl) hR_5.symm))  _ _ hP hS _ (lv_sub hl [0, 2] rfl))
  exact (hWW _ _ _ _ _).mp (L2 ((σ.1 19 0).toNatClampNeg + 1) 0 (Nat.zero_le _) (by omega) σ rfl  _ _ hP hS _ (lv_sub hl [0, 1] rfl))
