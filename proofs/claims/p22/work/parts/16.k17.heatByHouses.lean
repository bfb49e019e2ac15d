def k_heatByHouses_x2_s (σ : Sg) (air : Int32) (z2 : Sg) : Sg := z2
def k_heatByHouses_k83 (air : Int32) (i2 : Nat) (z2 : Sg) (y_5 : Int32) (s_9 : Sg) (s_12 : Sg) : Sg := s_12
def k_heatByHouses_k71 (air : Int32) (i2 : Nat) (z2 : Sg) (y_5 : Int32) (s_9 : Sg) : Sg := (k_heatByHouses_k83 air i2 z2 y_5 s_9 (sl s_9 (26 + 0) (((s_9.2 (26 + 0))) + ((y_5).toInt64))))
def k_heatByHouses_j47 (air : Int32) (i2 : Nat) (z2 : Sg) (y_5 : Int32) : Sg := (k_heatByHouses_k71 air i2 z2 y_5 (si z2 10 (5 * (((z2.1 14 i2)).toNatClampNeg) + 0) (((z2.1 10 (5 * (((z2.1 14 i2)).toNatClampNeg) + 0))) + (y_5))))
def k_heatByHouses_b2 (air : Int32) (i2 : Nat) (z2 : Sg) : Sg := (k_heatByHouses_j47 air i2 z2 (if (z2.1 16 i2) = 0 then nI (300) else (if 0 ≤ air then nI (300) else (nI (300)) + Int32.ofInt (-300))))
def k_heatByHouses_s (σ : Sg) (air : Int32) : Sg := (k_heatByHouses_x2_s σ air (lp (k_heatByHouses_b2 air) ((σ.1 13 0).toNatClampNeg) σ))
theorem k_hbh (k : Nat) (hk : k ≠ 10) {air : Int32} (n : Nat) (z : Sg) : (lp (k_heatByHouses_b2 air) n z).1 k = z.1 k := lp_kp (fun i z => by simp [k_heatByHouses_b2, k_heatByHouses_x2_s, k_heatByHouses_k83, k_heatByHouses_k71, k_heatByHouses_j47, k_heatByHouses_s, si, sl, hk]) n z
set_option maxHeartbeats 4000000 in
set_option maxRecDepth 100000 in
theorem ck_heatByHouses (l : Launch) (G : va_G) (ids : Nat → ClassId) (o z tS tE : Nat) (d : Nat → Nat → Nat) (w : Nat → Nat) (σ : Sg) (air : Int32) (hO : cOK σ) : yV l yX5_heatByHouses wsX5_heatByHouses ({ frames := 3, cells := 0, slots := 0, locals := 64 } : Room) G ids tS tE [.ref (o), .int (air)] (CPic G ids o z tE d w σ) (CPic G ids o z tE d w (k_heatByHouses_s σ air)) (cpG o z) := by
  unfold yV
  refine Met.ofW (cc := cX5_heatByHouses) (maxL := 5) (ret := none) (by decide) rfl ?_
  intro p e s m args below meth c s₁ B hml hv
  obtain ⟨rfl, hP, hK, hZ⟩ := hv
  have hx := B.exec
  have hb := B.bytes
  have hr := B.returns
  have hts := atoms_spec (ws := wsX5_heatByHouses) B.pre
  have hown : s.vm.findClass RX5 = some m.cls := findClass_of_methodNamed B.named
  have hlocks := B.notSynchronized
  have hS : va_S (cpG o z) s.heap s.heap [] := va_S.rf
  have hin_wsX50 : ∀ w ∈ wsX50, w ∈ wsX5_heatByHouses := fun w h => List.mem_cons_of_mem _ (List.mem_append_left _ (List.mem_append_left _ (List.mem_append_left _ (List.mem_append_left _ (List.mem_append_right _ h)))))
  have hin_wsX30 : ∀ w ∈ wsX30, w ∈ wsX5_heatByHouses := fun w h => List.mem_cons_of_mem _ (List.mem_append_left _ (List.mem_append_left _ (List.mem_append_left _ (List.mem_append_right _ h))))
  have hin_wsX10 : ∀ w ∈ wsX10, w ∈ wsX5_heatByHouses := fun w h => List.mem_cons_of_mem _ (List.mem_append_left _ (List.mem_append_left _ (List.mem_append_right _ h)))
  have hin_wsX40 : ∀ w ∈ wsX40, w ∈ wsX5_heatByHouses := fun w h => List.mem_cons_of_mem _ (List.mem_append_left _ (List.mem_append_right _ h))
  have hin_wsJx4a65c0 : ∀ w ∈ wsJx4a65c0, w ∈ wsX5_heatByHouses := fun w h => List.mem_cons_of_mem _ (List.mem_append_right _ h)
  have hl := lv_entry ([.ref (o), .int (air)]) (n := 5) (Nat.le_of_ble_eq_true rfl)
  rw [lg_entry_eq]
  generalize (lg_sl ([.ref (o), .int (air)]) ++ List.replicate (5 - (lg_sl ([.ref (o), .int (air)])).length) Slot.unset).toArray = ls at hl ⊢
  have hl : lv_has ls 5 [(0, .ref (o)), (1, .int (air))] := hl
  refine w_named (fun WW hWW => ?_)
  have h13 := vp_lt hO.1
  have e13 := vp_self hO.1
  refine lv_iconst (v := nI (0)) hx hb dX5_heatByHouses_0 (by decide) ?_
  refine lv_istore_n (lv' := [(2, .int (nI (0))), (0, .ref (o)), (1, .int (air))]) hx hb dX5_heatByHouses_1 rfl hl (by decide) rfl (fun ls hl => ?_)
  have L2 : ∀ (n2 i2 : Nat), i2 ≤ (σ.1 13 0).toNatClampNeg → ((σ.1 13 0).toNatClampNeg) + 1 ≤ i2 + n2 → ∀ (z2 : Sg), z2 = lp (k_heatByHouses_b2 air) i2 σ → ∀ (H : Heap) (locs : List Loc), CPic G ids o z tE d w z2 H → va_S (cpG o z) s.heap H locs → ∀ (ls : Array Slot), lv_has ls 5 [(2, .int (nI (i2))), (0, .ref (o)), (1, .int (air))] → WW H locs 0 0 (F0 m 2 ls []) := by
    intro n2
    induction n2 with
    | zero => intro i2 h1 h2; exact absurd h2 (by omega)
    | succ n2 ih2 =>
      intro i2 hi2 hn2 z2 hz2  H locs hP hS ls hl
      refine (hWW _ _ _ _ _).mpr ?_
      have k13 : ∀ k, (k = 13 ∨ k = 14) → z2.1 k = σ.1 k := fun k hk => by rw [hz2]; exact k_hbh k (by omega) _ _
      have ev : z2.1 13 0 = nI (cpN z2 0) := by show z2.1 13 0 = nI (z2.1 13 0).toNatClampNeg; rw [k13 13 (by omega)]; exact e13
      refine lv_iload_n hx hb dX5_heatByHouses_2 rfl (lv_at hl 0 rfl) ?_
      refine lv_aload_n hx hb dX5_heatByHouses_3 rfl (lv_at hl 1 rfl) ?_
      refine x_get (C := RX5) (T := TX5) (N := 10) (ci := 6) (fs := (cpOf o z2)) (v := .ref (o + 2)) hx hb hts hin_wsX50 hown hK hP.main rfl 1 (by decide) (index := 18) (List.mem_of_getElem? (i := 1) rfl) rfl dX5_heatByHouses_4 ?_
      refine p_size (L := 0) (rest := [.int (nI (i2))]) (by decide) rfl ⟨hx, hb, hml, hown, hts⟩ (cwV 0 hts gX5_heatByHouses_Jx4a65c_size_8abf5 rfl rfl rfl (by decide +kernel) ⟨Nat.le_of_ble_eq_true rfl, Nat.le_of_ble_eq_true rfl⟩) hK hP hS hl.1 (v := (z2.1 13 0)) rfl (Nat.le_of_ble_eq_true rfl) dX5_heatByHouses_7 ⟨Nat.zero_le _, Nat.zero_le _⟩ (fun H locs hP hS => ?_)
      refine W.eq (g2 := F0 m 10 ls (.int (nI ((σ.1 13 0).toNatClampNeg)) :: .int (nI (i2)) :: [])) (congrArg (fun v => F0 m 10 ls (Value.int v :: .int (nI (i2)) :: [])) ((by rw [k13 13 (by omega)]; exact e13))) ?_
      refine n_icmp_ge (x := i2) (y := (σ.1 13 0).toNatClampNeg) (tgt := 89) hx hb (by omega) (by omega) dX5_heatByHouses_10 (by decide) (fun c_1 => ?_) (fun c_1 => ?_)
      · have hiN : (σ.1 13 0).toNatClampNeg = i2 := by omega
        subst hiN
        have hR_2 : k_heatByHouses_s σ air = k_heatByHouses_x2_s σ air z2 := (by have q_ := hz2.symm; subst q_; unfold k_heatByHouses_s; rfl)
        have hsp : z2 = k_heatByHouses_s σ air := (Eq.trans (by unfold k_heatByHouses_x2_s; rfl) hR_2.symm)
        rw [hsp] at hP
        exact x_vret hx hb hr hlocks hP hS dX5_heatByHouses_89
      · have hj : i2 < cpN z2 0 := by show i2 < (z2.1 13 0).toNatClampNeg; rw [k13 13 (by omega)]; omega
        have hc : vp_in (z2.1 14 i2) 25 := by rw [k13 14 (by omega)]; exact (hO.2.2.2.2.1 i2 (by omega)).1
        refine lv_aload_n hx hb dX5_heatByHouses_13 rfl (lv_at hl 1 rfl) ?_
        refine x_get (C := RX5) (T := TX5) (N := 10) (ci := 6) (fs := (cpOf o z2)) (v := .ref (o + 2)) hx hb hts hin_wsX50 hown hK hP.main rfl 1 (by decide) (index := 18) (List.mem_of_getElem? (i := 1) rfl) rfl dX5_heatByHouses_14 ?_
        refine lv_iload_n hx hb dX5_heatByHouses_17 rfl (lv_at hl 0 rfl) ?_
        refine p_getL (L := 0) (j := i2) (kd := 1) (rest := []) (by decide) rfl rfl ⟨hx, hb, hml, hown, hts⟩ (cwV 1 hts gX5_heatByHouses_Jx4a65c_get_915e3 rfl rfl rfl (by decide +kernel) ⟨Nat.le_of_ble_eq_true rfl, Nat.le_of_ble_eq_true rfl⟩) hK hP hS ev hj hl.1 (Nat.le_of_ble_eq_true rfl) dX5_heatByHouses_18 ⟨Nat.zero_le _, Nat.zero_le _⟩ (fun H locs hP hS => ?_)
        refine x_cast hx hb hown (hts _ (List.mem_of_getElem? (i := 2) rfl)) hK (hP.house hj) rfl dX5_heatByHouses_21 ?_
        refine lv_astore_n (lv' := [(3, .ref (d 1 i2)), (2, .int (nI (i2))), (0, .ref (o)), (1, .int (air))]) hx hb dX5_heatByHouses_24 rfl hl (by decide) rfl (fun ls hl => ?_)
        refine lv_sipush (v := nI (300)) hx hb dX5_heatByHouses_25 (by decide) ?_
        refine lv_istore (lv' := [(4, .int (nI (300))), (3, .ref (d 1 i2)), (2, .int (nI (i2))), (0, .ref (o)), (1, .int (air))]) hx hb dX5_heatByHouses_28 hl (by decide) rfl (fun ls hl => ?_)
        refine lv_aload_n hx hb dX5_heatByHouses_30 rfl (lv_at hl 1 rfl) ?_
        refine x_get (C := RX3) (T := TX3) (N := 5) (ci := 4) (fs := _) (v := .int ((z2.1 16 i2))) hx hb hts hin_wsX30 hown hK (hP.house hj) rfl 2 (by decide) (index := 252) (List.mem_of_getElem? (i := 3) rfl) rfl dX5_heatByHouses_31 ?_
        have J47_6 : ∀ (y_5 : Int32), y_5 = (if (z2.1 16 i2) = 0 then nI (300) else (if 0 ≤ air then nI (300) else (nI (300)) + Int32.ofInt (-300))) → ∀ (H : Heap) (locs : List Loc), CPic G ids o z tE d w z2 H → va_S (cpG o z) s.heap H locs → ∀ (ls : Array Slot), lv_has ls 5 [(4, .int (y_5)), (3, .ref (d 1 i2)), (2, .int (nI (i2))), (0, .ref (o)), (1, .int (air))] → WW H locs 0 0 (F0 m 47 ls []) := by
          intro y_5 h_7 H locs hP hS ls hl
          refine (hWW _ _ _ _ _).mpr ?_
          have hR_8 : k_heatByHouses_b2 air i2 z2 = k_heatByHouses_j47 air i2 z2 y_5 := (by have q_ := h_7.symm; subst q_; unfold k_heatByHouses_b2; rfl)
          refine lv_aload_n hx hb dX5_heatByHouses_47 rfl (lv_at hl 3 rfl) ?_
          refine x_get (C := RX5) (T := TX5) (N := 10) (ci := 6) (fs := (cpOf o z2)) (v := .ref (o + 1)) hx hb hts hin_wsX50 hown hK hP.main rfl 0 (by decide) (index := 11) (List.mem_of_getElem? (i := 4) rfl) rfl dX5_heatByHouses_48 ?_
          refine lv_aload_n hx hb dX5_heatByHouses_51 rfl (lv_at hl 1 rfl) ?_
          refine x_get (C := RX3) (T := TX3) (N := 5) (ci := 4) (fs := _) (v := .int ((z2.1 14 i2))) hx hb hts hin_wsX30 hown hK (hP.house hj) rfl 0 (by decide) (index := 180) (List.mem_of_getElem? (i := 5) rfl) rfl dX5_heatByHouses_52 ?_
          refine x_aald (r := o + 9 + 7 * (((z2.1 14 i2)).toNatClampNeg)) hx hb hK 3 rfl hP.crow (hc) rfl dX5_heatByHouses_55 ?_
          refine x_get (C := RX1) (T := TX1) (N := 7) (ci := 2) (fs := (cfs (o + 9 + 7 * (((z2.1 14 i2)).toNatClampNeg)) (((z2.1 14 i2)).toNatClampNeg) z2)) (v := .ref (o + 9 + 7 * (((z2.1 14 i2)).toNatClampNeg) + 1)) hx hb hts hin_wsX10 hown hK (hP.cell (vp_lt (hc))) rfl 0 (by decide) (index := 56) (List.mem_of_getElem? (i := 6) rfl) rfl dX5_heatByHouses_56 ?_
          refine lv_iconst (v := nI (0)) hx hb dX5_heatByHouses_59 (by decide) ?_
          refine x_aald (r := o + 9 + 7 * (((z2.1 14 i2)).toNatClampNeg) + 2 + 0) hx hb hK 4 rfl (hP.row (vp_lt (hc))) (vp_in_nI (by omega) (by decide)) (by rw [nI_clamp (by omega)]) dX5_heatByHouses_60 ?_
          refine lv_dup hx hb dX5_heatByHouses_61 rfl ?_
          refine x_get (C := RX4) (T := TX4) (N := 4) (ci := 5) (fs := (lfs (5 * (((z2.1 14 i2)).toNatClampNeg) + 0) z2)) (v := .int ((z2.1 10 (5 * (((z2.1 14 i2)).toNatClampNeg) + 0)))) hx hb hts hin_wsX40 hown hK (hP.lay (vp_lt (hc)) (by omega)) rfl 2 (by decide) (index := 73) (List.mem_of_getElem? (i := 7) rfl) rfl dX5_heatByHouses_62 ?_
          refine lv_iload hx hb dX5_heatByHouses_65 (lv_at hl 0 rfl) ?_
          refine lv_iadd (x := (z2.1 10 (5 * (((z2.1 14 i2)).toNatClampNeg) + 0))) (y := y_5) hx hb dX5_heatByHouses_67 ?_
          refine p_lput (i := ((z2.1 14 i2)).toNatClampNeg) (j := 0) (v := ((z2.1 10 (5 * (((z2.1 14 i2)).toNatClampNeg) + 0))) + (y_5)) hx hb hts hin_wsX40 hown hK hP (vp_lt (hc)) (by omega) hS 2 (by decide) (index := 73) (List.mem_of_getElem? (i := 7) rfl) dX5_heatByHouses_68 (fun H locs hP hS => ?_)
          obtain ⟨s_9, e_10⟩ : ∃ z : Sg, z = (si z2 10 (5 * (((z2.1 14 i2)).toNatClampNeg) + 0) (((z2.1 10 (5 * (((z2.1 14 i2)).toNatClampNeg) + 0))) + (y_5))) := ⟨_, rfl⟩
          rw [← e_10] at hP
          have hR_11 : k_heatByHouses_b2 air i2 z2 = k_heatByHouses_k71 air i2 z2 y_5 s_9 := (Eq.trans hR_8 (by have q_ := e_10.symm; subst q_; unfold k_heatByHouses_j47; rfl))
          refine lv_aload_n hx hb dX5_heatByHouses_71 rfl (lv_at hl 3 rfl) ?_
          refine x_get (C := RX5) (T := TX5) (N := 10) (ci := 6) (fs := (cpOf o s_9)) (v := .ref (o + 5)) hx hb hts hin_wsX50 hown hK hP.main rfl 5 (by decide) (index := 28) (List.mem_of_getElem? (i := 8) rfl) rfl dX5_heatByHouses_72 ?_
          refine lv_iconst (v := nI (0)) hx hb dX5_heatByHouses_75 (by decide) ?_
          refine lv_dup2_11 hx hb dX5_heatByHouses_76 rfl rfl ?_
          refine x_lald (v := (s_9.2 (26 + 0))) hx hb hK hP.came (vp_in_nI (by omega) (by decide)) (by rw [nI_clamp (by omega)]; exact if_pos (by omega)) dX5_heatByHouses_77 ?_
          refine lv_iload hx hb dX5_heatByHouses_78 (lv_at hl 0 rfl) ?_
          refine lv_i2l (v := (y_5).toInt64) hx hb dX5_heatByHouses_80 rfl ?_
          refine lv_ladd hx hb dX5_heatByHouses_81 ?_
          refine p_cameN (x := ((s_9.2 (26 + 0))) + ((y_5).toInt64)) hx hb hK hP hS (j := 0) (by omega) dX5_heatByHouses_82 (fun H locs hP hS => ?_)
          obtain ⟨s_12, e_13⟩ : ∃ z : Sg, z = (sl s_9 (26 + 0) (((s_9.2 (26 + 0))) + ((y_5).toInt64))) := ⟨_, rfl⟩
          rw [← e_13] at hP
          have hR_14 : k_heatByHouses_b2 air i2 z2 = k_heatByHouses_k83 air i2 z2 y_5 s_9 s_12 := (Eq.trans hR_11 (by have q_ := e_13.symm; subst q_; unfold k_heatByHouses_k71; rfl))
          refine n_iinc (x := i2) (dN := 1) (k := 2) (lv' := [(2, .int (nI (i2 + 1))), (4, .int (y_5)), (3, .ref (d 1 i2)), (0, .ref (o)), (1, .int (air))]) hx hb dX5_heatByHouses_83 hl rfl (by decide) rfl (fun ls hl => ?_)
          refine lv_goto (tgt := 2) hx hb dX5_heatByHouses_86 (by decide) ?_
          exact (hWW _ _ _ _ _).mp (ih2 (i2 + 1) (by omega) (by omega) (s_12) (by show _ = k_heatByHouses_b2 air i2 (lp (k_heatByHouses_b2 air) i2 σ); rw [← hz2]; exact (Eq.trans (by unfold k_heatByHouses_k83; rfl) hR_14.symm))  _ _ hP hS _ (lv_sub hl [0, 3, 4] rfl))
        refine lv_if_eq (x := (z2.1 16 i2)) (tgt := 47) hx hb dX5_heatByHouses_34 (by decide) (fun c_3 => ?_) (fun c_3 => ?_)
        · exact (hWW _ _ _ _ _).mp (J47_6 _ (by simp only [if_pos c_3]) _ _ hP hS _ (lv_sub hl [0, 1, 2, 3, 4] rfl))
        · refine lv_iload_n hx hb dX5_heatByHouses_37 rfl (lv_at hl 4 rfl) ?_
          refine lv_if_ge (x := air) (tgt := 47) hx hb dX5_heatByHouses_38 (by decide) (fun c_15 => ?_) (fun c_15 => ?_)
          · exact (hWW _ _ _ _ _).mp (J47_6 _ (by simp only [if_neg c_3, if_pos c_15]) _ _ hP hS _ (lv_sub hl [0, 1, 2, 3, 4] rfl))
          · refine lv_iincW (v := (nI (300)) + Int32.ofInt (-300)) (lv' := [(4, .int ((nI (300)) + Int32.ofInt (-300))), (3, .ref (d 1 i2)), (2, .int (nI (i2))), (0, .ref (o)), (1, .int (air))]) hx hb dX5_heatByHouses_41 hl (k := 0) rfl rfl (by decide) rfl (fun ls hl => ?_)
            exact (hWW _ _ _ _ _).mp (J47_6 _ (by simp only [if_neg c_3, if_neg c_15]) _ _ hP hS _ (lv_sub hl [0, 1, 2, 3, 4] rfl))
  exact (hWW _ _ _ _ _).mp (L2 ((σ.1 13 0).toNatClampNeg + 1) 0 (Nat.zero_le _) (by omega) σ rfl  _ _ hP hS _ (lv_sub hl [0, 1, 2] rfl))
