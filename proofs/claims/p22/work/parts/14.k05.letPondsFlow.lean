def k_letPondsFlow_x2_s (σ : Sg) (z2 : Sg) : Sg := z2
def k_letPondsFlow_j93 (i2 : Nat) (z2 : Sg) (τ_5 : Sg) : Sg := τ_5
def k_letPondsFlow_k77 (i2 : Nat) (z2 : Sg) (s_11 : Sg) : Sg := (si s_11 3 (((k_lowestNeighbour z2 (nI (i2)))).toNatClampNeg) (((s_11.1 3 (((k_lowestNeighbour z2 (nI (i2)))).toNatClampNeg))) + (w_min ((((c_level z2 i2)) - ((c_level z2 (((k_lowestNeighbour z2 (nI (i2)))).toNatClampNeg)))) / (nI (2))) ((z2.1 3 i2)))))
def k_letPondsFlow_t16n (i2 : Nat) (z2 : Sg) : Sg := (if ((c_level z2 i2)) - ((c_level z2 (((k_lowestNeighbour z2 (nI (i2)))).toNatClampNeg))) < nI (2) then z2 else (k_letPondsFlow_k77 i2 z2 (si z2 3 (i2) (((z2.1 3 i2)) - (w_min ((((c_level z2 i2)) - ((c_level z2 (((k_lowestNeighbour z2 (nI (i2)))).toNatClampNeg)))) / (nI (2))) ((z2.1 3 i2)))))))
def k_letPondsFlow_b2  (i2 : Nat) (z2 : Sg) : Sg := (k_letPondsFlow_j93 i2 z2 (if (k_lowestNeighbour z2 (nI (i2))) = (-1) then z2 else (k_letPondsFlow_t16n i2 z2)))
def k_letPondsFlow_s (σ : Sg) : Sg := (k_letPondsFlow_x2_s σ (lp (k_letPondsFlow_b2) 25 σ))
set_option maxHeartbeats 4000000 in
set_option maxRecDepth 100000 in
theorem ck_letPondsFlow (l : Launch) (G : va_G) (ids : Nat → ClassId) (o z tS tE : Nat) (d : Nat → Nat → Nat) (w : Nat → Nat) (σ : Sg) : yV l yX5_letPondsFlow wsX5_letPondsFlow ({ frames := 2, cells := 0, slots := 0, locals := 47 } : Room) G ids tS tE [.ref (o)] (CPic G ids o z tE d w σ) (CPic G ids o z tE d w (k_letPondsFlow_s σ)) (cpG o z) := by
  unfold yV
  refine Met.ofW (cc := cX5_letPondsFlow) (maxL := 5) (ret := none) (by decide) rfl ?_
  intro p e s m args below meth c s₁ B hml hv
  obtain ⟨rfl, hP, hK, hZ⟩ := hv
  have hx := B.exec
  have hb := B.bytes
  have hr := B.returns
  have hts := atoms_spec (ws := wsX5_letPondsFlow) B.pre
  have hown : s.vm.findClass RX5 = some m.cls := findClass_of_methodNamed B.named
  have hlocks := B.notSynchronized
  have hS : va_S (cpG o z) s.heap s.heap [] := va_S.rf
  have hin_wsX50 : ∀ w ∈ wsX50, w ∈ wsX5_letPondsFlow := fun w h => List.mem_cons_of_mem _ (List.mem_append_left _ (List.mem_append_right _ h))
  have hin_wsX10 : ∀ w ∈ wsX10, w ∈ wsX5_letPondsFlow := fun w h => List.mem_cons_of_mem _ (List.mem_append_right _ h)
  have hl := lv_entry ([.ref (o)]) (n := 5) (Nat.le_of_ble_eq_true rfl)
  rw [lg_entry_eq]
  generalize (lg_sl ([.ref (o)]) ++ List.replicate (5 - (lg_sl ([.ref (o)])).length) Slot.unset).toArray = ls at hl ⊢
  have hl : lv_has ls 5 [(0, .ref (o))] := hl
  refine w_named (fun WW hWW => ?_)
  refine lv_iconst (v := nI (0)) hx hb dX5_letPondsFlow_0 (by decide) ?_
  refine lv_istore_n (lv' := [(1, .int (nI (0))), (0, .ref (o))]) hx hb dX5_letPondsFlow_1 rfl hl (by decide) rfl (fun ls hl => ?_)
  have L2 : ∀ (n2 i2 : Nat), i2 ≤ 25 → 25 + 1 ≤ i2 + n2 → ∀ (z2 : Sg), z2 = lp (k_letPondsFlow_b2) i2 σ → ∀ (H : Heap) (locs : List Loc), CPic G ids o z tE d w z2 H → va_S (cpG o z) s.heap H locs → ∀ (ls : Array Slot), lv_has ls 5 [(1, .int (nI (i2))), (0, .ref (o))] → WW H locs 0 0 (F0 m 2 ls []) := by
    intro n2
    induction n2 with
    | zero => intro i2 h1 h2; exact absurd h2 (by omega)
    | succ n2 ih2 =>
      intro i2 hi2 hn2 z2 hz2  H locs hP hS ls hl
      refine (hWW _ _ _ _ _).mpr ?_
      refine lv_iload_n hx hb dX5_letPondsFlow_2 rfl (lv_at hl 0 rfl) ?_
      refine lv_bipush (v := nI (25)) hx hb dX5_letPondsFlow_3 (by decide) ?_
      refine n_icmp_ge (x := i2) (y := 25) (tgt := 99) hx hb (by omega) (by omega) dX5_letPondsFlow_5 (by decide) (fun c_1 => ?_) (fun c_1 => ?_)
      · have hiN : 25 = i2 := by omega
        subst hiN
        have hR_2 : k_letPondsFlow_s σ = k_letPondsFlow_x2_s σ z2 := (by have q_ := hz2.symm; subst q_; unfold k_letPondsFlow_s; rfl)
        have hsp : z2 = k_letPondsFlow_s σ := (Eq.trans (by unfold k_letPondsFlow_x2_s; rfl) hR_2.symm)
        rw [hsp] at hP
        exact x_vret hx hb hr hlocks hP hS dX5_letPondsFlow_99
      · refine lv_aload_n hx hb dX5_letPondsFlow_8 rfl (lv_at hl 1 rfl) ?_
        refine lv_iload_n hx hb dX5_letPondsFlow_9 rfl (lv_at hl 0 rfl) ?_
        refine y_callI (As := [.int (nI (i2))]) (rest := []) ⟨hx, hb, hml, hown, hts⟩ (ck_lowestNeighbour l G ids o z tS tE d w z2 (nI (i2))) (cwV 1 hts gX5_letPondsFlow_X5_lowestNeighbour rfl rfl rfl (by decide +kernel) ⟨Nat.le_of_ble_eq_true rfl, Nat.le_of_ble_eq_true rfl⟩) hK hZ hP.main rfl hP hS rfl hl.1 rfl (Nat.le_of_ble_eq_true rfl) dX5_letPondsFlow_10 ⟨Nat.zero_le _, Nat.zero_le _⟩ (fun H locs hP hS => ?_)
        refine lv_istore_n (lv' := [(2, .int ((k_lowestNeighbour z2 (nI (i2))))), (1, .int (nI (i2))), (0, .ref (o))]) hx hb dX5_letPondsFlow_13 rfl hl (by decide) rfl (fun ls hl => ?_)
        refine lv_iload_n hx hb dX5_letPondsFlow_14 rfl (lv_at hl 0 rfl) ?_
        refine lv_iconst (v := (-1)) hx hb dX5_letPondsFlow_15 (by decide) ?_
        have J93_6 : ∀ (τ_5 : Sg), τ_5 = (if (k_lowestNeighbour z2 (nI (i2))) = (-1) then z2 else (k_letPondsFlow_t16n i2 z2)) → ∀ (H : Heap) (locs : List Loc), CPic G ids o z tE d w τ_5 H → va_S (cpG o z) s.heap H locs → ∀ (ls : Array Slot), lv_has ls 5 [(2, .int ((k_lowestNeighbour z2 (nI (i2))))), (1, .int (nI (i2))), (0, .ref (o))] → WW H locs 0 0 (F0 m 93 ls []) := by
          intro τ_5 h_7 H locs hP hS ls hl
          refine (hWW _ _ _ _ _).mpr ?_
          have hR_8 : k_letPondsFlow_b2 i2 z2 = k_letPondsFlow_j93 i2 z2 τ_5 := (by have q_ := h_7.symm; subst q_; unfold k_letPondsFlow_b2; rfl)
          refine n_iinc (x := i2) (dN := 1) (k := 1) (lv' := [(1, .int (nI (i2 + 1))), (2, .int ((k_lowestNeighbour z2 (nI (i2))))), (0, .ref (o))]) hx hb dX5_letPondsFlow_93 hl rfl (by decide) rfl (fun ls hl => ?_)
          refine lv_goto (tgt := 2) hx hb dX5_letPondsFlow_96 (by decide) ?_
          exact (hWW _ _ _ _ _).mp (ih2 (i2 + 1) (by omega) (by omega) (τ_5) (by show _ = k_letPondsFlow_b2 i2 (lp (k_letPondsFlow_b2) i2 σ); rw [← hz2]; exact (Eq.trans (by unfold k_letPondsFlow_j93; rfl) hR_8.symm))  _ _ hP hS _ (lv_sub hl [0, 2] rfl))
        refine lv_icmp_eq (x := (k_lowestNeighbour z2 (nI (i2)))) (y := (-1)) (tgt := 93) hx hb dX5_letPondsFlow_16 (by decide) (fun c_3 => ?_) (fun c_3 => ?_)
        · exact (hWW _ _ _ _ _).mp (J93_6 _ (by simp only [if_pos c_3]) _ _ hP hS _ (lv_sub hl [0, 1, 2] rfl))
        · refine lv_aload_n hx hb dX5_letPondsFlow_19 rfl (lv_at hl 2 rfl) ?_
          refine x_get (C := RX5) (T := TX5) (N := 10) (ci := 6) (fs := (cpOf o z2)) (v := .ref (o + 1)) hx hb hts hin_wsX50 hown hK hP.main rfl 0 (by decide) (index := 11) (List.mem_of_getElem? (i := 1) rfl) rfl dX5_letPondsFlow_20 ?_
          refine lv_iload_n hx hb dX5_letPondsFlow_23 rfl (lv_at hl 1 rfl) ?_
          refine x_aald (r := o + 9 + 7 * i2) hx hb hK 3 rfl hP.crow (vp_in_nI (by omega) (by decide)) (by rw [nI_clamp (by omega)]) dX5_letPondsFlow_24 ?_
          refine x_callI (As := []) (rest := []) (fun q h => cpG_blk (by omega) h) ⟨hx, hb, hml, hown, hts⟩ (cc_level l G ids (o + 9 + 7 * i2) i2 z2) (cwV 0 hts gX5_letPondsFlow_X1_level rfl rfl rfl (by decide +kernel) ⟨Nat.le_of_ble_eq_true rfl, Nat.le_of_ble_eq_true rfl⟩) hK (hP.cell (by omega)) rfl (hP.blk (by omega)) hS rfl hl.1 rfl (Nat.le_of_ble_eq_true rfl) dX5_letPondsFlow_25 ⟨Nat.zero_le _, Nat.zero_le _⟩ (fun H locs hP1 _ hk1 hS => ?_)
          replace hP := hP.join (by omega) hP1 hk1 (fun _ _ _ => rfl) rfl
          refine lv_aload_n hx hb dX5_letPondsFlow_28 rfl (lv_at hl 2 rfl) ?_
          refine x_get (C := RX5) (T := TX5) (N := 10) (ci := 6) (fs := (cpOf o z2)) (v := .ref (o + 1)) hx hb hts hin_wsX50 hown hK hP.main rfl 0 (by decide) (index := 11) (List.mem_of_getElem? (i := 1) rfl) rfl dX5_letPondsFlow_29 ?_
          refine lv_iload_n hx hb dX5_letPondsFlow_32 rfl (lv_at hl 0 rfl) ?_
          refine x_aald (r := o + 9 + 7 * (((k_lowestNeighbour z2 (nI (i2)))).toNatClampNeg)) hx hb hK 3 rfl hP.crow (k_lowestNeighbour_in c_3) rfl dX5_letPondsFlow_33 ?_
          refine x_callI (As := []) (rest := [.int ((c_level z2 i2))]) (fun q h => cpG_blk (vp_lt (k_lowestNeighbour_in c_3)) h) ⟨hx, hb, hml, hown, hts⟩ (cc_level l G ids (o + 9 + 7 * (((k_lowestNeighbour z2 (nI (i2)))).toNatClampNeg)) (((k_lowestNeighbour z2 (nI (i2)))).toNatClampNeg) z2) (cwV 0 hts gX5_letPondsFlow_X1_level rfl rfl rfl (by decide +kernel) ⟨Nat.le_of_ble_eq_true rfl, Nat.le_of_ble_eq_true rfl⟩) hK (hP.cell (vp_lt (k_lowestNeighbour_in c_3))) rfl (hP.blk (vp_lt (k_lowestNeighbour_in c_3))) hS rfl hl.1 rfl (Nat.le_of_ble_eq_true rfl) dX5_letPondsFlow_34 ⟨Nat.zero_le _, Nat.zero_le _⟩ (fun H locs hP1 _ hk1 hS => ?_)
          replace hP := hP.join (vp_lt (k_lowestNeighbour_in c_3)) hP1 hk1 (fun _ _ _ => rfl) rfl
          refine lv_isub (x := (c_level z2 i2)) (y := (c_level z2 (((k_lowestNeighbour z2 (nI (i2)))).toNatClampNeg))) hx hb dX5_letPondsFlow_37 ?_
          refine lv_istore_n (lv' := [(3, .int (((c_level z2 i2)) - ((c_level z2 (((k_lowestNeighbour z2 (nI (i2)))).toNatClampNeg))))), (2, .int ((k_lowestNeighbour z2 (nI (i2))))), (1, .int (nI (i2))), (0, .ref (o))]) hx hb dX5_letPondsFlow_38 rfl hl (by decide) rfl (fun ls hl => ?_)
          refine lv_iload_n hx hb dX5_letPondsFlow_39 rfl (lv_at hl 0 rfl) ?_
          refine lv_iconst (v := nI (2)) hx hb dX5_letPondsFlow_40 (by decide) ?_
          refine lv_icmp_lt (x := ((c_level z2 i2)) - ((c_level z2 (((k_lowestNeighbour z2 (nI (i2)))).toNatClampNeg)))) (y := nI (2)) (tgt := 93) hx hb dX5_letPondsFlow_41 (by decide) (fun c_9 => ?_) (fun c_9 => ?_)
          · have q_10 : z2 = k_letPondsFlow_t16n i2 z2 := (by unfold k_letPondsFlow_t16n; simp only [if_pos c_9])
            exact (hWW _ _ _ _ _).mp (J93_6 _ (by rw [if_neg c_3]; exact q_10) _ _ hP hS _ (lv_sub hl [1, 2, 3] rfl))
          · refine lv_iload_n hx hb dX5_letPondsFlow_44 rfl (lv_at hl 0 rfl) ?_
            refine lv_iconst (v := nI (2)) hx hb dX5_letPondsFlow_45 (by decide) ?_
            refine lv_idiv (x := ((c_level z2 i2)) - ((c_level z2 (((k_lowestNeighbour z2 (nI (i2)))).toNatClampNeg)))) (y := nI (2)) hx hb dX5_letPondsFlow_46 (by decide) ?_
            refine lv_aload_n hx hb dX5_letPondsFlow_47 rfl (lv_at hl 3 rfl) ?_
            refine x_get (C := RX5) (T := TX5) (N := 10) (ci := 6) (fs := (cpOf o z2)) (v := .ref (o + 1)) hx hb hts hin_wsX50 hown hK hP.main rfl 0 (by decide) (index := 11) (List.mem_of_getElem? (i := 1) rfl) rfl dX5_letPondsFlow_48 ?_
            refine lv_iload_n hx hb dX5_letPondsFlow_51 rfl (lv_at hl 2 rfl) ?_
            refine x_aald (r := o + 9 + 7 * i2) hx hb hK 3 rfl hP.crow (vp_in_nI (by omega) (by decide)) (by rw [nI_clamp (by omega)]) dX5_letPondsFlow_52 ?_
            refine x_get (C := RX1) (T := TX1) (N := 7) (ci := 2) (fs := (cfs (o + 9 + 7 * i2) i2 z2)) (v := .int ((z2.1 3 i2))) hx hb hts hin_wsX10 hown hK (hP.cell (by omega)) rfl 2 (by decide) (index := 99) (List.mem_of_getElem? (i := 2) rfl) rfl dX5_letPondsFlow_53 ?_
            refine w_mmin (x := (((c_level z2 i2)) - ((c_level z2 (((k_lowestNeighbour z2 (nI (i2)))).toNatClampNeg)))) / (nI (2))) (y := (z2.1 3 i2)) hx hb hml hl.1 hown hts (List.mem_of_getElem? (i := 3) rfl) (List.mem_of_getElem? (i := 4) rfl) (List.mem_of_getElem? (i := 5) rfl) (List.mem_of_getElem? (i := 6) rfl) (Nat.le_of_ble_eq_true rfl) (Nat.le_of_ble_eq_true rfl) (Nat.le_of_ble_eq_true rfl) (Nat.zero_le _) (Nat.zero_le _) dX5_letPondsFlow_56 ?_
            refine lv_istore (lv' := [(4, .int (w_min ((((c_level z2 i2)) - ((c_level z2 (((k_lowestNeighbour z2 (nI (i2)))).toNatClampNeg)))) / (nI (2))) ((z2.1 3 i2)))), (3, .int (((c_level z2 i2)) - ((c_level z2 (((k_lowestNeighbour z2 (nI (i2)))).toNatClampNeg))))), (2, .int ((k_lowestNeighbour z2 (nI (i2))))), (1, .int (nI (i2))), (0, .ref (o))]) hx hb dX5_letPondsFlow_59 hl (by decide) rfl (fun ls hl => ?_)
            refine lv_aload_n hx hb dX5_letPondsFlow_61 rfl (lv_at hl 4 rfl) ?_
            refine x_get (C := RX5) (T := TX5) (N := 10) (ci := 6) (fs := (cpOf o z2)) (v := .ref (o + 1)) hx hb hts hin_wsX50 hown hK hP.main rfl 0 (by decide) (index := 11) (List.mem_of_getElem? (i := 1) rfl) rfl dX5_letPondsFlow_62 ?_
            refine lv_iload_n hx hb dX5_letPondsFlow_65 rfl (lv_at hl 3 rfl) ?_
            refine x_aald (r := o + 9 + 7 * i2) hx hb hK 3 rfl hP.crow (vp_in_nI (by omega) (by decide)) (by rw [nI_clamp (by omega)]) dX5_letPondsFlow_66 ?_
            refine lv_dup hx hb dX5_letPondsFlow_67 rfl ?_
            refine x_get (C := RX1) (T := TX1) (N := 7) (ci := 2) (fs := (cfs (o + 9 + 7 * i2) i2 z2)) (v := .int ((z2.1 3 i2))) hx hb hts hin_wsX10 hown hK (hP.cell (by omega)) rfl 2 (by decide) (index := 99) (List.mem_of_getElem? (i := 2) rfl) rfl dX5_letPondsFlow_68 ?_
            refine lv_iload hx hb dX5_letPondsFlow_71 (lv_at hl 0 rfl) ?_
            refine lv_isub (x := (z2.1 3 i2)) (y := w_min ((((c_level z2 i2)) - ((c_level z2 (((k_lowestNeighbour z2 (nI (i2)))).toNatClampNeg)))) / (nI (2))) ((z2.1 3 i2))) hx hb dX5_letPondsFlow_73 ?_
            refine p_cput (i := i2) (v := ((z2.1 3 i2)) - (w_min ((((c_level z2 i2)) - ((c_level z2 (((k_lowestNeighbour z2 (nI (i2)))).toNatClampNeg)))) / (nI (2))) ((z2.1 3 i2)))) hx hb hts hin_wsX10 hown hK hP (by omega) hS 2 3 (by decide) (index := 99) (List.mem_of_getElem? (i := 2) rfl) dX5_letPondsFlow_74 (fun H locs hP hS => ?_)
            obtain ⟨s_11, e_12⟩ : ∃ z : Sg, z = (si z2 3 (i2) (((z2.1 3 i2)) - (w_min ((((c_level z2 i2)) - ((c_level z2 (((k_lowestNeighbour z2 (nI (i2)))).toNatClampNeg)))) / (nI (2))) ((z2.1 3 i2))))) := ⟨_, rfl⟩
            rw [← e_12] at hP
            have hR_13 : k_letPondsFlow_t16n i2 z2 = k_letPondsFlow_k77 i2 z2 s_11 := (by have q_ := e_12.symm; subst q_; unfold k_letPondsFlow_t16n; simp only [if_neg c_9])
            refine lv_aload_n hx hb dX5_letPondsFlow_77 rfl (lv_at hl 4 rfl) ?_
            refine x_get (C := RX5) (T := TX5) (N := 10) (ci := 6) (fs := (cpOf o s_11)) (v := .ref (o + 1)) hx hb hts hin_wsX50 hown hK hP.main rfl 0 (by decide) (index := 11) (List.mem_of_getElem? (i := 1) rfl) rfl dX5_letPondsFlow_78 ?_
            refine lv_iload_n hx hb dX5_letPondsFlow_81 rfl (lv_at hl 2 rfl) ?_
            refine x_aald (r := o + 9 + 7 * (((k_lowestNeighbour z2 (nI (i2)))).toNatClampNeg)) hx hb hK 3 rfl hP.crow (k_lowestNeighbour_in c_3) rfl dX5_letPondsFlow_82 ?_
            refine lv_dup hx hb dX5_letPondsFlow_83 rfl ?_
            refine x_get (C := RX1) (T := TX1) (N := 7) (ci := 2) (fs := (cfs (o + 9 + 7 * (((k_lowestNeighbour z2 (nI (i2)))).toNatClampNeg)) (((k_lowestNeighbour z2 (nI (i2)))).toNatClampNeg) s_11)) (v := .int ((s_11.1 3 (((k_lowestNeighbour z2 (nI (i2)))).toNatClampNeg)))) hx hb hts hin_wsX10 hown hK (hP.cell (vp_lt (k_lowestNeighbour_in c_3))) rfl 2 (by decide) (index := 99) (List.mem_of_getElem? (i := 2) rfl) rfl dX5_letPondsFlow_84 ?_
            refine lv_iload hx hb dX5_letPondsFlow_87 (lv_at hl 0 rfl) ?_
            refine lv_iadd (x := (s_11.1 3 (((k_lowestNeighbour z2 (nI (i2)))).toNatClampNeg))) (y := w_min ((((c_level z2 i2)) - ((c_level z2 (((k_lowestNeighbour z2 (nI (i2)))).toNatClampNeg)))) / (nI (2))) ((z2.1 3 i2))) hx hb dX5_letPondsFlow_89 ?_
            refine p_cput (i := ((k_lowestNeighbour z2 (nI (i2)))).toNatClampNeg) (v := ((s_11.1 3 (((k_lowestNeighbour z2 (nI (i2)))).toNatClampNeg))) + (w_min ((((c_level z2 i2)) - ((c_level z2 (((k_lowestNeighbour z2 (nI (i2)))).toNatClampNeg)))) / (nI (2))) ((z2.1 3 i2)))) hx hb hts hin_wsX10 hown hK hP (vp_lt (k_lowestNeighbour_in c_3)) hS 2 3 (by decide) (index := 99) (List.mem_of_getElem? (i := 2) rfl) dX5_letPondsFlow_90 (fun H locs hP hS => ?_)
            have q_14 : (si s_11 3 (((k_lowestNeighbour z2 (nI (i2)))).toNatClampNeg) (((s_11.1 3 (((k_lowestNeighbour z2 (nI (i2)))).toNatClampNeg))) + (w_min ((((c_level z2 i2)) - ((c_level z2 (((k_lowestNeighbour z2 (nI (i2)))).toNatClampNeg)))) / (nI (2))) ((z2.1 3 i2))))) = k_letPondsFlow_t16n i2 z2 := (Eq.trans (by unfold k_letPondsFlow_k77; rfl) hR_13.symm)
            exact (hWW _ _ _ _ _).mp (J93_6 _ (by rw [if_neg c_3]; exact q_14) _ _ hP hS _ (lv_sub hl [2, 3, 4] rfl))
  exact (hWW _ _ _ _ _).mp (L2 (25 + 1) 0 (Nat.zero_le _) (by omega) σ rfl  _ _ hP hS _ (lv_sub hl [0, 1] rfl))
