def k_lakes_x8 (σ : Sg) (s_1 : Sg) (z8 : Int32 × Sg) : Int32 := z8.1
def k_lakes_x8_s (σ : Sg) (s_1 : Sg) (z8 : Int32 × Sg) : Sg := z8.2
def k_lakes_j31 (i8 : Nat) (z8 : Int32 × Sg) (s_8 : Sg) (y_13 : Int32) : Int32 × Sg := (y_13, s_8)
def k_lakes_k19 (i8 : Nat) (z8 : Int32 × Sg) (s_8 : Sg) : Int32 × Sg := (k_lakes_j31 i8 z8 s_8 (if (k_hasLakeCell s_8 (k_gatherLake z8.2 (nI (i8)))) = 0 then z8.1 else (z8.1) + Int32.ofInt (1)))
def k_lakes_b8  (i8 : Nat) (z8 : Int32 × Sg) : Int32 × Sg := (k_lakes_k19 i8 z8 (k_gatherLake_s z8.2 (nI (i8))))
def k_lakes_k4 (σ : Sg) (s_1 : Sg) : Int32 := (k_lakes_x8 σ s_1 (lp (k_lakes_b8) 25 (nI (0), s_1)))
def k_lakes_k4_s (σ : Sg) (s_1 : Sg) : Sg := (k_lakes_x8_s σ s_1 (lp (k_lakes_b8) 25 (nI (0), s_1)))
def k_lakes (σ : Sg) : Int32 := (k_lakes_k4 σ (k_forgetGathered_s σ))
def k_lakes_s (σ : Sg) : Sg := (k_lakes_k4_s σ (k_forgetGathered_s σ))
set_option maxHeartbeats 4000000 in
set_option maxRecDepth 100000 in
theorem ck_lakes (l : Launch) (G : va_G) (ids : Nat → ClassId) (o z tS tE : Nat) (d : Nat → Nat → Nat) (w : Nat → Nat) (σ : Sg) : yI l yX5_lakes wsX5_lakes ({ frames := 2, cells := 0, slots := 0, locals := 47 } : Room) G ids tS tE [.ref (o)] (CPic G ids o z tE d w σ) (k_lakes σ) (CPic G ids o z tE d w (k_lakes_s σ)) (cpG o z) := by
  unfold yI
  refine Met.ofW (cc := cX5_lakes) (maxL := 4) (ret := (some .int)) (by decide) rfl ?_
  intro p e s m args below meth c s₁ B hml hv
  obtain ⟨rfl, hP, hK, hZ⟩ := hv
  have hx := B.exec
  have hb := B.bytes
  have hr := B.returns
  have hts := atoms_spec (ws := wsX5_lakes) B.pre
  have hown : s.vm.findClass RX5 = some m.cls := findClass_of_methodNamed B.named
  have hlocks := B.notSynchronized
  have hS : va_S (cpG o z) s.heap s.heap [] := va_S.rf
  have hin_wsX50 : ∀ w ∈ wsX50, w ∈ wsX5_lakes := fun w h => List.mem_cons_of_mem _ (List.mem_append_left _ (List.mem_append_right _ h))
  have hin_wsX10 : ∀ w ∈ wsX10, w ∈ wsX5_lakes := fun w h => List.mem_cons_of_mem _ (List.mem_append_right _ h)
  have hl := lv_entry ([.ref (o)]) (n := 4) (Nat.le_of_ble_eq_true rfl)
  rw [lg_entry_eq]
  generalize (lg_sl ([.ref (o)]) ++ List.replicate (4 - (lg_sl ([.ref (o)])).length) Slot.unset).toArray = ls at hl ⊢
  have hl : lv_has ls 4 [(0, .ref (o))] := hl
  refine w_named (fun WW hWW => ?_)
  refine lv_aload_n hx hb dX5_lakes_0 rfl (lv_at hl 0 rfl) ?_
  refine y_callV (As := []) (rest := []) ⟨hx, hb, hml, hown, hts⟩ (ck_forgetGathered l G ids o z tS tE d w σ) (cwV 0 hts gX5_lakes_X5_forgetGathered rfl rfl rfl (by decide +kernel) ⟨Nat.le_of_ble_eq_true rfl, Nat.le_of_ble_eq_true rfl⟩) hK hZ hP.main rfl hP hS rfl hl.1 rfl (Nat.le_of_ble_eq_true rfl) dX5_lakes_1 ⟨Nat.zero_le _, Nat.zero_le _⟩ (fun H locs hP hS => ?_)
  obtain ⟨s_1, e_2⟩ : ∃ z : Sg, z = (k_forgetGathered_s σ) := ⟨_, rfl⟩
  rw [← e_2] at hP
  have hR_3 : k_lakes σ = k_lakes_k4 σ s_1 := (by have q_ := e_2.symm; subst q_; unfold k_lakes; rfl)
  have hR_4 : k_lakes_s σ = k_lakes_k4_s σ s_1 := (by have q_ := e_2.symm; subst q_; unfold k_lakes_s; rfl)
  refine lv_iconst (v := nI (0)) hx hb dX5_lakes_4 (by decide) ?_
  refine lv_istore_n (lv' := [(1, .int (nI (0))), (0, .ref (o))]) hx hb dX5_lakes_5 rfl hl (by decide) rfl (fun ls hl => ?_)
  refine lv_iconst (v := nI (0)) hx hb dX5_lakes_6 (by decide) ?_
  refine lv_istore_n (lv' := [(2, .int (nI (0))), (1, .int (nI (0))), (0, .ref (o))]) hx hb dX5_lakes_7 rfl hl (by decide) rfl (fun ls hl => ?_)
  have L8 : ∀ (n8 i8 : Nat), i8 ≤ 25 → 25 + 1 ≤ i8 + n8 → ∀ (z8 : Int32 × Sg), z8 = lp (k_lakes_b8) i8 (nI (0), s_1) → ∀ (H : Heap) (locs : List Loc), CPic G ids o z tE d w z8.2 H → va_S (cpG o z) s.heap H locs → ∀ (ls : Array Slot), lv_has ls 4 [(2, .int (nI (i8))), (1, .int (z8.1)), (0, .ref (o))] → WW H locs 0 0 (F0 m 8 ls []) := by
    intro n8
    induction n8 with
    | zero => intro i8 h1 h2; exact absurd h2 (by omega)
    | succ n8 ih8 =>
      intro i8 hi8 hn8 z8 hz8  H locs hP hS ls hl
      refine (hWW _ _ _ _ _).mpr ?_
      refine lv_iload_n hx hb dX5_lakes_8 rfl (lv_at hl 0 rfl) ?_
      refine lv_bipush (v := nI (25)) hx hb dX5_lakes_9 (by decide) ?_
      refine n_icmp_ge (x := i8) (y := 25) (tgt := 37) hx hb (by omega) (by omega) dX5_lakes_11 (by decide) (fun c_5 => ?_) (fun c_5 => ?_)
      · have hiN : 25 = i8 := by omega
        subst hiN
        have hR_6 : k_lakes σ = k_lakes_x8 σ s_1 z8 := (Eq.trans hR_3 (by have q_ := hz8.symm; subst q_; unfold k_lakes_k4; rfl))
        have hR_7 : k_lakes_s σ = k_lakes_x8_s σ s_1 z8 := (Eq.trans hR_4 (by have q_ := hz8.symm; subst q_; unfold k_lakes_k4_s; rfl))
        refine lv_iload_n hx hb dX5_lakes_37 rfl (lv_at hl 1 rfl) ?_
        have hsp : z8.2 = k_lakes_s σ := (Eq.trans (by unfold k_lakes_x8_s; rfl) hR_7.symm)
        rw [hsp] at hP
        exact x_iret (v := z8.1) hx hb hr hlocks hP hS dX5_lakes_38 (Eq.trans (by unfold k_lakes_x8; rfl) hR_6.symm)
      · refine lv_aload_n hx hb dX5_lakes_14 rfl (lv_at hl 2 rfl) ?_
        refine lv_iload_n hx hb dX5_lakes_15 rfl (lv_at hl 0 rfl) ?_
        refine y_callI (As := [.int (nI (i8))]) (rest := []) ⟨hx, hb, hml, hown, hts⟩ (ck_gatherLake l G ids o z tS tE d w z8.2 (nI (i8)) (fun _ => vp_in_nI (by omega) (by decide))) (cwV 1 hts gX5_lakes_X5_gatherLake rfl rfl rfl (by decide +kernel) ⟨Nat.le_of_ble_eq_true rfl, Nat.le_of_ble_eq_true rfl⟩) hK hZ hP.main rfl hP hS rfl hl.1 rfl (Nat.le_of_ble_eq_true rfl) dX5_lakes_16 ⟨Nat.zero_le _, Nat.zero_le _⟩ (fun H locs hP hS => ?_)
        obtain ⟨s_8, e_9⟩ : ∃ z : Sg, z = (k_gatherLake_s z8.2 (nI (i8))) := ⟨_, rfl⟩
        rw [← e_9] at hP
        have hR_10 : k_lakes_b8 i8 z8 = k_lakes_k19 i8 z8 s_8 := (by have q_ := e_9.symm; subst q_; unfold k_lakes_b8; rfl)
        have hG : gOK (k_gatherLake z8.2 (nI (i8)), s_8) := by rw [e_9]; exact k_gatherLake_ok (fun _ => vp_in_nI (by omega) (by decide))
        have hG1 : vp_in (k_gatherLake z8.2 (nI (i8))) 26 := gOK_1 hG
        have hG2 : ∀ j, j < (k_gatherLake z8.2 (nI (i8))).toNatClampNeg → vp_in (s_8.1 32 j) 25 := gOK_2 hG
        refine lv_istore_n (lv' := [(3, .int ((k_gatherLake z8.2 (nI (i8))))), (2, .int (nI (i8))), (1, .int (z8.1)), (0, .ref (o))]) hx hb dX5_lakes_19 rfl hl (by decide) rfl (fun ls hl => ?_)
        refine lv_aload_n hx hb dX5_lakes_20 rfl (lv_at hl 3 rfl) ?_
        refine lv_iload_n hx hb dX5_lakes_21 rfl (lv_at hl 0 rfl) ?_
        refine y_callI (As := [.int ((k_gatherLake z8.2 (nI (i8))))]) (rest := []) ⟨hx, hb, hml, hown, hts⟩ (ck_hasLakeCell l G ids o z tS tE d w s_8 (k_gatherLake z8.2 (nI (i8))) hG1 hG2) (cwV 1 hts gX5_lakes_X5_hasLakeCell rfl rfl rfl (by decide +kernel) ⟨Nat.le_of_ble_eq_true rfl, Nat.le_of_ble_eq_true rfl⟩) hK hZ hP.main rfl hP hS rfl hl.1 rfl (Nat.le_of_ble_eq_true rfl) dX5_lakes_22 ⟨Nat.zero_le _, Nat.zero_le _⟩ (fun H locs hP hS => ?_)
        have J31_14 : ∀ (y_13 : Int32), y_13 = (if (k_hasLakeCell s_8 (k_gatherLake z8.2 (nI (i8)))) = 0 then z8.1 else (z8.1) + Int32.ofInt (1)) → ∀ (H : Heap) (locs : List Loc), CPic G ids o z tE d w s_8 H → va_S (cpG o z) s.heap H locs → ∀ (ls : Array Slot), lv_has ls 4 [(3, .int ((k_gatherLake z8.2 (nI (i8))))), (2, .int (nI (i8))), (1, .int (y_13)), (0, .ref (o))] → WW H locs 0 0 (F0 m 31 ls []) := by
          intro y_13 h_15 H locs hP hS ls hl
          refine (hWW _ _ _ _ _).mpr ?_
          have hR_16 : k_lakes_b8 i8 z8 = k_lakes_j31 i8 z8 s_8 y_13 := (Eq.trans hR_10 (by have q_ := h_15.symm; subst q_; unfold k_lakes_k19; rfl))
          refine n_iinc (x := i8) (dN := 1) (k := 1) (lv' := [(2, .int (nI (i8 + 1))), (3, .int ((k_gatherLake z8.2 (nI (i8))))), (1, .int (y_13)), (0, .ref (o))]) hx hb dX5_lakes_31 hl rfl (by decide) rfl (fun ls hl => ?_)
          refine lv_goto (tgt := 8) hx hb dX5_lakes_34 (by decide) ?_
          exact (hWW _ _ _ _ _).mp (ih8 (i8 + 1) (by omega) (by omega) ((y_13, s_8)) (by show _ = k_lakes_b8 i8 (lp (k_lakes_b8) i8 (nI (0), s_1)); rw [← hz8]; exact (Eq.trans (by unfold k_lakes_j31; rfl) hR_16.symm))  _ _ hP hS _ (lv_sub hl [0, 2, 3] rfl))
        refine lv_if_eq (x := (k_hasLakeCell s_8 (k_gatherLake z8.2 (nI (i8))))) (tgt := 31) hx hb dX5_lakes_25 (by decide) (fun c_11 => ?_) (fun c_11 => ?_)
        · exact (hWW _ _ _ _ _).mp (J31_14 _ (by simp only [if_pos c_11]) _ _ hP hS _ (lv_sub hl [0, 1, 2, 3] rfl))
        · refine lv_iinc (v := (z8.1) + Int32.ofInt (1)) (lv' := [(1, .int ((z8.1) + Int32.ofInt (1))), (3, .int ((k_gatherLake z8.2 (nI (i8))))), (2, .int (nI (i8))), (0, .ref (o))]) hx hb dX5_lakes_28 hl (k := 2) rfl rfl (by decide) rfl (fun ls hl => ?_)
          exact (hWW _ _ _ _ _).mp (J31_14 _ (by simp only [if_neg c_11]) _ _ hP hS _ (lv_sub hl [1, 2, 0, 3] rfl))
  exact (hWW _ _ _ _ _).mp (L8 (25 + 1) 0 (Nat.zero_le _) (by omega) (nI (0), s_1) rfl  _ _ hP hS _ (lv_sub hl [0, 1, 2] rfl))
