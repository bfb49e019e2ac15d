def k_passOneMonth_k52_s (σ : Sg) (air : Int32) (snow : Int32) (s_1 : Sg) (s_4 : Sg) (s_7 : Sg) (s_10 : Sg) (s_13 : Sg) (s_16 : Sg) (s_19 : Sg) (s_22 : Sg) (s_25 : Sg) (s_28 : Sg) : Sg := s_28
def k_passOneMonth_k42_s (σ : Sg) (air : Int32) (snow : Int32) (s_1 : Sg) (s_4 : Sg) (s_7 : Sg) (s_10 : Sg) (s_13 : Sg) (s_16 : Sg) (s_19 : Sg) (s_22 : Sg) (s_25 : Sg) : Sg := (k_passOneMonth_k52_s σ air snow s_1 s_4 s_7 s_10 s_13 s_16 s_19 s_22 s_25 (si s_25 1 (0) (((s_25.1 1 0)) + (nI (1)))))
def k_passOneMonth_k38_s (σ : Sg) (air : Int32) (snow : Int32) (s_1 : Sg) (s_4 : Sg) (s_7 : Sg) (s_10 : Sg) (s_13 : Sg) (s_16 : Sg) (s_19 : Sg) (s_22 : Sg) : Sg := (k_passOneMonth_k42_s σ air snow s_1 s_4 s_7 s_10 s_13 s_16 s_19 s_22 (k_readBoreholes_s s_22))
def k_passOneMonth_k34_s (σ : Sg) (air : Int32) (snow : Int32) (s_1 : Sg) (s_4 : Sg) (s_7 : Sg) (s_10 : Sg) (s_13 : Sg) (s_16 : Sg) (s_19 : Sg) : Sg := (k_passOneMonth_k38_s σ air snow s_1 s_4 s_7 s_10 s_13 s_16 s_19 (k_tiltHouses_s s_19))
def k_passOneMonth_k29_s (σ : Sg) (air : Int32) (snow : Int32) (s_1 : Sg) (s_4 : Sg) (s_7 : Sg) (s_10 : Sg) (s_13 : Sg) (s_16 : Sg) : Sg := (k_passOneMonth_k34_s σ air snow s_1 s_4 s_7 s_10 s_13 s_16 (k_wakeCarbon_s s_16 air))
def k_passOneMonth_k24_s (σ : Sg) (air : Int32) (snow : Int32) (s_1 : Sg) (s_4 : Sg) (s_7 : Sg) (s_10 : Sg) (s_13 : Sg) : Sg := (k_passOneMonth_k29_s σ air snow s_1 s_4 s_7 s_10 s_13 (k_crackColdest_s s_13 air))
def k_passOneMonth_k20_s (σ : Sg) (air : Int32) (snow : Int32) (s_1 : Sg) (s_4 : Sg) (s_7 : Sg) (s_10 : Sg) : Sg := (k_passOneMonth_k24_s σ air snow s_1 s_4 s_7 s_10 (k_letPondsFlow_s s_10))
def k_passOneMonth_k16_s (σ : Sg) (air : Int32) (snow : Int32) (s_1 : Sg) (s_4 : Sg) (s_7 : Sg) : Sg := (k_passOneMonth_k20_s σ air snow s_1 s_4 s_7 (k_letMeltedExcessOut_s s_7))
def k_passOneMonth_k11_s (σ : Sg) (air : Int32) (snow : Int32) (s_1 : Sg) (s_4 : Sg) : Sg := (k_passOneMonth_k16_s σ air snow s_1 s_4 (k_heatByHouses_s s_4 air))
def k_passOneMonth_k6_s (σ : Sg) (air : Int32) (snow : Int32) (s_1 : Sg) : Sg := (k_passOneMonth_k11_s σ air snow s_1 (k_leadHeat_s s_1 air))
def k_passOneMonth_s (σ : Sg) (air : Int32) (snow : Int32) : Sg := (k_passOneMonth_k6_s σ air snow (k_letSnow_s σ air snow))
theorem cpR_out {i k y : Nat} (hk : k = 1 ∨ 12 ≤ k ∧ k ≠ 36) : ¬ cpR i k y := by unfold cpR; omega
theorem k_letSnow_k (k : Nat) (hk : k = 1 ∨ 12 ≤ k ∧ k ≠ 36) {σ : Sg} {air snow : Int32} : (k_letSnow_s σ air snow).1 k = σ.1 k := by
  simp only [k_letSnow_x2_s, k_letSnow_k44, k_letSnow_j41, k_letSnow_s]
  exact lp_kp (fun i z => by simp only [k_letSnow_b2, k_letSnow_x2_s, k_letSnow_k44, k_letSnow_j41, k_letSnow_s]; exact si_ne (by omega)) _ _
theorem k_leadHeat_k (k : Nat) (hk : k = 1 ∨ 12 ≤ k ∧ k ≠ 36) {σ : Sg} {air : Int32} : (k_leadHeat_s σ air).1 k = σ.1 k := by
  simp only [k_leadHeat_x2_s, k_leadHeat_k48, k_leadHeat_k34, k_leadHeat_s]
  exact lp_kp (fun i z => by simp only [k_leadHeat_b2, k_leadHeat_x2_s, k_leadHeat_k48, k_leadHeat_k34, k_leadHeat_s, sl_1]; exact funext fun y => c_leadDown_same k y (cpR_out hk)) _ _
theorem k_heatByHouses_k (k : Nat) (hk : k = 1 ∨ 12 ≤ k ∧ k ≠ 36) {σ : Sg} {air : Int32} : (k_heatByHouses_s σ air).1 k = σ.1 k := by
  simp only [k_heatByHouses_x2_s, k_heatByHouses_k83, k_heatByHouses_k71, k_heatByHouses_j47, k_heatByHouses_s]
  exact k_hbh k (by omega) _ _
theorem k_letMelted_k (k : Nat) (hk : k = 1 ∨ 12 ≤ k ∧ k ≠ 36) {σ : Sg} : (k_letMeltedExcessOut_s σ).1 k = σ.1 k := by
  simp only [k_letMeltedExcessOut_x2_s, k_letMeltedExcessOut_k20, k_letMeltedExcessOut_s]
  exact lp_kp (fun i z => by simp only [k_letMeltedExcessOut_b2, k_letMeltedExcessOut_x2_s, k_letMeltedExcessOut_k20, k_letMeltedExcessOut_s]; exact funext fun y => c_letMeltedExcessOut_same k y (cpR_out hk)) _ _
theorem k_letPondsFlow_k (k : Nat) (hk : k = 1 ∨ 12 ≤ k ∧ k ≠ 36) {σ : Sg} : (k_letPondsFlow_s σ).1 k = σ.1 k := by
  simp only [k_letPondsFlow_x2_s, k_letPondsFlow_j93, k_letPondsFlow_k77, k_letPondsFlow_t16n, k_letPondsFlow_s]
  refine lp_kp (fun i z => ?_) _ _
  simp only [k_letPondsFlow_b2, k_letPondsFlow_x2_s, k_letPondsFlow_j93, k_letPondsFlow_k77, k_letPondsFlow_t16n, k_letPondsFlow_s]
  split
  · rfl
  · split
    · rfl
    · rw [si_ne (by omega), si_ne (by omega)]
theorem k_crackColdest_k (k : Nat) (hk : k = 1 ∨ 12 ≤ k ∧ k ≠ 36) {σ : Sg} {air : Int32} : (k_crackColdest_s σ air).1 k = σ.1 k := by
  simp only [k_crackColdest_j67_s, k_crackColdest_x16_s, k_crackColdest_j48, k_crackColdest_s]
  split
  · split
    · rfl
    · exact funext fun y => c_crack_same k y (cpR_out hk)
  · rfl
theorem k_wakeCarbon_k (k : Nat) (hk : k = 1 ∨ 12 ≤ k ∧ k ≠ 36) {σ : Sg} {air : Int32} : (k_wakeCarbon_s σ air).1 k = σ.1 k := by
  simp only [k_wakeCarbon_x2_s, k_wakeCarbon_j86, k_wakeCarbon_k43, k_wakeCarbon_k40, k_wakeCarbon_j34, k_wakeCarbon_s]
  refine lp_kp (fun i z => ?_) _ _
  have q : (c_wakeCarbon_s z i).1 k = z.1 k := funext fun y => c_wakeCarbon_same k y (cpR_out hk)
  unfold k_wakeCarbon_b2
  generalize (if (c_isLake z i) = 0 then nI (0) else nI (1)) = x
  simp only [k_wakeCarbon_x2_s, k_wakeCarbon_j86, k_wakeCarbon_k43, k_wakeCarbon_k40, k_wakeCarbon_j34, k_wakeCarbon_s]
  split
  · exact q
  · split
    · rw [si_ne (by omega)]; exact q
    · exact q
theorem k_tiltHouses_k (k : Nat) (hk : k ≠ 17) {σ : Sg} : (k_tiltHouses_s σ).1 k = σ.1 k := by
  simp only [k_tiltHouses_x2_s, k_tiltHouses_j58, k_tiltHouses_s]
  exact k_tih k hk _ _
set_option maxHeartbeats 4000000 in
set_option maxRecDepth 100000 in
theorem ck_passOneMonth (l : Launch) (G : va_G) (ids : Nat → ClassId) (o z tS tE : Nat) (d : Nat → Nat → Nat) (w : Nat → Nat) (σ : Sg) (air : Int32) (snow : Int32) (hO : cOK σ) (hR : ∀ b, b < cpN σ 1 → vp_in (σ.1 35 b) 601 ∧ (σ.1 35 b).toNatClampNeg < 600 - (σ.1 22 b).toNatClampNeg) : yV l yX5_passOneMonth wsX5_passOneMonth ({ frames := 5, cells := 0, slots := 0, locals := 108 } : Room) G ids tS tE [.ref (o), .int (air), .int (snow)] (CPic G ids o z tE d w σ) (CPic G ids o z tE d w (k_passOneMonth_s σ air snow)) (cpG o z) := by
  unfold yV
  refine Met.ofW (cc := cX5_passOneMonth) (maxL := 3) (ret := none) (by decide) rfl ?_
  intro p e s m args below meth c s₁ B hml hv
  obtain ⟨rfl, hP, hK, hZ⟩ := hv
  have hx := B.exec
  have hb := B.bytes
  have hr := B.returns
  have hts := atoms_spec (ws := wsX5_passOneMonth) B.pre
  have hown : s.vm.findClass RX5 = some m.cls := findClass_of_methodNamed B.named
  have hlocks := B.notSynchronized
  have hS : va_S (cpG o z) s.heap s.heap [] := va_S.rf
  have hin_wsX50 : ∀ w ∈ wsX50, w ∈ wsX5_passOneMonth := fun w h => List.mem_cons_of_mem _ (List.mem_append_left _ (List.mem_append_left _ (List.mem_append_left _ (List.mem_append_left _ (List.mem_append_left _ (List.mem_append_right _ h))))))
  have hin_wsX10 : ∀ w ∈ wsX10, w ∈ wsX5_passOneMonth := fun w h => List.mem_cons_of_mem _ (List.mem_append_left _ (List.mem_append_left _ (List.mem_append_left _ (List.mem_append_left _ (List.mem_append_right _ h)))))
  have hin_wsX40 : ∀ w ∈ wsX40, w ∈ wsX5_passOneMonth := fun w h => List.mem_cons_of_mem _ (List.mem_append_left _ (List.mem_append_left _ (List.mem_append_left _ (List.mem_append_right _ h))))
  have hin_wsX30 : ∀ w ∈ wsX30, w ∈ wsX5_passOneMonth := fun w h => List.mem_cons_of_mem _ (List.mem_append_left _ (List.mem_append_left _ (List.mem_append_right _ h)))
  have hin_wsJx4a65c0 : ∀ w ∈ wsJx4a65c0, w ∈ wsX5_passOneMonth := fun w h => List.mem_cons_of_mem _ (List.mem_append_left _ (List.mem_append_right _ h))
  have hin_wsX00 : ∀ w ∈ wsX00, w ∈ wsX5_passOneMonth := fun w h => List.mem_cons_of_mem _ (List.mem_append_right _ h)
  have hl := lv_entry ([.ref (o), .int (air), .int (snow)]) (n := 3) (Nat.le_of_ble_eq_true rfl)
  rw [lg_entry_eq]
  generalize (lg_sl ([.ref (o), .int (air), .int (snow)]) ++ List.replicate (3 - (lg_sl ([.ref (o), .int (air), .int (snow)])).length) Slot.unset).toArray = ls at hl ⊢
  have hl : lv_has ls 3 [(0, .ref (o)), (1, .int (air)), (2, .int (snow))] := hl
  refine w_named (fun WW hWW => ?_)
  refine lv_aload_n hx hb dX5_passOneMonth_0 rfl (lv_at hl 0 rfl) ?_
  refine lv_iload_n hx hb dX5_passOneMonth_1 rfl (lv_at hl 1 rfl) ?_
  refine lv_iload_n hx hb dX5_passOneMonth_2 rfl (lv_at hl 2 rfl) ?_
  refine y_callV (As := [.int (air), .int (snow)]) (rest := []) ⟨hx, hb, hml, hown, hts⟩ (ck_letSnow l G ids o z tS tE d w σ air snow) (cwV 2 hts gX5_passOneMonth_X5_letSnow rfl rfl rfl (by decide +kernel) ⟨Nat.le_of_ble_eq_true rfl, Nat.le_of_ble_eq_true rfl⟩) hK hZ hP.main rfl hP hS rfl hl.1 rfl (Nat.le_of_ble_eq_true rfl) dX5_passOneMonth_3 ⟨Nat.zero_le _, Nat.zero_le _⟩ (fun H locs hP hS => ?_)
  obtain ⟨s_1, e_2⟩ : ∃ z : Sg, z = (k_letSnow_s σ air snow) := ⟨_, rfl⟩
  rw [← e_2] at hP
  have hR_3 : k_passOneMonth_s σ air snow = k_passOneMonth_k6_s σ air snow s_1 := (by have q_ := e_2.symm; subst q_; unfold k_passOneMonth_s; rfl)
  have K6 : ∀ k, (k = 1 ∨ 12 ≤ k ∧ k ≠ 36) → s_1.1 k = σ.1 k := fun k hk => by rw [e_2]; exact k_letSnow_k k hk
  refine lv_aload_n hx hb dX5_passOneMonth_6 rfl (lv_at hl 0 rfl) ?_
  refine lv_iload_n hx hb dX5_passOneMonth_7 rfl (lv_at hl 1 rfl) ?_
  refine y_callV (As := [.int (air)]) (rest := []) ⟨hx, hb, hml, hown, hts⟩ (ck_leadHeat l G ids o z tS tE d w s_1 air) (cwV 1 hts gX5_passOneMonth_X5_leadHeat rfl rfl rfl (by decide +kernel) ⟨Nat.le_of_ble_eq_true rfl, Nat.le_of_ble_eq_true rfl⟩) hK hZ hP.main rfl hP hS rfl hl.1 rfl (Nat.le_of_ble_eq_true rfl) dX5_passOneMonth_8 ⟨Nat.zero_le _, Nat.zero_le _⟩ (fun H locs hP hS => ?_)
  obtain ⟨s_4, e_5⟩ : ∃ z : Sg, z = (k_leadHeat_s s_1 air) := ⟨_, rfl⟩
  rw [← e_5] at hP
  have hR_6 : k_passOneMonth_s σ air snow = k_passOneMonth_k11_s σ air snow s_1 s_4 := (Eq.trans hR_3 (by have q_ := e_5.symm; subst q_; unfold k_passOneMonth_k6_s; rfl))
  have K11 : ∀ k, (k = 1 ∨ 12 ≤ k ∧ k ≠ 36) → s_4.1 k = σ.1 k := fun k hk => by rw [e_5, k_leadHeat_k k hk]; exact K6 k hk
  refine lv_aload_n hx hb dX5_passOneMonth_11 rfl (lv_at hl 0 rfl) ?_
  refine lv_iload_n hx hb dX5_passOneMonth_12 rfl (lv_at hl 1 rfl) ?_
  refine y_callV (As := [.int (air)]) (rest := []) ⟨hx, hb, hml, hown, hts⟩ (ck_heatByHouses l G ids o z tS tE d w s_4 air (cOK_of (fun k hk => K11 k (by omega)) hO)) (cwV 1 hts gX5_passOneMonth_X5_heatByHouses rfl rfl rfl (by decide +kernel) ⟨Nat.le_of_ble_eq_true rfl, Nat.le_of_ble_eq_true rfl⟩) hK hZ hP.main rfl hP hS rfl hl.1 rfl (Nat.le_of_ble_eq_true rfl) dX5_passOneMonth_13 ⟨Nat.zero_le _, Nat.zero_le _⟩ (fun H locs hP hS => ?_)
  obtain ⟨s_7, e_8⟩ : ∃ z : Sg, z = (k_heatByHouses_s s_4 air) := ⟨_, rfl⟩
  rw [← e_8] at hP
  have hR_9 : k_passOneMonth_s σ air snow = k_passOneMonth_k16_s σ air snow s_1 s_4 s_7 := (Eq.trans hR_6 (by have q_ := e_8.symm; subst q_; unfold k_passOneMonth_k11_s; rfl))
  have K16 : ∀ k, (k = 1 ∨ 12 ≤ k ∧ k ≠ 36) → s_7.1 k = σ.1 k := fun k hk => by rw [e_8, k_heatByHouses_k k hk]; exact K11 k hk
  refine lv_aload_n hx hb dX5_passOneMonth_16 rfl (lv_at hl 0 rfl) ?_
  refine y_callV (As := []) (rest := []) ⟨hx, hb, hml, hown, hts⟩ (ck_letMeltedExcessOut l G ids o z tS tE d w s_7) (cwV 0 hts gX5_passOneMonth_X5_letMeltedExcessOut rfl rfl rfl (by decide +kernel) ⟨Nat.le_of_ble_eq_true rfl, Nat.le_of_ble_eq_true rfl⟩) hK hZ hP.main rfl hP hS rfl hl.1 rfl (Nat.le_of_ble_eq_true rfl) dX5_passOneMonth_17 ⟨Nat.zero_le _, Nat.zero_le _⟩ (fun H locs hP hS => ?_)
  obtain ⟨s_10, e_11⟩ : ∃ z : Sg, z = (k_letMeltedExcessOut_s s_7) := ⟨_, rfl⟩
  rw [← e_11] at hP
  have hR_12 : k_passOneMonth_s σ air snow = k_passOneMonth_k20_s σ air snow s_1 s_4 s_7 s_10 := (Eq.trans hR_9 (by have q_ := e_11.symm; subst q_; unfold k_passOneMonth_k16_s; rfl))
  have K20 : ∀ k, (k = 1 ∨ 12 ≤ k ∧ k ≠ 36) → s_10.1 k = σ.1 k := fun k hk => by rw [e_11, k_letMelted_k k hk]; exact K16 k hk
  refine lv_aload_n hx hb dX5_passOneMonth_20 rfl (lv_at hl 0 rfl) ?_
  refine y_callV (As := []) (rest := []) ⟨hx, hb, hml, hown, hts⟩ (ck_letPondsFlow l G ids o z tS tE d w s_10) (cwV 0 hts gX5_passOneMonth_X5_letPondsFlow rfl rfl rfl (by decide +kernel) ⟨Nat.le_of_ble_eq_true rfl, Nat.le_of_ble_eq_true rfl⟩) hK hZ hP.main rfl hP hS rfl hl.1 rfl (Nat.le_of_ble_eq_true rfl) dX5_passOneMonth_21 ⟨Nat.zero_le _, Nat.zero_le _⟩ (fun H locs hP hS => ?_)
  obtain ⟨s_13, e_14⟩ : ∃ z : Sg, z = (k_letPondsFlow_s s_10) := ⟨_, rfl⟩
  rw [← e_14] at hP
  have hR_15 : k_passOneMonth_s σ air snow = k_passOneMonth_k24_s σ air snow s_1 s_4 s_7 s_10 s_13 := (Eq.trans hR_12 (by have q_ := e_14.symm; subst q_; unfold k_passOneMonth_k20_s; rfl))
  have K24 : ∀ k, (k = 1 ∨ 12 ≤ k ∧ k ≠ 36) → s_13.1 k = σ.1 k := fun k hk => by rw [e_14, k_letPondsFlow_k k hk]; exact K20 k hk
  refine lv_aload_n hx hb dX5_passOneMonth_24 rfl (lv_at hl 0 rfl) ?_
  refine lv_iload_n hx hb dX5_passOneMonth_25 rfl (lv_at hl 1 rfl) ?_
  refine y_callV (As := [.int (air)]) (rest := []) ⟨hx, hb, hml, hown, hts⟩ (ck_crackColdest l G ids o z tS tE d w s_13 air) (cwV 1 hts gX5_passOneMonth_X5_crackColdest rfl rfl rfl (by decide +kernel) ⟨Nat.le_of_ble_eq_true rfl, Nat.le_of_ble_eq_true rfl⟩) hK hZ hP.main rfl hP hS rfl hl.1 rfl (Nat.le_of_ble_eq_true rfl) dX5_passOneMonth_26 ⟨Nat.zero_le _, Nat.zero_le _⟩ (fun H locs hP hS => ?_)
  obtain ⟨s_16, e_17⟩ : ∃ z : Sg, z = (k_crackColdest_s s_13 air) := ⟨_, rfl⟩
  rw [← e_17] at hP
  have hR_18 : k_passOneMonth_s σ air snow = k_passOneMonth_k29_s σ air snow s_1 s_4 s_7 s_10 s_13 s_16 := (Eq.trans hR_15 (by have q_ := e_17.symm; subst q_; unfold k_passOneMonth_k24_s; rfl))
  have K29 : ∀ k, (k = 1 ∨ 12 ≤ k ∧ k ≠ 36) → s_16.1 k = σ.1 k := fun k hk => by rw [e_17, k_crackColdest_k k hk]; exact K24 k hk
  refine lv_aload_n hx hb dX5_passOneMonth_29 rfl (lv_at hl 0 rfl) ?_
  refine lv_iload_n hx hb dX5_passOneMonth_30 rfl (lv_at hl 1 rfl) ?_
  refine y_callV (As := [.int (air)]) (rest := []) ⟨hx, hb, hml, hown, hts⟩ (ck_wakeCarbon l G ids o z tS tE d w s_16 air) (cwV 1 hts gX5_passOneMonth_X5_wakeCarbon rfl rfl rfl (by decide +kernel) ⟨Nat.le_of_ble_eq_true rfl, Nat.le_of_ble_eq_true rfl⟩) hK hZ hP.main rfl hP hS rfl hl.1 rfl (Nat.le_of_ble_eq_true rfl) dX5_passOneMonth_31 ⟨Nat.zero_le _, Nat.zero_le _⟩ (fun H locs hP hS => ?_)
  obtain ⟨s_19, e_20⟩ : ∃ z : Sg, z = (k_wakeCarbon_s s_16 air) := ⟨_, rfl⟩
  rw [← e_20] at hP
  have hR_21 : k_passOneMonth_s σ air snow = k_passOneMonth_k34_s σ air snow s_1 s_4 s_7 s_10 s_13 s_16 s_19 := (Eq.trans hR_18 (by have q_ := e_20.symm; subst q_; unfold k_passOneMonth_k29_s; rfl))
  have K34 : ∀ k, (k = 1 ∨ 12 ≤ k ∧ k ≠ 36) → s_19.1 k = σ.1 k := fun k hk => by rw [e_20, k_wakeCarbon_k k hk]; exact K29 k hk
  refine lv_aload_n hx hb dX5_passOneMonth_34 rfl (lv_at hl 0 rfl) ?_
  refine y_callV (As := []) (rest := []) ⟨hx, hb, hml, hown, hts⟩ (ck_tiltHouses l G ids o z tS tE d w s_19 (cOK_of (fun k hk => K34 k (by omega)) hO)) (cwV 0 hts gX5_passOneMonth_X5_tiltHouses rfl rfl rfl (by decide +kernel) ⟨Nat.le_of_ble_eq_true rfl, Nat.le_of_ble_eq_true rfl⟩) hK hZ hP.main rfl hP hS rfl hl.1 rfl (Nat.le_of_ble_eq_true rfl) dX5_passOneMonth_35 ⟨Nat.zero_le _, Nat.zero_le _⟩ (fun H locs hP hS => ?_)
  obtain ⟨s_22, e_23⟩ : ∃ z : Sg, z = (k_tiltHouses_s s_19) := ⟨_, rfl⟩
  rw [← e_23] at hP
  have hR_24 : k_passOneMonth_s σ air snow = k_passOneMonth_k38_s σ air snow s_1 s_4 s_7 s_10 s_13 s_16 s_19 s_22 := (Eq.trans hR_21 (by have q_ := e_23.symm; subst q_; unfold k_passOneMonth_k34_s; rfl))
  have K38 : ∀ k, (k = 1 ∨ 12 ≤ k ∧ k ≠ 36) → k ≠ 17 → s_22.1 k = σ.1 k := fun k hk h17 => by rw [e_23, k_tiltHouses_k k h17]; exact K34 k hk
  refine lv_aload_n hx hb dX5_passOneMonth_38 rfl (lv_at hl 0 rfl) ?_
  refine y_callV (As := []) (rest := []) ⟨hx, hb, hml, hown, hts⟩ (ck_readBoreholes l G ids o z tS tE d w s_22 (cOK_of (fun k hk => K38 k (by omega) (by omega)) hO) (fun b hb => by rw [K38 35 (by omega) (by omega), K38 22 (by omega) (by omega)]; exact hR b (by have q : b < (s_22.1 19 0).toNatClampNeg := hb; rw [K38 19 (by omega) (by omega)] at q; exact q))) (cwV 0 hts gX5_passOneMonth_X5_readBoreholes rfl rfl rfl (by decide +kernel) ⟨Nat.le_of_ble_eq_true rfl, Nat.le_of_ble_eq_true rfl⟩) hK hZ hP.main rfl hP hS rfl hl.1 rfl (Nat.le_of_ble_eq_true rfl) dX5_passOneMonth_39 ⟨Nat.zero_le _, Nat.zero_le _⟩ (fun H locs hP hS => ?_)
  obtain ⟨s_25, e_26⟩ : ∃ z : Sg, z = (k_readBoreholes_s s_22) := ⟨_, rfl⟩
  rw [← e_26] at hP
  have hR_27 : k_passOneMonth_s σ air snow = k_passOneMonth_k42_s σ air snow s_1 s_4 s_7 s_10 s_13 s_16 s_19 s_22 s_25 := (Eq.trans hR_24 (by have q_ := e_26.symm; subst q_; unfold k_passOneMonth_k38_s; rfl))
  refine lv_aload_n hx hb dX5_passOneMonth_42 rfl (lv_at hl 0 rfl) ?_
  refine lv_dup hx hb dX5_passOneMonth_43 rfl ?_
  refine x_get (C := RX5) (T := TX5) (N := 10) (ci := 6) (fs := (cpOf o s_25)) (v := .int ((s_25.1 1 0))) hx hb hts hin_wsX50 hown hK hP.main rfl 4 (by decide) (index := 82) (List.mem_of_getElem? (i := 1) rfl) rfl dX5_passOneMonth_44 ?_
  refine lv_iconst (v := nI (1)) hx hb dX5_passOneMonth_47 (by decide) ?_
  refine lv_iadd (x := (s_25.1 1 0)) (y := nI (1)) hx hb dX5_passOneMonth_48 ?_
  refine p_month (v := ((s_25.1 1 0)) + (nI (1))) hx hb hts hin_wsX50 hown hK hP hS (index := 82) (List.mem_of_getElem? (i := 1) rfl) dX5_passOneMonth_49 (fun H locs hP hS => ?_)
  obtain ⟨s_28, e_29⟩ : ∃ z : Sg, z = (si s_25 1 (0) (((s_25.1 1 0)) + (nI (1)))) := ⟨_, rfl⟩
  rw [← e_29] at hP
  have hR_30 : k_passOneMonth_s σ air snow = k_passOneMonth_k52_s σ air snow s_1 s_4 s_7 s_10 s_13 s_16 s_19 s_22 s_25 s_28 := (Eq.trans hR_27 (by have q_ := e_29.symm; subst q_; unfold k_passOneMonth_k42_s; rfl))
  have hsp : s_28 = k_passOneMonth_s σ air snow := (Eq.trans (by unfold k_passOneMonth_k52_s; rfl) hR_30.symm)
  rw [hsp] at hP
  exact x_vret hx hb hr hlocks hP hS dX5_passOneMonth_52
