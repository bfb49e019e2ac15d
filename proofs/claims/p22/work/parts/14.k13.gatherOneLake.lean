def k_gatherOneLake_k9 (σ : Sg) (cell : Int32) (s_1 : Sg) (s_5 : Sg) : Int32 := (k_gatherLake s_1 cell)
def k_gatherOneLake_k9_s (σ : Sg) (cell : Int32) (s_1 : Sg) (s_5 : Sg) : Sg := s_5
def k_gatherOneLake_k4 (σ : Sg) (cell : Int32) (s_1 : Sg) : Int32 := (k_gatherOneLake_k9 σ cell s_1 (k_gatherLake_s s_1 cell))
def k_gatherOneLake_k4_s (σ : Sg) (cell : Int32) (s_1 : Sg) : Sg := (k_gatherOneLake_k9_s σ cell s_1 (k_gatherLake_s s_1 cell))
def k_gatherOneLake (σ : Sg) (cell : Int32) : Int32 := (k_gatherOneLake_k4 σ cell (k_forgetGathered_s σ))
def k_gatherOneLake_s (σ : Sg) (cell : Int32) : Sg := (k_gatherOneLake_k4_s σ cell (k_forgetGathered_s σ))
set_option maxHeartbeats 4000000 in
set_option maxRecDepth 100000 in
theorem ck_gatherOneLake (l : Launch) (G : va_G) (ids : Nat → ClassId) (o z tS tE : Nat) (d : Nat → Nat → Nat) (w : Nat → Nat) (σ : Sg) (cell : Int32) (hc : ¬ cell = -1 → vp_in cell 25) : yI l yX5_gatherOneLake wsX5_gatherOneLake ({ frames := 2, cells := 0, slots := 0, locals := 47 } : Room) G ids tS tE [.ref (o), .int (cell)] (CPic G ids o z tE d w σ) (k_gatherOneLake σ cell) (CPic G ids o z tE d w (k_gatherOneLake_s σ cell)) (cpG o z) := by
  unfold yI
  refine Met.ofW (cc := cX5_gatherOneLake) (maxL := 2) (ret := (some .int)) (by decide) rfl ?_
  intro p e s m args below meth c s₁ B hml hv
  obtain ⟨rfl, hP, hK, hZ⟩ := hv
  have hx := B.exec
  have hb := B.bytes
  have hr := B.returns
  have hts := atoms_spec (ws := wsX5_gatherOneLake) B.pre
  have hown : s.vm.findClass RX5 = some m.cls := findClass_of_methodNamed B.named
  have hlocks := B.notSynchronized
  have hS : va_S (cpG o z) s.heap s.heap [] := va_S.rf
  have hin_wsX50 : ∀ w ∈ wsX50, w ∈ wsX5_gatherOneLake := fun w h => List.mem_cons_of_mem _ (List.mem_append_left _ (List.mem_append_right _ h))
  have hin_wsX10 : ∀ w ∈ wsX10, w ∈ wsX5_gatherOneLake := fun w h => List.mem_cons_of_mem _ (List.mem_append_right _ h)
  have hl := lv_entry ([.ref (o), .int (cell)]) (n := 2) (Nat.le_of_ble_eq_true rfl)
  rw [lg_entry_eq]
  generalize (lg_sl ([.ref (o), .int (cell)]) ++ List.replicate (2 - (lg_sl ([.ref (o), .int (cell)])).length) Slot.unset).toArray = ls at hl ⊢
  have hl : lv_has ls 2 [(0, .ref (o)), (1, .int (cell))] := hl
  refine w_named (fun WW hWW => ?_)
  refine lv_aload_n hx hb dX5_gatherOneLake_0 rfl (lv_at hl 0 rfl) ?_
  refine y_callV (As := []) (rest := []) ⟨hx, hb, hml, hown, hts⟩ (ck_forgetGathered l G ids o z tS tE d w σ) (cwV 0 hts gX5_gatherOneLake_X5_forgetGathered rfl rfl rfl (by decide +kernel) ⟨Nat.le_of_ble_eq_true rfl, Nat.le_of_ble_eq_true rfl⟩) hK hZ hP.main rfl hP hS rfl hl.1 rfl (Nat.le_of_ble_eq_true rfl) dX5_gatherOneLake_1 ⟨Nat.zero_le _, Nat.zero_le _⟩ (fun H locs hP hS => ?_)
  obtain ⟨s_1, e_2⟩ : ∃ z : Sg, z = (k_forgetGathered_s σ) := ⟨_, rfl⟩
  rw [← e_2] at hP
  have hR_3 : k_gatherOneLake σ cell = k_gatherOneLake_k4 σ cell s_1 := (by have q_ := e_2.symm; subst q_; unfold k_gatherOneLake; rfl)
  have hR_4 : k_gatherOneLake_s σ cell = k_gatherOneLake_k4_s σ cell s_1 := (by have q_ := e_2.symm; subst q_; unfold k_gatherOneLake_s; rfl)
  refine lv_aload_n hx hb dX5_gatherOneLake_4 rfl (lv_at hl 0 rfl) ?_
  refine lv_iload_n hx hb dX5_gatherOneLake_5 rfl (lv_at hl 1 rfl) ?_
  refine y_callI (As := [.int (cell)]) (rest := []) ⟨hx, hb, hml, hown, hts⟩ (ck_gatherLake l G ids o z tS tE d w s_1 cell hc) (cwV 1 hts gX5_gatherOneLake_X5_gatherLake rfl rfl rfl (by decide +kernel) ⟨Nat.le_of_ble_eq_true rfl, Nat.le_of_ble_eq_true rfl⟩) hK hZ hP.main rfl hP hS rfl hl.1 rfl (Nat.le_of_ble_eq_true rfl) dX5_gatherOneLake_6 ⟨Nat.zero_le _, Nat.zero_le _⟩ (fun H locs hP hS => ?_)
  obtain ⟨s_5, e_6⟩ : ∃ z : Sg, z = (k_gatherLake_s s_1 cell) := ⟨_, rfl⟩
  rw [← e_6] at hP
  have hR_7 : k_gatherOneLake σ cell = k_gatherOneLake_k9 σ cell s_1 s_5 := (Eq.trans hR_3 (by have q_ := e_6.symm; subst q_; unfold k_gatherOneLake_k4; rfl))
  have hR_8 : k_gatherOneLake_s σ cell = k_gatherOneLake_k9_s σ cell s_1 s_5 := (Eq.trans hR_4 (by have q_ := e_6.symm; subst q_; unfold k_gatherOneLake_k4_s; rfl))
  have hsp : s_5 = k_gatherOneLake_s σ cell := (Eq.trans (by unfold k_gatherOneLake_k9_s; rfl) hR_8.symm)
  rw [hsp] at hP
  exact x_iret (v := (k_gatherLake s_1 cell)) hx hb hr hlocks hP hS dX5_gatherOneLake_9 (Eq.trans (by unfold k_gatherOneLake_k9; rfl) hR_7.symm)
