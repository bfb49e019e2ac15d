def l_letMeltedExcessOut_k38 (σ : Sg) (k : Nat) (s_1 : Sg) (s_5 : Sg) : Int32 := w_max (((l_melted σ k)) - ((σ.1 8 k))) (nI (0))
def l_letMeltedExcessOut_k38_s (σ : Sg) (k : Nat) (s_1 : Sg) (s_5 : Sg) : Sg := s_5
def l_letMeltedExcessOut_k24 (σ : Sg) (k : Nat) (s_1 : Sg) : Int32 := (l_letMeltedExcessOut_k38 σ k s_1 (si s_1 10 (k) (((s_1.1 10 k)) - ((nI (1000)) * (w_max (((l_melted σ k)) - ((σ.1 8 k))) (nI (0)))))))
def l_letMeltedExcessOut_k24_s (σ : Sg) (k : Nat) (s_1 : Sg) : Sg := (l_letMeltedExcessOut_k38_s σ k s_1 (si s_1 10 (k) (((s_1.1 10 k)) - ((nI (1000)) * (w_max (((l_melted σ k)) - ((σ.1 8 k))) (nI (0)))))))
def l_letMeltedExcessOut (σ : Sg) (k : Nat) : Int32 := (l_letMeltedExcessOut_k24 σ k (si σ 9 (k) (((σ.1 9 k)) - (w_max (((l_melted σ k)) - ((σ.1 8 k))) (nI (0))))))
def l_letMeltedExcessOut_s (σ : Sg) (k : Nat) : Sg := (l_letMeltedExcessOut_k24_s σ k (si σ 9 (k) (((σ.1 9 k)) - (w_max (((l_melted σ k)) - ((σ.1 8 k))) (nI (0))))))
theorem l_letMeltedExcessOut_same {σ : Sg} {k : Nat} : ∀ x y, ¬ (8 ≤ x ∧ x ≤ 11 ∧ y = k) → (l_letMeltedExcessOut_s σ k).1 x y = σ.1 x y := by
  intro x y h
  simp only [l_letMeltedExcessOut_k38, l_letMeltedExcessOut_k38_s, l_letMeltedExcessOut_k24, l_letMeltedExcessOut_k24_s, l_letMeltedExcessOut, l_letMeltedExcessOut_s]
  rw [si_nj (by omega), si_nj (by omega)]
set_option maxHeartbeats 4000000 in
set_option maxRecDepth 100000 in
theorem cl_letMeltedExcessOut (l : Launch) (G : va_G) (ids : Nat → ClassId) (h k : Nat) (σ : Sg) : xI l yX4_letMeltedExcessOut wsX4_letMeltedExcessOut ({ frames := 2, cells := 0, slots := 0, locals := 41 } : Room) G ids [.ref (h)] (XLP G h k σ) (l_letMeltedExcessOut σ k) (XLP G h k (l_letMeltedExcessOut_s σ k)) (fun q : Nat => q = h) := by
  unfold xI
  refine Met.ofW (cc := cX4_letMeltedExcessOut) (maxL := 2) (ret := (some .int)) (by decide) rfl ?_
  intro p e s m args below meth c s₁ B hml hv
  obtain ⟨rfl, hP, hK⟩ := hv
  have hx := B.exec
  have hb := B.bytes
  have hr := B.returns
  have hts := atoms_spec (ws := wsX4_letMeltedExcessOut) B.pre
  have hown : s.vm.findClass RX4 = some m.cls := findClass_of_methodNamed B.named
  have hlocks := B.notSynchronized
  have hS : va_S (fun q : Nat => q = h) s.heap s.heap [] := va_S.rf
  have hin_wsX40 : ∀ w ∈ wsX40, w ∈ wsX4_letMeltedExcessOut := fun w h => List.mem_cons_of_mem _ (List.mem_append_right _ h)
  have hl := lv_entry ([.ref (h)]) (n := 2) (Nat.le_of_ble_eq_true rfl)
  rw [lg_entry_eq]
  generalize (lg_sl ([.ref (h)]) ++ List.replicate (2 - (lg_sl ([.ref (h)])).length) Slot.unset).toArray = ls at hl ⊢
  have hl : lv_has ls 2 [(0, .ref (h))] := hl
  refine w_named (fun WW hWW => ?_)
  refine lv_aload_n hx hb dX4_letMeltedExcessOut_0 rfl (lv_at hl 0 rfl) ?_
  refine x_callI (As := []) (rest := []) (fun _ h => h) ⟨hx, hb, hml, hown, hts⟩ (cl_melted l G ids h k σ) (cwV 0 hts gX4_letMeltedExcessOut_X4_melted rfl rfl rfl (by decide +kernel) ⟨Nat.le_of_ble_eq_true rfl, Nat.le_of_ble_eq_true rfl⟩) hK hP rfl hP hS rfl hl.1 rfl (Nat.le_of_ble_eq_true rfl) dX4_letMeltedExcessOut_1 ⟨Nat.zero_le _, Nat.zero_le _⟩ (fun H locs hP _ _ hS => ?_)
  refine lv_aload_n hx hb dX4_letMeltedExcessOut_4 rfl (lv_at hl 0 rfl) ?_
  refine x_get (C := RX4) (T := TX4) (N := 4) (ci := 5) (fs := (lfs (k) σ)) (v := .int ((σ.1 8 k))) hx hb hts hin_wsX40 hown hK hP rfl 0 (by decide) (index := 9) (List.mem_of_getElem? (i := 1) rfl) rfl dX4_letMeltedExcessOut_5 ?_
  refine lv_isub (x := (l_melted σ k)) (y := (σ.1 8 k)) hx hb dX4_letMeltedExcessOut_8 ?_
  refine lv_iconst (v := nI (0)) hx hb dX4_letMeltedExcessOut_9 (by decide) ?_
  refine w_mmax (x := ((l_melted σ k)) - ((σ.1 8 k))) (y := nI (0)) hx hb hml hl.1 hown hts (List.mem_of_getElem? (i := 2) rfl) (List.mem_of_getElem? (i := 3) rfl) (List.mem_of_getElem? (i := 4) rfl) (List.mem_of_getElem? (i := 5) rfl) (Nat.le_of_ble_eq_true rfl) (Nat.le_of_ble_eq_true rfl) (Nat.le_of_ble_eq_true rfl) (Nat.zero_le _) (Nat.zero_le _) dX4_letMeltedExcessOut_10 ?_
  refine lv_istore_n (lv' := [(1, .int (w_max (((l_melted σ k)) - ((σ.1 8 k))) (nI (0)))), (0, .ref (h))]) hx hb dX4_letMeltedExcessOut_13 rfl hl (by decide) rfl (fun ls hl => ?_)
  refine lv_aload_n hx hb dX4_letMeltedExcessOut_14 rfl (lv_at hl 1 rfl) ?_
  refine lv_dup hx hb dX4_letMeltedExcessOut_15 rfl ?_
  refine x_get (C := RX4) (T := TX4) (N := 4) (ci := 5) (fs := (lfs (k) σ)) (v := .int ((σ.1 9 k))) hx hb hts hin_wsX40 hown hK hP rfl 1 (by decide) (index := 21) (List.mem_of_getElem? (i := 6) rfl) rfl dX4_letMeltedExcessOut_16 ?_
  refine lv_iload_n hx hb dX4_letMeltedExcessOut_19 rfl (lv_at hl 0 rfl) ?_
  refine lv_isub (x := (σ.1 9 k)) (y := w_max (((l_melted σ k)) - ((σ.1 8 k))) (nI (0))) hx hb dX4_letMeltedExcessOut_20 ?_
  refine l_put (A := fun q : Nat => q = h) (v := ((σ.1 9 k)) - (w_max (((l_melted σ k)) - ((σ.1 8 k))) (nI (0)))) hx hb hts hin_wsX40 hown hK hP rfl hS 1 (by decide) (index := 21) (List.mem_of_getElem? (i := 6) rfl) dX4_letMeltedExcessOut_21 (fun H locs hP _ hS => ?_)
  obtain ⟨s_1, e_2⟩ : ∃ z : Sg, z = (si σ 9 (k) (((σ.1 9 k)) - (w_max (((l_melted σ k)) - ((σ.1 8 k))) (nI (0))))) := ⟨_, rfl⟩
  rw [← e_2] at hP
  have hR_3 : l_letMeltedExcessOut σ k = l_letMeltedExcessOut_k24 σ k s_1 := (by have q_ := e_2.symm; subst q_; unfold l_letMeltedExcessOut; rfl)
  have hR_4 : l_letMeltedExcessOut_s σ k = l_letMeltedExcessOut_k24_s σ k s_1 := (by have q_ := e_2.symm; subst q_; unfold l_letMeltedExcessOut_s; rfl)
  refine lv_aload_n hx hb dX4_letMeltedExcessOut_24 rfl (lv_at hl 1 rfl) ?_
  refine lv_dup hx hb dX4_letMeltedExcessOut_25 rfl ?_
  refine x_get (C := RX4) (T := TX4) (N := 4) (ci := 5) (fs := (lfs (k) s_1)) (v := .int ((s_1.1 10 k))) hx hb hts hin_wsX40 hown hK hP rfl 2 (by decide) (index := 15) (List.mem_of_getElem? (i := 7) rfl) rfl dX4_letMeltedExcessOut_26 ?_
  refine lv_sipush (v := nI (1000)) hx hb dX4_letMeltedExcessOut_29 (by decide) ?_
  refine lv_iload_n hx hb dX4_letMeltedExcessOut_32 rfl (lv_at hl 0 rfl) ?_
  refine lv_imul (x := nI (1000)) (y := w_max (((l_melted σ k)) - ((σ.1 8 k))) (nI (0))) hx hb dX4_letMeltedExcessOut_33 ?_
  refine lv_isub (x := (s_1.1 10 k)) (y := (nI (1000)) * (w_max (((l_melted σ k)) - ((σ.1 8 k))) (nI (0)))) hx hb dX4_letMeltedExcessOut_34 ?_
  refine l_put (A := fun q : Nat => q = h) (v := ((s_1.1 10 k)) - ((nI (1000)) * (w_max (((l_melted σ k)) - ((σ.1 8 k))) (nI (0))))) hx hb hts hin_wsX40 hown hK hP rfl hS 2 (by decide) (index := 15) (List.mem_of_getElem? (i := 7) rfl) dX4_letMeltedExcessOut_35 (fun H locs hP _ hS => ?_)
  obtain ⟨s_5, e_6⟩ : ∃ z : Sg, z = (si s_1 10 (k) (((s_1.1 10 k)) - ((nI (1000)) * (w_max (((l_melted σ k)) - ((σ.1 8 k))) (nI (0)))))) := ⟨_, rfl⟩
  rw [← e_6] at hP
  have hR_7 : l_letMeltedExcessOut σ k = l_letMeltedExcessOut_k38 σ k s_1 s_5 := (Eq.trans hR_3 (by have q_ := e_6.symm; subst q_; unfold l_letMeltedExcessOut_k24; rfl))
  have hR_8 : l_letMeltedExcessOut_s σ k = l_letMeltedExcessOut_k38_s σ k s_1 s_5 := (Eq.trans hR_4 (by have q_ := e_6.symm; subst q_; unfold l_letMeltedExcessOut_k24_s; rfl))
  refine lv_iload_n hx hb dX4_letMeltedExcessOut_38 rfl (lv_at hl 0 rfl) ?_
  have hsp : s_5 = l_letMeltedExcessOut_s σ k := (Eq.trans (by unfold l_letMeltedExcessOut_k38_s; rfl) hR_8.symm)
  rw [hsp] at hP
  exact x_iret (v := w_max (((l_melted σ k)) - ((σ.1 8 k))) (nI (0))) hx hb hr hlocks hP hS dX4_letMeltedExcessOut_39 (Eq.trans (by unfold l_letMeltedExcessOut_k38; rfl) hR_7.symm)
