def l_wakeCarbon_k37 (σ : Sg) (k : Nat) (s_1 : Sg) : Int32 := w_min (((w_max ((l_temperature σ k)) (nI (0))) * ((σ.1 11 k))) / (nI (1000))) ((σ.1 11 k))
def l_wakeCarbon_k37_s (σ : Sg) (k : Nat) (s_1 : Sg) : Sg := s_1
def l_wakeCarbon (σ : Sg) (k : Nat) : Int32 := (l_wakeCarbon_k37 σ k (si σ 11 (k) (((σ.1 11 k)) - (w_min (((w_max ((l_temperature σ k)) (nI (0))) * ((σ.1 11 k))) / (nI (1000))) ((σ.1 11 k))))))
def l_wakeCarbon_s (σ : Sg) (k : Nat) : Sg := (l_wakeCarbon_k37_s σ k (si σ 11 (k) (((σ.1 11 k)) - (w_min (((w_max ((l_temperature σ k)) (nI (0))) * ((σ.1 11 k))) / (nI (1000))) ((σ.1 11 k))))))
theorem l_wakeCarbon_same {σ : Sg} {k : Nat} : ∀ x y, ¬ (8 ≤ x ∧ x ≤ 11 ∧ y = k) → (l_wakeCarbon_s σ k).1 x y = σ.1 x y := by
  intro x y h
  simp only [l_wakeCarbon_k37, l_wakeCarbon_k37_s, l_wakeCarbon, l_wakeCarbon_s]
  rw [si_nj (by omega)]
set_option maxHeartbeats 4000000 in
set_option maxRecDepth 100000 in
theorem cl_wakeCarbon (l : Launch) (G : va_G) (ids : Nat → ClassId) (h k : Nat) (σ : Sg) : xI l yX4_wakeCarbon wsX4_wakeCarbon ({ frames := 2, cells := 0, slots := 0, locals := 41 } : Room) G ids [.ref (h)] (XLP G h k σ) (l_wakeCarbon σ k) (XLP G h k (l_wakeCarbon_s σ k)) (fun q : Nat => q = h) := by
  unfold xI
  refine Met.ofW (cc := cX4_wakeCarbon) (maxL := 3) (ret := (some .int)) (by decide) rfl ?_
  intro p e s m args below meth c s₁ B hml hv
  obtain ⟨rfl, hP, hK⟩ := hv
  have hx := B.exec
  have hb := B.bytes
  have hr := B.returns
  have hts := atoms_spec (ws := wsX4_wakeCarbon) B.pre
  have hown : s.vm.findClass RX4 = some m.cls := findClass_of_methodNamed B.named
  have hlocks := B.notSynchronized
  have hS : va_S (fun q : Nat => q = h) s.heap s.heap [] := va_S.rf
  have hin_wsX40 : ∀ w ∈ wsX40, w ∈ wsX4_wakeCarbon := fun w h => List.mem_cons_of_mem _ (List.mem_append_right _ h)
  have hl := lv_entry ([.ref (h)]) (n := 3) (Nat.le_of_ble_eq_true rfl)
  rw [lg_entry_eq]
  generalize (lg_sl ([.ref (h)]) ++ List.replicate (3 - (lg_sl ([.ref (h)])).length) Slot.unset).toArray = ls at hl ⊢
  have hl : lv_has ls 3 [(0, .ref (h))] := hl
  refine w_named (fun WW hWW => ?_)
  refine lv_aload_n hx hb dX4_wakeCarbon_0 rfl (lv_at hl 0 rfl) ?_
  refine x_callI (As := []) (rest := []) (fun _ h => h) ⟨hx, hb, hml, hown, hts⟩ (cl_temperature l G ids h k σ) (cwV 0 hts gX4_wakeCarbon_X4_temperature rfl rfl rfl (by decide +kernel) ⟨Nat.le_of_ble_eq_true rfl, Nat.le_of_ble_eq_true rfl⟩) hK hP rfl hP hS rfl hl.1 rfl (Nat.le_of_ble_eq_true rfl) dX4_wakeCarbon_1 ⟨Nat.zero_le _, Nat.zero_le _⟩ (fun H locs hP _ _ hS => ?_)
  refine lv_iconst (v := nI (0)) hx hb dX4_wakeCarbon_4 (by decide) ?_
  refine w_mmax (x := (l_temperature σ k)) (y := nI (0)) hx hb hml hl.1 hown hts (List.mem_of_getElem? (i := 1) rfl) (List.mem_of_getElem? (i := 2) rfl) (List.mem_of_getElem? (i := 3) rfl) (List.mem_of_getElem? (i := 4) rfl) (Nat.le_of_ble_eq_true rfl) (Nat.le_of_ble_eq_true rfl) (Nat.le_of_ble_eq_true rfl) (Nat.zero_le _) (Nat.zero_le _) dX4_wakeCarbon_5 ?_
  refine lv_istore_n (lv' := [(1, .int (w_max ((l_temperature σ k)) (nI (0)))), (0, .ref (h))]) hx hb dX4_wakeCarbon_8 rfl hl (by decide) rfl (fun ls hl => ?_)
  refine lv_iload_n hx hb dX4_wakeCarbon_9 rfl (lv_at hl 0 rfl) ?_
  refine lv_aload_n hx hb dX4_wakeCarbon_10 rfl (lv_at hl 1 rfl) ?_
  refine x_get (C := RX4) (T := TX4) (N := 4) (ci := 5) (fs := (lfs (k) σ)) (v := .int ((σ.1 11 k))) hx hb hts hin_wsX40 hown hK hP rfl 3 (by decide) (index := 18) (List.mem_of_getElem? (i := 5) rfl) rfl dX4_wakeCarbon_11 ?_
  refine lv_imul (x := w_max ((l_temperature σ k)) (nI (0))) (y := (σ.1 11 k)) hx hb dX4_wakeCarbon_14 ?_
  refine lv_sipush (v := nI (1000)) hx hb dX4_wakeCarbon_15 (by decide) ?_
  refine lv_idiv (x := (w_max ((l_temperature σ k)) (nI (0))) * ((σ.1 11 k))) (y := nI (1000)) hx hb dX4_wakeCarbon_18 (by decide) ?_
  refine lv_aload_n hx hb dX4_wakeCarbon_19 rfl (lv_at hl 1 rfl) ?_
  refine x_get (C := RX4) (T := TX4) (N := 4) (ci := 5) (fs := (lfs (k) σ)) (v := .int ((σ.1 11 k))) hx hb hts hin_wsX40 hown hK hP rfl 3 (by decide) (index := 18) (List.mem_of_getElem? (i := 5) rfl) rfl dX4_wakeCarbon_20 ?_
  refine w_mmin (x := ((w_max ((l_temperature σ k)) (nI (0))) * ((σ.1 11 k))) / (nI (1000))) (y := (σ.1 11 k)) hx hb hml hl.1 hown hts (List.mem_of_getElem? (i := 6) rfl) (List.mem_of_getElem? (i := 7) rfl) (List.mem_of_getElem? (i := 3) rfl) (List.mem_of_getElem? (i := 8) rfl) (Nat.le_of_ble_eq_true rfl) (Nat.le_of_ble_eq_true rfl) (Nat.le_of_ble_eq_true rfl) (Nat.zero_le _) (Nat.zero_le _) dX4_wakeCarbon_23 ?_
  refine lv_istore_n (lv' := [(2, .int (w_min (((w_max ((l_temperature σ k)) (nI (0))) * ((σ.1 11 k))) / (nI (1000))) ((σ.1 11 k)))), (1, .int (w_max ((l_temperature σ k)) (nI (0)))), (0, .ref (h))]) hx hb dX4_wakeCarbon_26 rfl hl (by decide) rfl (fun ls hl => ?_)
  refine lv_aload_n hx hb dX4_wakeCarbon_27 rfl (lv_at hl 2 rfl) ?_
  refine lv_dup hx hb dX4_wakeCarbon_28 rfl ?_
  refine x_get (C := RX4) (T := TX4) (N := 4) (ci := 5) (fs := (lfs (k) σ)) (v := .int ((σ.1 11 k))) hx hb hts hin_wsX40 hown hK hP rfl 3 (by decide) (index := 18) (List.mem_of_getElem? (i := 5) rfl) rfl dX4_wakeCarbon_29 ?_
  refine lv_iload_n hx hb dX4_wakeCarbon_32 rfl (lv_at hl 0 rfl) ?_
  refine lv_isub (x := (σ.1 11 k)) (y := w_min (((w_max ((l_temperature σ k)) (nI (0))) * ((σ.1 11 k))) / (nI (1000))) ((σ.1 11 k))) hx hb dX4_wakeCarbon_33 ?_
  refine l_put (A := fun q : Nat => q = h) (v := ((σ.1 11 k)) - (w_min (((w_max ((l_temperature σ k)) (nI (0))) * ((σ.1 11 k))) / (nI (1000))) ((σ.1 11 k)))) hx hb hts hin_wsX40 hown hK hP rfl hS 3 (by decide) (index := 18) (List.mem_of_getElem? (i := 5) rfl) dX4_wakeCarbon_34 (fun H locs hP _ hS => ?_)
  obtain ⟨s_1, e_2⟩ : ∃ z : Sg, z = (si σ 11 (k) (((σ.1 11 k)) - (w_min (((w_max ((l_temperature σ k)) (nI (0))) * ((σ.1 11 k))) / (nI (1000))) ((σ.1 11 k))))) := ⟨_, rfl⟩
  rw [← e_2] at hP
  have hR_3 : l_wakeCarbon σ k = l_wakeCarbon_k37 σ k s_1 := (by have q_ := e_2.symm; subst q_; unfold l_wakeCarbon; rfl)
  have hR_4 : l_wakeCarbon_s σ k = l_wakeCarbon_k37_s σ k s_1 := (by have q_ := e_2.symm; subst q_; unfold l_wakeCarbon_s; rfl)
  refine lv_iload_n hx hb dX4_wakeCarbon_37 rfl (lv_at hl 0 rfl) ?_
  have hsp : s_1 = l_wakeCarbon_s σ k := (Eq.trans (by unfold l_wakeCarbon_k37_s; rfl) hR_4.symm)
  rw [hsp] at hP
  exact x_iret (v := w_min (((w_max ((l_temperature σ k)) (nI (0))) * ((σ.1 11 k))) / (nI (1000))) ((σ.1 11 k))) hx hb hr hlocks hP hS dX4_wakeCarbon_38 (Eq.trans (by unfold l_wakeCarbon_k37; rfl) hR_3.symm)
