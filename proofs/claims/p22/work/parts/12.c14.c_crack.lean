def c_crack_j75_s (σ : Sg) (i : Nat) (s_1 : Sg) (τ_6 : Sg) : Sg := τ_6
def c_crack_k63 (σ : Sg) (i : Nat) (s_1 : Sg) (s_12 : Sg) (s_15 : Sg) (s_18 : Sg) : Sg := (si s_18 10 (5 * i + 1) (((s_18.1 10 (5 * i + 1))) + (nI (1000))))
def c_crack_k53 (σ : Sg) (i : Nat) (s_1 : Sg) (s_12 : Sg) (s_15 : Sg) : Sg := (c_crack_k63 σ i s_1 s_12 s_15 (si s_15 9 (5 * i + 1) (((s_15.1 9 (5 * i + 1))) + (nI (1)))))
def c_crack_k43 (σ : Sg) (i : Nat) (s_1 : Sg) (s_12 : Sg) : Sg := (c_crack_k53 σ i s_1 s_12 (si s_12 2 (i) (((s_12.1 2 i)) + (nI (1)))))
def c_crack_t21n (σ : Sg) (i : Nat) (s_1 : Sg) : Sg := (if nI (9) ≤ (s_1.1 9 (5 * i + 1)) then s_1 else (c_crack_k43 σ i s_1 (si s_1 3 (i) (((s_1.1 3 i)) - (nI (1))))))
def c_crack_k10_s (σ : Sg) (i : Nat) (s_1 : Sg) : Sg := (c_crack_j75_s σ i s_1 (if (s_1.1 3 i) ≤ 0 then s_1 else (c_crack_t21n σ i s_1)))
def c_crack_s (σ : Sg) (i : Nat) : Sg := (c_crack_k10_s σ i (si σ 6 (i) (((σ.1 6 i)) + (nI (1)))))
set_option maxHeartbeats 4000000 in
set_option maxRecDepth 100000 in
theorem cc_crack (l : Launch) (G : va_G) (ids : Nat → ClassId) (b i : Nat) (σ : Sg) : xV l yX1_crack wsX1_crack ({ frames := 0, cells := 0, slots := 0, locals := 0 } : Room) G ids [.ref (b)] (XBP G ids b i σ) (XBP G ids b i (c_crack_s σ i)) (bA b) := by
  unfold xV
  refine Met.ofW (cc := cX1_crack) (maxL := 2) (ret := none) (by decide) rfl ?_
  intro p e s m args below meth c s₁ B hml hv
  obtain ⟨rfl, hP, hK⟩ := hv
  have hx := B.exec
  have hb := B.bytes
  have hr := B.returns
  have hts := atoms_spec (ws := wsX1_crack) B.pre
  have hown : s.vm.findClass RX1 = some m.cls := findClass_of_methodNamed B.named
  have hlocks := B.notSynchronized
  have hS : va_S (bA b) s.heap s.heap [] := va_S.rf
  have hin_wsX10 : ∀ w ∈ wsX10, w ∈ wsX1_crack := fun w h => List.mem_cons_of_mem _ (List.mem_append_left _ (List.mem_append_right _ h))
  have hin_wsX40 : ∀ w ∈ wsX40, w ∈ wsX1_crack := fun w h => List.mem_cons_of_mem _ (List.mem_append_right _ h)
  have hl := lv_entry ([.ref (b)]) (n := 2) (Nat.le_of_ble_eq_true rfl)
  rw [lg_entry_eq]
  generalize (lg_sl ([.ref (b)]) ++ List.replicate (2 - (lg_sl ([.ref (b)])).length) Slot.unset).toArray = ls at hl ⊢
  have hl : lv_has ls 2 [(0, .ref (b))] := hl
  refine w_named (fun WW hWW => ?_)
  refine lv_aload_n hx hb dX1_crack_0 rfl (lv_at hl 0 rfl) ?_
  refine lv_dup hx hb dX1_crack_1 rfl ?_
  refine x_get (C := RX1) (T := TX1) (N := 7) (ci := 2) (fs := (cfs b i σ)) (v := .int ((σ.1 6 i))) hx hb hts hin_wsX10 hown hK hP.1 rfl 5 (by decide) (index := 59) (List.mem_of_getElem? (i := 1) rfl) rfl dX1_crack_2 ?_
  refine lv_iconst (v := nI (1)) hx hb dX1_crack_5 (by decide) ?_
  refine lv_iadd (x := (σ.1 6 i)) (y := nI (1)) hx hb dX1_crack_6 ?_
  refine b_put (v := ((σ.1 6 i)) + (nI (1))) hx hb hts hin_wsX10 hown hK hP (by unfold bA; omega) hS 5 6 (by decide) (index := 59) (List.mem_of_getElem? (i := 1) rfl) dX1_crack_7 (fun H locs hP _ hS => ?_)
  obtain ⟨s_1, e_2⟩ : ∃ z : Sg, z = (si σ 6 (i) (((σ.1 6 i)) + (nI (1)))) := ⟨_, rfl⟩
  rw [← e_2] at hP
  have hR_3 : c_crack_s σ i = c_crack_k10_s σ i s_1 := (by have q_ := e_2.symm; subst q_; unfold c_crack_s; rfl)
  refine lv_aload_n hx hb dX1_crack_10 rfl (lv_at hl 0 rfl) ?_
  refine x_get (C := RX1) (T := TX1) (N := 7) (ci := 2) (fs := (cfs b i s_1)) (v := .ref (b + 1)) hx hb hts hin_wsX10 hown hK hP.1 rfl 0 (by decide) (index := 14) (List.mem_of_getElem? (i := 2) rfl) rfl dX1_crack_11 ?_
  refine lv_iconst (v := nI (1)) hx hb dX1_crack_14 (by decide) ?_
  refine x_aald (r := b + 2 + 1) hx hb hK 4 rfl hP.2.1 (vp_in_nI (by omega) (by decide)) (by rw [nI_clamp (by omega)]) dX1_crack_15 ?_
  refine lv_astore_n (lv' := [(1, .ref (b + 2 + 1)), (0, .ref (b))]) hx hb dX1_crack_16 rfl hl (by decide) rfl (fun ls hl => ?_)
  refine lv_aload_n hx hb dX1_crack_17 rfl (lv_at hl 1 rfl) ?_
  refine x_get (C := RX1) (T := TX1) (N := 7) (ci := 2) (fs := (cfs b i s_1)) (v := .int ((s_1.1 3 i))) hx hb hts hin_wsX10 hown hK hP.1 rfl 2 (by decide) (index := 30) (List.mem_of_getElem? (i := 3) rfl) rfl dX1_crack_18 ?_
  have J75_7 : ∀ (τ_6 : Sg), τ_6 = (if (s_1.1 3 i) ≤ 0 then s_1 else (c_crack_t21n σ i s_1)) → ∀ (H : Heap) (locs : List Loc), XBP G ids b i τ_6 H → va_S (bA b) s.heap H locs → ∀ (ls : Array Slot), lv_has ls 2 [(1, .ref (b + 2 + 1)), (0, .ref (b))] → WW H locs 0 0 (F0 m 75 ls []) := by
    intro τ_6 h_8 H locs hP hS ls hl
    refine (hWW _ _ _ _ _).mpr ?_
    have hR_9 : c_crack_s σ i = c_crack_j75_s σ i s_1 τ_6 := (Eq.trans hR_3 (by have q_ := h_8.symm; subst q_; unfold c_crack_k10_s; rfl))
    have hsp : τ_6 = c_crack_s σ i := (Eq.trans (by unfold c_crack_j75_s; rfl) hR_9.symm)
    rw [hsp] at hP
    exact x_vret hx hb hr hlocks hP hS dX1_crack_75
  refine lv_if_le (x := (s_1.1 3 i)) (tgt := 75) hx hb dX1_crack_21 (by decide) (fun c_4 => ?_) (fun c_4 => ?_)
  · exact (hWW _ _ _ _ _).mp (J75_7 _ (by simp only [if_pos c_4]) _ _ hP hS _ (lv_sub hl [0, 1] rfl))
  · refine lv_aload_n hx hb dX1_crack_24 rfl (lv_at hl 0 rfl) ?_
    refine x_get (C := RX4) (T := TX4) (N := 4) (ci := 5) (fs := (lfs (5 * i + 1) s_1)) (v := .int ((s_1.1 9 (5 * i + 1)))) hx hb hts hin_wsX40 hown hK (hP.2.2 1 (by omega)) rfl 1 (by decide) (index := 62) (List.mem_of_getElem? (i := 4) rfl) rfl dX1_crack_25 ?_
    refine lv_bipush (v := nI (9)) hx hb dX1_crack_28 (by decide) ?_
    refine lv_icmp_ge (x := (s_1.1 9 (5 * i + 1))) (y := nI (9)) (tgt := 75) hx hb dX1_crack_30 (by decide) (fun c_10 => ?_) (fun c_10 => ?_)
    · have q_11 : s_1 = c_crack_t21n σ i s_1 := (by unfold c_crack_t21n; simp only [if_pos c_10])
      exact (hWW _ _ _ _ _).mp (J75_7 _ (by rw [if_neg c_4]; exact q_11) _ _ hP hS _ (lv_sub hl [0, 1] rfl))
    · refine lv_aload_n hx hb dX1_crack_33 rfl (lv_at hl 1 rfl) ?_
      refine lv_dup hx hb dX1_crack_34 rfl ?_
      refine x_get (C := RX1) (T := TX1) (N := 7) (ci := 2) (fs := (cfs b i s_1)) (v := .int ((s_1.1 3 i))) hx hb hts hin_wsX10 hown hK hP.1 rfl 2 (by decide) (index := 30) (List.mem_of_getElem? (i := 3) rfl) rfl dX1_crack_35 ?_
      refine lv_iconst (v := nI (1)) hx hb dX1_crack_38 (by decide) ?_
      refine lv_isub (x := (s_1.1 3 i)) (y := nI (1)) hx hb dX1_crack_39 ?_
      refine b_put (v := ((s_1.1 3 i)) - (nI (1))) hx hb hts hin_wsX10 hown hK hP (by unfold bA; omega) hS 2 3 (by decide) (index := 30) (List.mem_of_getElem? (i := 3) rfl) dX1_crack_40 (fun H locs hP _ hS => ?_)
      obtain ⟨s_12, e_13⟩ : ∃ z : Sg, z = (si s_1 3 (i) (((s_1.1 3 i)) - (nI (1)))) := ⟨_, rfl⟩
      rw [← e_13] at hP
      have hR_14 : c_crack_t21n σ i s_1 = c_crack_k43 σ i s_1 s_12 := (by have q_ := e_13.symm; subst q_; unfold c_crack_t21n; simp only [if_neg c_10])
      refine lv_aload_n hx hb dX1_crack_43 rfl (lv_at hl 1 rfl) ?_
      refine lv_dup hx hb dX1_crack_44 rfl ?_
      refine x_get (C := RX1) (T := TX1) (N := 7) (ci := 2) (fs := (cfs b i s_12)) (v := .int ((s_12.1 2 i))) hx hb hts hin_wsX10 hown hK hP.1 rfl 1 (by decide) (index := 20) (List.mem_of_getElem? (i := 5) rfl) rfl dX1_crack_45 ?_
      refine lv_iconst (v := nI (1)) hx hb dX1_crack_48 (by decide) ?_
      refine lv_iadd (x := (s_12.1 2 i)) (y := nI (1)) hx hb dX1_crack_49 ?_
      refine b_put (v := ((s_12.1 2 i)) + (nI (1))) hx hb hts hin_wsX10 hown hK hP (by unfold bA; omega) hS 1 2 (by decide) (index := 20) (List.mem_of_getElem? (i := 5) rfl) dX1_crack_50 (fun H locs hP _ hS => ?_)
      obtain ⟨s_15, e_16⟩ : ∃ z : Sg, z = (si s_12 2 (i) (((s_12.1 2 i)) + (nI (1)))) := ⟨_, rfl⟩
      rw [← e_16] at hP
      have hR_17 : c_crack_t21n σ i s_1 = c_crack_k53 σ i s_1 s_12 s_15 := (Eq.trans hR_14 (by have q_ := e_16.symm; subst q_; unfold c_crack_k43; rfl))
      refine lv_aload_n hx hb dX1_crack_53 rfl (lv_at hl 0 rfl) ?_
      refine lv_dup hx hb dX1_crack_54 rfl ?_
      refine x_get (C := RX4) (T := TX4) (N := 4) (ci := 5) (fs := (lfs (5 * i + 1) s_15)) (v := .int ((s_15.1 9 (5 * i + 1)))) hx hb hts hin_wsX40 hown hK (hP.2.2 1 (by omega)) rfl 1 (by decide) (index := 62) (List.mem_of_getElem? (i := 4) rfl) rfl dX1_crack_55 ?_
      refine lv_iconst (v := nI (1)) hx hb dX1_crack_58 (by decide) ?_
      refine lv_iadd (x := (s_15.1 9 (5 * i + 1))) (y := nI (1)) hx hb dX1_crack_59 ?_
      refine b_putL (j := 1) (v := ((s_15.1 9 (5 * i + 1))) + (nI (1))) hx hb hts hin_wsX40 hown hK hP (by omega) (by unfold bA; omega) hS 1 (by decide) (index := 62) (List.mem_of_getElem? (i := 4) rfl) dX1_crack_60 (fun H locs hP _ hS => ?_)
      obtain ⟨s_18, e_19⟩ : ∃ z : Sg, z = (si s_15 9 (5 * i + 1) (((s_15.1 9 (5 * i + 1))) + (nI (1)))) := ⟨_, rfl⟩
      rw [← e_19] at hP
      have hR_20 : c_crack_t21n σ i s_1 = c_crack_k63 σ i s_1 s_12 s_15 s_18 := (Eq.trans hR_17 (by have q_ := e_19.symm; subst q_; unfold c_crack_k53; rfl))
      refine lv_aload_n hx hb dX1_crack_63 rfl (lv_at hl 0 rfl) ?_
      refine lv_dup hx hb dX1_crack_64 rfl ?_
      refine x_get (C := RX4) (T := TX4) (N := 4) (ci := 5) (fs := (lfs (5 * i + 1) s_18)) (v := .int ((s_18.1 10 (5 * i + 1)))) hx hb hts hin_wsX40 hown hK (hP.2.2 1 (by omega)) rfl 2 (by decide) (index := 53) (List.mem_of_getElem? (i := 6) rfl) rfl dX1_crack_65 ?_
      refine lv_sipush (v := nI (1000)) hx hb dX1_crack_68 (by decide) ?_
      refine lv_iadd (x := (s_18.1 10 (5 * i + 1))) (y := nI (1000)) hx hb dX1_crack_71 ?_
      refine b_putL (j := 1) (v := ((s_18.1 10 (5 * i + 1))) + (nI (1000))) hx hb hts hin_wsX40 hown hK hP (by omega) (by unfold bA; omega) hS 2 (by decide) (index := 53) (List.mem_of_getElem? (i := 6) rfl) dX1_crack_72 (fun H locs hP _ hS => ?_)
      have q_21 : (si s_18 10 (5 * i + 1) (((s_18.1 10 (5 * i + 1))) + (nI (1000)))) = c_crack_t21n σ i s_1 := (Eq.trans (by unfold c_crack_k63; rfl) hR_20.symm)
      exact (hWW _ _ _ _ _).mp (J75_7 _ (by rw [if_neg c_4]; exact q_21) _ _ hP hS _ (lv_sub hl [0, 1] rfl))
