def k_forgetGathered_x2_s (σ : Sg) (z2 : Sg) : Sg := z2
def k_forgetGathered_k18 (i2 : Nat) (z2 : Sg) (s_3 : Sg) : Sg := s_3
def k_forgetGathered_b2  (i2 : Nat) (z2 : Sg) : Sg := (k_forgetGathered_k18 i2 z2 (si z2 33 (i2) (vp_nar .boolean (nI (0)))))
def k_forgetGathered_s (σ : Sg) : Sg := (k_forgetGathered_x2_s σ (lp (k_forgetGathered_b2) 25 σ))
set_option maxHeartbeats 4000000 in
set_option maxRecDepth 100000 in
theorem ck_forgetGathered (l : Launch) (G : va_G) (ids : Nat → ClassId) (o z tS tE : Nat) (d : Nat → Nat → Nat) (w : Nat → Nat) (σ : Sg) : yV l yX5_forgetGathered wsX5_forgetGathered ({ frames := 0, cells := 0, slots := 0, locals := 0 } : Room) G ids tS tE [.ref (o)] (CPic G ids o z tE d w σ) (CPic G ids o z tE d w (k_forgetGathered_s σ)) (cpG o z) := by
  unfold yV
  refine Met.ofW (cc := cX5_forgetGathered) (maxL := 2) (ret := none) (by decide) rfl ?_
  intro p e s m args below meth c s₁ B hml hv
  obtain ⟨rfl, hP, hK, hZ⟩ := hv
  have hx := B.exec
  have hb := B.bytes
  have hr := B.returns
  have hts := atoms_spec (ws := wsX5_forgetGathered) B.pre
  have hown : s.vm.findClass RX5 = some m.cls := findClass_of_methodNamed B.named
  have hlocks := B.notSynchronized
  have hS : va_S (cpG o z) s.heap s.heap [] := va_S.rf
  have hin_wsX50 : ∀ w ∈ wsX50, w ∈ wsX5_forgetGathered := fun w h => List.mem_cons_of_mem _ (List.mem_append_right _ h)
  have hl := lv_entry ([.ref (o)]) (n := 2) (Nat.le_of_ble_eq_true rfl)
  rw [lg_entry_eq]
  generalize (lg_sl ([.ref (o)]) ++ List.replicate (2 - (lg_sl ([.ref (o)])).length) Slot.unset).toArray = ls at hl ⊢
  have hl : lv_has ls 2 [(0, .ref (o))] := hl
  refine w_named (fun WW hWW => ?_)
  refine lv_iconst (v := nI (0)) hx hb dX5_forgetGathered_0 (by decide) ?_
  refine lv_istore_n (lv' := [(1, .int (nI (0))), (0, .ref (o))]) hx hb dX5_forgetGathered_1 rfl hl (by decide) rfl (fun ls hl => ?_)
  have L2 : ∀ (n2 i2 : Nat), i2 ≤ 25 → 25 + 1 ≤ i2 + n2 → ∀ (z2 : Sg), z2 = lp (k_forgetGathered_b2) i2 σ → ∀ (H : Heap) (locs : List Loc), CPic G ids o z tE d w z2 H → va_S (cpG o z) s.heap H locs → ∀ (ls : Array Slot), lv_has ls 2 [(1, .int (nI (i2))), (0, .ref (o))] → WW H locs 0 0 (F0 m 2 ls []) := by
    intro n2
    induction n2 with
    | zero => intro i2 h1 h2; exact absurd h2 (by omega)
    | succ n2 ih2 =>
      intro i2 hi2 hn2 z2 hz2  H locs hP hS ls hl
      refine (hWW _ _ _ _ _).mpr ?_
      refine lv_iload_n hx hb dX5_forgetGathered_2 rfl (lv_at hl 0 rfl) ?_
      refine lv_aload_n hx hb dX5_forgetGathered_3 rfl (lv_at hl 1 rfl) ?_
      refine x_get (C := RX5) (T := TX5) (N := 10) (ci := 6) (fs := (cpOf o z2)) (v := .ref (o + 8)) hx hb hts hin_wsX50 hown hK hP.main rfl 9 (by decide) (index := 39) (List.mem_of_getElem? (i := 1) rfl) rfl dX5_forgetGathered_4 ?_
      refine x_alen hx hb hK 1 rfl hP.gath (n := 25) rfl dX5_forgetGathered_7 ?_
      refine n_icmp_ge (x := i2) (y := 25) (tgt := 24) hx hb (by omega) (by omega) dX5_forgetGathered_8 (by decide) (fun c_1 => ?_) (fun c_1 => ?_)
      · have hiN : 25 = i2 := by omega
        subst hiN
        have hR_2 : k_forgetGathered_s σ = k_forgetGathered_x2_s σ z2 := (by have q_ := hz2.symm; subst q_; unfold k_forgetGathered_s; rfl)
        have hsp : z2 = k_forgetGathered_s σ := (Eq.trans (by unfold k_forgetGathered_x2_s; rfl) hR_2.symm)
        rw [hsp] at hP
        exact x_vret hx hb hr hlocks hP hS dX5_forgetGathered_24
      · refine lv_aload_n hx hb dX5_forgetGathered_11 rfl (lv_at hl 1 rfl) ?_
        refine x_get (C := RX5) (T := TX5) (N := 10) (ci := 6) (fs := (cpOf o z2)) (v := .ref (o + 8)) hx hb hts hin_wsX50 hown hK hP.main rfl 9 (by decide) (index := 39) (List.mem_of_getElem? (i := 1) rfl) rfl dX5_forgetGathered_12 ?_
        refine lv_iload_n hx hb dX5_forgetGathered_15 rfl (lv_at hl 0 rfl) ?_
        refine lv_iconst (v := nI (0)) hx hb dX5_forgetGathered_16 (by decide) ?_
        refine p_gathN (x := nI (0)) hx hb hK hP hS (j := i2) (by omega) dX5_forgetGathered_17 (fun H locs hP hS => ?_)
        obtain ⟨s_3, e_4⟩ : ∃ z : Sg, z = (si z2 33 (i2) (vp_nar .boolean (nI (0)))) := ⟨_, rfl⟩
        rw [← e_4] at hP
        have hR_5 : k_forgetGathered_b2 i2 z2 = k_forgetGathered_k18 i2 z2 s_3 := (by have q_ := e_4.symm; subst q_; unfold k_forgetGathered_b2; rfl)
        refine n_iinc (x := i2) (dN := 1) (k := 0) (lv' := [(1, .int (nI (i2 + 1))), (0, .ref (o))]) hx hb dX5_forgetGathered_18 hl rfl (by decide) rfl (fun ls hl => ?_)
        refine lv_goto (tgt := 2) hx hb dX5_forgetGathered_21 (by decide) ?_
        exact (hWW _ _ _ _ _).mp (ih2 (i2 + 1) (by omega) (by omega) (s_3) (by show _ = k_forgetGathered_b2 i2 (lp (k_forgetGathered_b2) i2 σ); rw [← hz2]; exact (Eq.trans (by unfold k_forgetGathered_k18; rfl) hR_5.symm))  _ _ hP hS _ (lv_sub hl [0, 1] rfl))
  exact (hWW _ _ _ _ _).mp (L2 (25 + 1) 0 (Nat.zero_le _) (by omega) σ rfl  _ _ hP hS _ (lv_sub hl [0, 1] rfl))
