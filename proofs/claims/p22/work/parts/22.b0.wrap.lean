theorem kxK_moss (σ : Sg) (cell : Int32) (mo : Int32) : xK [1, 2] (kx_moss σ cell mo) := by
  unfold kx_moss
  repeat' first | exact xK_0 | exact xK_Ix (by decide) | exact xK_Rg (by decide) | exact xK_St (by decide) | exact Or.inr (by decide) | refine xK_s ?_ ?_ | refine xK_if ?_ ?_
set_option maxHeartbeats 4000000 in
set_option maxRecDepth 100000 in
theorem lc_moss (l : Launch) (hl0 : l.stackTraces = false) (G : va_G) (ids : Nat → ClassId) (tS tE o z : Nat) (σ : Sg) (cell : Int32) (mo : Int32) : lU l yL_moss wsL_moss ({ frames := 8, cells := 2, slots := 12, locals := 145 } : Room) G ids tS tE [.ref (o), .int (cell), .int (mo)] o z σ (kx_moss σ cell mo) ((k_moss σ cell mo).toInt64) (k_moss_s σ cell mo) 2 12 := by
  unfold lU
  refine lw_ofWH (cc := cL_moss) (maxL := 4) (ret := some .long) (hh := [(0, 7, 8, 15), (0, 7, 13, 19)]) (by decide) rfl ?_
  intro p e s m args below meth c s₁ B hml hv
  obtain ⟨rfl, ⟨⟨d, w, hP, hWz⟩, hzs⟩, hK, hZ, hN⟩ := hv
  have hW0 := wOK_z hP hWz
  have hcx := cx_moss l hl0 G ids o z tS tE d w σ cell mo
  have hkx := xK_2 (kxK_moss σ cell mo)
  obtain ⟨X, hX⟩ : ∃ X : Nat, X = kx_moss σ cell mo := ⟨_, rfl⟩
  rw [← hX] at hcx hkx ⊢
  clear hX
  have hx := B.exec
  have hb := B.bytes
  have hr := B.returns
  have hts := atoms_spec (ws := wsL_moss) B.pre
  have hown : s.vm.findClass RL = some m.cls := findClass_of_methodNamed B.named
  have hlocks := B.notSynchronized
  have hT : c.exceptionTable.toList = tableOf [(0, 7, 8, 15), (0, 7, 13, 19)] := vx_table (x := yL_moss) B (hts _ List.mem_cons_self)
  have hS : va_S (cpG o z) s.heap s.heap [] := va_S.rf
  have hl := lv_entry ([.ref (o), .int (cell), .int (mo)]) (n := 4) (Nat.le_of_ble_eq_true rfl)
  rw [lg_entry_eq]
  generalize (lg_sl ([.ref (o), .int (cell), .int (mo)]) ++ List.replicate (4 - (lg_sl ([.ref (o), .int (cell), .int (mo)])).length) Slot.unset).toArray = ls at hl ⊢
  have hl : lv_has ls 4 [(0, .ref (o)), (1, .int (cell)), (2, .int (mo))] := hl
  refine lv_aload_n hx hb dL_moss_0 rfl (lv_at hl 0 rfl) ?_
  refine lv_iload_n hx hb dL_moss_1 rfl (lv_at hl 1 rfl) ?_
  refine lv_iload_n hx hb dL_moss_2 rfl (lv_at hl 2 rfl) ?_
  refine vx_calli (vx_runV (As := [.int (cell), .int (mo)]) (rest := []) ⟨hx, hb, hml, hown, hts⟩ hcx (cwV 2 hts gL_moss_X5_moss rfl rfl rfl (by decide +kernel) ⟨Nat.le_of_ble_eq_true rfl, Nat.le_of_ble_eq_true rfl⟩) ⟨yPc_blind, va_recv hK (va_P.one hP.main) (ci := 6) (q0 := 0) rfl rfl, fun U hU hW => ⟨rfl, by rw [hU]; exact hP, va_K.moved hW.alike hK, cST_at hZ hS hU hW.alike⟩⟩ rfl rfl hl.1 rfl (lv_room (Nat.le_of_ble_eq_true rfl)) dL_moss_3 ⟨Nat.le_of_ble_eq_true rfl, Nat.le_of_ble_eq_true rfl⟩) hS (fun q _ h => h) (fun q h => h) (fun q _ h => h) (fun E ce q9 u t H1 locs1 ht hvm hpx hbx hz1 hk hS hce hcv hcl => ?_) (fun r u t H1 locs1 ht hvm hw hB hz1 hk hS => ?_)
  · obtain ⟨hE9, hP1⟩ := hbx
    have q_ := hE9.symm
    subst q_
    rw [ht] at hP1
    rcases hkx with h | h | h
    · exact absurd h hpx
    · subst h
      refine vx_catch (own := RL) (name := "java/lang/IndexOutOfBoundsException") (E := xE 1) hown (tableOf []) ⟨0, 7, 8, 15⟩ (tableOf [(0, 7, 13, 19)]) hT (fun z9 hz9 => absurd hz9 (List.not_mem_nil)) (by decide) (by decide) (hts _ (List.mem_of_getElem? (i := 1) rfl)) (va_Nw.use (xNW_tab _ (List.mem_of_getElem? (i := 0) rfl)) (hZ.2.2.2.2.1 _ (List.mem_of_getElem? (i := 0) rfl))) hce hcv hcl ?_
      refine lv_astore_n (lv' := [(3, .ref (q9)), (0, .ref (o)), (1, .int (cell)), (2, .int (mo))]) hx hb dL_moss_8 rfl hl (by decide) rfl (fun ls hl => ?_)
      refine lv_ldc2 (own := RL) (v := -9000000000000000001) hx hb hown (hts _ (List.mem_of_getElem? (i := 3) rfl)) dL_moss_9 ?_
      exact w_lret (Pic1 := fun H : Heap => lPic G ids o z tE (if 1 = 0 then (k_moss_s σ cell mo) else σ) H) hx hb hr hlocks (Nat.le_of_ble_eq_true rfl) (Nat.le_of_ble_eq_true rfl) (by rw [if_neg (by decide)]; exact ⟨d, w, hP1, hWz⟩) hS dL_moss_12 rfl
    · subst h
      refine vx_catch (own := RL) (name := "java/lang/IllegalArgumentException") (E := xE 2) hown (tableOf [(0, 7, 8, 15)]) ⟨0, 7, 13, 19⟩ (tableOf []) hT (fun z9 hz9 => by rw [show z9 = ⟨0, 7, 8, 15⟩ from List.mem_singleton.mp hz9]; exact Or.inr ⟨by decide, _, (hts _ (List.mem_of_getElem? (i := 1) rfl)), hN.1⟩) (by decide) (by decide) (hts _ (List.mem_of_getElem? (i := 2) rfl)) (va_Nw.use (xNW_tab _ (List.mem_of_getElem? (i := 1) rfl)) (hZ.2.2.2.2.1 _ (List.mem_of_getElem? (i := 1) rfl))) hce hcv hcl ?_
      refine lv_astore_n (lv' := [(3, .ref (q9)), (0, .ref (o)), (1, .int (cell)), (2, .int (mo))]) hx hb dL_moss_13 rfl hl (by decide) rfl (fun ls hl => ?_)
      refine lv_ldc2 (own := RL) (v := -9000000000000000002) hx hb hown (hts _ (List.mem_of_getElem? (i := 4) rfl)) dL_moss_14 ?_
      exact w_lret (Pic1 := fun H : Heap => lPic G ids o z tE (if 2 = 0 then (k_moss_s σ cell mo) else σ) H) hx hb hr hlocks (Nat.le_of_ble_eq_true rfl) (Nat.le_of_ble_eq_true rfl) (by rw [if_neg (by decide)]; exact ⟨d, w, hP1, hWz⟩) hS dL_moss_17 rfl
  · obtain ⟨hX0, hrv⟩ := hw
    have q_ := hrv.symm
    subst q_
    rw [ht] at hB
    clear hcx hkx hk
    subst hX0
    refine lv_i2l (v := (k_moss σ cell mo).toInt64) hx hb dL_moss_6 rfl ?_
    exact w_lret (Pic1 := fun H : Heap => lPic G ids o z tE (if 0 = 0 then (k_moss_s σ cell mo) else σ) H) hx hb hr hlocks (Nat.le_of_ble_eq_true rfl) (Nat.le_of_ble_eq_true rfl) (by rw [if_pos rfl]; exact ⟨d, w, hB, hWz⟩) hS dL_moss_7 rfl
theorem kxK_ground (σ : Sg) (cell : Int32) (layer : Int32) (p0 : Int32) (e0 : Int32) (g0 : Int32) (c0 : Int32) : xK [1, 2] (kx_ground σ cell layer p0 e0 g0 c0) := by
  unfold kx_ground
  repeat' first | exact xK_0 | exact xK_Ix (by decide) | exact xK_Rg (by decide) | exact xK_St (by decide) | exact Or.inr (by decide) | refine xK_s ?_ ?_ | refine xK_if ?_ ?_
set_option maxHeartbeats 4000000 in
set_option maxRecDepth 100000 in
theorem lc_ground (l : Launch) (hl0 : l.stackTraces = false) (G : va_G) (ids : Nat → ClassId) (tS tE o z : Nat) (σ : Sg) (cell : Int32) (layer : Int32) (p0 : Int32) (e0 : Int32) (g0 : Int32) (c0 : Int32) : lU l yL_ground wsL_ground ({ frames := 8, cells := 6, slots := 36, locals := 150 } : Room) G ids tS tE [.ref (o), .int (cell), .int (layer), .int (p0), .int (e0), .int (g0), .int (c0)] o z σ (kx_ground σ cell layer p0 e0 g0 c0) (0 : Int64) (k_ground_s σ cell layer p0 e0 g0 c0) 6 36 := by
  unfold lU
  refine lw_ofWH (cc := cL_ground) (maxL := 8) (ret := some .long) (hh := [(0, 14, 15, 15), (0, 14, 21, 19)]) (by decide) rfl ?_
  intro p e s m args below meth c s₁ B hml hv
  obtain ⟨rfl, ⟨⟨d, w, hP, hWz⟩, hzs⟩, hK, hZ, hN⟩ := hv
  have hW0 := wOK_z hP hWz
  have hcx := cx_ground l hl0 G ids o z tS tE d w σ cell layer p0 e0 g0 c0
  have hkx := xK_2 (kxK_ground σ cell layer p0 e0 g0 c0)
  obtain ⟨X, hX⟩ : ∃ X : Nat, X = kx_ground σ cell layer p0 e0 g0 c0 := ⟨_, rfl⟩
  rw [← hX] at hcx hkx ⊢
  clear hX
  have hx := B.exec
  have hb := B.bytes
  have hr := B.returns
  have hts := atoms_spec (ws := wsL_ground) B.pre
  have hown : s.vm.findClass RL = some m.cls := findClass_of_methodNamed B.named
  have hlocks := B.notSynchronized
  have hT : c.exceptionTable.toList = tableOf [(0, 14, 15, 15), (0, 14, 21, 19)] := vx_table (x := yL_ground) B (hts _ List.mem_cons_self)
  have hS : va_S (cpG o z) s.heap s.heap [] := va_S.rf
  have hl := lv_entry ([.ref (o), .int (cell), .int (layer), .int (p0), .int (e0), .int (g0), .int (c0)]) (n := 8) (Nat.le_of_ble_eq_true rfl)
  rw [lg_entry_eq]
  generalize (lg_sl ([.ref (o), .int (cell), .int (layer), .int (p0), .int (e0), .int (g0), .int (c0)]) ++ List.replicate (8 - (lg_sl ([.ref (o), .int (cell), .int (layer), .int (p0), .int (e0), .int (g0), .int (c0)])).length) Slot.unset).toArray = ls at hl ⊢
  have hl : lv_has ls 8 [(0, .ref (o)), (1, .int (cell)), (2, .int (layer)), (3, .int (p0)), (4, .int (e0)), (5, .int (g0)), (6, .int (c0))] := hl
  refine lv_aload_n hx hb dL_ground_0 rfl (lv_at hl 0 rfl) ?_
  refine lv_iload_n hx hb dL_ground_1 rfl (lv_at hl 1 rfl) ?_
  refine lv_iload_n hx hb dL_ground_2 rfl (lv_at hl 2 rfl) ?_
  refine lv_iload_n hx hb dL_ground_3 rfl (lv_at hl 3 rfl) ?_
  refine lv_iload hx hb dL_ground_4 (lv_at hl 4 rfl) ?_
  refine lv_iload hx hb dL_ground_6 (lv_at hl 5 rfl) ?_
  refine lv_iload hx hb dL_ground_8 (lv_at hl 6 rfl) ?_
  refine vx_callv (vx_runV (As := [.int (cell), .int (layer), .int (p0), .int (e0), .int (g0), .int (c0)]) (rest := []) ⟨hx, hb, hml, hown, hts⟩ hcx (cwV 6 hts gL_ground_X5_ground rfl rfl rfl (by decide +kernel) ⟨Nat.le_of_ble_eq_true rfl, Nat.le_of_ble_eq_true rfl⟩) ⟨yPc_blind, va_recv hK (va_P.one hP.main) (ci := 6) (q0 := 0) rfl rfl, fun U hU hW => ⟨rfl, by rw [hU]; exact hP, va_K.moved hW.alike hK, cST_at hZ hS hU hW.alike⟩⟩ rfl rfl hl.1 rfl (lv_room (Nat.le_of_ble_eq_true rfl)) dL_ground_10 ⟨Nat.le_of_ble_eq_true rfl, Nat.le_of_ble_eq_true rfl⟩) hS (fun q _ h => h) (fun q h => h) (fun q _ h => h) (fun E ce q9 u t H1 locs1 ht hvm hpx hbx hz1 hk hS hce hcv hcl => ?_) (fun u t H1 locs1 ht hvm hw hB hz1 hk hS => ?_)
  · obtain ⟨hE9, hP1⟩ := hbx
    have q_ := hE9.symm
    subst q_
    rw [ht] at hP1
    rcases hkx with h | h | h
    · exact absurd h hpx
    · subst h
      refine vx_catch (own := RL) (name := "java/lang/IndexOutOfBoundsException") (E := xE 1) hown (tableOf []) ⟨0, 14, 15, 15⟩ (tableOf [(0, 14, 21, 19)]) hT (fun z9 hz9 => absurd hz9 (List.not_mem_nil)) (by decide) (by decide) (hts _ (List.mem_of_getElem? (i := 1) rfl)) (va_Nw.use (xNW_tab _ (List.mem_of_getElem? (i := 0) rfl)) (hZ.2.2.2.2.1 _ (List.mem_of_getElem? (i := 0) rfl))) hce hcv hcl ?_
      refine lv_astore (lv' := [(7, .ref (q9)), (0, .ref (o)), (1, .int (cell)), (2, .int (layer)), (3, .int (p0)), (4, .int (e0)), (5, .int (g0)), (6, .int (c0))]) hx hb dL_ground_15 hl (by decide) rfl (fun ls hl => ?_)
      refine lv_ldc2 (own := RL) (v := -9000000000000000001) hx hb hown (hts _ (List.mem_of_getElem? (i := 3) rfl)) dL_ground_17 ?_
      exact w_lret (Pic1 := fun H : Heap => lPic G ids o z tE (if 1 = 0 then (k_ground_s σ cell layer p0 e0 g0 c0) else σ) H) hx hb hr hlocks (Nat.le_of_ble_eq_true rfl) (Nat.le_of_ble_eq_true rfl) (by rw [if_neg (by decide)]; exact ⟨d, w, hP1, hWz⟩) hS dL_ground_20 rfl
    · subst h
      refine vx_catch (own := RL) (name := "java/lang/IllegalArgumentException") (E := xE 2) hown (tableOf [(0, 14, 15, 15)]) ⟨0, 14, 21, 19⟩ (tableOf []) hT (fun z9 hz9 => by rw [show z9 = ⟨0, 14, 15, 15⟩ from List.mem_singleton.mp hz9]; exact Or.inr ⟨by decide, _, (hts _ (List.mem_of_getElem? (i := 1) rfl)), hN.1⟩) (by decide) (by decide) (hts _ (List.mem_of_getElem? (i := 2) rfl)) (va_Nw.use (xNW_tab _ (List.mem_of_getElem? (i := 1) rfl)) (hZ.2.2.2.2.1 _ (List.mem_of_getElem? (i := 1) rfl))) hce hcv hcl ?_
      refine lv_astore (lv' := [(7, .ref (q9)), (0, .ref (o)), (1, .int (cell)), (2, .int (layer)), (3, .int (p0)), (4, .int (e0)), (5, .int (g0)), (6, .int (c0))]) hx hb dL_ground_21 hl (by decide) rfl (fun ls hl => ?_)
      refine lv_ldc2 (own := RL) (v := -9000000000000000002) hx hb hown (hts _ (List.mem_of_getElem? (i := 4) rfl)) dL_ground_23 ?_
      exact w_lret (Pic1 := fun H : Heap => lPic G ids o z tE (if 2 = 0 then (k_ground_s σ cell layer p0 e0 g0 c0) else σ) H) hx hb hr hlocks (Nat.le_of_ble_eq_true rfl) (Nat.le_of_ble_eq_true rfl) (by rw [if_neg (by decide)]; exact ⟨d, w, hP1, hWz⟩) hS dL_ground_26 rfl
  · have hX0 : X = 0 := hw
    rw [ht] at hB
    clear hcx hkx hk
    subst hX0
    refine lv_lconst (v := 0) hx hb dL_ground_13 (by decide) ?_
    exact w_lret (Pic1 := fun H : Heap => lPic G ids o z tE (if 0 = 0 then (k_ground_s σ cell layer p0 e0 g0 c0) else σ) H) hx hb hr hlocks (Nat.le_of_ble_eq_true rfl) (Nat.le_of_ble_eq_true rfl) (by rw [if_pos rfl]; exact ⟨d, w, hB, hWz⟩) hS dL_ground_14 rfl
theorem kxK_pass (σ : Sg) (months : Int32) (air : Int32) (snow : Int32) : xK [2, 3] (kx_pass σ months air snow) := by
  unfold kx_pass
  repeat' first | exact xK_0 | exact xK_Ix (by decide) | exact xK_Rg (by decide) | exact xK_St (by decide) | exact Or.inr (by decide) | refine xK_s ?_ ?_ | refine xK_if ?_ ?_
set_option maxHeartbeats 4000000 in
set_option maxRecDepth 100000 in
theorem lc_pass (l : Launch) (hl0 : l.stackTraces = false) (G : va_G) (ids : Nat → ClassId) (tS tE o z : Nat) (σ : Sg) (months : Int32) (air : Int32) (snow : Int32) (hO : cOK σ) (hR : cRd σ) : lU l yL_pass wsL_pass ({ frames := 8, cells := 4, slots := 24, locals := 154 } : Room) G ids tS tE [.ref (o), .int (months), .int (air), .int (snow)] o z σ (kx_pass σ months air snow) ((k_pass σ months air snow).toInt64) (k_pass_s σ months air snow) 4 24 := by
  unfold lU
  refine lw_ofWH (cc := cL_pass) (maxL := 5) (ret := some .long) (hh := [(0, 8, 9, 19), (0, 8, 15, 31)]) (by decide) rfl ?_
  intro p e s m args below meth c s₁ B hml hv
  obtain ⟨rfl, ⟨⟨d, w, hP, hWz⟩, hzs⟩, hK, hZ, hN⟩ := hv
  have hW0 := wOK_z hP hWz
  have hcx := cx_pass l hl0 G ids o z tS tE d w σ months air snow hO hR
  have hkx := xK_2 (kxK_pass σ months air snow)
  obtain ⟨X, hX⟩ : ∃ X : Nat, X = kx_pass σ months air snow := ⟨_, rfl⟩
  rw [← hX] at hcx hkx ⊢
  clear hX
  have hx := B.exec
  have hb := B.bytes
  have hr := B.returns
  have hts := atoms_spec (ws := wsL_pass) B.pre
  have hown : s.vm.findClass RL = some m.cls := findClass_of_methodNamed B.named
  have hlocks := B.notSynchronized
  have hT : c.exceptionTable.toList = tableOf [(0, 8, 9, 19), (0, 8, 15, 31)] := vx_table (x := yL_pass) B (hts _ List.mem_cons_self)
  have hS : va_S (cpG o z) s.heap s.heap [] := va_S.rf
  have hl := lv_entry ([.ref (o), .int (months), .int (air), .int (snow)]) (n := 5) (Nat.le_of_ble_eq_true rfl)
  rw [lg_entry_eq]
  generalize (lg_sl ([.ref (o), .int (months), .int (air), .int (snow)]) ++ List.replicate (5 - (lg_sl ([.ref (o), .int (months), .int (air), .int (snow)])).length) Slot.unset).toArray = ls at hl ⊢
  have hl : lv_has ls 5 [(0, .ref (o)), (1, .int (months)), (2, .int (air)), (3, .int (snow))] := hl
  refine lv_aload_n hx hb dL_pass_0 rfl (lv_at hl 0 rfl) ?_
  refine lv_iload_n hx hb dL_pass_1 rfl (lv_at hl 1 rfl) ?_
  refine lv_iload_n hx hb dL_pass_2 rfl (lv_at hl 2 rfl) ?_
  refine lv_iload_n hx hb dL_pass_3 rfl (lv_at hl 3 rfl) ?_
  refine vx_calli (vx_runV (As := [.int (months), .int (air), .int (snow)]) (rest := []) ⟨hx, hb, hml, hown, hts⟩ hcx (cwV 3 hts gL_pass_X5_pass rfl rfl rfl (by decide +kernel) ⟨Nat.le_of_ble_eq_true rfl, Nat.le_of_ble_eq_true rfl⟩) ⟨yPc_blind, va_recv hK (va_P.one hP.main) (ci := 6) (q0 := 0) rfl rfl, fun U hU hW => ⟨rfl, by rw [hU]; exact hP, va_K.moved hW.alike hK, cST_at hZ hS hU hW.alike⟩⟩ rfl rfl hl.1 rfl (lv_room (Nat.le_of_ble_eq_true rfl)) dL_pass_4 ⟨Nat.le_of_ble_eq_true rfl, Nat.le_of_ble_eq_true rfl⟩) hS (fun q _ h => h) (fun q h => h) (fun q _ h => h) (fun E ce q9 u t H1 locs1 ht hvm hpx hbx hz1 hk hS hce hcv hcl => ?_) (fun r u t H1 locs1 ht hvm hw hB hz1 hk hS => ?_)
  · obtain ⟨hE9, hP1⟩ := hbx
    have q_ := hE9.symm
    subst q_
    rw [ht] at hP1
    rcases hkx with h | h | h
    · exact absurd h hpx
    · subst h
      refine vx_catch (own := RL) (name := "java/lang/IllegalArgumentException") (E := xE 2) hown (tableOf []) ⟨0, 8, 9, 19⟩ (tableOf [(0, 8, 15, 31)]) hT (fun z9 hz9 => absurd hz9 (List.not_mem_nil)) (by decide) (by decide) (hts _ (List.mem_of_getElem? (i := 1) rfl)) (va_Nw.use (xNW_tab _ (List.mem_of_getElem? (i := 1) rfl)) (hZ.2.2.2.2.1 _ (List.mem_of_getElem? (i := 1) rfl))) hce hcv hcl ?_
      refine lv_astore (lv' := [(4, .ref (q9)), (0, .ref (o)), (1, .int (months)), (2, .int (air)), (3, .int (snow))]) hx hb dL_pass_9 hl (by decide) rfl (fun ls hl => ?_)
      refine lv_ldc2 (own := RL) (v := -9000000000000000002) hx hb hown (hts _ (List.mem_of_getElem? (i := 3) rfl)) dL_pass_11 ?_
      exact w_lret (Pic1 := fun H : Heap => lPic G ids o z tE (if 2 = 0 then (k_pass_s σ months air snow) else σ) H) hx hb hr hlocks (Nat.le_of_ble_eq_true rfl) (Nat.le_of_ble_eq_true rfl) (by rw [if_neg (by decide)]; exact ⟨d, w, hP1, hWz⟩) hS dL_pass_14 rfl
    · subst h
      refine vx_catch (own := RL) (name := "java/lang/IllegalStateException") (E := xE 3) hown (tableOf [(0, 8, 9, 19)]) ⟨0, 8, 15, 31⟩ (tableOf []) hT (fun z9 hz9 => by rw [show z9 = ⟨0, 8, 9, 19⟩ from List.mem_singleton.mp hz9]; exact Or.inr ⟨by decide, _, (hts _ (List.mem_of_getElem? (i := 1) rfl)), hN.2.2⟩) (by decide) (by decide) (hts _ (List.mem_of_getElem? (i := 2) rfl)) (va_Nw.use (xNW_tab _ (List.mem_of_getElem? (i := 2) rfl)) (hZ.2.2.2.2.1 _ (List.mem_of_getElem? (i := 2) rfl))) hce hcv hcl ?_
      refine lv_astore (lv' := [(4, .ref (q9)), (0, .ref (o)), (1, .int (months)), (2, .int (air)), (3, .int (snow))]) hx hb dL_pass_15 hl (by decide) rfl (fun ls hl => ?_)
      refine lv_ldc2 (own := RL) (v := -9000000000000000003) hx hb hown (hts _ (List.mem_of_getElem? (i := 4) rfl)) dL_pass_17 ?_
      exact w_lret (Pic1 := fun H : Heap => lPic G ids o z tE (if 3 = 0 then (k_pass_s σ months air snow) else σ) H) hx hb hr hlocks (Nat.le_of_ble_eq_true rfl) (Nat.le_of_ble_eq_true rfl) (by rw [if_neg (by decide)]; exact ⟨d, w, hP1, hWz⟩) hS dL_pass_20 rfl
  · obtain ⟨hX0, hrv⟩ := hw
    have q_ := hrv.symm
    subst q_
    rw [ht] at hB
    clear hcx hkx hk
    subst hX0
    refine lv_i2l (v := (k_pass σ months air snow).toInt64) hx hb dL_pass_7 rfl ?_
    exact w_lret (Pic1 := fun H : Heap => lPic G ids o z tE (if 0 = 0 then (k_pass_s σ months air snow) else σ) H) hx hb hr hlocks (Nat.le_of_ble_eq_true rfl) (Nat.le_of_ble_eq_true rfl) (by rw [if_pos rfl]; exact ⟨d, w, hB, hWz⟩) hS dL_pass_8 rfl
