theorem kxK_layerOf (σ : Sg) (cell : Int32) (layer : Int32) (what : Int32) : xK [1, 2] (kx_layerOf σ cell layer what) := by
  unfold kx_layerOf
  repeat' first | exact xK_0 | exact xK_Ix (by decide) | exact xK_Rg (by decide) | exact xK_St (by decide) | exact Or.inr (by decide) | refine xK_s ?_ ?_ | refine xK_if ?_ ?_
set_option maxHeartbeats 4000000 in
set_option maxRecDepth 100000 in
theorem lc_layerOf (l : Launch) (hl0 : l.stackTraces = false) (G : va_G) (ids : Nat → ClassId) (tS tE o z : Nat) (σ : Sg) (cell : Int32) (layer : Int32) (what : Int32) : lU l yL_layerOf wsL_layerOf ({ frames := 8, cells := 3, slots := 18, locals := 146 } : Room) G ids tS tE [.ref (o), .int (cell), .int (layer), .int (what)] o z σ (kx_layerOf σ cell layer what) ((k_layerOf σ cell layer what).toInt64) σ 3 18 := by
  unfold lU
  refine lw_ofWH (cc := cL_layerOf) (maxL := 5) (ret := some .long) (hh := [(0, 8, 9, 15), (0, 8, 15, 19)]) (by decide) rfl ?_
  intro p e s m args below meth c s₁ B hml hv
  obtain ⟨rfl, ⟨⟨d, w, hP, hWz⟩, hzs⟩, hK, hZ, hN⟩ := hv
  have hW0 := wOK_z hP hWz
  have hcx := cx_layerOf l hl0 G ids o z tS tE d w σ cell layer what
  have hkx := xK_2 (kxK_layerOf σ cell layer what)
  obtain ⟨X, hX⟩ : ∃ X : Nat, X = kx_layerOf σ cell layer what := ⟨_, rfl⟩
  rw [← hX] at hcx hkx ⊢
  clear hX
  have hx := B.exec
  have hb := B.bytes
  have hr := B.returns
  have hts := atoms_spec (ws := wsL_layerOf) B.pre
  have hown : s.vm.findClass RL = some m.cls := findClass_of_methodNamed B.named
  have hlocks := B.notSynchronized
  have hT : c.exceptionTable.toList = tableOf [(0, 8, 9, 15), (0, 8, 15, 19)] := vx_table (x := yL_layerOf) B (hts _ List.mem_cons_self)
  have hS : va_S (cpG o z) s.heap s.heap [] := va_S.rf
  have hl := lv_entry ([.ref (o), .int (cell), .int (layer), .int (what)]) (n := 5) (Nat.le_of_ble_eq_true rfl)
  rw [lg_entry_eq]
  generalize (lg_sl ([.ref (o), .int (cell), .int (layer), .int (what)]) ++ List.replicate (5 - (lg_sl ([.ref (o), .int (cell), .int (layer), .int (what)])).length) Slot.unset).toArray = ls at hl ⊢
  have hl : lv_has ls 5 [(0, .ref (o)), (1, .int (cell)), (2, .int (layer)), (3, .int (what))] := hl
  refine lv_aload_n hx hb dL_layerOf_0 rfl (lv_at hl 0 rfl) ?_
  refine lv_iload_n hx hb dL_layerOf_1 rfl (lv_at hl 1 rfl) ?_
  refine lv_iload_n hx hb dL_layerOf_2 rfl (lv_at hl 2 rfl) ?_
  refine lv_iload_n hx hb dL_layerOf_3 rfl (lv_at hl 3 rfl) ?_
  refine vx_calli (vx_runV (As := [.int (cell), .int (layer), .int (what)]) (rest := []) ⟨hx, hb, hml, hown, hts⟩ hcx (cwV 3 hts gL_layerOf_X5_layerOf rfl rfl rfl (by decide +kernel) ⟨Nat.le_of_ble_eq_true rfl, Nat.le_of_ble_eq_true rfl⟩) ⟨yPc_blind, va_recv hK (va_P.one hP.main) (ci := 6) (q0 := 0) rfl rfl, fun U hU hW => ⟨rfl, by rw [hU]; exact hP, va_K.moved hW.alike hK, cST_at hZ hS hU hW.alike⟩⟩ rfl rfl hl.1 rfl (lv_room (Nat.le_of_ble_eq_true rfl)) dL_layerOf_4 ⟨Nat.le_of_ble_eq_true rfl, Nat.le_of_ble_eq_true rfl⟩) hS (fun q _ h => h) (fun q h => h) (fun q _ h => h) (fun E ce q9 u t H1 locs1 ht hvm hpx hbx hz1 hk hS hce hcv hcl => ?_) (fun r u t H1 locs1 ht hvm hw hB hz1 hk hS => ?_)
  · obtain ⟨hE9, hP1⟩ := hbx
    have q_ := hE9.symm
    subst q_
    rw [ht] at hP1
    rcases hkx with h | h | h
    · exact absurd h hpx
    · subst h
      refine vx_catch (own := RL) (name := "java/lang/IndexOutOfBoundsException") (E := xE 1) hown (tableOf []) ⟨0, 8, 9, 15⟩ (tableOf [(0, 8, 15, 19)]) hT (fun z9 hz9 => absurd hz9 (List.not_mem_nil)) (by decide) (by decide) (hts _ (List.mem_of_getElem? (i := 1) rfl)) (va_Nw.use (xNW_tab _ (List.mem_of_getElem? (i := 0) rfl)) (hZ.2.2.2.2.1 _ (List.mem_of_getElem? (i := 0) rfl))) hce hcv hcl ?_
      refine lv_astore (lv' := [(4, .ref (q9)), (0, .ref (o)), (1, .int (cell)), (2, .int (layer)), (3, .int (what))]) hx hb dL_layerOf_9 hl (by decide) rfl (fun ls hl => ?_)
      refine lv_ldc2 (own := RL) (v := -9000000000000000001) hx hb hown (hts _ (List.mem_of_getElem? (i := 3) rfl)) dL_layerOf_11 ?_
      exact w_lret (Pic1 := fun H : Heap => lPic G ids o z tE (if 1 = 0 then σ else σ) H) hx hb hr hlocks (Nat.le_of_ble_eq_true rfl) (Nat.le_of_ble_eq_true rfl) (by rw [if_neg (by decide)]; exact ⟨d, w, hP1, hWz⟩) hS dL_layerOf_14 rfl
    · subst h
      refine vx_catch (own := RL) (name := "java/lang/IllegalArgumentException") (E := xE 2) hown (tableOf [(0, 8, 9, 15)]) ⟨0, 8, 15, 19⟩ (tableOf []) hT (fun z9 hz9 => by rw [show z9 = ⟨0, 8, 9, 15⟩ from List.mem_singleton.mp hz9]; exact Or.inr ⟨by decide, _, (hts _ (List.mem_of_getElem? (i := 1) rfl)), hN.1⟩) (by decide) (by decide) (hts _ (List.mem_of_getElem? (i := 2) rfl)) (va_Nw.use (xNW_tab _ (List.mem_of_getElem? (i := 1) rfl)) (hZ.2.2.2.2.1 _ (List.mem_of_getElem? (i := 1) rfl))) hce hcv hcl ?_
      refine lv_astore (lv' := [(4, .ref (q9)), (0, .ref (o)), (1, .int (cell)), (2, .int (layer)), (3, .int (what))]) hx hb dL_layerOf_15 hl (by decide) rfl (fun ls hl => ?_)
      refine lv_ldc2 (own := RL) (v := -9000000000000000002) hx hb hown (hts _ (List.mem_of_getElem? (i := 4) rfl)) dL_layerOf_17 ?_
      exact w_lret (Pic1 := fun H : Heap => lPic G ids o z tE (if 2 = 0 then σ else σ) H) hx hb hr hlocks (Nat.le_of_ble_eq_true rfl) (Nat.le_of_ble_eq_true rfl) (by rw [if_neg (by decide)]; exact ⟨d, w, hP1, hWz⟩) hS dL_layerOf_20 rfl
  · obtain ⟨hX0, hrv⟩ := hw
    have q_ := hrv.symm
    subst q_
    rw [ht] at hB
    clear hcx hkx hk
    subst hX0
    refine lv_i2l (v := (k_layerOf σ cell layer what).toInt64) hx hb dL_layerOf_7 rfl ?_
    exact w_lret (Pic1 := fun H : Heap => lPic G ids o z tE (if 0 = 0 then σ else σ) H) hx hb hr hlocks (Nat.le_of_ble_eq_true rfl) (Nat.le_of_ble_eq_true rfl) (by rw [if_pos rfl]; exact ⟨d, w, hB, hWz⟩) hS dL_layerOf_8 rfl
theorem kxK_neighbour (σ : Sg) (cell : Int32) (at_ : Int32) : xK [1] (kx_neighbour σ cell at_) := by
  unfold kx_neighbour
  repeat' first | exact xK_0 | exact xK_Ix (by decide) | exact xK_Rg (by decide) | exact xK_St (by decide) | exact Or.inr (by decide) | refine xK_s ?_ ?_ | refine xK_if ?_ ?_
set_option maxHeartbeats 4000000 in
set_option maxRecDepth 100000 in
theorem lc_neighbour (l : Launch) (hl0 : l.stackTraces = false) (G : va_G) (ids : Nat → ClassId) (tS tE o z : Nat) (σ : Sg) (cell : Int32) (at_ : Int32) : lU l yL_neighbour wsL_neighbour ({ frames := 8, cells := 2, slots := 12, locals := 146 } : Room) G ids tS tE [.ref (o), .int (cell), .int (at_)] o z σ (kx_neighbour σ cell at_) ((k_neighbour σ cell at_).toInt64) σ 2 12 := by
  unfold lU
  refine lw_ofWH (cc := cL_neighbour) (maxL := 4) (ret := some .long) (hh := [(0, 7, 8, 15)]) (by decide) rfl ?_
  intro p e s m args below meth c s₁ B hml hv
  obtain ⟨rfl, ⟨⟨d, w, hP, hWz⟩, hzs⟩, hK, hZ, hN⟩ := hv
  have hW0 := wOK_z hP hWz
  have hcx := cx_neighbour l hl0 G ids o z tS tE d w σ cell at_
  have hkx := xK_1 (kxK_neighbour σ cell at_)
  obtain ⟨X, hX⟩ : ∃ X : Nat, X = kx_neighbour σ cell at_ := ⟨_, rfl⟩
  rw [← hX] at hcx hkx ⊢
  clear hX
  have hx := B.exec
  have hb := B.bytes
  have hr := B.returns
  have hts := atoms_spec (ws := wsL_neighbour) B.pre
  have hown : s.vm.findClass RL = some m.cls := findClass_of_methodNamed B.named
  have hlocks := B.notSynchronized
  have hT : c.exceptionTable.toList = tableOf [(0, 7, 8, 15)] := vx_table (x := yL_neighbour) B (hts _ List.mem_cons_self)
  have hS : va_S (cpG o z) s.heap s.heap [] := va_S.rf
  have hl := lv_entry ([.ref (o), .int (cell), .int (at_)]) (n := 4) (Nat.le_of_ble_eq_true rfl)
  rw [lg_entry_eq]
  generalize (lg_sl ([.ref (o), .int (cell), .int (at_)]) ++ List.replicate (4 - (lg_sl ([.ref (o), .int (cell), .int (at_)])).length) Slot.unset).toArray = ls at hl ⊢
  have hl : lv_has ls 4 [(0, .ref (o)), (1, .int (cell)), (2, .int (at_))] := hl
  refine lv_aload_n hx hb dL_neighbour_0 rfl (lv_at hl 0 rfl) ?_
  refine lv_iload_n hx hb dL_neighbour_1 rfl (lv_at hl 1 rfl) ?_
  refine lv_iload_n hx hb dL_neighbour_2 rfl (lv_at hl 2 rfl) ?_
  refine vx_calli (vx_runV (As := [.int (cell), .int (at_)]) (rest := []) ⟨hx, hb, hml, hown, hts⟩ hcx (cwV 2 hts gL_neighbour_X5_neighbour rfl rfl rfl (by decide +kernel) ⟨Nat.le_of_ble_eq_true rfl, Nat.le_of_ble_eq_true rfl⟩) ⟨yPc_blind, va_recv hK (va_P.one hP.main) (ci := 6) (q0 := 0) rfl rfl, fun U hU hW => ⟨rfl, by rw [hU]; exact hP, va_K.moved hW.alike hK, cST_at hZ hS hU hW.alike⟩⟩ rfl rfl hl.1 rfl (lv_room (Nat.le_of_ble_eq_true rfl)) dL_neighbour_3 ⟨Nat.le_of_ble_eq_true rfl, Nat.le_of_ble_eq_true rfl⟩) hS (fun q _ h => h) (fun q h => h) (fun q _ h => h) (fun E ce q9 u t H1 locs1 ht hvm hpx hbx hz1 hk hS hce hcv hcl => ?_) (fun r u t H1 locs1 ht hvm hw hB hz1 hk hS => ?_)
  · obtain ⟨hE9, hP1⟩ := hbx
    have q_ := hE9.symm
    subst q_
    rw [ht] at hP1
    rcases hkx with h | h
    · exact absurd h hpx
    · subst h
      refine vx_catch (own := RL) (name := "java/lang/IndexOutOfBoundsException") (E := xE 1) hown (tableOf []) ⟨0, 7, 8, 15⟩ (tableOf []) hT (fun z9 hz9 => absurd hz9 (List.not_mem_nil)) (by decide) (by decide) (hts _ (List.mem_of_getElem? (i := 1) rfl)) (va_Nw.use (xNW_tab _ (List.mem_of_getElem? (i := 0) rfl)) (hZ.2.2.2.2.1 _ (List.mem_of_getElem? (i := 0) rfl))) hce hcv hcl ?_
      refine lv_astore_n (lv' := [(3, .ref (q9)), (0, .ref (o)), (1, .int (cell)), (2, .int (at_))]) hx hb dL_neighbour_8 rfl hl (by decide) rfl (fun ls hl => ?_)
      refine lv_ldc2 (own := RL) (v := -9000000000000000001) hx hb hown (hts _ (List.mem_of_getElem? (i := 2) rfl)) dL_neighbour_9 ?_
      exact w_lret (Pic1 := fun H : Heap => lPic G ids o z tE (if 1 = 0 then σ else σ) H) hx hb hr hlocks (Nat.le_of_ble_eq_true rfl) (Nat.le_of_ble_eq_true rfl) (by rw [if_neg (by decide)]; exact ⟨d, w, hP1, hWz⟩) hS dL_neighbour_12 rfl
  · obtain ⟨hX0, hrv⟩ := hw
    have q_ := hrv.symm
    subst q_
    rw [ht] at hB
    clear hcx hkx hk
    subst hX0
    refine lv_i2l (v := (k_neighbour σ cell at_).toInt64) hx hb dL_neighbour_6 rfl ?_
    exact w_lret (Pic1 := fun H : Heap => lPic G ids o z tE (if 0 = 0 then σ else σ) H) hx hb hr hlocks (Nat.le_of_ble_eq_true rfl) (Nat.le_of_ble_eq_true rfl) (by rw [if_pos rfl]; exact ⟨d, w, hB, hWz⟩) hS dL_neighbour_7 rfl
theorem kxK_houseOf (σ : Sg) (house : Int32) (what : Int32) : xK [1, 2] (kx_houseOf σ house what) := by
  unfold kx_houseOf
  repeat' first | exact xK_0 | exact xK_Ix (by decide) | exact xK_Rg (by decide) | exact xK_St (by decide) | exact Or.inr (by decide) | refine xK_s ?_ ?_ | refine xK_if ?_ ?_
set_option maxHeartbeats 4000000 in
set_option maxRecDepth 100000 in
theorem lc_houseOf (l : Launch) (hl0 : l.stackTraces = false) (G : va_G) (ids : Nat → ClassId) (tS tE o z : Nat) (σ : Sg) (house : Int32) (what : Int32) (hO : cOK σ) : lU l yL_houseOf wsL_houseOf ({ frames := 8, cells := 2, slots := 12, locals := 158 } : Room) G ids tS tE [.ref (o), .int (house), .int (what)] o z σ (kx_houseOf σ house what) ((k_houseOf σ house what).toInt64) σ 2 12 := by
  unfold lU
  refine lw_ofWH (cc := cL_houseOf) (maxL := 4) (ret := some .long) (hh := [(0, 7, 8, 15), (0, 7, 13, 19)]) (by decide) rfl ?_
  intro p e s m args below meth c s₁ B hml hv
  obtain ⟨rfl, ⟨⟨d, w, hP, hWz⟩, hzs⟩, hK, hZ, hN⟩ := hv
  have hW0 := wOK_z hP hWz
  have hcx := cx_houseOf l hl0 G ids o z tS tE d w σ house what hO
  have hkx := xK_2 (kxK_houseOf σ house what)
  obtain ⟨X, hX⟩ : ∃ X : Nat, X = kx_houseOf σ house what := ⟨_, rfl⟩
  rw [← hX] at hcx hkx ⊢
  clear hX
  have hx := B.exec
  have hb := B.bytes
  have hr := B.returns
  have hts := atoms_spec (ws := wsL_houseOf) B.pre
  have hown : s.vm.findClass RL = some m.cls := findClass_of_methodNamed B.named
  have hlocks := B.notSynchronized
  have hT : c.exceptionTable.toList = tableOf [(0, 7, 8, 15), (0, 7, 13, 19)] := vx_table (x := yL_houseOf) B (hts _ List.mem_cons_self)
  have hS : va_S (cpG o z) s.heap s.heap [] := va_S.rf
  have hl := lv_entry ([.ref (o), .int (house), .int (what)]) (n := 4) (Nat.le_of_ble_eq_true rfl)
  rw [lg_entry_eq]
  generalize (lg_sl ([.ref (o), .int (house), .int (what)]) ++ List.replicate (4 - (lg_sl ([.ref (o), .int (house), .int (what)])).length) Slot.unset).toArray = ls at hl ⊢
  have hl : lv_has ls 4 [(0, .ref (o)), (1, .int (house)), (2, .int (what))] := hl
  refine lv_aload_n hx hb dL_houseOf_0 rfl (lv_at hl 0 rfl) ?_
  refine lv_iload_n hx hb dL_houseOf_1 rfl (lv_at hl 1 rfl) ?_
  refine lv_iload_n hx hb dL_houseOf_2 rfl (lv_at hl 2 rfl) ?_
  refine vx_calli (vx_runV (As := [.int (house), .int (what)]) (rest := []) ⟨hx, hb, hml, hown, hts⟩ hcx (cwV 2 hts gL_houseOf_X5_houseOf rfl rfl rfl (by decide +kernel) ⟨Nat.le_of_ble_eq_true rfl, Nat.le_of_ble_eq_true rfl⟩) ⟨yPc_blind, va_recv hK (va_P.one hP.main) (ci := 6) (q0 := 0) rfl rfl, fun U hU hW => ⟨rfl, by rw [hU]; exact hP, va_K.moved hW.alike hK, cST_at hZ hS hU hW.alike⟩⟩ rfl rfl hl.1 rfl (lv_room (Nat.le_of_ble_eq_true rfl)) dL_houseOf_3 ⟨Nat.le_of_ble_eq_true rfl, Nat.le_of_ble_eq_true rfl⟩) hS (fun q _ h => h) (fun q h => h) (fun q _ h => h) (fun E ce q9 u t H1 locs1 ht hvm hpx hbx hz1 hk hS hce hcv hcl => ?_) (fun r u t H1 locs1 ht hvm hw hB hz1 hk hS => ?_)
  · obtain ⟨hE9, hP1⟩ := hbx
    have q_ := hE9.symm
    subst q_
    rw [ht] at hP1
    rcases hkx with h | h | h
    · exact absurd h hpx
    · subst h
      refine vx_catch (own := RL) (name := "java/lang/IndexOutOfBoundsException") (E := xE 1) hown (tableOf []) ⟨0, 7, 8, 15⟩ (tableOf [(0, 7, 13, 19)]) hT (fun z9 hz9 => absurd hz9 (List.not_mem_nil)) (by decide) (by decide) (hts _ (List.mem_of_getElem? (i := 1) rfl)) (va_Nw.use (xNW_tab _ (List.mem_of_getElem? (i := 0) rfl)) (hZ.2.2.2.2.1 _ (List.mem_of_getElem? (i := 0) rfl))) hce hcv hcl ?_
      refine lv_astore_n (lv' := [(3, .ref (q9)), (0, .ref (o)), (1, .int (house)), (2, .int (what))]) hx hb dL_houseOf_8 rfl hl (by decide) rfl (fun ls hl => ?_)
      refine lv_ldc2 (own := RL) (v := -9000000000000000001) hx hb hown (hts _ (List.mem_of_getElem? (i := 3) rfl)) dL_houseOf_9 ?_
      exact w_lret (Pic1 := fun H : Heap => lPic G ids o z tE (if 1 = 0 then σ else σ) H) hx hb hr hlocks (Nat.le_of_ble_eq_true rfl) (Nat.le_of_ble_eq_true rfl) (by rw [if_neg (by decide)]; exact ⟨d, w, hP1, hWz⟩) hS dL_houseOf_12 rfl
    · subst h
      refine vx_catch (own := RL) (name := "java/lang/IllegalArgumentException") (E := xE 2) hown (tableOf [(0, 7, 8, 15)]) ⟨0, 7, 13, 19⟩ (tableOf []) hT (fun z9 hz9 => by rw [show z9 = ⟨0, 7, 8, 15⟩ from List.mem_singleton.mp hz9]; exact Or.inr ⟨by decide, _, (hts _ (List.mem_of_getElem? (i := 1) rfl)), hN.1⟩) (by decide) (by decide) (hts _ (List.mem_of_getElem? (i := 2) rfl)) (va_Nw.use (xNW_tab _ (List.mem_of_getElem? (i := 1) rfl)) (hZ.2.2.2.2.1 _ (List.mem_of_getElem? (i := 1) rfl))) hce hcv hcl ?_
      refine lv_astore_n (lv' := [(3, .ref (q9)), (0, .ref (o)), (1, .int (house)), (2, .int (what))]) hx hb dL_houseOf_13 rfl hl (by decide) rfl (fun ls hl => ?_)
      refine lv_ldc2 (own := RL) (v := -9000000000000000002) hx hb hown (hts _ (List.mem_of_getElem? (i := 4) rfl)) dL_houseOf_14 ?_
      exact w_lret (Pic1 := fun H : Heap => lPic G ids o z tE (if 2 = 0 then σ else σ) H) hx hb hr hlocks (Nat.le_of_ble_eq_true rfl) (Nat.le_of_ble_eq_true rfl) (by rw [if_neg (by decide)]; exact ⟨d, w, hP1, hWz⟩) hS dL_houseOf_17 rfl
  · obtain ⟨hX0, hrv⟩ := hw
    have q_ := hrv.symm
    subst q_
    rw [ht] at hB
    clear hcx hkx hk
    subst hX0
    refine lv_i2l (v := (k_houseOf σ house what).toInt64) hx hb dL_houseOf_6 rfl ?_
    exact w_lret (Pic1 := fun H : Heap => lPic G ids o z tE (if 0 = 0 then σ else σ) H) hx hb hr hlocks (Nat.le_of_ble_eq_true rfl) (Nat.le_of_ble_eq_true rfl) (by rw [if_pos rfl]; exact ⟨d, w, hB, hWz⟩) hS dL_houseOf_7 rfl
