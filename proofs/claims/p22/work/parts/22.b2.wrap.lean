theorem kxK_borehole (σ : Sg) (cell : Int32) (dr : Int32) : xK [1, 2, 3] (kx_borehole σ cell dr) := by
  unfold kx_borehole
  repeat' first | exact xK_0 | exact xK_Ix (by decide) | exact xK_Rg (by decide) | exact xK_St (by decide) | exact Or.inr (by decide) | refine xK_s ?_ ?_ | refine xK_if ?_ ?_
set_option maxHeartbeats 4000000 in
set_option maxRecDepth 100000 in
theorem lc_borehole (l : Launch) (hl0 : l.stackTraces = false) (G : va_G) (ids : Nat → ClassId) (tS tE o z : Nat) (σ : Sg) (cell : Int32) (dr : Int32) (hO : cOK σ) : lU l yL_borehole wsL_borehole ({ frames := 9, cells := 6, slots := 3083, locals := 183 } : Room) G ids tS tE [.ref (o), .int (cell), .int (dr)] o z σ (kx_borehole σ cell dr) ((k_borehole σ cell dr).toInt64) (k_borehole_s σ cell dr) 6 3083 := by
  unfold lU
  refine lw_ofWH (cc := cL_borehole) (maxL := 4) (ret := some .long) (hh := [(0, 7, 8, 15), (0, 7, 13, 19), (0, 7, 18, 31)]) (by decide) rfl ?_
  intro p e s m args below meth c s₁ B hml hv
  obtain ⟨rfl, ⟨⟨d, w, hP, hWz⟩, hzs⟩, hK, hZ, hN⟩ := hv
  have hW0 := wOK_z hP hWz
  have hcx := cx_borehole l hl0 G ids o z tS tE d w σ cell dr hO hW0
  have hkx := xK_3 (kxK_borehole σ cell dr)
  obtain ⟨X, hX⟩ : ∃ X : Nat, X = kx_borehole σ cell dr := ⟨_, rfl⟩
  rw [← hX] at hcx hkx ⊢
  clear hX
  have hx := B.exec
  have hb := B.bytes
  have hr := B.returns
  have hts := atoms_spec (ws := wsL_borehole) B.pre
  have hown : s.vm.findClass RL = some m.cls := findClass_of_methodNamed B.named
  have hlocks := B.notSynchronized
  have hT : c.exceptionTable.toList = tableOf [(0, 7, 8, 15), (0, 7, 13, 19), (0, 7, 18, 31)] := vx_table (x := yL_borehole) B (hts _ List.mem_cons_self)
  have hS : va_S (cpG o z) s.heap s.heap [] := va_S.rf
  have hl := lv_entry ([.ref (o), .int (cell), .int (dr)]) (n := 4) (Nat.le_of_ble_eq_true rfl)
  rw [lg_entry_eq]
  generalize (lg_sl ([.ref (o), .int (cell), .int (dr)]) ++ List.replicate (4 - (lg_sl ([.ref (o), .int (cell), .int (dr)])).length) Slot.unset).toArray = ls at hl ⊢
  have hl : lv_has ls 4 [(0, .ref (o)), (1, .int (cell)), (2, .int (dr))] := hl
  refine lv_aload_n hx hb dL_borehole_0 rfl (lv_at hl 0 rfl) ?_
  refine lv_iload_n hx hb dL_borehole_1 rfl (lv_at hl 1 rfl) ?_
  refine lv_iload_n hx hb dL_borehole_2 rfl (lv_at hl 2 rfl) ?_
  refine vx_calli (vx_runV (As := [.int (cell), .int (dr)]) (rest := []) ⟨hx, hb, hml, hown, hts⟩ hcx (cwV 2 hts gL_borehole_X5_borehole rfl rfl rfl (by decide +kernel) ⟨Nat.le_of_ble_eq_true rfl, Nat.le_of_ble_eq_true rfl⟩) ⟨yPc_blind, va_recv hK (va_P.one hP.main) (ci := 6) (q0 := 0) rfl rfl, fun U hU hW => ⟨rfl, by rw [hU]; exact ⟨hP, hzs⟩, va_K.moved hW.alike hK, cST_at hZ hS hU hW.alike⟩⟩ rfl rfl hl.1 rfl (lv_room (Nat.le_of_ble_eq_true rfl)) dL_borehole_3 ⟨Nat.le_of_ble_eq_true rfl, Nat.le_of_ble_eq_true rfl⟩) hS (fun q _ h => h) (fun q h => h) (fun q _ h => h) (fun E ce q9 u t H1 locs1 ht hvm hpx hbx hz1 hk hS hce hcv hcl => ?_) (fun r u t H1 locs1 ht hvm hw hB hz1 hk hS => ?_)
  · obtain ⟨hE9, hP1⟩ := hbx
    have q_ := hE9.symm
    subst q_
    rw [ht] at hP1
    rcases hkx with h | h | h | h
    · exact absurd h hpx
    · subst h
      refine vx_catch (own := RL) (name := "java/lang/IndexOutOfBoundsException") (E := xE 1) hown (tableOf []) ⟨0, 7, 8, 15⟩ (tableOf [(0, 7, 13, 19), (0, 7, 18, 31)]) hT (fun z9 hz9 => absurd hz9 (List.not_mem_nil)) (by decide) (by decide) (hts _ (List.mem_of_getElem? (i := 1) rfl)) (va_Nw.use (xNW_tab _ (List.mem_of_getElem? (i := 0) rfl)) (hZ.2.2.2.2.1 _ (List.mem_of_getElem? (i := 0) rfl))) hce hcv hcl ?_
      refine lv_astore_n (lv' := [(3, .ref (q9)), (0, .ref (o)), (1, .int (cell)), (2, .int (dr))]) hx hb dL_borehole_8 rfl hl (by decide) rfl (fun ls hl => ?_)
      refine lv_ldc2 (own := RL) (v := -9000000000000000001) hx hb hown (hts _ (List.mem_of_getElem? (i := 4) rfl)) dL_borehole_9 ?_
      exact w_lret (Pic1 := fun H : Heap => lPic G ids o z tE (if 1 = 0 then (k_borehole_s σ cell dr) else σ) H) hx hb hr hlocks (Nat.le_of_ble_eq_true rfl) (Nat.le_of_ble_eq_true rfl) (by rw [if_neg (by decide)]; exact ⟨d, w, hP1, hWz⟩) hS dL_borehole_12 rfl
    · subst h
      refine vx_catch (own := RL) (name := "java/lang/IllegalArgumentException") (E := xE 2) hown (tableOf [(0, 7, 8, 15)]) ⟨0, 7, 13, 19⟩ (tableOf [(0, 7, 18, 31)]) hT (fun z9 hz9 => by rw [show z9 = ⟨0, 7, 8, 15⟩ from List.mem_singleton.mp hz9]; exact Or.inr ⟨by decide, _, (hts _ (List.mem_of_getElem? (i := 1) rfl)), hN.1⟩) (by decide) (by decide) (hts _ (List.mem_of_getElem? (i := 2) rfl)) (va_Nw.use (xNW_tab _ (List.mem_of_getElem? (i := 1) rfl)) (hZ.2.2.2.2.1 _ (List.mem_of_getElem? (i := 1) rfl))) hce hcv hcl ?_
      refine lv_astore_n (lv' := [(3, .ref (q9)), (0, .ref (o)), (1, .int (cell)), (2, .int (dr))]) hx hb dL_borehole_13 rfl hl (by decide) rfl (fun ls hl => ?_)
      refine lv_ldc2 (own := RL) (v := -9000000000000000002) hx hb hown (hts _ (List.mem_of_getElem? (i := 5) rfl)) dL_borehole_14 ?_
      exact w_lret (Pic1 := fun H : Heap => lPic G ids o z tE (if 2 = 0 then (k_borehole_s σ cell dr) else σ) H) hx hb hr hlocks (Nat.le_of_ble_eq_true rfl) (Nat.le_of_ble_eq_true rfl) (by rw [if_neg (by decide)]; exact ⟨d, w, hP1, hWz⟩) hS dL_borehole_17 rfl
    · subst h
      refine vx_catch (own := RL) (name := "java/lang/IllegalStateException") (E := xE 3) hown (tableOf [(0, 7, 8, 15), (0, 7, 13, 19)]) ⟨0, 7, 18, 31⟩ (tableOf []) hT (fun z9 hz9 => Or.elim (List.mem_cons.mp hz9) (fun e9 => by rw [show z9 = ⟨0, 7, 8, 15⟩ from e9]; exact Or.inr ⟨by decide, _, (hts _ (List.mem_of_getElem? (i := 1) rfl)), hN.2.1⟩) (fun e8 => by rw [show z9 = ⟨0, 7, 13, 19⟩ from (List.mem_singleton.mp e8)]; exact Or.inr ⟨by decide, _, (hts _ (List.mem_of_getElem? (i := 2) rfl)), hN.2.2⟩)) (by decide) (by decide) (hts _ (List.mem_of_getElem? (i := 3) rfl)) (va_Nw.use (xNW_tab _ (List.mem_of_getElem? (i := 2) rfl)) (hZ.2.2.2.2.1 _ (List.mem_of_getElem? (i := 2) rfl))) hce hcv hcl ?_
      refine lv_astore_n (lv' := [(3, .ref (q9)), (0, .ref (o)), (1, .int (cell)), (2, .int (dr))]) hx hb dL_borehole_18 rfl hl (by decide) rfl (fun ls hl => ?_)
      refine lv_ldc2 (own := RL) (v := -9000000000000000003) hx hb hown (hts _ (List.mem_of_getElem? (i := 6) rfl)) dL_borehole_19 ?_
      exact w_lret (Pic1 := fun H : Heap => lPic G ids o z tE (if 3 = 0 then (k_borehole_s σ cell dr) else σ) H) hx hb hr hlocks (Nat.le_of_ble_eq_true rfl) (Nat.le_of_ble_eq_true rfl) (by rw [if_neg (by decide)]; exact ⟨d, w, hP1, hWz⟩) hS dL_borehole_22 rfl
  · obtain ⟨hX0, hrv, hW1⟩ := hw
    have q_ := hrv.symm
    subst q_
    rw [ht] at hB
    clear hcx hkx hk
    subst hX0
    refine lv_i2l (v := (k_borehole σ cell dr).toInt64) hx hb dL_borehole_6 rfl ?_
    exact w_lret (Pic1 := fun H : Heap => lPic G ids o z tE (if 0 = 0 then (k_borehole_s σ cell dr) else σ) H) hx hb hr hlocks (Nat.le_of_ble_eq_true rfl) (Nat.le_of_ble_eq_true rfl) (by rw [if_pos rfl]; exact lPic_of hB hW1) hS dL_borehole_7 rfl
theorem kxK_claim (σ : Sg) (house : Int32) : xK [1, 3] (kx_claim σ house) := by
  unfold kx_claim
  repeat' first | exact xK_0 | exact xK_Ix (by decide) | exact xK_Rg (by decide) | exact xK_St (by decide) | exact Or.inr (by decide) | refine xK_s ?_ ?_ | refine xK_if ?_ ?_
set_option maxHeartbeats 4000000 in
set_option maxRecDepth 100000 in
theorem lc_claim (l : Launch) (hl0 : l.stackTraces = false) (G : va_G) (ids : Nat → ClassId) (tS tE o z : Nat) (σ : Sg) (house : Int32) (hO : cOK σ) : lU l yL_claim wsL_claim ({ frames := 9, cells := 4, slots := 76, locals := 183 } : Room) G ids tS tE [.ref (o), .int (house)] o z σ (kx_claim σ house) ((k_claim σ house).toInt64) (k_claim_s σ house) 4 76 := by
  unfold lU
  refine lw_ofWH (cc := cL_claim) (maxL := 3) (ret := some .long) (hh := [(0, 6, 7, 15), (0, 6, 12, 31)]) (by decide) rfl ?_
  intro p e s m args below meth c s₁ B hml hv
  obtain ⟨rfl, ⟨⟨d, w, hP, hWz⟩, hzs⟩, hK, hZ, hN⟩ := hv
  have hW0 := wOK_z hP hWz
  have hcx := cx_claim l hl0 G ids o z tS tE d w σ house hO hW0
  have hkx := xK_2 (kxK_claim σ house)
  obtain ⟨X, hX⟩ : ∃ X : Nat, X = kx_claim σ house := ⟨_, rfl⟩
  rw [← hX] at hcx hkx ⊢
  clear hX
  have hx := B.exec
  have hb := B.bytes
  have hr := B.returns
  have hts := atoms_spec (ws := wsL_claim) B.pre
  have hown : s.vm.findClass RL = some m.cls := findClass_of_methodNamed B.named
  have hlocks := B.notSynchronized
  have hT : c.exceptionTable.toList = tableOf [(0, 6, 7, 15), (0, 6, 12, 31)] := vx_table (x := yL_claim) B (hts _ List.mem_cons_self)
  have hS : va_S (cpG o z) s.heap s.heap [] := va_S.rf
  have hl := lv_entry ([.ref (o), .int (house)]) (n := 3) (Nat.le_of_ble_eq_true rfl)
  rw [lg_entry_eq]
  generalize (lg_sl ([.ref (o), .int (house)]) ++ List.replicate (3 - (lg_sl ([.ref (o), .int (house)])).length) Slot.unset).toArray = ls at hl ⊢
  have hl : lv_has ls 3 [(0, .ref (o)), (1, .int (house))] := hl
  refine lv_aload_n hx hb dL_claim_0 rfl (lv_at hl 0 rfl) ?_
  refine lv_iload_n hx hb dL_claim_1 rfl (lv_at hl 1 rfl) ?_
  refine vx_calli (vx_runV (As := [.int (house)]) (rest := []) ⟨hx, hb, hml, hown, hts⟩ hcx (cwV 1 hts gL_claim_X5_claim rfl rfl rfl (by decide +kernel) ⟨Nat.le_of_ble_eq_true rfl, Nat.le_of_ble_eq_true rfl⟩) ⟨yPc_blind, va_recv hK (va_P.one hP.main) (ci := 6) (q0 := 0) rfl rfl, fun U hU hW => ⟨rfl, by rw [hU]; exact ⟨hP, hzs⟩, va_K.moved hW.alike hK, cST_at hZ hS hU hW.alike⟩⟩ rfl rfl hl.1 rfl (lv_room (Nat.le_of_ble_eq_true rfl)) dL_claim_2 ⟨Nat.le_of_ble_eq_true rfl, Nat.le_of_ble_eq_true rfl⟩) hS (fun q _ h => h) (fun q h => h) (fun q _ h => h) (fun E ce q9 u t H1 locs1 ht hvm hpx hbx hz1 hk hS hce hcv hcl => ?_) (fun r u t H1 locs1 ht hvm hw hB hz1 hk hS => ?_)
  · obtain ⟨hE9, hP1⟩ := hbx
    have q_ := hE9.symm
    subst q_
    rw [ht] at hP1
    rcases hkx with h | h | h
    · exact absurd h hpx
    · subst h
      refine vx_catch (own := RL) (name := "java/lang/IndexOutOfBoundsException") (E := xE 1) hown (tableOf []) ⟨0, 6, 7, 15⟩ (tableOf [(0, 6, 12, 31)]) hT (fun z9 hz9 => absurd hz9 (List.not_mem_nil)) (by decide) (by decide) (hts _ (List.mem_of_getElem? (i := 1) rfl)) (va_Nw.use (xNW_tab _ (List.mem_of_getElem? (i := 0) rfl)) (hZ.2.2.2.2.1 _ (List.mem_of_getElem? (i := 0) rfl))) hce hcv hcl ?_
      refine lv_astore_n (lv' := [(2, .ref (q9)), (0, .ref (o)), (1, .int (house))]) hx hb dL_claim_7 rfl hl (by decide) rfl (fun ls hl => ?_)
      refine lv_ldc2 (own := RL) (v := -9000000000000000001) hx hb hown (hts _ (List.mem_of_getElem? (i := 3) rfl)) dL_claim_8 ?_
      exact w_lret (Pic1 := fun H : Heap => lPic G ids o z tE (if 1 = 0 then (k_claim_s σ house) else σ) H) hx hb hr hlocks (Nat.le_of_ble_eq_true rfl) (Nat.le_of_ble_eq_true rfl) (by rw [if_neg (by decide)]; exact ⟨d, w, hP1, hWz⟩) hS dL_claim_11 rfl
    · subst h
      refine vx_catch (own := RL) (name := "java/lang/IllegalStateException") (E := xE 3) hown (tableOf [(0, 6, 7, 15)]) ⟨0, 6, 12, 31⟩ (tableOf []) hT (fun z9 hz9 => by rw [show z9 = ⟨0, 6, 7, 15⟩ from List.mem_singleton.mp hz9]; exact Or.inr ⟨by decide, _, (hts _ (List.mem_of_getElem? (i := 1) rfl)), hN.2.1⟩) (by decide) (by decide) (hts _ (List.mem_of_getElem? (i := 2) rfl)) (va_Nw.use (xNW_tab _ (List.mem_of_getElem? (i := 2) rfl)) (hZ.2.2.2.2.1 _ (List.mem_of_getElem? (i := 2) rfl))) hce hcv hcl ?_
      refine lv_astore_n (lv' := [(2, .ref (q9)), (0, .ref (o)), (1, .int (house))]) hx hb dL_claim_12 rfl hl (by decide) rfl (fun ls hl => ?_)
      refine lv_ldc2 (own := RL) (v := -9000000000000000003) hx hb hown (hts _ (List.mem_of_getElem? (i := 4) rfl)) dL_claim_13 ?_
      exact w_lret (Pic1 := fun H : Heap => lPic G ids o z tE (if 3 = 0 then (k_claim_s σ house) else σ) H) hx hb hr hlocks (Nat.le_of_ble_eq_true rfl) (Nat.le_of_ble_eq_true rfl) (by rw [if_neg (by decide)]; exact ⟨d, w, hP1, hWz⟩) hS dL_claim_16 rfl
  · obtain ⟨hX0, hrv, hW1⟩ := hw
    have q_ := hrv.symm
    subst q_
    rw [ht] at hB
    clear hcx hkx hk
    subst hX0
    refine lv_i2l (v := (k_claim σ house).toInt64) hx hb dL_claim_5 rfl ?_
    exact w_lret (Pic1 := fun H : Heap => lPic G ids o z tE (if 0 = 0 then (k_claim_s σ house) else σ) H) hx hb hr hlocks (Nat.le_of_ble_eq_true rfl) (Nat.le_of_ble_eq_true rfl) (by rw [if_pos rfl]; exact lPic_of hB hW1) hS dL_claim_6 rfl
theorem kxK_cellOf (σ : Sg) (cell : Int32) (what : Int32) : xK [1, 2] (kx_cellOf σ cell what) := by
  unfold kx_cellOf
  repeat' first | exact xK_0 | exact xK_Ix (by decide) | exact xK_Rg (by decide) | exact xK_St (by decide) | exact Or.inr (by decide) | refine xK_s ?_ ?_ | refine xK_if ?_ ?_
set_option maxHeartbeats 4000000 in
set_option maxRecDepth 100000 in
theorem lc_cellOf (l : Launch) (hl0 : l.stackTraces = false) (G : va_G) (ids : Nat → ClassId) (tS tE o z : Nat) (σ : Sg) (cell : Int32) (what : Int32) : lU l yL_cellOf wsL_cellOf ({ frames := 8, cells := 2, slots := 12, locals := 145 } : Room) G ids tS tE [.ref (o), .int (cell), .int (what)] o z σ (kx_cellOf σ cell what) ((k_cellOf σ cell what).toInt64) (k_cellOf_s σ cell what) 2 12 := by
  unfold lU
  refine lw_ofWH (cc := cL_cellOf) (maxL := 4) (ret := some .long) (hh := [(0, 7, 8, 15), (0, 7, 13, 19)]) (by decide) rfl ?_
  intro p e s m args below meth c s₁ B hml hv
  obtain ⟨rfl, ⟨⟨d, w, hP, hWz⟩, hzs⟩, hK, hZ, hN⟩ := hv
  have hW0 := wOK_z hP hWz
  have hcx := cx_cellOf l hl0 G ids o z tS tE d w σ cell what
  have hkx := xK_2 (kxK_cellOf σ cell what)
  obtain ⟨X, hX⟩ : ∃ X : Nat, X = kx_cellOf σ cell what := ⟨_, rfl⟩
  rw [← hX] at hcx hkx ⊢
  clear hX
  have hx := B.exec
  have hb := B.bytes
  have hr := B.returns
  have hts := atoms_spec (ws := wsL_cellOf) B.pre
  have hown : s.vm.findClass RL = some m.cls := findClass_of_methodNamed B.named
  have hlocks := B.notSynchronized
  have hT : c.exceptionTable.toList = tableOf [(0, 7, 8, 15), (0, 7, 13, 19)] := vx_table (x := yL_cellOf) B (hts _ List.mem_cons_self)
  have hS : va_S (cpG o z) s.heap s.heap [] := va_S.rf
  have hl := lv_entry ([.ref (o), .int (cell), .int (what)]) (n := 4) (Nat.le_of_ble_eq_true rfl)
  rw [lg_entry_eq]
  generalize (lg_sl ([.ref (o), .int (cell), .int (what)]) ++ List.replicate (4 - (lg_sl ([.ref (o), .int (cell), .int (what)])).length) Slot.unset).toArray = ls at hl ⊢
  have hl : lv_has ls 4 [(0, .ref (o)), (1, .int (cell)), (2, .int (what))] := hl
  refine lv_aload_n hx hb dL_cellOf_0 rfl (lv_at hl 0 rfl) ?_
  refine lv_iload_n hx hb dL_cellOf_1 rfl (lv_at hl 1 rfl) ?_
  refine lv_iload_n hx hb dL_cellOf_2 rfl (lv_at hl 2 rfl) ?_
  refine vx_calli (vx_runV (As := [.int (cell), .int (what)]) (rest := []) ⟨hx, hb, hml, hown, hts⟩ hcx (cwV 2 hts gL_cellOf_X5_cellOf rfl rfl rfl (by decide +kernel) ⟨Nat.le_of_ble_eq_true rfl, Nat.le_of_ble_eq_true rfl⟩) ⟨yPc_blind, va_recv hK (va_P.one hP.main) (ci := 6) (q0 := 0) rfl rfl, fun U hU hW => ⟨rfl, by rw [hU]; exact hP, va_K.moved hW.alike hK, cST_at hZ hS hU hW.alike⟩⟩ rfl rfl hl.1 rfl (lv_room (Nat.le_of_ble_eq_true rfl)) dL_cellOf_3 ⟨Nat.le_of_ble_eq_true rfl, Nat.le_of_ble_eq_true rfl⟩) hS (fun q _ h => h) (fun q h => h) (fun q _ h => h) (fun E ce q9 u t H1 locs1 ht hvm hpx hbx hz1 hk hS hce hcv hcl => ?_) (fun r u t H1 locs1 ht hvm hw hB hz1 hk hS => ?_)
  · obtain ⟨hE9, hP1⟩ := hbx
    have q_ := hE9.symm
    subst q_
    rw [ht] at hP1
    rcases hkx with h | h | h
    · exact absurd h hpx
    · subst h
      refine vx_catch (own := RL) (name := "java/lang/IndexOutOfBoundsException") (E := xE 1) hown (tableOf []) ⟨0, 7, 8, 15⟩ (tableOf [(0, 7, 13, 19)]) hT (fun z9 hz9 => absurd hz9 (List.not_mem_nil)) (by decide) (by decide) (hts _ (List.mem_of_getElem? (i := 1) rfl)) (va_Nw.use (xNW_tab _ (List.mem_of_getElem? (i := 0) rfl)) (hZ.2.2.2.2.1 _ (List.mem_of_getElem? (i := 0) rfl))) hce hcv hcl ?_
      refine lv_astore_n (lv' := [(3, .ref (q9)), (0, .ref (o)), (1, .int (cell)), (2, .int (what))]) hx hb dL_cellOf_8 rfl hl (by decide) rfl (fun ls hl => ?_)
      refine lv_ldc2 (own := RL) (v := -9000000000000000001) hx hb hown (hts _ (List.mem_of_getElem? (i := 3) rfl)) dL_cellOf_9 ?_
      exact w_lret (Pic1 := fun H : Heap => lPic G ids o z tE (if 1 = 0 then (k_cellOf_s σ cell what) else σ) H) hx hb hr hlocks (Nat.le_of_ble_eq_true rfl) (Nat.le_of_ble_eq_true rfl) (by rw [if_neg (by decide)]; exact ⟨d, w, hP1, hWz⟩) hS dL_cellOf_12 rfl
    · subst h
      refine vx_catch (own := RL) (name := "java/lang/IllegalArgumentException") (E := xE 2) hown (tableOf [(0, 7, 8, 15)]) ⟨0, 7, 13, 19⟩ (tableOf []) hT (fun z9 hz9 => by rw [show z9 = ⟨0, 7, 8, 15⟩ from List.mem_singleton.mp hz9]; exact Or.inr ⟨by decide, _, (hts _ (List.mem_of_getElem? (i := 1) rfl)), hN.1⟩) (by decide) (by decide) (hts _ (List.mem_of_getElem? (i := 2) rfl)) (va_Nw.use (xNW_tab _ (List.mem_of_getElem? (i := 1) rfl)) (hZ.2.2.2.2.1 _ (List.mem_of_getElem? (i := 1) rfl))) hce hcv hcl ?_
      refine lv_astore_n (lv' := [(3, .ref (q9)), (0, .ref (o)), (1, .int (cell)), (2, .int (what))]) hx hb dL_cellOf_13 rfl hl (by decide) rfl (fun ls hl => ?_)
      refine lv_ldc2 (own := RL) (v := -9000000000000000002) hx hb hown (hts _ (List.mem_of_getElem? (i := 4) rfl)) dL_cellOf_14 ?_
      exact w_lret (Pic1 := fun H : Heap => lPic G ids o z tE (if 2 = 0 then (k_cellOf_s σ cell what) else σ) H) hx hb hr hlocks (Nat.le_of_ble_eq_true rfl) (Nat.le_of_ble_eq_true rfl) (by rw [if_neg (by decide)]; exact ⟨d, w, hP1, hWz⟩) hS dL_cellOf_17 rfl
  · obtain ⟨hX0, hrv⟩ := hw
    have q_ := hrv.symm
    subst q_
    rw [ht] at hB
    clear hcx hkx hk
    subst hX0
    refine lv_i2l (v := (k_cellOf σ cell what).toInt64) hx hb dL_cellOf_6 rfl ?_
    exact w_lret (Pic1 := fun H : Heap => lPic G ids o z tE (if 0 = 0 then (k_cellOf_s σ cell what) else σ) H) hx hb hr hlocks (Nat.le_of_ble_eq_true rfl) (Nat.le_of_ble_eq_true rfl) (by rw [if_pos rfl]; exact ⟨d, w, hB, hWz⟩) hS dL_cellOf_7 rfl
