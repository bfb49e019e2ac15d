theorem kxK_fire (σ : Sg) (cell : Int32) : xK [1, 3] (kx_fire σ cell) := by
  unfold kx_fire
  repeat' first | exact xK_0 | exact xK_Ix (by decide) | exact xK_Rg (by decide) | exact xK_St (by decide) | exact Or.inr (by decide) | refine xK_s ?_ ?_ | refine xK_if ?_ ?_
set_option maxHeartbeats 4000000 in
set_option maxRecDepth 100000 in
theorem lc_fire (l : Launch) (hl0 : l.stackTraces = false) (G : va_G) (ids : Nat → ClassId) (tS tE o z : Nat) (σ : Sg) (cell : Int32) : lU l yL_fire wsL_fire ({ frames := 8, cells := 2, slots := 12, locals := 145 } : Room) G ids tS tE [.ref (o), .int (cell)] o z σ (kx_fire σ cell) ((k_fire σ cell).toInt64) (k_fire_s σ cell) 2 12 := by
  unfold lU
  refine lw_ofWH (cc := cL_fire) (maxL := 3) (ret := some .long) (hh := [(0, 6, 7, 15), (0, 6, 12, 31)]) (by decide) rfl ?_
  intro p e s m args below meth c s₁ B hml hv
  obtain ⟨rfl, ⟨⟨d, w, hP, hWz⟩, hzs⟩, hK, hZ, hN⟩ := hv
  have hW0 := wOK_z hP hWz
  have hcx := cx_fire l hl0 G ids o z tS tE d w σ cell
  have hkx := xK_2 (kxK_fire σ cell)
  obtain ⟨X, hX⟩ : ∃ X : Nat, X = kx_fire σ cell := ⟨_, rfl⟩
  rw [← hX] at hcx hkx ⊢
  clear hX
  have hx := B.exec
  have hb := B.bytes
  have hr := B.returns
  have hts := atoms_spec (ws := wsL_fire) B.pre
  have hown : s.vm.findClass RL = some m.cls := findClass_of_methodNamed B.named
  have hlocks := B.notSynchronized
  have hT : c.exceptionTable.toList = tableOf [(0, 6, 7, 15), (0, 6, 12, 31)] := vx_table (x := yL_fire) B (hts _ List.mem_cons_self)
  have hS : va_S (cpG o z) s.heap s.heap [] := va_S.rf
  have hl := lv_entry ([.ref (o), .int (cell)]) (n := 3) (Nat.le_of_ble_eq_true rfl)
  rw [lg_entry_eq]
  generalize (lg_sl ([.ref (o), .int (cell)]) ++ List.replicate (3 - (lg_sl ([.ref (o), .int (cell)])).length) Slot.unset).toArray = ls at hl ⊢
  have hl : lv_has ls 3 [(0, .ref (o)), (1, .int (cell))] := hl
  refine lv_aload_n hx hb dL_fire_0 rfl (lv_at hl 0 rfl) ?_
  refine lv_iload_n hx hb dL_fire_1 rfl (lv_at hl 1 rfl) ?_
  refine vx_calli (vx_runV (As := [.int (cell)]) (rest := []) ⟨hx, hb, hml, hown, hts⟩ hcx (cwV 1 hts gL_fire_X5_fire rfl rfl rfl (by decide +kernel) ⟨Nat.le_of_ble_eq_true rfl, Nat.le_of_ble_eq_true rfl⟩) ⟨yPc_blind, va_recv hK (va_P.one hP.main) (ci := 6) (q0 := 0) rfl rfl, fun U hU hW => ⟨rfl, by rw [hU]; exact hP, va_K.moved hW.alike hK, cST_at hZ hS hU hW.alike⟩⟩ rfl rfl hl.1 rfl (lv_room (Nat.le_of_ble_eq_true rfl)) dL_fire_2 ⟨Nat.le_of_ble_eq_true rfl, Nat.le_of_ble_eq_true rfl⟩) hS (fun q _ h => h) (fun q h => h) (fun q _ h => h) (fun E ce q9 u t H1 locs1 ht hvm hpx hbx hz1 hk hS hce hcv hcl => ?_) (fun r u t H1 locs1 ht hvm hw hB hz1 hk hS => ?_)
  · obtain ⟨hE9, hP1⟩ := hbx
    have q_ := hE9.symm
    subst q_
    rw [ht] at hP1
    rcases hkx with h | h | h
    · exact absurd h hpx
    · subst h
      refine vx_catch (own := RL) (name := "java/lang/IndexOutOfBoundsException") (E := xE 1) hown (tableOf []) ⟨0, 6, 7, 15⟩ (tableOf [(0, 6, 12, 31)]) hT (fun z9 hz9 => absurd hz9 (List.not_mem_nil)) (by decide) (by decide) (hts _ (List.mem_of_getElem? (i := 1) rfl)) (va_Nw.use (xNW_tab _ (List.mem_of_getElem? (i := 0) rfl)) (hZ.2.2.2.2.1 _ (List.mem_of_getElem? (i := 0) rfl))) hce hcv hcl ?_
      refine lv_astore_n (lv' := [(2, .ref (q9)), (0, .ref (o)), (1, .int (cell))]) hx hb dL_fire_7 rfl hl (by decide) rfl (fun ls hl => ?_)
      refine lv_ldc2 (own := RL) (v := -9000000000000000001) hx hb hown (hts _ (List.mem_of_getElem? (i := 3) rfl)) dL_fire_8 ?_
      exact w_lret (Pic1 := fun H : Heap => lPic G ids o z tE (if 1 = 0 then (k_fire_s σ cell) else σ) H) hx hb hr hlocks (Nat.le_of_ble_eq_true rfl) (Nat.le_of_ble_eq_true rfl) (by rw [if_neg (by decide)]; exact ⟨d, w, hP1, hWz⟩) hS dL_fire_11 rfl
    · subst h
      refine vx_catch (own := RL) (name := "java/lang/IllegalStateException") (E := xE 3) hown (tableOf [(0, 6, 7, 15)]) ⟨0, 6, 12, 31⟩ (tableOf []) hT (fun z9 hz9 => by rw [show z9 = ⟨0, 6, 7, 15⟩ from List.mem_singleton.mp hz9]; exact Or.inr ⟨by decide, _, (hts _ (List.mem_of_getElem? (i := 1) rfl)), hN.2.1⟩) (by decide) (by decide) (hts _ (List.mem_of_getElem? (i := 2) rfl)) (va_Nw.use (xNW_tab _ (List.mem_of_getElem? (i := 2) rfl)) (hZ.2.2.2.2.1 _ (List.mem_of_getElem? (i := 2) rfl))) hce hcv hcl ?_
      refine lv_astore_n (lv' := [(2, .ref (q9)), (0, .ref (o)), (1, .int (cell))]) hx hb dL_fire_12 rfl hl (by decide) rfl (fun ls hl => ?_)
      refine lv_ldc2 (own := RL) (v := -9000000000000000003) hx hb hown (hts _ (List.mem_of_getElem? (i := 4) rfl)) dL_fire_13 ?_
      exact w_lret (Pic1 := fun H : Heap => lPic G ids o z tE (if 3 = 0 then (k_fire_s σ cell) else σ) H) hx hb hr hlocks (Nat.le_of_ble_eq_true rfl) (Nat.le_of_ble_eq_true rfl) (by rw [if_neg (by decide)]; exact ⟨d, w, hP1, hWz⟩) hS dL_fire_16 rfl
  · obtain ⟨hX0, hrv⟩ := hw
    have q_ := hrv.symm
    subst q_
    rw [ht] at hB
    clear hcx hkx hk
    subst hX0
    refine lv_i2l (v := (k_fire σ cell).toInt64) hx hb dL_fire_5 rfl ?_
    exact w_lret (Pic1 := fun H : Heap => lPic G ids o z tE (if 0 = 0 then (k_fire_s σ cell) else σ) H) hx hb hr hlocks (Nat.le_of_ble_eq_true rfl) (Nat.le_of_ble_eq_true rfl) (by rw [if_pos rfl]; exact ⟨d, w, hB, hWz⟩) hS dL_fire_6 rfl
theorem kxK_breach (σ : Sg) (cell : Int32) : xK [1, 3] (kx_breach σ cell) := by
  unfold kx_breach
  repeat' first | exact xK_0 | exact xK_Ix (by decide) | exact xK_Rg (by decide) | exact xK_St (by decide) | exact Or.inr (by decide) | refine xK_s ?_ ?_ | refine xK_if ?_ ?_
set_option maxHeartbeats 4000000 in
set_option maxRecDepth 100000 in
theorem lc_breach (l : Launch) (hl0 : l.stackTraces = false) (G : va_G) (ids : Nat → ClassId) (tS tE o z : Nat) (σ : Sg) (cell : Int32) : lU l yL_breach wsL_breach ({ frames := 8, cells := 2, slots := 12, locals := 146 } : Room) G ids tS tE [.ref (o), .int (cell)] o z σ (kx_breach σ cell) ((k_breach σ cell).toInt64) (k_breach_s σ cell) 2 12 := by
  unfold lU
  refine lw_ofWH (cc := cL_breach) (maxL := 3) (ret := some .long) (hh := [(0, 6, 7, 15), (0, 6, 12, 31)]) (by decide) rfl ?_
  intro p e s m args below meth c s₁ B hml hv
  obtain ⟨rfl, ⟨⟨d, w, hP, hWz⟩, hzs⟩, hK, hZ, hN⟩ := hv
  have hW0 := wOK_z hP hWz
  have hcx := cx_breach l hl0 G ids o z tS tE d w σ cell
  have hkx := xK_2 (kxK_breach σ cell)
  obtain ⟨X, hX⟩ : ∃ X : Nat, X = kx_breach σ cell := ⟨_, rfl⟩
  rw [← hX] at hcx hkx ⊢
  clear hX
  have hx := B.exec
  have hb := B.bytes
  have hr := B.returns
  have hts := atoms_spec (ws := wsL_breach) B.pre
  have hown : s.vm.findClass RL = some m.cls := findClass_of_methodNamed B.named
  have hlocks := B.notSynchronized
  have hT : c.exceptionTable.toList = tableOf [(0, 6, 7, 15), (0, 6, 12, 31)] := vx_table (x := yL_breach) B (hts _ List.mem_cons_self)
  have hS : va_S (cpG o z) s.heap s.heap [] := va_S.rf
  have hl := lv_entry ([.ref (o), .int (cell)]) (n := 3) (Nat.le_of_ble_eq_true rfl)
  rw [lg_entry_eq]
  generalize (lg_sl ([.ref (o), .int (cell)]) ++ List.replicate (3 - (lg_sl ([.ref (o), .int (cell)])).length) Slot.unset).toArray = ls at hl ⊢
  have hl : lv_has ls 3 [(0, .ref (o)), (1, .int (cell))] := hl
  refine lv_aload_n hx hb dL_breach_0 rfl (lv_at hl 0 rfl) ?_
  refine lv_iload_n hx hb dL_breach_1 rfl (lv_at hl 1 rfl) ?_
  refine vx_calli (vx_runV (As := [.int (cell)]) (rest := []) ⟨hx, hb, hml, hown, hts⟩ hcx (cwV 1 hts gL_breach_X5_breach rfl rfl rfl (by decide +kernel) ⟨Nat.le_of_ble_eq_true rfl, Nat.le_of_ble_eq_true rfl⟩) ⟨yPc_blind, va_recv hK (va_P.one hP.main) (ci := 6) (q0 := 0) rfl rfl, fun U hU hW => ⟨rfl, by rw [hU]; exact hP, va_K.moved hW.alike hK, cST_at hZ hS hU hW.alike⟩⟩ rfl rfl hl.1 rfl (lv_room (Nat.le_of_ble_eq_true rfl)) dL_breach_2 ⟨Nat.le_of_ble_eq_true rfl, Nat.le_of_ble_eq_true rfl⟩) hS (fun q _ h => h) (fun q h => h) (fun q _ h => h) (fun E ce q9 u t H1 locs1 ht hvm hpx hbx hz1 hk hS hce hcv hcl => ?_) (fun r u t H1 locs1 ht hvm hw hB hz1 hk hS => ?_)
  · obtain ⟨hE9, hP1⟩ := hbx
    have q_ := hE9.symm
    subst q_
    rw [ht] at hP1
    rcases hkx with h | h | h
    · exact absurd h hpx
    · subst h
      refine vx_catch (own := RL) (name := "java/lang/IndexOutOfBoundsException") (E := xE 1) hown (tableOf []) ⟨0, 6, 7, 15⟩ (tableOf [(0, 6, 12, 31)]) hT (fun z9 hz9 => absurd hz9 (List.not_mem_nil)) (by decide) (by decide) (hts _ (List.mem_of_getElem? (i := 1) rfl)) (va_Nw.use (xNW_tab _ (List.mem_of_getElem? (i := 0) rfl)) (hZ.2.2.2.2.1 _ (List.mem_of_getElem? (i := 0) rfl))) hce hcv hcl ?_
      refine lv_astore_n (lv' := [(2, .ref (q9)), (0, .ref (o)), (1, .int (cell))]) hx hb dL_breach_7 rfl hl (by decide) rfl (fun ls hl => ?_)
      refine lv_ldc2 (own := RL) (v := -9000000000000000001) hx hb hown (hts _ (List.mem_of_getElem? (i := 3) rfl)) dL_breach_8 ?_
      exact w_lret (Pic1 := fun H : Heap => lPic G ids o z tE (if 1 = 0 then (k_breach_s σ cell) else σ) H) hx hb hr hlocks (Nat.le_of_ble_eq_true rfl) (Nat.le_of_ble_eq_true rfl) (by rw [if_neg (by decide)]; exact ⟨d, w, hP1, hWz⟩) hS dL_breach_11 rfl
    · subst h
      refine vx_catch (own := RL) (name := "java/lang/IllegalStateException") (E := xE 3) hown (tableOf [(0, 6, 7, 15)]) ⟨0, 6, 12, 31⟩ (tableOf []) hT (fun z9 hz9 => by rw [show z9 = ⟨0, 6, 7, 15⟩ from List.mem_singleton.mp hz9]; exact Or.inr ⟨by decide, _, (hts _ (List.mem_of_getElem? (i := 1) rfl)), hN.2.1⟩) (by decide) (by decide) (hts _ (List.mem_of_getElem? (i := 2) rfl)) (va_Nw.use (xNW_tab _ (List.mem_of_getElem? (i := 2) rfl)) (hZ.2.2.2.2.1 _ (List.mem_of_getElem? (i := 2) rfl))) hce hcv hcl ?_
      refine lv_astore_n (lv' := [(2, .ref (q9)), (0, .ref (o)), (1, .int (cell))]) hx hb dL_breach_12 rfl hl (by decide) rfl (fun ls hl => ?_)
      refine lv_ldc2 (own := RL) (v := -9000000000000000003) hx hb hown (hts _ (List.mem_of_getElem? (i := 4) rfl)) dL_breach_13 ?_
      exact w_lret (Pic1 := fun H : Heap => lPic G ids o z tE (if 3 = 0 then (k_breach_s σ cell) else σ) H) hx hb hr hlocks (Nat.le_of_ble_eq_true rfl) (Nat.le_of_ble_eq_true rfl) (by rw [if_neg (by decide)]; exact ⟨d, w, hP1, hWz⟩) hS dL_breach_16 rfl
  · obtain ⟨hX0, hrv⟩ := hw
    have q_ := hrv.symm
    subst q_
    rw [ht] at hB
    clear hcx hkx hk
    subst hX0
    refine lv_i2l (v := (k_breach σ cell).toInt64) hx hb dL_breach_5 rfl ?_
    exact w_lret (Pic1 := fun H : Heap => lPic G ids o z tE (if 0 = 0 then (k_breach_s σ cell) else σ) H) hx hb hr hlocks (Nat.le_of_ble_eq_true rfl) (Nat.le_of_ble_eq_true rfl) (by rw [if_pos rfl]; exact ⟨d, w, hB, hWz⟩) hS dL_breach_6 rfl
theorem kxK_house (σ : Sg) (cell : Int32) (pile : Int32) (ic : Int32) : xK [1, 3] (kx_house σ cell pile ic) := by
  unfold kx_house
  repeat' first | exact xK_0 | exact xK_Ix (by decide) | exact xK_Rg (by decide) | exact xK_St (by decide) | exact Or.inr (by decide) | refine xK_s ?_ ?_ | refine xK_if ?_ ?_
set_option maxHeartbeats 4000000 in
set_option maxRecDepth 100000 in
theorem lc_house (l : Launch) (hl0 : l.stackTraces = false) (G : va_G) (ids : Nat → ClassId) (tS tE o z : Nat) (σ : Sg) (cell : Int32) (pile : Int32) (ic : Int32) (hO : cOK σ) (hC : cCl σ) (hz : ic = 0 ∨ ic = 1) : lU l yL_house wsL_house ({ frames := 9, cells := 5, slots := 83, locals := 185 } : Room) G ids tS tE [.ref (o), .int (cell), .int (pile), .int (ic)] o z σ (kx_house σ cell pile ic) ((k_house σ cell pile ic).toInt64) (k_house_s σ cell pile ic) 5 83 := by
  unfold lU
  refine lw_ofWH (cc := cL_house) (maxL := 5) (ret := some .long) (hh := [(0, 8, 9, 15), (0, 8, 15, 31)]) (by decide) rfl ?_
  intro p e s m args below meth c s₁ B hml hv
  obtain ⟨rfl, ⟨⟨d, w, hP, hWz⟩, hzs⟩, hK, hZ, hN⟩ := hv
  have hW0 := wOK_z hP hWz
  have hcx := cx_house l hl0 G ids o z tS tE d w σ cell pile ic hO hC hW0 hz
  have hkx := xK_2 (kxK_house σ cell pile ic)
  obtain ⟨X, hX⟩ : ∃ X : Nat, X = kx_house σ cell pile ic := ⟨_, rfl⟩
  rw [← hX] at hcx hkx ⊢
  clear hX
  have hx := B.exec
  have hb := B.bytes
  have hr := B.returns
  have hts := atoms_spec (ws := wsL_house) B.pre
  have hown : s.vm.findClass RL = some m.cls := findClass_of_methodNamed B.named
  have hlocks := B.notSynchronized
  have hT : c.exceptionTable.toList = tableOf [(0, 8, 9, 15), (0, 8, 15, 31)] := vx_table (x := yL_house) B (hts _ List.mem_cons_self)
  have hS : va_S (cpG o z) s.heap s.heap [] := va_S.rf
  have hl := lv_entry ([.ref (o), .int (cell), .int (pile), .int (ic)]) (n := 5) (Nat.le_of_ble_eq_true rfl)
  rw [lg_entry_eq]
  generalize (lg_sl ([.ref (o), .int (cell), .int (pile), .int (ic)]) ++ List.replicate (5 - (lg_sl ([.ref (o), .int (cell), .int (pile), .int (ic)])).length) Slot.unset).toArray = ls at hl ⊢
  have hl : lv_has ls 5 [(0, .ref (o)), (1, .int (cell)), (2, .int (pile)), (3, .int (ic))] := hl
  refine lv_aload_n hx hb dL_house_0 rfl (lv_at hl 0 rfl) ?_
  refine lv_iload_n hx hb dL_house_1 rfl (lv_at hl 1 rfl) ?_
  refine lv_iload_n hx hb dL_house_2 rfl (lv_at hl 2 rfl) ?_
  refine lv_iload_n hx hb dL_house_3 rfl (lv_at hl 3 rfl) ?_
  refine vx_calli (vx_runV (As := [.int (cell), .int (pile), .int (ic)]) (rest := []) ⟨hx, hb, hml, hown, hts⟩ hcx (cwV 3 hts gL_house_X5_house rfl rfl rfl (by decide +kernel) ⟨Nat.le_of_ble_eq_true rfl, Nat.le_of_ble_eq_true rfl⟩) ⟨yPc_blind, va_recv hK (va_P.one hP.main) (ci := 6) (q0 := 0) rfl rfl, fun U hU hW => ⟨rfl, by rw [hU]; exact ⟨hP, hzs⟩, va_K.moved hW.alike hK, cST_at hZ hS hU hW.alike⟩⟩ rfl rfl hl.1 rfl (lv_room (Nat.le_of_ble_eq_true rfl)) dL_house_4 ⟨Nat.le_of_ble_eq_true rfl, Nat.le_of_ble_eq_true rfl⟩) hS (fun q _ h => h) (fun q h => h) (fun q _ h => h) (fun E ce q9 u t H1 locs1 ht hvm hpx hbx hz1 hk hS hce hcv hcl => ?_) (fun r u t H1 locs1 ht hvm hw hB hz1 hk hS => ?_)
  · obtain ⟨hE9, hP1⟩ := hbx
    have q_ := hE9.symm
    subst q_
    rw [ht] at hP1
    rcases hkx with h | h | h
    · exact absurd h hpx
    · subst h
      refine vx_catch (own := RL) (name := "java/lang/IndexOutOfBoundsException") (E := xE 1) hown (tableOf []) ⟨0, 8, 9, 15⟩ (tableOf [(0, 8, 15, 31)]) hT (fun z9 hz9 => absurd hz9 (List.not_mem_nil)) (by decide) (by decide) (hts _ (List.mem_of_getElem? (i := 1) rfl)) (va_Nw.use (xNW_tab _ (List.mem_of_getElem? (i := 0) rfl)) (hZ.2.2.2.2.1 _ (List.mem_of_getElem? (i := 0) rfl))) hce hcv hcl ?_
      refine lv_astore (lv' := [(4, .ref (q9)), (0, .ref (o)), (1, .int (cell)), (2, .int (pile)), (3, .int (ic))]) hx hb dL_house_9 hl (by decide) rfl (fun ls hl => ?_)
      refine lv_ldc2 (own := RL) (v := -9000000000000000001) hx hb hown (hts _ (List.mem_of_getElem? (i := 3) rfl)) dL_house_11 ?_
      exact w_lret (Pic1 := fun H : Heap => lPic G ids o z tE (if 1 = 0 then (k_house_s σ cell pile ic) else σ) H) hx hb hr hlocks (Nat.le_of_ble_eq_true rfl) (Nat.le_of_ble_eq_true rfl) (by rw [if_neg (by decide)]; exact ⟨d, w, hP1, hWz⟩) hS dL_house_14 rfl
    · subst h
      refine vx_catch (own := RL) (name := "java/lang/IllegalStateException") (E := xE 3) hown (tableOf [(0, 8, 9, 15)]) ⟨0, 8, 15, 31⟩ (tableOf []) hT (fun z9 hz9 => by rw [show z9 = ⟨0, 8, 9, 15⟩ from List.mem_singleton.mp hz9]; exact Or.inr ⟨by decide, _, (hts _ (List.mem_of_getElem? (i := 1) rfl)), hN.2.1⟩) (by decide) (by decide) (hts _ (List.mem_of_getElem? (i := 2) rfl)) (va_Nw.use (xNW_tab _ (List.mem_of_getElem? (i := 2) rfl)) (hZ.2.2.2.2.1 _ (List.mem_of_getElem? (i := 2) rfl))) hce hcv hcl ?_
      refine lv_astore (lv' := [(4, .ref (q9)), (0, .ref (o)), (1, .int (cell)), (2, .int (pile)), (3, .int (ic))]) hx hb dL_house_15 hl (by decide) rfl (fun ls hl => ?_)
      refine lv_ldc2 (own := RL) (v := -9000000000000000003) hx hb hown (hts _ (List.mem_of_getElem? (i := 4) rfl)) dL_house_17 ?_
      exact w_lret (Pic1 := fun H : Heap => lPic G ids o z tE (if 3 = 0 then (k_house_s σ cell pile ic) else σ) H) hx hb hr hlocks (Nat.le_of_ble_eq_true rfl) (Nat.le_of_ble_eq_true rfl) (by rw [if_neg (by decide)]; exact ⟨d, w, hP1, hWz⟩) hS dL_house_20 rfl
  · obtain ⟨hX0, hrv, hW1⟩ := hw
    have q_ := hrv.symm
    subst q_
    rw [ht] at hB
    clear hcx hkx hk
    subst hX0
    refine lv_i2l (v := (k_house σ cell pile ic).toInt64) hx hb dL_house_7 rfl ?_
    exact w_lret (Pic1 := fun H : Heap => lPic G ids o z tE (if 0 = 0 then (k_house_s σ cell pile ic) else σ) H) hx hb hr hlocks (Nat.le_of_ble_eq_true rfl) (Nat.le_of_ble_eq_true rfl) (by rw [if_pos rfl]; exact lPic_of hB hW1) hS dL_house_8 rfl
