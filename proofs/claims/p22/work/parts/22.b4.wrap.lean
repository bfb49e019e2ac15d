theorem kxK_reading (σ : Sg) (hole : Int32) (mo : Int32) (layer : Int32) : xK [1] (kx_reading σ hole mo layer) := by
  unfold kx_reading
  repeat' first | exact xK_0 | exact xK_Ix (by decide) | exact xK_Rg (by decide) | exact xK_St (by decide) | exact Or.inr (by decide) | refine xK_s ?_ ?_ | refine xK_if ?_ ?_
set_option maxHeartbeats 4000000 in
set_option maxRecDepth 100000 in
theorem lc_reading (l : Launch) (hl0 : l.stackTraces = false) (G : va_G) (ids : Nat → ClassId) (tS tE o z : Nat) (σ : Sg) (hole : Int32) (mo : Int32) (layer : Int32) (hO : cOK σ) : lU l yL_reading wsL_reading ({ frames := 8, cells := 3, slots := 18, locals := 145 } : Room) G ids tS tE [.ref (o), .int (hole), .int (mo), .int (layer)] o z σ (kx_reading σ hole mo layer) ((k_reading σ hole mo layer).toInt64) σ 3 18 := by
  unfold lU
  refine lw_ofWH (cc := cL_reading) (maxL := 5) (ret := some .long) (hh := [(0, 8, 9, 15)]) (by decide) rfl ?_
  intro p e s m args below meth c s₁ B hml hv
  obtain ⟨rfl, ⟨⟨d, w, hP, hWz⟩, hzs⟩, hK, hZ, hN⟩ := hv
  have hW0 := wOK_z hP hWz
  have hcx := cx_reading l hl0 G ids o z tS tE d w σ hole mo layer hO
  have hkx := xK_1 (kxK_reading σ hole mo layer)
  obtain ⟨X, hX⟩ : ∃ X : Nat, X = kx_reading σ hole mo layer := ⟨_, rfl⟩
  rw [← hX] at hcx hkx ⊢
  clear hX
  have hx := B.exec
  have hb := B.bytes
  have hr := B.returns
  have hts := atoms_spec (ws := wsL_reading) B.pre
  have hown : s.vm.findClass RL = some m.cls := findClass_of_methodNamed B.named
  have hlocks := B.notSynchronized
  have hT : c.exceptionTable.toList = tableOf [(0, 8, 9, 15)] := vx_table (x := yL_reading) B (hts _ List.mem_cons_self)
  have hS : va_S (cpG o z) s.heap s.heap [] := va_S.rf
  have hl := lv_entry ([.ref (o), .int (hole), .int (mo), .int (layer)]) (n := 5) (Nat.le_of_ble_eq_true rfl)
  rw [lg_entry_eq]
  generalize (lg_sl ([.ref (o), .int (hole), .int (mo), .int (layer)]) ++ List.replicate (5 - (lg_sl ([.ref (o), .int (hole), .int (mo), .int (layer)])).length) Slot.unset).toArray = ls at hl ⊢
  have hl : lv_has ls 5 [(0, .ref (o)), (1, .int (hole)), (2, .int (mo)), (3, .int (layer))] := hl
  refine lv_aload_n hx hb dL_reading_0 rfl (lv_at hl 0 rfl) ?_
  refine lv_iload_n hx hb dL_reading_1 rfl (lv_at hl 1 rfl) ?_
  refine lv_iload_n hx hb dL_reading_2 rfl (lv_at hl 2 rfl) ?_
  refine lv_iload_n hx hb dL_reading_3 rfl (lv_at hl 3 rfl) ?_
  refine vx_calli (vx_runV (As := [.int (hole), .int (mo), .int (layer)]) (rest := []) ⟨hx, hb, hml, hown, hts⟩ hcx (cwV 3 hts gL_reading_X5_reading rfl rfl rfl (by decide +kernel) ⟨Nat.le_of_ble_eq_true rfl, Nat.le_of_ble_eq_true rfl⟩) ⟨yPc_blind, va_recv hK (va_P.one hP.main) (ci := 6) (q0 := 0) rfl rfl, fun U hU hW => ⟨rfl, by rw [hU]; exact hP, va_K.moved hW.alike hK, cST_at hZ hS hU hW.alike⟩⟩ rfl rfl hl.1 rfl (lv_room (Nat.le_of_ble_eq_true rfl)) dL_reading_4 ⟨Nat.le_of_ble_eq_true rfl, Nat.le_of_ble_eq_true rfl⟩) hS (fun q _ h => h) (fun q h => h) (fun q _ h => h) (fun E ce q9 u t H1 locs1 ht hvm hpx hbx hz1 hk hS hce hcv hcl => ?_) (fun r u t H1 locs1 ht hvm hw hB hz1 hk hS => ?_)
  · obtain ⟨hE9, hP1⟩ := hbx
    have q_ := hE9.symm
    subst q_
    rw [ht] at hP1
    rcases hkx with h | h
    · exact absurd h hpx
    · subst h
      refine vx_catch (own := RL) (name := "java/lang/IndexOutOfBoundsException") (E := xE 1) hown (tableOf []) ⟨0, 8, 9, 15⟩ (tableOf []) hT (fun z9 hz9 => absurd hz9 (List.not_mem_nil)) (by decide) (by decide) (hts _ (List.mem_of_getElem? (i := 1) rfl)) (va_Nw.use (xNW_tab _ (List.mem_of_getElem? (i := 0) rfl)) (hZ.2.2.2.2.1 _ (List.mem_of_getElem? (i := 0) rfl))) hce hcv hcl ?_
      refine lv_astore (lv' := [(4, .ref (q9)), (0, .ref (o)), (1, .int (hole)), (2, .int (mo)), (3, .int (layer))]) hx hb dL_reading_9 hl (by decide) rfl (fun ls hl => ?_)
      refine lv_ldc2 (own := RL) (v := -9000000000000000001) hx hb hown (hts _ (List.mem_of_getElem? (i := 2) rfl)) dL_reading_11 ?_
      exact w_lret (Pic1 := fun H : Heap => lPic G ids o z tE (if 1 = 0 then σ else σ) H) hx hb hr hlocks (Nat.le_of_ble_eq_true rfl) (Nat.le_of_ble_eq_true rfl) (by rw [if_neg (by decide)]; exact ⟨d, w, hP1, hWz⟩) hS dL_reading_14 rfl
  · obtain ⟨hX0, hrv⟩ := hw
    have q_ := hrv.symm
    subst q_
    rw [ht] at hB
    clear hcx hkx hk
    subst hX0
    refine lv_i2l (v := (k_reading σ hole mo layer).toInt64) hx hb dL_reading_7 rfl ?_
    exact w_lret (Pic1 := fun H : Heap => lPic G ids o z tE (if 0 = 0 then σ else σ) H) hx hb hr hlocks (Nat.le_of_ble_eq_true rfl) (Nat.le_of_ble_eq_true rfl) (by rw [if_pos rfl]; exact ⟨d, w, hB, hWz⟩) hS dL_reading_8 rfl
theorem kxK_claimOf (σ : Sg) (claim : Int32) : xK [1] (kx_claimOf σ claim) := by
  unfold kx_claimOf
  repeat' first | exact xK_0 | exact xK_Ix (by decide) | exact xK_Rg (by decide) | exact xK_St (by decide) | exact Or.inr (by decide) | refine xK_s ?_ ?_ | refine xK_if ?_ ?_
set_option maxHeartbeats 4000000 in
set_option maxRecDepth 100000 in
theorem lc_claimOf (l : Launch) (hl0 : l.stackTraces = false) (G : va_G) (ids : Nat → ClassId) (tS tE o z : Nat) (σ : Sg) (claim : Int32) (hO : cOK σ) : lU l yL_claimOf wsL_claimOf ({ frames := 8, cells := 1, slots := 6, locals := 142 } : Room) G ids tS tE [.ref (o), .int (claim)] o z σ (kx_claimOf σ claim) ((k_claimOf σ claim).toInt64) σ 1 6 := by
  unfold lU
  refine lw_ofWH (cc := cL_claimOf) (maxL := 3) (ret := some .long) (hh := [(0, 6, 7, 15)]) (by decide) rfl ?_
  intro p e s m args below meth c s₁ B hml hv
  obtain ⟨rfl, ⟨⟨d, w, hP, hWz⟩, hzs⟩, hK, hZ, hN⟩ := hv
  have hW0 := wOK_z hP hWz
  have hcx := cx_claimOf l hl0 G ids o z tS tE d w σ claim hO
  have hkx := xK_1 (kxK_claimOf σ claim)
  obtain ⟨X, hX⟩ : ∃ X : Nat, X = kx_claimOf σ claim := ⟨_, rfl⟩
  rw [← hX] at hcx hkx ⊢
  clear hX
  have hx := B.exec
  have hb := B.bytes
  have hr := B.returns
  have hts := atoms_spec (ws := wsL_claimOf) B.pre
  have hown : s.vm.findClass RL = some m.cls := findClass_of_methodNamed B.named
  have hlocks := B.notSynchronized
  have hT : c.exceptionTable.toList = tableOf [(0, 6, 7, 15)] := vx_table (x := yL_claimOf) B (hts _ List.mem_cons_self)
  have hS : va_S (cpG o z) s.heap s.heap [] := va_S.rf
  have hl := lv_entry ([.ref (o), .int (claim)]) (n := 3) (Nat.le_of_ble_eq_true rfl)
  rw [lg_entry_eq]
  generalize (lg_sl ([.ref (o), .int (claim)]) ++ List.replicate (3 - (lg_sl ([.ref (o), .int (claim)])).length) Slot.unset).toArray = ls at hl ⊢
  have hl : lv_has ls 3 [(0, .ref (o)), (1, .int (claim))] := hl
  refine lv_aload_n hx hb dL_claimOf_0 rfl (lv_at hl 0 rfl) ?_
  refine lv_iload_n hx hb dL_claimOf_1 rfl (lv_at hl 1 rfl) ?_
  refine vx_calli (vx_runV (As := [.int (claim)]) (rest := []) ⟨hx, hb, hml, hown, hts⟩ hcx (cwV 1 hts gL_claimOf_X5_claimOf rfl rfl rfl (by decide +kernel) ⟨Nat.le_of_ble_eq_true rfl, Nat.le_of_ble_eq_true rfl⟩) ⟨yPc_blind, va_recv hK (va_P.one hP.main) (ci := 6) (q0 := 0) rfl rfl, fun U hU hW => ⟨rfl, by rw [hU]; exact hP, va_K.moved hW.alike hK, cST_at hZ hS hU hW.alike⟩⟩ rfl rfl hl.1 rfl (lv_room (Nat.le_of_ble_eq_true rfl)) dL_claimOf_2 ⟨Nat.le_of_ble_eq_true rfl, Nat.le_of_ble_eq_true rfl⟩) hS (fun q _ h => h) (fun q h => h) (fun q _ h => h) (fun E ce q9 u t H1 locs1 ht hvm hpx hbx hz1 hk hS hce hcv hcl => ?_) (fun r u t H1 locs1 ht hvm hw hB hz1 hk hS => ?_)
  · obtain ⟨hE9, hP1⟩ := hbx
    have q_ := hE9.symm
    subst q_
    rw [ht] at hP1
    rcases hkx with h | h
    · exact absurd h hpx
    · subst h
      refine vx_catch (own := RL) (name := "java/lang/IndexOutOfBoundsException") (E := xE 1) hown (tableOf []) ⟨0, 6, 7, 15⟩ (tableOf []) hT (fun z9 hz9 => absurd hz9 (List.not_mem_nil)) (by decide) (by decide) (hts _ (List.mem_of_getElem? (i := 1) rfl)) (va_Nw.use (xNW_tab _ (List.mem_of_getElem? (i := 0) rfl)) (hZ.2.2.2.2.1 _ (List.mem_of_getElem? (i := 0) rfl))) hce hcv hcl ?_
      refine lv_astore_n (lv' := [(2, .ref (q9)), (0, .ref (o)), (1, .int (claim))]) hx hb dL_claimOf_7 rfl hl (by decide) rfl (fun ls hl => ?_)
      refine lv_ldc2 (own := RL) (v := -9000000000000000001) hx hb hown (hts _ (List.mem_of_getElem? (i := 2) rfl)) dL_claimOf_8 ?_
      exact w_lret (Pic1 := fun H : Heap => lPic G ids o z tE (if 1 = 0 then σ else σ) H) hx hb hr hlocks (Nat.le_of_ble_eq_true rfl) (Nat.le_of_ble_eq_true rfl) (by rw [if_neg (by decide)]; exact ⟨d, w, hP1, hWz⟩) hS dL_claimOf_11 rfl
  · obtain ⟨hX0, hrv⟩ := hw
    have q_ := hrv.symm
    subst q_
    rw [ht] at hB
    clear hcx hkx hk
    subst hX0
    refine lv_i2l (v := (k_claimOf σ claim).toInt64) hx hb dL_claimOf_5 rfl ?_
    exact w_lret (Pic1 := fun H : Heap => lPic G ids o z tE (if 0 = 0 then σ else σ) H) hx hb hr hlocks (Nat.le_of_ble_eq_true rfl) (Nat.le_of_ble_eq_true rfl) (by rw [if_pos rfl]; exact ⟨d, w, hB, hWz⟩) hS dL_claimOf_6 rfl
theorem kxK_claimAnew (σ : Sg) (claim : Int32) : xK [1] (kx_claimAnew σ claim) := by
  unfold kx_claimAnew
  repeat' first | exact xK_0 | exact xK_Ix (by decide) | exact xK_Rg (by decide) | exact xK_St (by decide) | exact Or.inr (by decide) | refine xK_s ?_ ?_ | refine xK_if ?_ ?_
set_option maxHeartbeats 4000000 in
set_option maxRecDepth 100000 in
theorem lc_claimAnew (l : Launch) (hl0 : l.stackTraces = false) (G : va_G) (ids : Nat → ClassId) (tS tE o z : Nat) (σ : Sg) (claim : Int32) (hO : cOK σ) (hC : cCl σ) : lU l yL_claimAnew wsL_claimAnew ({ frames := 8, cells := 1, slots := 6, locals := 157 } : Room) G ids tS tE [.ref (o), .int (claim)] o z σ (kx_claimAnew σ claim) ((k_claimAnew σ claim).toInt64) σ 1 6 := by
  unfold lU
  refine lw_ofWH (cc := cL_claimAnew) (maxL := 3) (ret := some .long) (hh := [(0, 6, 7, 15)]) (by decide) rfl ?_
  intro p e s m args below meth c s₁ B hml hv
  obtain ⟨rfl, ⟨⟨d, w, hP, hWz⟩, hzs⟩, hK, hZ, hN⟩ := hv
  have hW0 := wOK_z hP hWz
  have hcx := cx_claimAnew l hl0 G ids o z tS tE d w σ claim hO hC
  have hkx := xK_1 (kxK_claimAnew σ claim)
  obtain ⟨X, hX⟩ : ∃ X : Nat, X = kx_claimAnew σ claim := ⟨_, rfl⟩
  rw [← hX] at hcx hkx ⊢
  clear hX
  have hx := B.exec
  have hb := B.bytes
  have hr := B.returns
  have hts := atoms_spec (ws := wsL_claimAnew) B.pre
  have hown : s.vm.findClass RL = some m.cls := findClass_of_methodNamed B.named
  have hlocks := B.notSynchronized
  have hT : c.exceptionTable.toList = tableOf [(0, 6, 7, 15)] := vx_table (x := yL_claimAnew) B (hts _ List.mem_cons_self)
  have hS : va_S (cpG o z) s.heap s.heap [] := va_S.rf
  have hl := lv_entry ([.ref (o), .int (claim)]) (n := 3) (Nat.le_of_ble_eq_true rfl)
  rw [lg_entry_eq]
  generalize (lg_sl ([.ref (o), .int (claim)]) ++ List.replicate (3 - (lg_sl ([.ref (o), .int (claim)])).length) Slot.unset).toArray = ls at hl ⊢
  have hl : lv_has ls 3 [(0, .ref (o)), (1, .int (claim))] := hl
  refine lv_aload_n hx hb dL_claimAnew_0 rfl (lv_at hl 0 rfl) ?_
  refine lv_iload_n hx hb dL_claimAnew_1 rfl (lv_at hl 1 rfl) ?_
  refine vx_calli (vx_runV (As := [.int (claim)]) (rest := []) ⟨hx, hb, hml, hown, hts⟩ hcx (cwV 1 hts gL_claimAnew_X5_claimAnew rfl rfl rfl (by decide +kernel) ⟨Nat.le_of_ble_eq_true rfl, Nat.le_of_ble_eq_true rfl⟩) ⟨yPc_blind, va_recv hK (va_P.one hP.main) (ci := 6) (q0 := 0) rfl rfl, fun U hU hW => ⟨rfl, by rw [hU]; exact hP, va_K.moved hW.alike hK, cST_at hZ hS hU hW.alike⟩⟩ rfl rfl hl.1 rfl (lv_room (Nat.le_of_ble_eq_true rfl)) dL_claimAnew_2 ⟨Nat.le_of_ble_eq_true rfl, Nat.le_of_ble_eq_true rfl⟩) hS (fun q _ h => h) (fun q h => h) (fun q _ h => h) (fun E ce q9 u t H1 locs1 ht hvm hpx hbx hz1 hk hS hce hcv hcl => ?_) (fun r u t H1 locs1 ht hvm hw hB hz1 hk hS => ?_)
  · obtain ⟨hE9, hP1⟩ := hbx
    have q_ := hE9.symm
    subst q_
    rw [ht] at hP1
    rcases hkx with h | h
    · exact absurd h hpx
    · subst h
      refine vx_catch (own := RL) (name := "java/lang/IndexOutOfBoundsException") (E := xE 1) hown (tableOf []) ⟨0, 6, 7, 15⟩ (tableOf []) hT (fun z9 hz9 => absurd hz9 (List.not_mem_nil)) (by decide) (by decide) (hts _ (List.mem_of_getElem? (i := 1) rfl)) (va_Nw.use (xNW_tab _ (List.mem_of_getElem? (i := 0) rfl)) (hZ.2.2.2.2.1 _ (List.mem_of_getElem? (i := 0) rfl))) hce hcv hcl ?_
      refine lv_astore_n (lv' := [(2, .ref (q9)), (0, .ref (o)), (1, .int (claim))]) hx hb dL_claimAnew_7 rfl hl (by decide) rfl (fun ls hl => ?_)
      refine lv_ldc2 (own := RL) (v := -9000000000000000001) hx hb hown (hts _ (List.mem_of_getElem? (i := 2) rfl)) dL_claimAnew_8 ?_
      exact w_lret (Pic1 := fun H : Heap => lPic G ids o z tE (if 1 = 0 then σ else σ) H) hx hb hr hlocks (Nat.le_of_ble_eq_true rfl) (Nat.le_of_ble_eq_true rfl) (by rw [if_neg (by decide)]; exact ⟨d, w, hP1, hWz⟩) hS dL_claimAnew_11 rfl
  · obtain ⟨hX0, hrv⟩ := hw
    have q_ := hrv.symm
    subst q_
    rw [ht] at hB
    clear hcx hkx hk
    subst hX0
    refine lv_i2l (v := (k_claimAnew σ claim).toInt64) hx hb dL_claimAnew_5 rfl ?_
    exact w_lret (Pic1 := fun H : Heap => lPic G ids o z tE (if 0 = 0 then σ else σ) H) hx hb hr hlocks (Nat.le_of_ble_eq_true rfl) (Nat.le_of_ble_eq_true rfl) (by rw [if_pos rfl]; exact ⟨d, w, hB, hWz⟩) hS dL_claimAnew_6 rfl
