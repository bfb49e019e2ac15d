theorem kxK_balance (σ : Sg) (kind : Int32) (what : Int32) : xK [2] (kx_balance σ kind what) := by
  unfold kx_balance
  repeat' first | exact xK_0 | exact xK_Ix (by decide) | exact xK_Rg (by decide) | exact xK_St (by decide) | exact Or.inr (by decide) | refine xK_s ?_ ?_ | refine xK_if ?_ ?_
set_option maxHeartbeats 4000000 in
set_option maxRecDepth 100000 in
theorem lc_balance (l : Launch) (hl0 : l.stackTraces = false) (G : va_G) (ids : Nat → ClassId) (tS tE o z : Nat) (σ : Sg) (kind : Int32) (what : Int32) : lU l yL_balance wsL_balance ({ frames := 8, cells := 2, slots := 12, locals := 144 } : Room) G ids tS tE [.ref (o), .int (kind), .int (what)] o z σ (kx_balance σ kind what) (k_balance σ kind what) σ 2 12 := by
  unfold lU
  refine lw_ofWH (cc := cL_balance) (maxL := 4) (ret := some .long) (hh := [(0, 6, 7, 19)]) (by decide) rfl ?_
  intro p e s m args below meth c s₁ B hml hv
  obtain ⟨rfl, ⟨⟨d, w, hP, hWz⟩, hzs⟩, hK, hZ, hN⟩ := hv
  have hW0 := wOK_z hP hWz
  have hcx := cx_balance l hl0 G ids o z tS tE d w σ kind what
  have hkx := xK_1 (kxK_balance σ kind what)
  obtain ⟨X, hX⟩ : ∃ X : Nat, X = kx_balance σ kind what := ⟨_, rfl⟩
  rw [← hX] at hcx hkx ⊢
  clear hX
  have hx := B.exec
  have hb := B.bytes
  have hr := B.returns
  have hts := atoms_spec (ws := wsL_balance) B.pre
  have hown : s.vm.findClass RL = some m.cls := findClass_of_methodNamed B.named
  have hlocks := B.notSynchronized
  have hT : c.exceptionTable.toList = tableOf [(0, 6, 7, 19)] := vx_table (x := yL_balance) B (hts _ List.mem_cons_self)
  have hS : va_S (cpG o z) s.heap s.heap [] := va_S.rf
  have hl := lv_entry ([.ref (o), .int (kind), .int (what)]) (n := 4) (Nat.le_of_ble_eq_true rfl)
  rw [lg_entry_eq]
  generalize (lg_sl ([.ref (o), .int (kind), .int (what)]) ++ List.replicate (4 - (lg_sl ([.ref (o), .int (kind), .int (what)])).length) Slot.unset).toArray = ls at hl ⊢
  have hl : lv_has ls 4 [(0, .ref (o)), (1, .int (kind)), (2, .int (what))] := hl
  refine lv_aload_n hx hb dL_balance_0 rfl (lv_at hl 0 rfl) ?_
  refine lv_iload_n hx hb dL_balance_1 rfl (lv_at hl 1 rfl) ?_
  refine lv_iload_n hx hb dL_balance_2 rfl (lv_at hl 2 rfl) ?_
  refine vx_calll (vx_runV (As := [.int (kind), .int (what)]) (rest := []) ⟨hx, hb, hml, hown, hts⟩ hcx (cwV 2 hts gL_balance_X5_balance rfl rfl rfl (by decide +kernel) ⟨Nat.le_of_ble_eq_true rfl, Nat.le_of_ble_eq_true rfl⟩) ⟨yPc_blind, va_recv hK (va_P.one hP.main) (ci := 6) (q0 := 0) rfl rfl, fun U hU hW => ⟨rfl, by rw [hU]; exact hP, va_K.moved hW.alike hK, cST_at hZ hS hU hW.alike⟩⟩ rfl rfl hl.1 rfl (lv_room (Nat.le_of_ble_eq_true rfl)) dL_balance_3 ⟨Nat.le_of_ble_eq_true rfl, Nat.le_of_ble_eq_true rfl⟩) hS (fun q _ h => h) (fun q h => h) (fun q _ h => h) (fun E ce q9 u t H1 locs1 ht hvm hpx hbx hz1 hk hS hce hcv hcl => ?_) (fun r u t H1 locs1 ht hvm hw hB hz1 hk hS => ?_)
  · obtain ⟨hE9, hP1⟩ := hbx
    have q_ := hE9.symm
    subst q_
    rw [ht] at hP1
    rcases hkx with h | h
    · exact absurd h hpx
    · subst h
      refine vx_catch (own := RL) (name := "java/lang/IllegalArgumentException") (E := xE 2) hown (tableOf []) ⟨0, 6, 7, 19⟩ (tableOf []) hT (fun z9 hz9 => absurd hz9 (List.not_mem_nil)) (by decide) (by decide) (hts _ (List.mem_of_getElem? (i := 1) rfl)) (va_Nw.use (xNW_tab _ (List.mem_of_getElem? (i := 1) rfl)) (hZ.2.2.2.2.1 _ (List.mem_of_getElem? (i := 1) rfl))) hce hcv hcl ?_
      refine lv_astore_n (lv' := [(3, .ref (q9)), (0, .ref (o)), (1, .int (kind)), (2, .int (what))]) hx hb dL_balance_7 rfl hl (by decide) rfl (fun ls hl => ?_)
      refine lv_ldc2 (own := RL) (v := -9000000000000000002) hx hb hown (hts _ (List.mem_of_getElem? (i := 2) rfl)) dL_balance_8 ?_
      exact w_lret (Pic1 := fun H : Heap => lPic G ids o z tE (if 2 = 0 then σ else σ) H) hx hb hr hlocks (Nat.le_of_ble_eq_true rfl) (Nat.le_of_ble_eq_true rfl) (by rw [if_neg (by decide)]; exact ⟨d, w, hP1, hWz⟩) hS dL_balance_11 rfl
  · obtain ⟨hX0, hrv⟩ := hw
    have q_ := hrv.symm
    subst q_
    rw [ht] at hB
    clear hcx hkx hk
    subst hX0
    exact w_lret (Pic1 := fun H : Heap => lPic G ids o z tE (if 0 = 0 then σ else σ) H) hx hb hr hlocks (Nat.le_of_ble_eq_true rfl) (Nat.le_of_ble_eq_true rfl) (by rw [if_pos rfl]; exact ⟨d, w, hB, hWz⟩) hS dL_balance_6 rfl
theorem kxK_air (σ : Sg) (gas : Int32) : xK [2] (kx_air σ gas) := by
  unfold kx_air
  repeat' first | exact xK_0 | exact xK_Ix (by decide) | exact xK_Rg (by decide) | exact xK_St (by decide) | exact Or.inr (by decide) | refine xK_s ?_ ?_ | refine xK_if ?_ ?_
set_option maxHeartbeats 4000000 in
set_option maxRecDepth 100000 in
theorem lc_air (l : Launch) (hl0 : l.stackTraces = false) (G : va_G) (ids : Nat → ClassId) (tS tE o z : Nat) (σ : Sg) (gas : Int32) : lU l yL_air wsL_air ({ frames := 8, cells := 1, slots := 6, locals := 143 } : Room) G ids tS tE [.ref (o), .int (gas)] o z σ (kx_air σ gas) (k_air σ gas) σ 1 6 := by
  unfold lU
  refine lw_ofWH (cc := cL_air) (maxL := 3) (ret := some .long) (hh := [(0, 5, 6, 19)]) (by decide) rfl ?_
  intro p e s m args below meth c s₁ B hml hv
  obtain ⟨rfl, ⟨⟨d, w, hP, hWz⟩, hzs⟩, hK, hZ, hN⟩ := hv
  have hW0 := wOK_z hP hWz
  have hcx := cx_air l hl0 G ids o z tS tE d w σ gas
  have hkx := xK_1 (kxK_air σ gas)
  obtain ⟨X, hX⟩ : ∃ X : Nat, X = kx_air σ gas := ⟨_, rfl⟩
  rw [← hX] at hcx hkx ⊢
  clear hX
  have hx := B.exec
  have hb := B.bytes
  have hr := B.returns
  have hts := atoms_spec (ws := wsL_air) B.pre
  have hown : s.vm.findClass RL = some m.cls := findClass_of_methodNamed B.named
  have hlocks := B.notSynchronized
  have hT : c.exceptionTable.toList = tableOf [(0, 5, 6, 19)] := vx_table (x := yL_air) B (hts _ List.mem_cons_self)
  have hS : va_S (cpG o z) s.heap s.heap [] := va_S.rf
  have hl := lv_entry ([.ref (o), .int (gas)]) (n := 3) (Nat.le_of_ble_eq_true rfl)
  rw [lg_entry_eq]
  generalize (lg_sl ([.ref (o), .int (gas)]) ++ List.replicate (3 - (lg_sl ([.ref (o), .int (gas)])).length) Slot.unset).toArray = ls at hl ⊢
  have hl : lv_has ls 3 [(0, .ref (o)), (1, .int (gas))] := hl
  refine lv_aload_n hx hb dL_air_0 rfl (lv_at hl 0 rfl) ?_
  refine lv_iload_n hx hb dL_air_1 rfl (lv_at hl 1 rfl) ?_
  refine vx_calll (vx_runV (As := [.int (gas)]) (rest := []) ⟨hx, hb, hml, hown, hts⟩ hcx (cwV 1 hts gL_air_X5_air rfl rfl rfl (by decide +kernel) ⟨Nat.le_of_ble_eq_true rfl, Nat.le_of_ble_eq_true rfl⟩) ⟨yPc_blind, va_recv hK (va_P.one hP.main) (ci := 6) (q0 := 0) rfl rfl, fun U hU hW => ⟨rfl, by rw [hU]; exact hP, va_K.moved hW.alike hK, cST_at hZ hS hU hW.alike⟩⟩ rfl rfl hl.1 rfl (lv_room (Nat.le_of_ble_eq_true rfl)) dL_air_2 ⟨Nat.le_of_ble_eq_true rfl, Nat.le_of_ble_eq_true rfl⟩) hS (fun q _ h => h) (fun q h => h) (fun q _ h => h) (fun E ce q9 u t H1 locs1 ht hvm hpx hbx hz1 hk hS hce hcv hcl => ?_) (fun r u t H1 locs1 ht hvm hw hB hz1 hk hS => ?_)
  · obtain ⟨hE9, hP1⟩ := hbx
    have q_ := hE9.symm
    subst q_
    rw [ht] at hP1
    rcases hkx with h | h
    · exact absurd h hpx
    · subst h
      refine vx_catch (own := RL) (name := "java/lang/IllegalArgumentException") (E := xE 2) hown (tableOf []) ⟨0, 5, 6, 19⟩ (tableOf []) hT (fun z9 hz9 => absurd hz9 (List.not_mem_nil)) (by decide) (by decide) (hts _ (List.mem_of_getElem? (i := 1) rfl)) (va_Nw.use (xNW_tab _ (List.mem_of_getElem? (i := 1) rfl)) (hZ.2.2.2.2.1 _ (List.mem_of_getElem? (i := 1) rfl))) hce hcv hcl ?_
      refine lv_astore_n (lv' := [(2, .ref (q9)), (0, .ref (o)), (1, .int (gas))]) hx hb dL_air_6 rfl hl (by decide) rfl (fun ls hl => ?_)
      refine lv_ldc2 (own := RL) (v := -9000000000000000002) hx hb hown (hts _ (List.mem_of_getElem? (i := 2) rfl)) dL_air_7 ?_
      exact w_lret (Pic1 := fun H : Heap => lPic G ids o z tE (if 2 = 0 then σ else σ) H) hx hb hr hlocks (Nat.le_of_ble_eq_true rfl) (Nat.le_of_ble_eq_true rfl) (by rw [if_neg (by decide)]; exact ⟨d, w, hP1, hWz⟩) hS dL_air_10 rfl
  · obtain ⟨hX0, hrv⟩ := hw
    have q_ := hrv.symm
    subst q_
    rw [ht] at hB
    clear hcx hkx hk
    subst hX0
    exact w_lret (Pic1 := fun H : Heap => lPic G ids o z tE (if 0 = 0 then σ else σ) H) hx hb hr hlocks (Nat.le_of_ble_eq_true rfl) (Nat.le_of_ble_eq_true rfl) (by rw [if_pos rfl]; exact ⟨d, w, hB, hWz⟩) hS dL_air_5 rfl
