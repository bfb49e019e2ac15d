theorem kxK_layerOf (σ : Sg) (cell : Int32) (layer : Int32) (what : Int32) : xK [1, 2] (kx_layerOf σ cell layer what) := by
  unfold kx_layerOf
  repeat' first | exact xK_0 | exact xK_Ix (by decide) | exact xK_Rg (by decide) | exact xK_St (by decide) | exact Or.inr (by decide) | refine xK_s ?_ ?_ | refine xK_if ?_ ?_
set_option maxHeartbeats 4000000 in
set_option maxRecDepth 100000 in
theorem lc_layerOf (l : Launch) (hl0 : l.stackTraces = false) (G : va_G) (ids : Nat → ClassId) (tS tE o z qo : Nat) (hqo : o + 184 ≤ qo) (hzq : z = qo + 1) (σ : Sg) (cell : Int32) (layer : Int32) (what : Int32) : lW l yL_layerOf wsL_layerOf ({ frames := 8, cells := 3, slots := 18, locals := 146 } : Room) G ids tS tE [.ref (o), .int (cell), .int (layer), .int (what), .ref (qo)] o z qo σ [1, 2] (kx_layerOf σ cell layer what) (fun v => v = (k_layerOf σ cell layer what).toInt64) σ 3 18 := by
  unfold lW
  refine lw_ofWH (cc := cL_layerOf) (maxL := 6) (ret := some .int) (hh := [(0, 12, 15, 13), (0, 12, 19, 15)]) (by decide) rfl ?_
  intro p e s m args below meth c s₁ B hml hv
  obtain ⟨rfl, ⟨⟨d, w, hP, hWz⟩, v0, f, hq, hf0⟩, hK, hZ, hN⟩ := hv
  have hW0 := wOK_z hP hWz
  have hcx := cx_layerOf l hl0 G ids o z tS tE d w σ cell layer what
  have hkx := xK_2 (kxK_layerOf σ cell layer what)
  obtain ⟨X, hX⟩ : ∃ X : Nat, X = kx_layerOf σ cell layer what := ⟨_, rfl⟩
  rw [← hX] at hcx hkx ⊢
  clear hX
  have hx := B.exec
  have hb := B.bytes
  have hr := B.returns
  have hts := atoms_spec (ws := wsL_layerOf) B.pre
  have hown : s.vm.findClass RL = some m.cls := findClass_of_methodNamed B.named
  have hlocks := B.notSynchronized
  have hT : c.exceptionTable.toList = tableOf [(0, 12, 15, 13), (0, 12, 19, 15)] := vx_table (x := yL_layerOf) B (hts _ List.mem_cons_self)
  have hS : va_S (lG o z qo) s.heap s.heap [] := va_S.rf
  have hzs : z ≤ s.heap.size := by have q := hq.lt; omega
  have hl := lv_entry ([.ref (o), .int (cell), .int (layer), .int (what), .ref (qo)]) (n := 6) (Nat.le_of_ble_eq_true rfl)
  rw [lg_entry_eq]
  generalize (lg_sl ([.ref (o), .int (cell), .int (layer), .int (what), .ref (qo)]) ++ List.replicate (6 - (lg_sl ([.ref (o), .int (cell), .int (layer), .int (what), .ref (qo)])).length) Slot.unset).toArray = ls at hl ⊢
  have hl : lv_has ls 6 [(0, .ref (o)), (1, .int (cell)), (2, .int (layer)), (3, .int (what)), (4, .ref (qo))] := hl
  refine lv_aload hx hb dL_layerOf_0 (lv_at hl 4 rfl) ?_
  refine lv_iconst (v := nI (0)) hx hb dL_layerOf_2 (by decide) ?_
  refine lv_aload_n hx hb dL_layerOf_3 rfl (lv_at hl 0 rfl) ?_
  refine lv_iload_n hx hb dL_layerOf_4 rfl (lv_at hl 1 rfl) ?_
  refine lv_iload_n hx hb dL_layerOf_5 rfl (lv_at hl 2 rfl) ?_
  refine lv_iload_n hx hb dL_layerOf_6 rfl (lv_at hl 3 rfl) ?_
  refine vx_calli (vx_runV (As := [.int (cell), .int (layer), .int (what)]) (rest := [.int (nI 0), .ref (qo)]) ⟨hx, hb, hml, hown, hts⟩ hcx (cwV 3 hts gL_layerOf_X5_layerOf rfl rfl rfl (by decide +kernel) ⟨Nat.le_of_ble_eq_true rfl, Nat.le_of_ble_eq_true rfl⟩) ⟨yPc_blind, va_recv hK (va_P.one hP.main) (ci := 6) (q0 := 0) rfl rfl, fun U hU hW => ⟨rfl, by rw [hU]; exact hP, va_K.moved hW.alike hK, (cST_at hZ hS hU hW.alike).narrow (fun q h => Or.inl h)⟩⟩ rfl rfl hl.1 rfl (lv_room (Nat.le_of_ble_eq_true rfl)) dL_layerOf_7 ⟨Nat.le_of_ble_eq_true rfl, Nat.le_of_ble_eq_true rfl⟩) hS (fun q _ h => Or.inl h) (fun q h => Or.inl h) (fun q _ h => Or.inl h) (fun E ce q9 u t H1 locs1 ht hvm hpx hbx hz1 hk hS hce hcv hcl => ?_) (fun r u t H1 locs1 ht hvm hw hB hz1 hk hS => ?_)
  · obtain ⟨hE9, hP1⟩ := hbx
    have q_ := hE9.symm
    subst q_
    rw [ht] at hP1
    replace hq := hq.kept (hk _ hq.lt (by show ¬ cpG o z qo; unfold cpG; omega))
    rcases hkx with h | h | h
    · exact absurd h hpx
    · subst h
      refine vx_catch (own := RL) (name := "java/lang/IndexOutOfBoundsException") (E := xE 1) hown (tableOf []) ⟨0, 12, 15, 13⟩ (tableOf [(0, 12, 19, 15)]) hT (fun z9 hz9 => absurd hz9 (List.not_mem_nil)) (by decide) (by decide) (hts _ (List.mem_of_getElem? (i := 1) rfl)) (va_Nw.use (xNW_tab _ (List.mem_of_getElem? (i := 0) rfl)) (hZ.2.2.2.2.1 _ (List.mem_of_getElem? (i := 0) rfl))) hce hcv hcl ?_
      refine lv_astore (lv' := [(5, .ref (q9)), (0, .ref (o)), (1, .int (cell)), (2, .int (layer)), (3, .int (what)), (4, .ref (qo))]) hx hb dL_layerOf_15 hl (by decide) rfl (fun ls hl => ?_)
      refine lv_iconst (v := nI (1)) hx hb dL_layerOf_17 (by decide) ?_
      exact w_nret (Pic1 := fun H : Heap => lPic G ids o z tE (if 1 = 0 then σ else σ) H ∧ ∃ v, lOut G ids qo v H ∧ (1 = 0 → (fun v => v = (k_layerOf σ cell layer what).toInt64) v)) (v := nI (1)) hx hb hr hlocks (Nat.le_of_ble_eq_true rfl) (Nat.le_of_ble_eq_true rfl) ⟨by rw [if_neg (by decide)]; exact ⟨d, w, hP1, hWz⟩, f 0, ⟨f, hq, rfl⟩, fun h => absurd h (by decide)⟩ hS dL_layerOf_18 rfl
    · subst h
      refine vx_catch (own := RL) (name := "java/lang/IllegalArgumentException") (E := xE 2) hown (tableOf [(0, 12, 15, 13)]) ⟨0, 12, 19, 15⟩ (tableOf []) hT (fun z9 hz9 => by rw [show z9 = ⟨0, 12, 15, 13⟩ from List.mem_singleton.mp hz9]; exact Or.inr ⟨by decide, _, (hts _ (List.mem_of_getElem? (i := 1) rfl)), hN.1⟩) (by decide) (by decide) (hts _ (List.mem_of_getElem? (i := 2) rfl)) (va_Nw.use (xNW_tab _ (List.mem_of_getElem? (i := 1) rfl)) (hZ.2.2.2.2.1 _ (List.mem_of_getElem? (i := 1) rfl))) hce hcv hcl ?_
      refine lv_astore (lv' := [(5, .ref (q9)), (0, .ref (o)), (1, .int (cell)), (2, .int (layer)), (3, .int (what)), (4, .ref (qo))]) hx hb dL_layerOf_19 hl (by decide) rfl (fun ls hl => ?_)
      refine lv_iconst (v := nI (2)) hx hb dL_layerOf_21 (by decide) ?_
      exact w_nret (Pic1 := fun H : Heap => lPic G ids o z tE (if 2 = 0 then σ else σ) H ∧ ∃ v, lOut G ids qo v H ∧ (2 = 0 → (fun v => v = (k_layerOf σ cell layer what).toInt64) v)) (v := nI (2)) hx hb hr hlocks (Nat.le_of_ble_eq_true rfl) (Nat.le_of_ble_eq_true rfl) ⟨by rw [if_neg (by decide)]; exact ⟨d, w, hP1, hWz⟩, f 0, ⟨f, hq, rfl⟩, fun h => absurd h (by decide)⟩ hS dL_layerOf_22 rfl
  · obtain ⟨hX0, hrv⟩ := hw
    have q_ := hrv.symm
    subst q_
    rw [ht] at hB
    replace hq := hq.kept (hk _ hq.lt (by show ¬ cpG o z qo; unfold cpG; omega))
    clear hcx hkx hk
    subst hX0
    refine lv_i2l (v := (k_layerOf σ cell layer what).toInt64) hx hb dL_layerOf_10 rfl ?_
    refine x_last (x := (k_layerOf σ cell layer what).toInt64) hx hb hK hq (Or.inr rfl) hS (i := nI 0) (vp_in_nI (by decide) (by decide)) dL_layerOf_11 (fun H2 locs2 h9 ho hS => ?_)
    have hP2 := CPic.keepx (n1 := qo) hB (fun y hy e => lw_qo hB hy hqo hzq e) (fun q _ hne => ho.2 q hne)
    refine lv_goto (tgt := 23) hx hb dL_layerOf_12 (by decide) ?_
    refine lv_iconst (v := nI (0)) hx hb dL_layerOf_23 (by decide) ?_
    exact w_nret (Pic1 := fun H : Heap => lPic G ids o z tE (if 0 = 0 then σ else σ) H ∧ ∃ v, lOut G ids qo v H ∧ (0 = 0 → (fun v => v = (k_layerOf σ cell layer what).toInt64) v)) (v := nI (0)) hx hb hr hlocks (Nat.le_of_ble_eq_true rfl) (Nat.le_of_ble_eq_true rfl) ⟨by rw [if_pos rfl]; exact ⟨d, w, hP2, hWz⟩, (k_layerOf σ cell layer what).toInt64, ⟨_, h9, lw_f0⟩, fun _ => rfl⟩ hS dL_layerOf_24 rfl
theorem kxK_neighbour (σ : Sg) (cell : Int32) (at_ : Int32) : xK [1] (kx_neighbour σ cell at_) := by
  unfold kx_neighbour
  repeat' first | exact xK_0 | exact xK_Ix (by decide) | exact xK_Rg (by decide) | exact xK_St (by decide) | exact Or.inr (by decide) | refine xK_s ?_ ?_ | refine xK_if ?_ ?_
set_option maxHeartbeats 4000000 in
set_option maxRecDepth 100000 in
theorem lc_neighbour (l : Launch) (hl0 : l.stackTraces = false) (G : va_G) (ids : Nat → ClassId) (tS tE o z qo : Nat) (hqo : o + 184 ≤ qo) (hzq : z = qo + 1) (σ : Sg) (cell : Int32) (at_ : Int32) : lW l yL_neighbour wsL_neighbour ({ frames := 8, cells := 2, slots := 12, locals := 146 } : Room) G ids tS tE [.ref (o), .int (cell), .int (at_), .ref (qo)] o z qo σ [1] (kx_neighbour σ cell at_) (fun v => v = (k_neighbour σ cell at_).toInt64) σ 2 12 := by
  unfold lW
  refine lw_ofWH (cc := cL_neighbour) (maxL := 5) (ret := some .int) (hh := [(0, 10, 13, 13)]) (by decide) rfl ?_
  intro p e s m args below meth c s₁ B hml hv
  obtain ⟨rfl, ⟨⟨d, w, hP, hWz⟩, v0, f, hq, hf0⟩, hK, hZ, hN⟩ := hv
  have hW0 := wOK_z hP hWz
  have hcx := cx_neighbour l hl0 G ids o z tS tE d w σ cell at_
  have hkx := xK_1 (kxK_neighbour σ cell at_)
  obtain ⟨X, hX⟩ : ∃ X : Nat, X = kx_neighbour σ cell at_ := ⟨_, rfl⟩
  rw [← hX] at hcx hkx ⊢
  clear hX
  have hx := B.exec
  have hb := B.bytes
  have hr := B.returns
  have hts := atoms_spec (ws := wsL_neighbour) B.pre
  have hown : s.vm.findClass RL = some m.cls := findClass_of_methodNamed B.named
  have hlocks := B.notSynchronized
  have hT : c.exceptionTable.toList = tableOf [(0, 10, 13, 13)] := vx_table (x := yL_neighbour) B (hts _ List.mem_cons_self)
  have hS : va_S (lG o z qo) s.heap s.heap [] := va_S.rf
  have hzs : z ≤ s.heap.size := by have q := hq.lt; omega
  have hl := lv_entry ([.ref (o), .int (cell), .int (at_), .ref (qo)]) (n := 5) (Nat.le_of_ble_eq_true rfl)
  rw [lg_entry_eq]
  generalize (lg_sl ([.ref (o), .int (cell), .int (at_), .ref (qo)]) ++ List.replicate (5 - (lg_sl ([.ref (o), .int (cell), .int (at_), .ref (qo)])).length) Slot.unset).toArray = ls at hl ⊢
  have hl : lv_has ls 5 [(0, .ref (o)), (1, .int (cell)), (2, .int (at_)), (3, .ref (qo))] := hl
  refine lv_aload_n hx hb dL_neighbour_0 rfl (lv_at hl 3 rfl) ?_
  refine lv_iconst (v := nI (0)) hx hb dL_neighbour_1 (by decide) ?_
  refine lv_aload_n hx hb dL_neighbour_2 rfl (lv_at hl 0 rfl) ?_
  refine lv_iload_n hx hb dL_neighbour_3 rfl (lv_at hl 1 rfl) ?_
  refine lv_iload_n hx hb dL_neighbour_4 rfl (lv_at hl 2 rfl) ?_
  refine vx_calli (vx_runV (As := [.int (cell), .int (at_)]) (rest := [.int (nI 0), .ref (qo)]) ⟨hx, hb, hml, hown, hts⟩ hcx (cwV 2 hts gL_neighbour_X5_neighbour rfl rfl rfl (by decide +kernel) ⟨Nat.le_of_ble_eq_true rfl, Nat.le_of_ble_eq_true rfl⟩) ⟨yPc_blind, va_recv hK (va_P.one hP.main) (ci := 6) (q0 := 0) rfl rfl, fun U hU hW => ⟨rfl, by rw [hU]; exact hP, va_K.moved hW.alike hK, (cST_at hZ hS hU hW.alike).narrow (fun q h => Or.inl h)⟩⟩ rfl rfl hl.1 rfl (lv_room (Nat.le_of_ble_eq_true rfl)) dL_neighbour_5 ⟨Nat.le_of_ble_eq_true rfl, Nat.le_of_ble_eq_true rfl⟩) hS (fun q _ h => Or.inl h) (fun q h => Or.inl h) (fun q _ h => Or.inl h) (fun E ce q9 u t H1 locs1 ht hvm hpx hbx hz1 hk hS hce hcv hcl => ?_) (fun r u t H1 locs1 ht hvm hw hB hz1 hk hS => ?_)
  · obtain ⟨hE9, hP1⟩ := hbx
    have q_ := hE9.symm
    subst q_
    rw [ht] at hP1
    replace hq := hq.kept (hk _ hq.lt (by show ¬ cpG o z qo; unfold cpG; omega))
    rcases hkx with h | h
    · exact absurd h hpx
    · subst h
      refine vx_catch (own := RL) (name := "java/lang/IndexOutOfBoundsException") (E := xE 1) hown (tableOf []) ⟨0, 10, 13, 13⟩ (tableOf []) hT (fun z9 hz9 => absurd hz9 (List.not_mem_nil)) (by decide) (by decide) (hts _ (List.mem_of_getElem? (i := 1) rfl)) (va_Nw.use (xNW_tab _ (List.mem_of_getElem? (i := 0) rfl)) (hZ.2.2.2.2.1 _ (List.mem_of_getElem? (i := 0) rfl))) hce hcv hcl ?_
      refine lv_astore (lv' := [(4, .ref (q9)), (0, .ref (o)), (1, .int (cell)), (2, .int (at_)), (3, .ref (qo))]) hx hb dL_neighbour_13 hl (by decide) rfl (fun ls hl => ?_)
      refine lv_iconst (v := nI (1)) hx hb dL_neighbour_15 (by decide) ?_
      exact w_nret (Pic1 := fun H : Heap => lPic G ids o z tE (if 1 = 0 then σ else σ) H ∧ ∃ v, lOut G ids qo v H ∧ (1 = 0 → (fun v => v = (k_neighbour σ cell at_).toInt64) v)) (v := nI (1)) hx hb hr hlocks (Nat.le_of_ble_eq_true rfl) (Nat.le_of_ble_eq_true rfl) ⟨by rw [if_neg (by decide)]; exact ⟨d, w, hP1, hWz⟩, f 0, ⟨f, hq, rfl⟩, fun h => absurd h (by decide)⟩ hS dL_neighbour_16 rfl
  · obtain ⟨hX0, hrv⟩ := hw
    have q_ := hrv.symm
    subst q_
    rw [ht] at hB
    replace hq := hq.kept (hk _ hq.lt (by show ¬ cpG o z qo; unfold cpG; omega))
    clear hcx hkx hk
    subst hX0
    refine lv_i2l (v := (k_neighbour σ cell at_).toInt64) hx hb dL_neighbour_8 rfl ?_
    refine x_last (x := (k_neighbour σ cell at_).toInt64) hx hb hK hq (Or.inr rfl) hS (i := nI 0) (vp_in_nI (by decide) (by decide)) dL_neighbour_9 (fun H2 locs2 h9 ho hS => ?_)
    have hP2 := CPic.keepx (n1 := qo) hB (fun y hy e => lw_qo hB hy hqo hzq e) (fun q _ hne => ho.2 q hne)
    refine lv_goto (tgt := 17) hx hb dL_neighbour_10 (by decide) ?_
    refine lv_iconst (v := nI (0)) hx hb dL_neighbour_17 (by decide) ?_
    exact w_nret (Pic1 := fun H : Heap => lPic G ids o z tE (if 0 = 0 then σ else σ) H ∧ ∃ v, lOut G ids qo v H ∧ (0 = 0 → (fun v => v = (k_neighbour σ cell at_).toInt64) v)) (v := nI (0)) hx hb hr hlocks (Nat.le_of_ble_eq_true rfl) (Nat.le_of_ble_eq_true rfl) ⟨by rw [if_pos rfl]; exact ⟨d, w, hP2, hWz⟩, (k_neighbour σ cell at_).toInt64, ⟨_, h9, lw_f0⟩, fun _ => rfl⟩ hS dL_neighbour_18 rfl
theorem kxK_houseOf (σ : Sg) (house : Int32) (what : Int32) : xK [1, 2] (kx_houseOf σ house what) := by
  unfold kx_houseOf
  repeat' first | exact xK_0 | exact xK_Ix (by decide) | exact xK_Rg (by decide) | exact xK_St (by decide) | exact Or.inr (by decide) | refine xK_s ?_ ?_ | refine xK_if ?_ ?_
set_option maxHeartbeats 4000000 in
set_option maxRecDepth 100000 in
theorem lc_houseOf (l : Launch) (hl0 : l.stackTraces = false) (G : va_G) (ids : Nat → ClassId) (tS tE o z qo : Nat) (hqo : o + 184 ≤ qo) (hzq : z = qo + 1) (σ : Sg) (house : Int32) (what : Int32) (hO : cOK σ) : lW l yL_houseOf wsL_houseOf ({ frames := 8, cells := 2, slots := 12, locals := 158 } : Room) G ids tS tE [.ref (o), .int (house), .int (what), .ref (qo)] o z qo σ [1, 2] (kx_houseOf σ house what) (fun v => v = (k_houseOf σ house what).toInt64) σ 2 12 := by
  unfold lW
  refine lw_ofWH (cc := cL_houseOf) (maxL := 5) (ret := some .int) (hh := [(0, 10, 13, 13), (0, 10, 17, 15)]) (by decide) rfl ?_
  intro p e s m args below meth c s₁ B hml hv
  obtain ⟨rfl, ⟨⟨d, w, hP, hWz⟩, v0, f, hq, hf0⟩, hK, hZ, hN⟩ := hv
  have hW0 := wOK_z hP hWz
  have hcx := cx_houseOf l hl0 G ids o z tS tE d w σ house what hO
  have hkx := xK_2 (kxK_houseOf σ house what)
  obtain ⟨X, hX⟩ : ∃ X : Nat, X = kx_houseOf σ house what := ⟨_, rfl⟩
  rw [← hX] at hcx hkx ⊢
  clear hX
  have hx := B.exec
  have hb := B.bytes
  have hr := B.returns
  have hts := atoms_spec (ws := wsL_houseOf) B.pre
  have hown : s.vm.findClass RL = some m.cls := findClass_of_methodNamed B.named
  have hlocks := B.notSynchronized
  have hT : c.exceptionTable.toList = tableOf [(0, 10, 13, 13), (0, 10, 17, 15)] := vx_table (x := yL_houseOf) B (hts _ List.mem_cons_self)
  have hS : va_S (lG o z qo) s.heap s.heap [] := va_S.rf
  have hzs : z ≤ s.heap.size := by have q := hq.lt; omega
  have hl := lv_entry ([.ref (o), .int (house), .int (what), .ref (qo)]) (n := 5) (Nat.le_of_ble_eq_true rfl)
  rw [lg_entry_eq]
  generalize (lg_sl ([.ref (o), .int (house), .int (what), .ref (qo)]) ++ List.replicate (5 - (lg_sl ([.ref (o), .int (house), .int (what), .ref (qo)])).length) Slot.unset).toArray = ls at hl ⊢
  have hl : lv_has ls 5 [(0, .ref (o)), (1, .int (house)), (2, .int (what)), (3, .ref (qo))] := hl
  refine lv_aload_n hx hb dL_houseOf_0 rfl (lv_at hl 3 rfl) ?_
  refine lv_iconst (v := nI (0)) hx hb dL_houseOf_1 (by decide) ?_
  refine lv_aload_n hx hb dL_houseOf_2 rfl (lv_at hl 0 rfl) ?_
  refine lv_iload_n hx hb dL_houseOf_3 rfl (lv_at hl 1 rfl) ?_
  refine lv_iload_n hx hb dL_houseOf_4 rfl (lv_at hl 2 rfl) ?_
  refine vx_calli (vx_runV (As := [.int (house), .int (what)]) (rest := [.int (nI 0), .ref (qo)]) ⟨hx, hb, hml, hown, hts⟩ hcx (cwV 2 hts gL_houseOf_X5_houseOf rfl rfl rfl (by decide +kernel) ⟨Nat.le_of_ble_eq_true rfl, Nat.le_of_ble_eq_true rfl⟩) ⟨yPc_blind, va_recv hK (va_P.one hP.main) (ci := 6) (q0 := 0) rfl rfl, fun U hU hW => ⟨rfl, by rw [hU]; exact hP, va_K.moved hW.alike hK, (cST_at hZ hS hU hW.alike).narrow (fun q h => Or.inl h)⟩⟩ rfl rfl hl.1 rfl (lv_room (Nat.le_of_ble_eq_true rfl)) dL_houseOf_5 ⟨Nat.le_of_ble_eq_true rfl, Nat.le_of_ble_eq_true rfl⟩) hS (fun q _ h => Or.inl h) (fun q h => Or.inl h) (fun q _ h => Or.inl h) (fun E ce q9 u t H1 locs1 ht hvm hpx hbx hz1 hk hS hce hcv hcl => ?_) (fun r u t H1 locs1 ht hvm hw hB hz1 hk hS => ?_)
  · obtain ⟨hE9, hP1⟩ := hbx
    have q_ := hE9.symm
    subst q_
    rw [ht] at hP1
    replace hq := hq.kept (hk _ hq.lt (by show ¬ cpG o z qo; unfold cpG; omega))
    rcases hkx with h | h | h
    · exact absurd h hpx
    · subst h
      refine vx_catch (own := RL) (name := "java/lang/IndexOutOfBoundsException") (E := xE 1) hown (tableOf []) ⟨0, 10, 13, 13⟩ (tableOf [(0, 10, 17, 15)]) hT (fun z9 hz9 => absurd hz9 (List.not_mem_nil)) (by decide) (by decide) (hts _ (List.mem_of_getElem? (i := 1) rfl)) (va_Nw.use (xNW_tab _ (List.mem_of_getElem? (i := 0) rfl)) (hZ.2.2.2.2.1 _ (List.mem_of_getElem? (i := 0) rfl))) hce hcv hcl ?_
      refine lv_astore (lv' := [(4, .ref (q9)), (0, .ref (o)), (1, .int (house)), (2, .int (what)), (3, .ref (qo))]) hx hb dL_houseOf_13 hl (by decide) rfl (fun ls hl => ?_)
      refine lv_iconst (v := nI (1)) hx hb dL_houseOf_15 (by decide) ?_
      exact w_nret (Pic1 := fun H : Heap => lPic G ids o z tE (if 1 = 0 then σ else σ) H ∧ ∃ v, lOut G ids qo v H ∧ (1 = 0 → (fun v => v = (k_houseOf σ house what).toInt64) v)) (v := nI (1)) hx hb hr hlocks (Nat.le_of_ble_eq_true rfl) (Nat.le_of_ble_eq_true rfl) ⟨by rw [if_neg (by decide)]; exact ⟨d, w, hP1, hWz⟩, f 0, ⟨f, hq, rfl⟩, fun h => absurd h (by decide)⟩ hS dL_houseOf_16 rfl
    · subst h
      refine vx_catch (own := RL) (name := "java/lang/IllegalArgumentException") (E := xE 2) hown (tableOf [(0, 10, 13, 13)]) ⟨0, 10, 17, 15⟩ (tableOf []) hT (fun z9 hz9 => by rw [show z9 = ⟨0, 10, 13, 13⟩ from List.mem_singleton.mp hz9]; exact Or.inr ⟨by decide, _, (hts _ (List.mem_of_getElem? (i := 1) rfl)), hN.1⟩) (by decide) (by decide) (hts _ (List.mem_of_getElem? (i := 2) rfl)) (va_Nw.use (xNW_tab _ (List.mem_of_getElem? (i := 1) rfl)) (hZ.2.2.2.2.1 _ (List.mem_of_getElem? (i := 1) rfl))) hce hcv hcl ?_
      refine lv_astore (lv' := [(4, .ref (q9)), (0, .ref (o)), (1, .int (house)), (2, .int (what)), (3, .ref (qo))]) hx hb dL_houseOf_17 hl (by decide) rfl (fun ls hl => ?_)
      refine lv_iconst (v := nI (2)) hx hb dL_houseOf_19 (by decide) ?_
      exact w_nret (Pic1 := fun H : Heap => lPic G ids o z tE (if 2 = 0 then σ else σ) H ∧ ∃ v, lOut G ids qo v H ∧ (2 = 0 → (fun v => v = (k_houseOf σ house what).toInt64) v)) (v := nI (2)) hx hb hr hlocks (Nat.le_of_ble_eq_true rfl) (Nat.le_of_ble_eq_true rfl) ⟨by rw [if_neg (by decide)]; exact ⟨d, w, hP1, hWz⟩, f 0, ⟨f, hq, rfl⟩, fun h => absurd h (by decide)⟩ hS dL_houseOf_20 rfl
  · obtain ⟨hX0, hrv⟩ := hw
    have q_ := hrv.symm
    subst q_
    rw [ht] at hB
    replace hq := hq.kept (hk _ hq.lt (by show ¬ cpG o z qo; unfold cpG; omega))
    clear hcx hkx hk
    subst hX0
    refine lv_i2l (v := (k_houseOf σ house what).toInt64) hx hb dL_houseOf_8 rfl ?_
    refine x_last (x := (k_houseOf σ house what).toInt64) hx hb hK hq (Or.inr rfl) hS (i := nI 0) (vp_in_nI (by decide) (by decide)) dL_houseOf_9 (fun H2 locs2 h9 ho hS => ?_)
    have hP2 := CPic.keepx (n1 := qo) hB (fun y hy e => lw_qo hB hy hqo hzq e) (fun q _ hne => ho.2 q hne)
    refine lv_goto (tgt := 21) hx hb dL_houseOf_10 (by decide) ?_
    refine lv_iconst (v := nI (0)) hx hb dL_houseOf_21 (by decide) ?_
    exact w_nret (Pic1 := fun H : Heap => lPic G ids o z tE (if 0 = 0 then σ else σ) H ∧ ∃ v, lOut G ids qo v H ∧ (0 = 0 → (fun v => v = (k_houseOf σ house what).toInt64) v)) (v := nI (0)) hx hb hr hlocks (Nat.le_of_ble_eq_true rfl) (Nat.le_of_ble_eq_true rfl) ⟨by rw [if_pos rfl]; exact ⟨d, w, hP2, hWz⟩, (k_houseOf σ house what).toInt64, ⟨_, h9, lw_f0⟩, fun _ => rfl⟩ hS dL_houseOf_22 rfl
