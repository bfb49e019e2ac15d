theorem kxK_borehole (σ : Sg) (cell : Int32) (dr : Int32) : xK [1, 2, 3] (kx_borehole σ cell dr) := by
  unfold kx_borehole
  repeat' first | exact xK_0 | exact xK_Ix (by decide) | exact xK_Rg (by decide) | exact xK_St (by decide) | exact Or.inr (by decide) | refine xK_s ?_ ?_ | refine xK_if ?_ ?_
set_option maxHeartbeats 4000000 in
set_option maxRecDepth 100000 in
theorem lc_borehole (l : Launch) (hl0 : l.stackTraces = false) (G : va_G) (ids : Nat → ClassId) (tS tE o z qo : Nat) (hqo : o + 184 ≤ qo) (hzq : z = qo + 1) (σ : Sg) (cell : Int32) (dr : Int32) (hO : cOK σ) : lW l yL_borehole wsL_borehole ({ frames := 9, cells := 6, slots := 3083, locals := 183 } : Room) G ids tS tE [.ref (o), .int (cell), .int (dr), .ref (qo)] o z qo σ [1, 2, 3] (kx_borehole σ cell dr) (fun v => v = (k_borehole σ cell dr).toInt64) (k_borehole_s σ cell dr) 6 3083 := by
  unfold lW
  refine lw_ofWH (cc := cL_borehole) (maxL := 5) (ret := some .int) (hh := [(0, 10, 13, 13), (0, 10, 17, 15), (0, 10, 21, 25)]) (by decide) rfl ?_
  intro p e s m args below meth c s₁ B hml hv
  obtain ⟨rfl, ⟨⟨d, w, hP, hWz⟩, v0, f, hq, hf0⟩, hK, hZ, hN⟩ := hv
  have hW0 := wOK_z hP hWz
  have hcx := cx_borehole l hl0 G ids o z tS tE d w σ cell dr hO hW0
  have hkx := xK_3 (kxK_borehole σ cell dr)
  obtain ⟨X, hX⟩ : ∃ X : Nat, X = kx_borehole σ cell dr := ⟨_, rfl⟩
  rw [← hX] at hcx hkx ⊢
  clear hX
  have hx := B.exec
  have hb := B.bytes
  have hr := B.returns
  have hts := atoms_spec (ws := wsL_borehole) B.pre
  have hown : s.vm.findClass RL = some m.cls := findClass_of_methodNamed B.named
  have hlocks := B.notSynchronized
  have hT : c.exceptionTable.toList = tableOf [(0, 10, 13, 13), (0, 10, 17, 15), (0, 10, 21, 25)] := vx_table (x := yL_borehole) B (hts _ List.mem_cons_self)
  have hS : va_S (lG o z qo) s.heap s.heap [] := va_S.rf
  have hzs : z ≤ s.heap.size := by have q := hq.lt; omega
  have hl := lv_entry ([.ref (o), .int (cell), .int (dr), .ref (qo)]) (n := 5) (Nat.le_of_ble_eq_true rfl)
  rw [lg_entry_eq]
  generalize (lg_sl ([.ref (o), .int (cell), .int (dr), .ref (qo)]) ++ List.replicate (5 - (lg_sl ([.ref (o), .int (cell), .int (dr), .ref (qo)])).length) Slot.unset).toArray = ls at hl ⊢
  have hl : lv_has ls 5 [(0, .ref (o)), (1, .int (cell)), (2, .int (dr)), (3, .ref (qo))] := hl
  refine lv_aload_n hx hb dL_borehole_0 rfl (lv_at hl 3 rfl) ?_
  refine lv_iconst (v := nI (0)) hx hb dL_borehole_1 (by decide) ?_
  refine lv_aload_n hx hb dL_borehole_2 rfl (lv_at hl 0 rfl) ?_
  refine lv_iload_n hx hb dL_borehole_3 rfl (lv_at hl 1 rfl) ?_
  refine lv_iload_n hx hb dL_borehole_4 rfl (lv_at hl 2 rfl) ?_
  refine vx_calli (vx_runV (As := [.int (cell), .int (dr)]) (rest := [.int (nI 0), .ref (qo)]) ⟨hx, hb, hml, hown, hts⟩ hcx (cwV 2 hts gL_borehole_X5_borehole rfl rfl rfl (by decide +kernel) ⟨Nat.le_of_ble_eq_true rfl, Nat.le_of_ble_eq_true rfl⟩) ⟨yPc_blind, va_recv hK (va_P.one hP.main) (ci := 6) (q0 := 0) rfl rfl, fun U hU hW => ⟨rfl, by rw [hU]; exact ⟨hP, hzs⟩, va_K.moved hW.alike hK, (cST_at hZ hS hU hW.alike).narrow (fun q h => Or.inl h)⟩⟩ rfl rfl hl.1 rfl (lv_room (Nat.le_of_ble_eq_true rfl)) dL_borehole_5 ⟨Nat.le_of_ble_eq_true rfl, Nat.le_of_ble_eq_true rfl⟩) hS (fun q _ h => Or.inl h) (fun q h => Or.inl h) (fun q _ h => Or.inl h) (fun E ce q9 u t H1 locs1 ht hvm hpx hbx hz1 hk hS hce hcv hcl => ?_) (fun r u t H1 locs1 ht hvm hw hB hz1 hk hS => ?_)
  · obtain ⟨hE9, hP1⟩ := hbx
    have q_ := hE9.symm
    subst q_
    rw [ht] at hP1
    replace hq := hq.kept (hk _ hq.lt (by show ¬ cpG o z qo; unfold cpG; omega))
    rcases hkx with h | h | h | h
    · exact absurd h hpx
    · subst h
      refine vx_catch (own := RL) (name := "java/lang/IndexOutOfBoundsException") (E := xE 1) hown (tableOf []) ⟨0, 10, 13, 13⟩ (tableOf [(0, 10, 17, 15), (0, 10, 21, 25)]) hT (fun z9 hz9 => absurd hz9 (List.not_mem_nil)) (by decide) (by decide) (hts _ (List.mem_of_getElem? (i := 1) rfl)) (va_Nw.use (xNW_tab _ (List.mem_of_getElem? (i := 0) rfl)) (hZ.2.2.2.2.1 _ (List.mem_of_getElem? (i := 0) rfl))) hce hcv hcl ?_
      refine lv_astore (lv' := [(4, .ref (q9)), (0, .ref (o)), (1, .int (cell)), (2, .int (dr)), (3, .ref (qo))]) hx hb dL_borehole_13 hl (by decide) rfl (fun ls hl => ?_)
      refine lv_iconst (v := nI (1)) hx hb dL_borehole_15 (by decide) ?_
      exact w_nret (Pic1 := fun H : Heap => lPic G ids o z tE (if 1 = 0 then (k_borehole_s σ cell dr) else σ) H ∧ ∃ v, lOut G ids qo v H ∧ (1 = 0 → (fun v => v = (k_borehole σ cell dr).toInt64) v)) (v := nI (1)) hx hb hr hlocks (Nat.le_of_ble_eq_true rfl) (Nat.le_of_ble_eq_true rfl) ⟨by rw [if_neg (by decide)]; exact ⟨d, w, hP1, hWz⟩, f 0, ⟨f, hq, rfl⟩, fun h => absurd h (by decide)⟩ hS dL_borehole_16 rfl
    · subst h
      refine vx_catch (own := RL) (name := "java/lang/IllegalArgumentException") (E := xE 2) hown (tableOf [(0, 10, 13, 13)]) ⟨0, 10, 17, 15⟩ (tableOf [(0, 10, 21, 25)]) hT (fun z9 hz9 => by rw [show z9 = ⟨0, 10, 13, 13⟩ from List.mem_singleton.mp hz9]; exact Or.inr ⟨by decide, _, (hts _ (List.mem_of_getElem? (i := 1) rfl)), hN.1⟩) (by decide) (by decide) (hts _ (List.mem_of_getElem? (i := 2) rfl)) (va_Nw.use (xNW_tab _ (List.mem_of_getElem? (i := 1) rfl)) (hZ.2.2.2.2.1 _ (List.mem_of_getElem? (i := 1) rfl))) hce hcv hcl ?_
      refine lv_astore (lv' := [(4, .ref (q9)), (0, .ref (o)), (1, .int (cell)), (2, .int (dr)), (3, .ref (qo))]) hx hb dL_borehole_17 hl (by decide) rfl (fun ls hl => ?_)
      refine lv_iconst (v := nI (2)) hx hb dL_borehole_19 (by decide) ?_
      exact w_nret (Pic1 := fun H : Heap => lPic G ids o z tE (if 2 = 0 then (k_borehole_s σ cell dr) else σ) H ∧ ∃ v, lOut G ids qo v H ∧ (2 = 0 → (fun v => v = (k_borehole σ cell dr).toInt64) v)) (v := nI (2)) hx hb hr hlocks (Nat.le_of_ble_eq_true rfl) (Nat.le_of_ble_eq_true rfl) ⟨by rw [if_neg (by decide)]; exact ⟨d, w, hP1, hWz⟩, f 0, ⟨f, hq, rfl⟩, fun h => absurd h (by decide)⟩ hS dL_borehole_20 rfl
    · subst h
      refine vx_catch (own := RL) (name := "java/lang/IllegalStateException") (E := xE 3) hown (tableOf [(0, 10, 13, 13), (0, 10, 17, 15)]) ⟨0, 10, 21, 25⟩ (tableOf []) hT (fun z9 hz9 => Or.elim (List.mem_cons.mp hz9) (fun e9 => by rw [show z9 = ⟨0, 10, 13, 13⟩ from e9]; exact Or.inr ⟨by decide, _, (hts _ (List.mem_of_getElem? (i := 1) rfl)), hN.2.1⟩) (fun e8 => by rw [show z9 = ⟨0, 10, 17, 15⟩ from (List.mem_singleton.mp e8)]; exact Or.inr ⟨by decide, _, (hts _ (List.mem_of_getElem? (i := 2) rfl)), hN.2.2⟩)) (by decide) (by decide) (hts _ (List.mem_of_getElem? (i := 3) rfl)) (va_Nw.use (xNW_tab _ (List.mem_of_getElem? (i := 2) rfl)) (hZ.2.2.2.2.1 _ (List.mem_of_getElem? (i := 2) rfl))) hce hcv hcl ?_
      refine lv_astore (lv' := [(4, .ref (q9)), (0, .ref (o)), (1, .int (cell)), (2, .int (dr)), (3, .ref (qo))]) hx hb dL_borehole_21 hl (by decide) rfl (fun ls hl => ?_)
      refine lv_iconst (v := nI (3)) hx hb dL_borehole_23 (by decide) ?_
      exact w_nret (Pic1 := fun H : Heap => lPic G ids o z tE (if 3 = 0 then (k_borehole_s σ cell dr) else σ) H ∧ ∃ v, lOut G ids qo v H ∧ (3 = 0 → (fun v => v = (k_borehole σ cell dr).toInt64) v)) (v := nI (3)) hx hb hr hlocks (Nat.le_of_ble_eq_true rfl) (Nat.le_of_ble_eq_true rfl) ⟨by rw [if_neg (by decide)]; exact ⟨d, w, hP1, hWz⟩, f 0, ⟨f, hq, rfl⟩, fun h => absurd h (by decide)⟩ hS dL_borehole_24 rfl
  · obtain ⟨hX0, hrv, hW1⟩ := hw
    have q_ := hrv.symm
    subst q_
    rw [ht] at hB
    replace hq := hq.kept (hk _ hq.lt (by show ¬ cpG o z qo; unfold cpG; omega))
    clear hcx hkx hk
    subst hX0
    refine lv_i2l (v := (k_borehole σ cell dr).toInt64) hx hb dL_borehole_8 rfl ?_
    refine x_last (x := (k_borehole σ cell dr).toInt64) hx hb hK hq (Or.inr rfl) hS (i := nI 0) (vp_in_nI (by decide) (by decide)) dL_borehole_9 (fun H2 locs2 h9 ho hS => ?_)
    have hP2 := CPic.keepx (n1 := qo) hB (fun y hy e => lw_qo hB hy hqo hzq e) (fun q _ hne => ho.2 q hne)
    refine lv_goto (tgt := 25) hx hb dL_borehole_10 (by decide) ?_
    refine lv_iconst (v := nI (0)) hx hb dL_borehole_25 (by decide) ?_
    exact w_nret (Pic1 := fun H : Heap => lPic G ids o z tE (if 0 = 0 then (k_borehole_s σ cell dr) else σ) H ∧ ∃ v, lOut G ids qo v H ∧ (0 = 0 → (fun v => v = (k_borehole σ cell dr).toInt64) v)) (v := nI (0)) hx hb hr hlocks (Nat.le_of_ble_eq_true rfl) (Nat.le_of_ble_eq_true rfl) ⟨by rw [if_pos rfl]; exact lPic_of hP2 hW1, (k_borehole σ cell dr).toInt64, ⟨_, h9, lw_f0⟩, fun _ => rfl⟩ hS dL_borehole_26 rfl
theorem kxK_claim (σ : Sg) (house : Int32) : xK [1, 3] (kx_claim σ house) := by
  unfold kx_claim
  repeat' first | exact xK_0 | exact xK_Ix (by decide) | exact xK_Rg (by decide) | exact xK_St (by decide) | exact Or.inr (by decide) | refine xK_s ?_ ?_ | refine xK_if ?_ ?_
set_option maxHeartbeats 4000000 in
set_option maxRecDepth 100000 in
theorem lc_claim (l : Launch) (hl0 : l.stackTraces = false) (G : va_G) (ids : Nat → ClassId) (tS tE o z qo : Nat) (hqo : o + 184 ≤ qo) (hzq : z = qo + 1) (σ : Sg) (house : Int32) (hO : cOK σ) : lW l yL_claim wsL_claim ({ frames := 9, cells := 4, slots := 76, locals := 183 } : Room) G ids tS tE [.ref (o), .int (house), .ref (qo)] o z qo σ [1, 3] (kx_claim σ house) (fun v => v = (k_claim σ house).toInt64) (k_claim_s σ house) 4 76 := by
  unfold lW
  refine lw_ofWH (cc := cL_claim) (maxL := 4) (ret := some .int) (hh := [(0, 9, 12, 13), (0, 9, 15, 25)]) (by decide) rfl ?_
  intro p e s m args below meth c s₁ B hml hv
  obtain ⟨rfl, ⟨⟨d, w, hP, hWz⟩, v0, f, hq, hf0⟩, hK, hZ, hN⟩ := hv
  have hW0 := wOK_z hP hWz
  have hcx := cx_claim l hl0 G ids o z tS tE d w σ house hO hW0
  have hkx := xK_2 (kxK_claim σ house)
  obtain ⟨X, hX⟩ : ∃ X : Nat, X = kx_claim σ house := ⟨_, rfl⟩
  rw [← hX] at hcx hkx ⊢
  clear hX
  have hx := B.exec
  have hb := B.bytes
  have hr := B.returns
  have hts := atoms_spec (ws := wsL_claim) B.pre
  have hown : s.vm.findClass RL = some m.cls := findClass_of_methodNamed B.named
  have hlocks := B.notSynchronized
  have hT : c.exceptionTable.toList = tableOf [(0, 9, 12, 13), (0, 9, 15, 25)] := vx_table (x := yL_claim) B (hts _ List.mem_cons_self)
  have hS : va_S (lG o z qo) s.heap s.heap [] := va_S.rf
  have hzs : z ≤ s.heap.size := by have q := hq.lt; omega
  have hl := lv_entry ([.ref (o), .int (house), .ref (qo)]) (n := 4) (Nat.le_of_ble_eq_true rfl)
  rw [lg_entry_eq]
  generalize (lg_sl ([.ref (o), .int (house), .ref (qo)]) ++ List.replicate (4 - (lg_sl ([.ref (o), .int (house), .ref (qo)])).length) Slot.unset).toArray = ls at hl ⊢
  have hl : lv_has ls 4 [(0, .ref (o)), (1, .int (house)), (2, .ref (qo))] := hl
  refine lv_aload_n hx hb dL_claim_0 rfl (lv_at hl 2 rfl) ?_
  refine lv_iconst (v := nI (0)) hx hb dL_claim_1 (by decide) ?_
  refine lv_aload_n hx hb dL_claim_2 rfl (lv_at hl 0 rfl) ?_
  refine lv_iload_n hx hb dL_claim_3 rfl (lv_at hl 1 rfl) ?_
  refine vx_calli (vx_runV (As := [.int (house)]) (rest := [.int (nI 0), .ref (qo)]) ⟨hx, hb, hml, hown, hts⟩ hcx (cwV 1 hts gL_claim_X5_claim rfl rfl rfl (by decide +kernel) ⟨Nat.le_of_ble_eq_true rfl, Nat.le_of_ble_eq_true rfl⟩) ⟨yPc_blind, va_recv hK (va_P.one hP.main) (ci := 6) (q0 := 0) rfl rfl, fun U hU hW => ⟨rfl, by rw [hU]; exact ⟨hP, hzs⟩, va_K.moved hW.alike hK, (cST_at hZ hS hU hW.alike).narrow (fun q h => Or.inl h)⟩⟩ rfl rfl hl.1 rfl (lv_room (Nat.le_of_ble_eq_true rfl)) dL_claim_4 ⟨Nat.le_of_ble_eq_true rfl, Nat.le_of_ble_eq_true rfl⟩) hS (fun q _ h => Or.inl h) (fun q h => Or.inl h) (fun q _ h => Or.inl h) (fun E ce q9 u t H1 locs1 ht hvm hpx hbx hz1 hk hS hce hcv hcl => ?_) (fun r u t H1 locs1 ht hvm hw hB hz1 hk hS => ?_)
  · obtain ⟨hE9, hP1⟩ := hbx
    have q_ := hE9.symm
    subst q_
    rw [ht] at hP1
    replace hq := hq.kept (hk _ hq.lt (by show ¬ cpG o z qo; unfold cpG; omega))
    rcases hkx with h | h | h
    · exact absurd h hpx
    · subst h
      refine vx_catch (own := RL) (name := "java/lang/IndexOutOfBoundsException") (E := xE 1) hown (tableOf []) ⟨0, 9, 12, 13⟩ (tableOf [(0, 9, 15, 25)]) hT (fun z9 hz9 => absurd hz9 (List.not_mem_nil)) (by decide) (by decide) (hts _ (List.mem_of_getElem? (i := 1) rfl)) (va_Nw.use (xNW_tab _ (List.mem_of_getElem? (i := 0) rfl)) (hZ.2.2.2.2.1 _ (List.mem_of_getElem? (i := 0) rfl))) hce hcv hcl ?_
      refine lv_astore_n (lv' := [(3, .ref (q9)), (0, .ref (o)), (1, .int (house)), (2, .ref (qo))]) hx hb dL_claim_12 rfl hl (by decide) rfl (fun ls hl => ?_)
      refine lv_iconst (v := nI (1)) hx hb dL_claim_13 (by decide) ?_
      exact w_nret (Pic1 := fun H : Heap => lPic G ids o z tE (if 1 = 0 then (k_claim_s σ house) else σ) H ∧ ∃ v, lOut G ids qo v H ∧ (1 = 0 → (fun v => v = (k_claim σ house).toInt64) v)) (v := nI (1)) hx hb hr hlocks (Nat.le_of_ble_eq_true rfl) (Nat.le_of_ble_eq_true rfl) ⟨by rw [if_neg (by decide)]; exact ⟨d, w, hP1, hWz⟩, f 0, ⟨f, hq, rfl⟩, fun h => absurd h (by decide)⟩ hS dL_claim_14 rfl
    · subst h
      refine vx_catch (own := RL) (name := "java/lang/IllegalStateException") (E := xE 3) hown (tableOf [(0, 9, 12, 13)]) ⟨0, 9, 15, 25⟩ (tableOf []) hT (fun z9 hz9 => by rw [show z9 = ⟨0, 9, 12, 13⟩ from List.mem_singleton.mp hz9]; exact Or.inr ⟨by decide, _, (hts _ (List.mem_of_getElem? (i := 1) rfl)), hN.2.1⟩) (by decide) (by decide) (hts _ (List.mem_of_getElem? (i := 2) rfl)) (va_Nw.use (xNW_tab _ (List.mem_of_getElem? (i := 2) rfl)) (hZ.2.2.2.2.1 _ (List.mem_of_getElem? (i := 2) rfl))) hce hcv hcl ?_
      refine lv_astore_n (lv' := [(3, .ref (q9)), (0, .ref (o)), (1, .int (house)), (2, .ref (qo))]) hx hb dL_claim_15 rfl hl (by decide) rfl (fun ls hl => ?_)
      refine lv_iconst (v := nI (2)) hx hb dL_claim_16 (by decide) ?_
      exact w_nret (Pic1 := fun H : Heap => lPic G ids o z tE (if 3 = 0 then (k_claim_s σ house) else σ) H ∧ ∃ v, lOut G ids qo v H ∧ (3 = 0 → (fun v => v = (k_claim σ house).toInt64) v)) (v := nI (2)) hx hb hr hlocks (Nat.le_of_ble_eq_true rfl) (Nat.le_of_ble_eq_true rfl) ⟨by rw [if_neg (by decide)]; exact ⟨d, w, hP1, hWz⟩, f 0, ⟨f, hq, rfl⟩, fun h => absurd h (by decide)⟩ hS dL_claim_17 rfl
  · obtain ⟨hX0, hrv, hW1⟩ := hw
    have q_ := hrv.symm
    subst q_
    rw [ht] at hB
    replace hq := hq.kept (hk _ hq.lt (by show ¬ cpG o z qo; unfold cpG; omega))
    clear hcx hkx hk
    subst hX0
    refine lv_i2l (v := (k_claim σ house).toInt64) hx hb dL_claim_7 rfl ?_
    refine x_last (x := (k_claim σ house).toInt64) hx hb hK hq (Or.inr rfl) hS (i := nI 0) (vp_in_nI (by decide) (by decide)) dL_claim_8 (fun H2 locs2 h9 ho hS => ?_)
    have hP2 := CPic.keepx (n1 := qo) hB (fun y hy e => lw_qo hB hy hqo hzq e) (fun q _ hne => ho.2 q hne)
    refine lv_goto (tgt := 18) hx hb dL_claim_9 (by decide) ?_
    refine lv_iconst (v := nI (0)) hx hb dL_claim_18 (by decide) ?_
    exact w_nret (Pic1 := fun H : Heap => lPic G ids o z tE (if 0 = 0 then (k_claim_s σ house) else σ) H ∧ ∃ v, lOut G ids qo v H ∧ (0 = 0 → (fun v => v = (k_claim σ house).toInt64) v)) (v := nI (0)) hx hb hr hlocks (Nat.le_of_ble_eq_true rfl) (Nat.le_of_ble_eq_true rfl) ⟨by rw [if_pos rfl]; exact lPic_of hP2 hW1, (k_claim σ house).toInt64, ⟨_, h9, lw_f0⟩, fun _ => rfl⟩ hS dL_claim_19 rfl
theorem kxK_cellOf (σ : Sg) (cell : Int32) (what : Int32) : xK [1, 2] (kx_cellOf σ cell what) := by
  unfold kx_cellOf
  repeat' first | exact xK_0 | exact xK_Ix (by decide) | exact xK_Rg (by decide) | exact xK_St (by decide) | exact Or.inr (by decide) | refine xK_s ?_ ?_ | refine xK_if ?_ ?_
set_option maxHeartbeats 4000000 in
set_option maxRecDepth 100000 in
theorem lc_cellOf (l : Launch) (hl0 : l.stackTraces = false) (G : va_G) (ids : Nat → ClassId) (tS tE o z qo : Nat) (hqo : o + 184 ≤ qo) (hzq : z = qo + 1) (σ : Sg) (cell : Int32) (what : Int32) : lW l yL_cellOf wsL_cellOf ({ frames := 8, cells := 2, slots := 12, locals := 145 } : Room) G ids tS tE [.ref (o), .int (cell), .int (what), .ref (qo)] o z qo σ [1, 2] (kx_cellOf σ cell what) (fun v => v = (k_cellOf σ cell what).toInt64) (k_cellOf_s σ cell what) 2 12 := by
  unfold lW
  refine lw_ofWH (cc := cL_cellOf) (maxL := 5) (ret := some .int) (hh := [(0, 10, 13, 13), (0, 10, 17, 15)]) (by decide) rfl ?_
  intro p e s m args below meth c s₁ B hml hv
  obtain ⟨rfl, ⟨⟨d, w, hP, hWz⟩, v0, f, hq, hf0⟩, hK, hZ, hN⟩ := hv
  have hW0 := wOK_z hP hWz
  have hcx := cx_cellOf l hl0 G ids o z tS tE d w σ cell what
  have hkx := xK_2 (kxK_cellOf σ cell what)
  obtain ⟨X, hX⟩ : ∃ X : Nat, X = kx_cellOf σ cell what := ⟨_, rfl⟩
  rw [← hX] at hcx hkx ⊢
  clear hX
  have hx := B.exec
  have hb := B.bytes
  have hr := B.returns
  have hts := atoms_spec (ws := wsL_cellOf) B.pre
  have hown : s.vm.findClass RL = some m.cls := findClass_of_methodNamed B.named
  have hlocks := B.notSynchronized
  have hT : c.exceptionTable.toList = tableOf [(0, 10, 13, 13), (0, 10, 17, 15)] := vx_table (x := yL_cellOf) B (hts _ List.mem_cons_self)
  have hS : va_S (lG o z qo) s.heap s.heap [] := va_S.rf
  have hzs : z ≤ s.heap.size := by have q := hq.lt; omega
  have hl := lv_entry ([.ref (o), .int (cell), .int (what), .ref (qo)]) (n := 5) (Nat.le_of_ble_eq_true rfl)
  rw [lg_entry_eq]
  generalize (lg_sl ([.ref (o), .int (cell), .int (what), .ref (qo)]) ++ List.replicate (5 - (lg_sl ([.ref (o), .int (cell), .int (what), .ref (qo)])).length) Slot.unset).toArray = ls at hl ⊢
  have hl : lv_has ls 5 [(0, .ref (o)), (1, .int (cell)), (2, .int (what)), (3, .ref (qo))] := hl
  refine lv_aload_n hx hb dL_cellOf_0 rfl (lv_at hl 3 rfl) ?_
  refine lv_iconst (v := nI (0)) hx hb dL_cellOf_1 (by decide) ?_
  refine lv_aload_n hx hb dL_cellOf_2 rfl (lv_at hl 0 rfl) ?_
  refine lv_iload_n hx hb dL_cellOf_3 rfl (lv_at hl 1 rfl) ?_
  refine lv_iload_n hx hb dL_cellOf_4 rfl (lv_at hl 2 rfl) ?_
  refine vx_calli (vx_runV (As := [.int (cell), .int (what)]) (rest := [.int (nI 0), .ref (qo)]) ⟨hx, hb, hml, hown, hts⟩ hcx (cwV 2 hts gL_cellOf_X5_cellOf rfl rfl rfl (by decide +kernel) ⟨Nat.le_of_ble_eq_true rfl, Nat.le_of_ble_eq_true rfl⟩) ⟨yPc_blind, va_recv hK (va_P.one hP.main) (ci := 6) (q0 := 0) rfl rfl, fun U hU hW => ⟨rfl, by rw [hU]; exact hP, va_K.moved hW.alike hK, (cST_at hZ hS hU hW.alike).narrow (fun q h => Or.inl h)⟩⟩ rfl rfl hl.1 rfl (lv_room (Nat.le_of_ble_eq_true rfl)) dL_cellOf_5 ⟨Nat.le_of_ble_eq_true rfl, Nat.le_of_ble_eq_true rfl⟩) hS (fun q _ h => Or.inl h) (fun q h => Or.inl h) (fun q _ h => Or.inl h) (fun E ce q9 u t H1 locs1 ht hvm hpx hbx hz1 hk hS hce hcv hcl => ?_) (fun r u t H1 locs1 ht hvm hw hB hz1 hk hS => ?_)
  · obtain ⟨hE9, hP1⟩ := hbx
    have q_ := hE9.symm
    subst q_
    rw [ht] at hP1
    replace hq := hq.kept (hk _ hq.lt (by show ¬ cpG o z qo; unfold cpG; omega))
    rcases hkx with h | h | h
    · exact absurd h hpx
    · subst h
      refine vx_catch (own := RL) (name := "java/lang/IndexOutOfBoundsException") (E := xE 1) hown (tableOf []) ⟨0, 10, 13, 13⟩ (tableOf [(0, 10, 17, 15)]) hT (fun z9 hz9 => absurd hz9 (List.not_mem_nil)) (by decide) (by decide) (hts _ (List.mem_of_getElem? (i := 1) rfl)) (va_Nw.use (xNW_tab _ (List.mem_of_getElem? (i := 0) rfl)) (hZ.2.2.2.2.1 _ (List.mem_of_getElem? (i := 0) rfl))) hce hcv hcl ?_
      refine lv_astore (lv' := [(4, .ref (q9)), (0, .ref (o)), (1, .int (cell)), (2, .int (what)), (3, .ref (qo))]) hx hb dL_cellOf_13 hl (by decide) rfl (fun ls hl => ?_)
      refine lv_iconst (v := nI (1)) hx hb dL_cellOf_15 (by decide) ?_
      exact w_nret (Pic1 := fun H : Heap => lPic G ids o z tE (if 1 = 0 then (k_cellOf_s σ cell what) else σ) H ∧ ∃ v, lOut G ids qo v H ∧ (1 = 0 → (fun v => v = (k_cellOf σ cell what).toInt64) v)) (v := nI (1)) hx hb hr hlocks (Nat.le_of_ble_eq_true rfl) (Nat.le_of_ble_eq_true rfl) ⟨by rw [if_neg (by decide)]; exact ⟨d, w, hP1, hWz⟩, f 0, ⟨f, hq, rfl⟩, fun h => absurd h (by decide)⟩ hS dL_cellOf_16 rfl
    · subst h
      refine vx_catch (own := RL) (name := "java/lang/IllegalArgumentException") (E := xE 2) hown (tableOf [(0, 10, 13, 13)]) ⟨0, 10, 17, 15⟩ (tableOf []) hT (fun z9 hz9 => by rw [show z9 = ⟨0, 10, 13, 13⟩ from List.mem_singleton.mp hz9]; exact Or.inr ⟨by decide, _, (hts _ (List.mem_of_getElem? (i := 1) rfl)), hN.1⟩) (by decide) (by decide) (hts _ (List.mem_of_getElem? (i := 2) rfl)) (va_Nw.use (xNW_tab _ (List.mem_of_getElem? (i := 1) rfl)) (hZ.2.2.2.2.1 _ (List.mem_of_getElem? (i := 1) rfl))) hce hcv hcl ?_
      refine lv_astore (lv' := [(4, .ref (q9)), (0, .ref (o)), (1, .int (cell)), (2, .int (what)), (3, .ref (qo))]) hx hb dL_cellOf_17 hl (by decide) rfl (fun ls hl => ?_)
      refine lv_iconst (v := nI (2)) hx hb dL_cellOf_19 (by decide) ?_
      exact w_nret (Pic1 := fun H : Heap => lPic G ids o z tE (if 2 = 0 then (k_cellOf_s σ cell what) else σ) H ∧ ∃ v, lOut G ids qo v H ∧ (2 = 0 → (fun v => v = (k_cellOf σ cell what).toInt64) v)) (v := nI (2)) hx hb hr hlocks (Nat.le_of_ble_eq_true rfl) (Nat.le_of_ble_eq_true rfl) ⟨by rw [if_neg (by decide)]; exact ⟨d, w, hP1, hWz⟩, f 0, ⟨f, hq, rfl⟩, fun h => absurd h (by decide)⟩ hS dL_cellOf_20 rfl
  · obtain ⟨hX0, hrv⟩ := hw
    have q_ := hrv.symm
    subst q_
    rw [ht] at hB
    replace hq := hq.kept (hk _ hq.lt (by show ¬ cpG o z qo; unfold cpG; omega))
    clear hcx hkx hk
    subst hX0
    refine lv_i2l (v := (k_cellOf σ cell what).toInt64) hx hb dL_cellOf_8 rfl ?_
    refine x_last (x := (k_cellOf σ cell what).toInt64) hx hb hK hq (Or.inr rfl) hS (i := nI 0) (vp_in_nI (by decide) (by decide)) dL_cellOf_9 (fun H2 locs2 h9 ho hS => ?_)
    have hP2 := CPic.keepx (n1 := qo) hB (fun y hy e => lw_qo hB hy hqo hzq e) (fun q _ hne => ho.2 q hne)
    refine lv_goto (tgt := 21) hx hb dL_cellOf_10 (by decide) ?_
    refine lv_iconst (v := nI (0)) hx hb dL_cellOf_21 (by decide) ?_
    exact w_nret (Pic1 := fun H : Heap => lPic G ids o z tE (if 0 = 0 then (k_cellOf_s σ cell what) else σ) H ∧ ∃ v, lOut G ids qo v H ∧ (0 = 0 → (fun v => v = (k_cellOf σ cell what).toInt64) v)) (v := nI (0)) hx hb hr hlocks (Nat.le_of_ble_eq_true rfl) (Nat.le_of_ble_eq_true rfl) ⟨by rw [if_pos rfl]; exact ⟨d, w, hP2, hWz⟩, (k_cellOf σ cell what).toInt64, ⟨_, h9, lw_f0⟩, fun _ => rfl⟩ hS dL_cellOf_22 rfl
