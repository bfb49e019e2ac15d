theorem kxK_moss (σ : Sg) (cell : Int32) (mo : Int32) : xK [1, 2] (kx_moss σ cell mo) := by
  unfold kx_moss
  repeat' first | exact xK_0 | exact xK_Ix (by decide) | exact xK_Rg (by decide) | exact xK_St (by decide) | exact Or.inr (by decide) | refine xK_s ?_ ?_ | refine xK_if ?_ ?_
set_option maxHeartbeats 4000000 in
set_option maxRecDepth 100000 in
theorem lc_moss (l : Launch) (hl0 : l.stackTraces = false) (G : va_G) (ids : Nat → ClassId) (tS tE o z qo : Nat) (hqo : o + 184 ≤ qo) (hzq : z = qo + 1) (σ : Sg) (cell : Int32) (mo : Int32) : lW l yL_moss wsL_moss ({ frames := 8, cells := 2, slots := 12, locals := 145 } : Room) G ids tS tE [.ref (o), .int (cell), .int (mo), .ref (qo)] o z qo σ [1, 2] (kx_moss σ cell mo) (fun v => v = (k_moss σ cell mo).toInt64) (k_moss_s σ cell mo) 2 12 := by
  unfold lW
  refine lw_ofWH (cc := cL_moss) (maxL := 5) (ret := some .int) (hh := [(0, 10, 13, 13), (0, 10, 17, 15)]) (by decide) rfl ?_
  intro p e s m args below meth c s₁ B hml hv
  obtain ⟨rfl, ⟨⟨d, w, hP, hWz⟩, v0, f, hq, hf0⟩, hK, hZ, hN⟩ := hv
  have hW0 := wOK_z hP hWz
  have hcx := cx_moss l hl0 G ids o z tS tE d w σ cell mo
  have hkx := xK_2 (kxK_moss σ cell mo)
  obtain ⟨X, hX⟩ : ∃ X : Nat, X = kx_moss σ cell mo := ⟨_, rfl⟩
  rw [← hX] at hcx hkx ⊢
  clear hX
  have hx := B.exec
  have hb := B.bytes
  have hr := B.returns
  have hts := atoms_spec (ws := wsL_moss) B.pre
  have hown : s.vm.findClass RL = some m.cls := findClass_of_methodNamed B.named
  have hlocks := B.notSynchronized
  have hT : c.exceptionTable.toList = tableOf [(0, 10, 13, 13), (0, 10, 17, 15)] := vx_table (x := yL_moss) B (hts _ List.mem_cons_self)
  have hS : va_S (lG o z qo) s.heap s.heap [] := va_S.rf
  have hzs : z ≤ s.heap.size := by have q := hq.lt; omega
  have hl := lv_entry ([.ref (o), .int (cell), .int (mo), .ref (qo)]) (n := 5) (Nat.le_of_ble_eq_true rfl)
  rw [lg_entry_eq]
  generalize (lg_sl ([.ref (o), .int (cell), .int (mo), .ref (qo)]) ++ List.replicate (5 - (lg_sl ([.ref (o), .int (cell), .int (mo), .ref (qo)])).length) Slot.unset).toArray = ls at hl ⊢
  have hl : lv_has ls 5 [(0, .ref (o)), (1, .int (cell)), (2, .int (mo)), (3, .ref (qo))] := hl
  refine lv_aload_n hx hb dL_moss_0 rfl (lv_at hl 3 rfl) ?_
  refine lv_iconst (v := nI (0)) hx hb dL_moss_1 (by decide) ?_
  refine lv_aload_n hx hb dL_moss_2 rfl (lv_at hl 0 rfl) ?_
  refine lv_iload_n hx hb dL_moss_3 rfl (lv_at hl 1 rfl) ?_
  refine lv_iload_n hx hb dL_moss_4 rfl (lv_at hl 2 rfl) ?_
  refine vx_calli (vx_runV (As := [.int (cell), .int (mo)]) (rest := [.int (nI 0), .ref (qo)]) ⟨hx, hb, hml, hown, hts⟩ hcx (cwV 2 hts gL_moss_X5_moss rfl rfl rfl (by decide +kernel) ⟨Nat.le_of_ble_eq_true rfl, Nat.le_of_ble_eq_true rfl⟩) ⟨yPc_blind, va_recv hK (va_P.one hP.main) (ci := 6) (q0 := 0) rfl rfl, fun U hU hW => ⟨rfl, by rw [hU]; exact hP, va_K.moved hW.alike hK, (cST_at hZ hS hU hW.alike).narrow (fun q h => Or.inl h)⟩⟩ rfl rfl hl.1 rfl (lv_room (Nat.le_of_ble_eq_true rfl)) dL_moss_5 ⟨Nat.le_of_ble_eq_true rfl, Nat.le_of_ble_eq_true rfl⟩) hS (fun q _ h => Or.inl h) (fun q h => Or.inl h) (fun q _ h => Or.inl h) (fun E ce q9 u t H1 locs1 ht hvm hpx hbx hz1 hk hS hce hcv hcl => ?_) (fun r u t H1 locs1 ht hvm hw hB hz1 hk hS => ?_)
  · obtain ⟨hE9, hP1⟩ := hbx
    have q_ := hE9.symm
    subst q_
    rw [ht] at hP1
    replace hq := hq.kept (hk _ hq.lt (by show ¬ cpG o z qo; unfold cpG; omega))
    rcases hkx with h | h | h
    · exact absurd h hpx
    · subst h
      refine vx_catch (own := RL) (name := "java/lang/IndexOutOfBoundsException") (E := xE 1) hown (tableOf []) ⟨0, 10, 13, 13⟩ (tableOf [(0, 10, 17, 15)]) hT (fun z9 hz9 => absurd hz9 (List.not_mem_nil)) (by decide) (by decide) (hts _ (List.mem_of_getElem? (i := 1) rfl)) (va_Nw.use (xNW_tab _ (List.mem_of_getElem? (i := 0) rfl)) (hZ.2.2.2.2.1 _ (List.mem_of_getElem? (i := 0) rfl))) hce hcv hcl ?_
      refine lv_astore (lv' := [(4, .ref (q9)), (0, .ref (o)), (1, .int (cell)), (2, .int (mo)), (3, .ref (qo))]) hx hb dL_moss_13 hl (by decide) rfl (fun ls hl => ?_)
      refine lv_iconst (v := nI (1)) hx hb dL_moss_15 (by decide) ?_
      exact w_nret (Pic1 := fun H : Heap => lPic G ids o z tE (if 1 = 0 then (k_moss_s σ cell mo) else σ) H ∧ ∃ v, lOut G ids qo v H ∧ (1 = 0 → (fun v => v = (k_moss σ cell mo).toInt64) v)) (v := nI (1)) hx hb hr hlocks (Nat.le_of_ble_eq_true rfl) (Nat.le_of_ble_eq_true rfl) ⟨by rw [if_neg (by decide)]; exact ⟨d, w, hP1, hWz⟩, f 0, ⟨f, hq, rfl⟩, fun h => absurd h (by decide)⟩ hS dL_moss_16 rfl
    · subst h
      refine vx_catch (own := RL) (name := "java/lang/IllegalArgumentException") (E := xE 2) hown (tableOf [(0, 10, 13, 13)]) ⟨0, 10, 17, 15⟩ (tableOf []) hT (fun z9 hz9 => by rw [show z9 = ⟨0, 10, 13, 13⟩ from List.mem_singleton.mp hz9]; exact Or.inr ⟨by decide, _, (hts _ (List.mem_of_getElem? (i := 1) rfl)), hN.1⟩) (by decide) (by decide) (hts _ (List.mem_of_getElem? (i := 2) rfl)) (va_Nw.use (xNW_tab _ (List.mem_of_getElem? (i := 1) rfl)) (hZ.2.2.2.2.1 _ (List.mem_of_getElem? (i := 1) rfl))) hce hcv hcl ?_
      refine lv_astore (lv' := [(4, .ref (q9)), (0, .ref (o)), (1, .int (cell)), (2, .int (mo)), (3, .ref (qo))]) hx hb dL_moss_17 hl (by decide) rfl (fun ls hl => ?_)
      refine lv_iconst (v := nI (2)) hx hb dL_moss_19 (by decide) ?_
      exact w_nret (Pic1 := fun H : Heap => lPic G ids o z tE (if 2 = 0 then (k_moss_s σ cell mo) else σ) H ∧ ∃ v, lOut G ids qo v H ∧ (2 = 0 → (fun v => v = (k_moss σ cell mo).toInt64) v)) (v := nI (2)) hx hb hr hlocks (Nat.le_of_ble_eq_true rfl) (Nat.le_of_ble_eq_true rfl) ⟨by rw [if_neg (by decide)]; exact ⟨d, w, hP1, hWz⟩, f 0, ⟨f, hq, rfl⟩, fun h => absurd h (by decide)⟩ hS dL_moss_20 rfl
  · obtain ⟨hX0, hrv⟩ := hw
    have q_ := hrv.symm
    subst q_
    rw [ht] at hB
    replace hq := hq.kept (hk _ hq.lt (by show ¬ cpG o z qo; unfold cpG; omega))
    clear hcx hkx hk
    subst hX0
    refine lv_i2l (v := (k_moss σ cell mo).toInt64) hx hb dL_moss_8 rfl ?_
    refine x_last (x := (k_moss σ cell mo).toInt64) hx hb hK hq (Or.inr rfl) hS (i := nI 0) (vp_in_nI (by decide) (by decide)) dL_moss_9 (fun H2 locs2 h9 ho hS => ?_)
    have hP2 := CPic.keepx (n1 := qo) hB (fun y hy e => lw_qo hB hy hqo hzq e) (fun q _ hne => ho.2 q hne)
    refine lv_goto (tgt := 21) hx hb dL_moss_10 (by decide) ?_
    refine lv_iconst (v := nI (0)) hx hb dL_moss_21 (by decide) ?_
    exact w_nret (Pic1 := fun H : Heap => lPic G ids o z tE (if 0 = 0 then (k_moss_s σ cell mo) else σ) H ∧ ∃ v, lOut G ids qo v H ∧ (0 = 0 → (fun v => v = (k_moss σ cell mo).toInt64) v)) (v := nI (0)) hx hb hr hlocks (Nat.le_of_ble_eq_true rfl) (Nat.le_of_ble_eq_true rfl) ⟨by rw [if_pos rfl]; exact ⟨d, w, hP2, hWz⟩, (k_moss σ cell mo).toInt64, ⟨_, h9, lw_f0⟩, fun _ => rfl⟩ hS dL_moss_22 rfl
theorem kxK_ground (σ : Sg) (cell : Int32) (layer : Int32) (p0 : Int32) (e0 : Int32) (g0 : Int32) (c0 : Int32) : xK [1, 2] (kx_ground σ cell layer p0 e0 g0 c0) := by
  unfold kx_ground
  repeat' first | exact xK_0 | exact xK_Ix (by decide) | exact xK_Rg (by decide) | exact xK_St (by decide) | exact Or.inr (by decide) | refine xK_s ?_ ?_ | refine xK_if ?_ ?_
set_option maxHeartbeats 4000000 in
set_option maxRecDepth 100000 in
theorem lc_ground (l : Launch) (hl0 : l.stackTraces = false) (G : va_G) (ids : Nat → ClassId) (tS tE o z qo : Nat) (hqo : o + 184 ≤ qo) (hzq : z = qo + 1) (σ : Sg) (cell : Int32) (layer : Int32) (p0 : Int32) (e0 : Int32) (g0 : Int32) (c0 : Int32) : lW l yL_ground wsL_ground ({ frames := 8, cells := 6, slots := 36, locals := 150 } : Room) G ids tS tE [.ref (o), .int (cell), .int (layer), .int (p0), .int (e0), .int (g0), .int (c0)] o z qo σ [1, 2] (kx_ground σ cell layer p0 e0 g0 c0) (fun _ => True) (k_ground_s σ cell layer p0 e0 g0 c0) 6 36 := by
  unfold lW
  refine lw_ofWH (cc := cL_ground) (maxL := 8) (ret := some .int) (hh := [(0, 13, 16, 13), (0, 13, 20, 15)]) (by decide) rfl ?_
  intro p e s m args below meth c s₁ B hml hv
  obtain ⟨rfl, ⟨⟨d, w, hP, hWz⟩, v0, f, hq, hf0⟩, hK, hZ, hN⟩ := hv
  have hW0 := wOK_z hP hWz
  have hcx := cx_ground l hl0 G ids o z tS tE d w σ cell layer p0 e0 g0 c0
  have hkx := xK_2 (kxK_ground σ cell layer p0 e0 g0 c0)
  obtain ⟨X, hX⟩ : ∃ X : Nat, X = kx_ground σ cell layer p0 e0 g0 c0 := ⟨_, rfl⟩
  rw [← hX] at hcx hkx ⊢
  clear hX
  have hx := B.exec
  have hb := B.bytes
  have hr := B.returns
  have hts := atoms_spec (ws := wsL_ground) B.pre
  have hown : s.vm.findClass RL = some m.cls := findClass_of_methodNamed B.named
  have hlocks := B.notSynchronized
  have hT : c.exceptionTable.toList = tableOf [(0, 13, 16, 13), (0, 13, 20, 15)] := vx_table (x := yL_ground) B (hts _ List.mem_cons_self)
  have hS : va_S (lG o z qo) s.heap s.heap [] := va_S.rf
  have hzs : z ≤ s.heap.size := by have q := hq.lt; omega
  have hl := lv_entry ([.ref (o), .int (cell), .int (layer), .int (p0), .int (e0), .int (g0), .int (c0)]) (n := 8) (Nat.le_of_ble_eq_true rfl)
  rw [lg_entry_eq]
  generalize (lg_sl ([.ref (o), .int (cell), .int (layer), .int (p0), .int (e0), .int (g0), .int (c0)]) ++ List.replicate (8 - (lg_sl ([.ref (o), .int (cell), .int (layer), .int (p0), .int (e0), .int (g0), .int (c0)])).length) Slot.unset).toArray = ls at hl ⊢
  have hl : lv_has ls 8 [(0, .ref (o)), (1, .int (cell)), (2, .int (layer)), (3, .int (p0)), (4, .int (e0)), (5, .int (g0)), (6, .int (c0))] := hl
  refine lv_aload_n hx hb dL_ground_0 rfl (lv_at hl 0 rfl) ?_
  refine lv_iload_n hx hb dL_ground_1 rfl (lv_at hl 1 rfl) ?_
  refine lv_iload_n hx hb dL_ground_2 rfl (lv_at hl 2 rfl) ?_
  refine lv_iload_n hx hb dL_ground_3 rfl (lv_at hl 3 rfl) ?_
  refine lv_iload hx hb dL_ground_4 (lv_at hl 4 rfl) ?_
  refine lv_iload hx hb dL_ground_6 (lv_at hl 5 rfl) ?_
  refine lv_iload hx hb dL_ground_8 (lv_at hl 6 rfl) ?_
  refine vx_callv (vx_runV (As := [.int (cell), .int (layer), .int (p0), .int (e0), .int (g0), .int (c0)]) (rest := []) ⟨hx, hb, hml, hown, hts⟩ hcx (cwV 6 hts gL_ground_X5_ground rfl rfl rfl (by decide +kernel) ⟨Nat.le_of_ble_eq_true rfl, Nat.le_of_ble_eq_true rfl⟩) ⟨yPc_blind, va_recv hK (va_P.one hP.main) (ci := 6) (q0 := 0) rfl rfl, fun U hU hW => ⟨rfl, by rw [hU]; exact hP, va_K.moved hW.alike hK, (cST_at hZ hS hU hW.alike).narrow (fun q h => Or.inl h)⟩⟩ rfl rfl hl.1 rfl (lv_room (Nat.le_of_ble_eq_true rfl)) dL_ground_10 ⟨Nat.le_of_ble_eq_true rfl, Nat.le_of_ble_eq_true rfl⟩) hS (fun q _ h => Or.inl h) (fun q h => Or.inl h) (fun q _ h => Or.inl h) (fun E ce q9 u t H1 locs1 ht hvm hpx hbx hz1 hk hS hce hcv hcl => ?_) (fun u t H1 locs1 ht hvm hw hB hz1 hk hS => ?_)
  · obtain ⟨hE9, hP1⟩ := hbx
    have q_ := hE9.symm
    subst q_
    rw [ht] at hP1
    replace hq := hq.kept (hk _ hq.lt (by show ¬ cpG o z qo; unfold cpG; omega))
    rcases hkx with h | h | h
    · exact absurd h hpx
    · subst h
      refine vx_catch (own := RL) (name := "java/lang/IndexOutOfBoundsException") (E := xE 1) hown (tableOf []) ⟨0, 13, 16, 13⟩ (tableOf [(0, 13, 20, 15)]) hT (fun z9 hz9 => absurd hz9 (List.not_mem_nil)) (by decide) (by decide) (hts _ (List.mem_of_getElem? (i := 1) rfl)) (va_Nw.use (xNW_tab _ (List.mem_of_getElem? (i := 0) rfl)) (hZ.2.2.2.2.1 _ (List.mem_of_getElem? (i := 0) rfl))) hce hcv hcl ?_
      refine lv_astore (lv' := [(7, .ref (q9)), (0, .ref (o)), (1, .int (cell)), (2, .int (layer)), (3, .int (p0)), (4, .int (e0)), (5, .int (g0)), (6, .int (c0))]) hx hb dL_ground_16 hl (by decide) rfl (fun ls hl => ?_)
      refine lv_iconst (v := nI (1)) hx hb dL_ground_18 (by decide) ?_
      exact w_nret (Pic1 := fun H : Heap => lPic G ids o z tE (if 1 = 0 then (k_ground_s σ cell layer p0 e0 g0 c0) else σ) H ∧ ∃ v, lOut G ids qo v H ∧ (1 = 0 → (fun _ => True) v)) (v := nI (1)) hx hb hr hlocks (Nat.le_of_ble_eq_true rfl) (Nat.le_of_ble_eq_true rfl) ⟨by rw [if_neg (by decide)]; exact ⟨d, w, hP1, hWz⟩, f 0, ⟨f, hq, rfl⟩, fun h => absurd h (by decide)⟩ hS dL_ground_19 rfl
    · subst h
      refine vx_catch (own := RL) (name := "java/lang/IllegalArgumentException") (E := xE 2) hown (tableOf [(0, 13, 16, 13)]) ⟨0, 13, 20, 15⟩ (tableOf []) hT (fun z9 hz9 => by rw [show z9 = ⟨0, 13, 16, 13⟩ from List.mem_singleton.mp hz9]; exact Or.inr ⟨by decide, _, (hts _ (List.mem_of_getElem? (i := 1) rfl)), hN.1⟩) (by decide) (by decide) (hts _ (List.mem_of_getElem? (i := 2) rfl)) (va_Nw.use (xNW_tab _ (List.mem_of_getElem? (i := 1) rfl)) (hZ.2.2.2.2.1 _ (List.mem_of_getElem? (i := 1) rfl))) hce hcv hcl ?_
      refine lv_astore (lv' := [(7, .ref (q9)), (0, .ref (o)), (1, .int (cell)), (2, .int (layer)), (3, .int (p0)), (4, .int (e0)), (5, .int (g0)), (6, .int (c0))]) hx hb dL_ground_20 hl (by decide) rfl (fun ls hl => ?_)
      refine lv_iconst (v := nI (2)) hx hb dL_ground_22 (by decide) ?_
      exact w_nret (Pic1 := fun H : Heap => lPic G ids o z tE (if 2 = 0 then (k_ground_s σ cell layer p0 e0 g0 c0) else σ) H ∧ ∃ v, lOut G ids qo v H ∧ (2 = 0 → (fun _ => True) v)) (v := nI (2)) hx hb hr hlocks (Nat.le_of_ble_eq_true rfl) (Nat.le_of_ble_eq_true rfl) ⟨by rw [if_neg (by decide)]; exact ⟨d, w, hP1, hWz⟩, f 0, ⟨f, hq, rfl⟩, fun h => absurd h (by decide)⟩ hS dL_ground_23 rfl
  · have hX0 : X = 0 := hw
    rw [ht] at hB
    replace hq := hq.kept (hk _ hq.lt (by show ¬ cpG o z qo; unfold cpG; omega))
    clear hcx hkx hk
    subst hX0
    have hP2 := hB
    refine lv_goto (tgt := 24) hx hb dL_ground_13 (by decide) ?_
    refine lv_iconst (v := nI (0)) hx hb dL_ground_24 (by decide) ?_
    exact w_nret (Pic1 := fun H : Heap => lPic G ids o z tE (if 0 = 0 then (k_ground_s σ cell layer p0 e0 g0 c0) else σ) H ∧ ∃ v, lOut G ids qo v H ∧ (0 = 0 → (fun _ => True) v)) (v := nI (0)) hx hb hr hlocks (Nat.le_of_ble_eq_true rfl) (Nat.le_of_ble_eq_true rfl) ⟨by rw [if_pos rfl]; exact ⟨d, w, hP2, hWz⟩, f 0, ⟨f, hq, rfl⟩, fun _ => trivial⟩ hS dL_ground_25 rfl
theorem kxK_pass (σ : Sg) (months : Int32) (air : Int32) (snow : Int32) : xK [2, 3] (kx_pass σ months air snow) := by
  unfold kx_pass
  repeat' first | exact xK_0 | exact xK_Ix (by decide) | exact xK_Rg (by decide) | exact xK_St (by decide) | exact Or.inr (by decide) | refine xK_s ?_ ?_ | refine xK_if ?_ ?_
set_option maxHeartbeats 4000000 in
set_option maxRecDepth 100000 in
theorem lc_pass (l : Launch) (hl0 : l.stackTraces = false) (G : va_G) (ids : Nat → ClassId) (tS tE o z qo : Nat) (hqo : o + 184 ≤ qo) (hzq : z = qo + 1) (σ : Sg) (months : Int32) (air : Int32) (snow : Int32) (hO : cOK σ) (hR : cRd σ) : lW l yL_pass wsL_pass ({ frames := 8, cells := 4, slots := 24, locals := 154 } : Room) G ids tS tE [.ref (o), .int (months), .int (air), .int (snow), .ref (qo)] o z qo σ [2, 3] (kx_pass σ months air snow) (fun v => v = (k_pass σ months air snow).toInt64) (k_pass_s σ months air snow) 4 24 := by
  unfold lW
  refine lw_ofWH (cc := cL_pass) (maxL := 6) (ret := some .int) (hh := [(0, 12, 15, 15), (0, 12, 19, 25)]) (by decide) rfl ?_
  intro p e s m args below meth c s₁ B hml hv
  obtain ⟨rfl, ⟨⟨d, w, hP, hWz⟩, v0, f, hq, hf0⟩, hK, hZ, hN⟩ := hv
  have hW0 := wOK_z hP hWz
  have hcx := cx_pass l hl0 G ids o z tS tE d w σ months air snow hO hR
  have hkx := xK_2 (kxK_pass σ months air snow)
  obtain ⟨X, hX⟩ : ∃ X : Nat, X = kx_pass σ months air snow := ⟨_, rfl⟩
  rw [← hX] at hcx hkx ⊢
  clear hX
  have hx := B.exec
  have hb := B.bytes
  have hr := B.returns
  have hts := atoms_spec (ws := wsL_pass) B.pre
  have hown : s.vm.findClass RL = some m.cls := findClass_of_methodNamed B.named
  have hlocks := B.notSynchronized
  have hT : c.exceptionTable.toList = tableOf [(0, 12, 15, 15), (0, 12, 19, 25)] := vx_table (x := yL_pass) B (hts _ List.mem_cons_self)
  have hS : va_S (lG o z qo) s.heap s.heap [] := va_S.rf
  have hzs : z ≤ s.heap.size := by have q := hq.lt; omega
  have hl := lv_entry ([.ref (o), .int (months), .int (air), .int (snow), .ref (qo)]) (n := 6) (Nat.le_of_ble_eq_true rfl)
  rw [lg_entry_eq]
  generalize (lg_sl ([.ref (o), .int (months), .int (air), .int (snow), .ref (qo)]) ++ List.replicate (6 - (lg_sl ([.ref (o), .int (months), .int (air), .int (snow), .ref (qo)])).length) Slot.unset).toArray = ls at hl ⊢
  have hl : lv_has ls 6 [(0, .ref (o)), (1, .int (months)), (2, .int (air)), (3, .int (snow)), (4, .ref (qo))] := hl
  refine lv_aload hx hb dL_pass_0 (lv_at hl 4 rfl) ?_
  refine lv_iconst (v := nI (0)) hx hb dL_pass_2 (by decide) ?_
  refine lv_aload_n hx hb dL_pass_3 rfl (lv_at hl 0 rfl) ?_
  refine lv_iload_n hx hb dL_pass_4 rfl (lv_at hl 1 rfl) ?_
  refine lv_iload_n hx hb dL_pass_5 rfl (lv_at hl 2 rfl) ?_
  refine lv_iload_n hx hb dL_pass_6 rfl (lv_at hl 3 rfl) ?_
  refine vx_calli (vx_runV (As := [.int (months), .int (air), .int (snow)]) (rest := [.int (nI 0), .ref (qo)]) ⟨hx, hb, hml, hown, hts⟩ hcx (cwV 3 hts gL_pass_X5_pass rfl rfl rfl (by decide +kernel) ⟨Nat.le_of_ble_eq_true rfl, Nat.le_of_ble_eq_true rfl⟩) ⟨yPc_blind, va_recv hK (va_P.one hP.main) (ci := 6) (q0 := 0) rfl rfl, fun U hU hW => ⟨rfl, by rw [hU]; exact hP, va_K.moved hW.alike hK, (cST_at hZ hS hU hW.alike).narrow (fun q h => Or.inl h)⟩⟩ rfl rfl hl.1 rfl (lv_room (Nat.le_of_ble_eq_true rfl)) dL_pass_7 ⟨Nat.le_of_ble_eq_true rfl, Nat.le_of_ble_eq_true rfl⟩) hS (fun q _ h => Or.inl h) (fun q h => Or.inl h) (fun q _ h => Or.inl h) (fun E ce q9 u t H1 locs1 ht hvm hpx hbx hz1 hk hS hce hcv hcl => ?_) (fun r u t H1 locs1 ht hvm hw hB hz1 hk hS => ?_)
  · obtain ⟨hE9, hP1⟩ := hbx
    have q_ := hE9.symm
    subst q_
    rw [ht] at hP1
    replace hq := hq.kept (hk _ hq.lt (by show ¬ cpG o z qo; unfold cpG; omega))
    rcases hkx with h | h | h
    · exact absurd h hpx
    · subst h
      refine vx_catch (own := RL) (name := "java/lang/IllegalArgumentException") (E := xE 2) hown (tableOf []) ⟨0, 12, 15, 15⟩ (tableOf [(0, 12, 19, 25)]) hT (fun z9 hz9 => absurd hz9 (List.not_mem_nil)) (by decide) (by decide) (hts _ (List.mem_of_getElem? (i := 1) rfl)) (va_Nw.use (xNW_tab _ (List.mem_of_getElem? (i := 1) rfl)) (hZ.2.2.2.2.1 _ (List.mem_of_getElem? (i := 1) rfl))) hce hcv hcl ?_
      refine lv_astore (lv' := [(5, .ref (q9)), (0, .ref (o)), (1, .int (months)), (2, .int (air)), (3, .int (snow)), (4, .ref (qo))]) hx hb dL_pass_15 hl (by decide) rfl (fun ls hl => ?_)
      refine lv_iconst (v := nI (1)) hx hb dL_pass_17 (by decide) ?_
      exact w_nret (Pic1 := fun H : Heap => lPic G ids o z tE (if 2 = 0 then (k_pass_s σ months air snow) else σ) H ∧ ∃ v, lOut G ids qo v H ∧ (2 = 0 → (fun v => v = (k_pass σ months air snow).toInt64) v)) (v := nI (1)) hx hb hr hlocks (Nat.le_of_ble_eq_true rfl) (Nat.le_of_ble_eq_true rfl) ⟨by rw [if_neg (by decide)]; exact ⟨d, w, hP1, hWz⟩, f 0, ⟨f, hq, rfl⟩, fun h => absurd h (by decide)⟩ hS dL_pass_18 rfl
    · subst h
      refine vx_catch (own := RL) (name := "java/lang/IllegalStateException") (E := xE 3) hown (tableOf [(0, 12, 15, 15)]) ⟨0, 12, 19, 25⟩ (tableOf []) hT (fun z9 hz9 => by rw [show z9 = ⟨0, 12, 15, 15⟩ from List.mem_singleton.mp hz9]; exact Or.inr ⟨by decide, _, (hts _ (List.mem_of_getElem? (i := 1) rfl)), hN.2.2⟩) (by decide) (by decide) (hts _ (List.mem_of_getElem? (i := 2) rfl)) (va_Nw.use (xNW_tab _ (List.mem_of_getElem? (i := 2) rfl)) (hZ.2.2.2.2.1 _ (List.mem_of_getElem? (i := 2) rfl))) hce hcv hcl ?_
      refine lv_astore (lv' := [(5, .ref (q9)), (0, .ref (o)), (1, .int (months)), (2, .int (air)), (3, .int (snow)), (4, .ref (qo))]) hx hb dL_pass_19 hl (by decide) rfl (fun ls hl => ?_)
      refine lv_iconst (v := nI (2)) hx hb dL_pass_21 (by decide) ?_
      exact w_nret (Pic1 := fun H : Heap => lPic G ids o z tE (if 3 = 0 then (k_pass_s σ months air snow) else σ) H ∧ ∃ v, lOut G ids qo v H ∧ (3 = 0 → (fun v => v = (k_pass σ months air snow).toInt64) v)) (v := nI (2)) hx hb hr hlocks (Nat.le_of_ble_eq_true rfl) (Nat.le_of_ble_eq_true rfl) ⟨by rw [if_neg (by decide)]; exact ⟨d, w, hP1, hWz⟩, f 0, ⟨f, hq, rfl⟩, fun h => absurd h (by decide)⟩ hS dL_pass_22 rfl
  · obtain ⟨hX0, hrv⟩ := hw
    have q_ := hrv.symm
    subst q_
    rw [ht] at hB
    replace hq := hq.kept (hk _ hq.lt (by show ¬ cpG o z qo; unfold cpG; omega))
    clear hcx hkx hk
    subst hX0
    refine lv_i2l (v := (k_pass σ months air snow).toInt64) hx hb dL_pass_10 rfl ?_
    refine x_last (x := (k_pass σ months air snow).toInt64) hx hb hK hq (Or.inr rfl) hS (i := nI 0) (vp_in_nI (by decide) (by decide)) dL_pass_11 (fun H2 locs2 h9 ho hS => ?_)
    have hP2 := CPic.keepx (n1 := qo) hB (fun y hy e => lw_qo hB hy hqo hzq e) (fun q _ hne => ho.2 q hne)
    refine lv_goto (tgt := 23) hx hb dL_pass_12 (by decide) ?_
    refine lv_iconst (v := nI (0)) hx hb dL_pass_23 (by decide) ?_
    exact w_nret (Pic1 := fun H : Heap => lPic G ids o z tE (if 0 = 0 then (k_pass_s σ months air snow) else σ) H ∧ ∃ v, lOut G ids qo v H ∧ (0 = 0 → (fun v => v = (k_pass σ months air snow).toInt64) v)) (v := nI (0)) hx hb hr hlocks (Nat.le_of_ble_eq_true rfl) (Nat.le_of_ble_eq_true rfl) ⟨by rw [if_pos rfl]; exact ⟨d, w, hP2, hWz⟩, (k_pass σ months air snow).toInt64, ⟨_, h9, lw_f0⟩, fun _ => rfl⟩ hS dL_pass_24 rfl
