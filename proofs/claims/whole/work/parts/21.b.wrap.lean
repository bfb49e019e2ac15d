theorem kxK_moss (σ : Sg) (cell : Int32) (mo : Int32) : xK [1, 2] (kx_moss σ cell mo) := by
  unfold kx_moss
  repeat' first | exact xK_0 | exact xK_Ix (by decide) | exact xK_Rg (by decide) | exact xK_St (by decide) | refine xK_s ?_ ?_
set_option maxHeartbeats 4000000 in
set_option maxRecDepth 100000 in
theorem lc_moss (l : Launch) (hl0 : l.stackTraces = false) (G : va_G) (ids : Nat → ClassId) (tS tE o z qo : Nat) (hqo : o + 184 ≤ qo) (hzq : z = qo + 1) (σ : Sg) (cell : Int32) (mo : Int32) : lW l yL_moss wsL_moss ({ frames := 8, cells := 2, slots := 12, locals := 145 } : Room) G ids tS tE [.ref (o), .int (cell), .int (mo), .ref (qo)] o z qo σ [1, 2] (kx_moss σ cell mo) (fun v => v = (k_moss σ cell mo).toInt64) (k_moss_s σ cell mo) 2 12 := by
  unfold lW
  refine lw_ofWH (cc := cL_moss) (maxL := 5) (ret := some .int) (hh := [(0, 10, 13, 13), (0, 10, 17, 15)]) (by decide) rfl ?_
  intro p e s m args below meth c s₁ B hml hv
  obtain ⟨rfl, ⟨⟨d, w, hP, hWz⟩, v0, f, hq, hf0⟩, hK, hZ, hN⟩ := hv
  have hW0 := wOK_z hP hWz
  have hcx := cx_moss l hl0 G ids o z tS tE d w σ cell mo
  have hkx := xK_2 (kxK_moss σ cell mo)
  obtain ⟨X, hX⟩ : ∃ X : Nat, X = kx_moss σ cell mo := ⟨_, rfl⟩
  rw [← hX] at hcx hkx ⊢
  clear hX
  have hx := B.exec
  have hb := B.bytes
  have hr := B.returns
  have hts := atoms_spec (ws := wsL_moss) B.pre
  have hown : s.vm.findClass RL = some m.cls := findClass_of_methodNamed B.named
  have hlocks := B.notSynchronized
  have hT : c.exceptionTable.toList = tableOf [(0, 10, 13, 13), (0, 10, 17, 15)] := vx_table B (hts _ List.mem_cons_self)
  have hS : va_S (lG o z qo) s.heap s.heap [] := va_S.rf
  have hzs : z ≤ s.heap.size := by have q := hq.lt; omega
  have hl := lv_entry ([.ref (o), .int (cell), .int (mo), .ref (qo)]) (n := 5) (Nat.le_of_ble_eq_true rfl)
  rw [lg_entry_eq]
  generalize (lg_sl ([.ref (o), .int (cell), .int (mo), .ref (qo)]) ++ List.replicate (5 - (lg_sl ([.ref (o), .int (cell), .int (mo), .ref (qo)])).length) Slot.unset).toArray = ls at hl ⊢
  have hl : lv_has ls 5 [(0, .ref (o)), (1, .int (cell)), (2, .int (mo)), (3, .ref (qo))] := hl
  refine lv_aload_n hx hb dL_moss_0 rfl (lv_at hl 3 rfl) ?_
  refine lv_iconst (v := nI (0)) hx hb dL_moss_1 (by decide) ?_
  refine lv_aload_n hx hb dL_moss_2 rfl (lv_at hl 0 rfl) ?_
  refine lv_iload_n hx hb dL_moss_3 rfl (lv_at hl 1 rfl) ?_
  refine lv_iload_n hx hb dL_moss_4 rfl (lv_at hl 2 rfl) ?_
  refine vx_calli (vx_runV (As := [.int (cell), .int (mo)]) (rest := [.int (nI 0), .ref (qo)]) ⟨hx, hb, hml, hown, hts⟩ hcx (cwV 2 hts gL_moss_X5_moss rfl rfl rfl (by decide +kernel) ⟨Nat.le_of_ble_eq_true rfl, Nat.le_of_ble_eq_true rfl⟩) ⟨yPc_blind, va_recv hK (va_P.one hP.main) (ci := 6) (q0 := 0) rfl rfl, fun U hU hW => ⟨rfl, by rw [hU]; exact hP, va_K.moved hW.alike hK, (cST_at hZ hS hU hW.alike).narrow (fun q h => Or.inl h)⟩⟩ rfl rfl hl.1 rfl (lv_room (Nat.le_of_ble_eq_true rfl)) dL_moss_5 ⟨Nat.le_of_ble_eq_true rfl, Nat.le_of_ble_eq_true rfl⟩) hS (fun q _ h => Or.inl h) (fun q h => Or.inl h) (fun q _ h => Or.inl h) (fun E ce q9 u t H1 locs1 ht hvm hpx hbx hz1 hk hS => ?_) (fun r u t H1 locs1 ht hvm hw hB hz1 hk hS => ?_)
  · obtain ⟨rfl, hP1⟩ := hbx
    rw [ht] at hP1
    replace hq := hq.kept (hk _ hq.lt (by show ¬ cpG o z qo; unfold cpG; omega))
    rcases hkx with h | h | h
    · exact absurd h hpx
    · subst h
      refine vx_catch (own := RL) (name := "java/lang/IndexOutOfBoundsException") (E := xE 1) hown (tableOf []) ⟨0, 10, 13, 13⟩ (tableOf [(0, 10, 17, 15)]) hT (fun z9 hz9 => absurd hz9 (List.not_mem_nil)) (by decide) (by decide) (hts _ (List.mem_of_getElem? (i := 1) rfl)) (va_Nw.use (xNW_tab _ (List.mem_of_getElem? (i := 0) rfl)) (hZ.2.2.2.2.1 _ (List.mem_of_getElem? (i := 0) rfl))) hce hcv hcl ?_
      refine lv_astore (lv' := [(4, .ref (q9)), (0, .ref (o)), (1, .int (cell)), (2, .int (mo)), (3, .ref (qo))]) hx hb dL_moss_13 hl (by decide) rfl (fun ls hl => ?_)
      refine lv_iconst (v := nI (1)) hx hb dL_moss_15 (by decide) ?_
      exact w_nret (Pic1 := fun H : Heap => lPic G ids o z tE (if 1 = 0 then (k_moss_s σ cell mo) else σ) H ∧ ∃ v, lOut G ids qo v H ∧ (1 = 0 → (fun v => v = (k_moss σ cell mo).toInt64) v)) (v := nI (1)) hx hb hr hlocks (Nat.le_of_ble_eq_true rfl) (Nat.le_of_ble_eq_true rfl) ⟨by rw [if_neg (by decide)]; exact ⟨d, w, hP1, hWz⟩, f 0, ⟨f, hq, rfl⟩, fun h => absurd h (by decide)⟩ hS dL_moss_16 rfl
    · subst h
      refine vx_catch (own := RL) (name := "java/lang/IllegalArgumentException") (E := xE 2) hown (tableOf [(0, 10, 13, 13)]) ⟨0, 10, 17, 15⟩ (tableOf []) hT (fun z9 hz9 => by rw [show z9 = ⟨0, 10, 13, 13⟩ from List.mem_singleton.mp hz9]; exact Or.inr ⟨by decide, _, (hts _ (List.mem_of_getElem? (i := 1) rfl)), hN.1⟩) (by decide) (by decide) (hts _ (List.mem_of_getElem? (i := 2) rfl)) (va_Nw.use (xNW_tab _ (List.mem_of_getElem? (i := 1) rfl)) (hZ.2.2.2.2.1 _ (List.mem_of_getElem? (i := 1) rfl))) hce hcv hcl ?_
      refine lv_astore (lv' := [(4, .ref (q9)), (0, .ref (o)), (1, .int (cell)), (2, .int (mo)), (3, .ref (qo))]) hx hb dL_moss_17 hl (by decide) rfl (fun ls hl => ?_)
      refine lv_iconst (v := nI (2)) hx hb dL_moss_19 (by decide) ?_
      exact w_nret (Pic1 := fun H : Heap => lPic G ids o z tE (if 2 = 0 then (k_moss_s σ cell mo) else σ) H ∧ ∃ v, lOut G ids qo v H ∧ (2 = 0 → (fun v => v = (k_moss σ cell mo).toInt64) v)) (v := nI (2)) hx hb hr hlocks (Nat.le_of_ble_eq_true rfl) (Nat.le_of_ble_eq_true rfl) ⟨by rw [if_neg (by decide)]; exact ⟨d, w, hP1, hWz⟩, f 0, ⟨f, hq, rfl⟩, fun h => absurd h (by decide)⟩ hS dL_moss_20 rfl
  · obtain ⟨hX0, hrv⟩ := hw
    subst hrv
    rw [ht] at hB
    replace hq := hq.kept (hk _ hq.lt (by show ¬ cpG o z qo; unfold cpG; omega))
    clear hcx hkx hk
    subst hX0
    refine lv_i2l (v := (k_moss σ cell mo).toInt64) hx hb dL_moss_8 rfl ?_
    refine x_last (x := (k_moss σ cell mo).toInt64) hx hb hK hq (Or.inr rfl) hS (i := nI 0) (vp_in_nI (by decide) (by decide)) dL_moss_9 (fun H2 locs2 h9 ho hS => ?_)
    have hP2 := CPic.keepx (n1 := qo) hB (fun y hy e => lw_qo hB hy hqo hzq e) (fun q _ hne => ho.2 q hne)
    refine lv_goto (tgt := 21) hx hb dL_moss_10 (by decide) ?_
    refine lv_iconst (v := nI (0)) hx hb dL_moss_21 (by decide) ?_
    exact w_nret (Pic1 := fun H : Heap => lPic G ids o z tE (if 0 = 0 then (k_moss_s σ cell mo) else σ) H ∧ ∃ v, lOut G ids qo v H ∧ (0 = 0 → (fun v => v = (k_moss σ cell mo).toInt64) v)) (v := nI (0)) hx hb hr hlocks (Nat.le_of_ble_eq_true rfl) (Nat.le_of_ble_eq_true rfl) ⟨by rw [if_pos rfl]; exact ⟨d, w, hP2, hWz⟩, (k_moss σ cell mo).toInt64, ⟨_, h9, lw_f0⟩, fun _ => rfl⟩ hS dL_moss_22 rfl
theorem kxK_ground (σ : Sg) (cell : Int32) (layer : Int32) (p0 : Int32) (e0 : Int32) (g0 : Int32) (c0 : Int32) : xK [1, 2] (kx_ground σ cell layer p0 e0 g0 c0) := by
  unfold kx_ground
  repeat' first | exact xK_0 | exact xK_Ix (by decide) | exact xK_Rg (by decide) | exact xK_St (by decide) | refine xK_s ?_ ?_
set_option maxHeartbeats 4000000 in
set_option maxRecDepth 100000 in
theorem lc_ground (l : Launch) (hl0 : l.stackTraces = false) (G : va_G) (ids : Nat → ClassId) (tS tE o z qo : Nat) (hqo : o + 184 ≤ qo) (hzq : z = qo + 1) (σ : Sg) (cell : Int32) (layer : Int32) (p0 : Int32) (e0 : Int32) (g0 : Int32) (c0 : Int32) : lW l yL_ground wsL_ground ({ frames := 8, cells := 6, slots := 36, locals := 150 } : Room) G ids tS tE [.ref (o), .int (cell), .int (layer), .int (p0), .int (e0), .int (g0), .int (c0)] o z qo σ [1, 2] (kx_ground σ cell layer p0 e0 g0 c0) (fun _ => True) (k_ground_s σ cell layer p0 e0 g0 c0) 6 36 := by
  unfold lW
  refine lw_ofWH (cc := cL_ground) (maxL := 8) (ret := some .int) (hh := [(0, 13, 16, 13), (0, 13, 20, 15)]) (by decide) rfl ?_
  intro p e s m args below meth c s₁ B hml hv
  obtain ⟨rfl, ⟨⟨d, w, hP, hWz⟩, v0, f, hq, hf0⟩, hK, hZ, hN⟩ := hv
  have hW0 := wOK_z hP hWz
  have hcx := cx_ground l hl0 G ids o z tS tE d w σ cell layer p0 e0 g0 c0
  have hkx := xK_2 (kxK_ground σ cell layer p0 e0 g0 c0)
  obtain ⟨X, hX⟩ : ∃ X : Nat, X = kx_ground σ cell layer p0 e0 g0 c0 := ⟨_, rfl⟩
  rw [← hX] at hcx hkx ⊢
  clear hX
  have hx := B.exec
  have hb := B.bytes
  have hr := B.returns
  have hts := atoms_spec (ws := wsL_ground) B.pre
  have hown : s.vm.findClass RL = some m.cls := findClass_of_methodNamed B.named
  have hlocks := B.notSynchronized
  have hT : c.exceptionTable.toList = tableOf [(0, 13, 16, 13), (0, 13, 20, 15)] := vx_table B (hts _ List.mem_cons_self)
  have hS : va_S (lG o z qo) s.heap s.heap [] := va_S.rf
  have hzs : z ≤ s.heap.size := by have q := hq.lt; omega
  have hl := lv_entry ([.ref (o), .int (cell), .int (layer), .int (p0), .int (e0), .int (g0), .int (c0)]) (n := 8) (Nat.le_of_ble_eq_true rfl)
  rw [lg_entry_eq]
  generalize (lg_sl ([.ref (o), .int (cell), .int (layer), .int (p0), .int (e0), .int (g0), .int (c0)]) ++ List.replicate (8 - (lg_sl ([.ref (o), .int (cell), .int (layer), .int (p0), .int (e0), .int (g0), .int (c0)])).length) Slot.unset).toArray = ls at hl ⊢
  have hl : lv_has ls 8 [(0, .ref (o)), (1, .int (cell)), (2, .int (layer)), (3, .int (p0)), (4, .int (e0)), (5, .int (g0)), (6, .int (c0))] := hl
  refine lv_aload_n hx hb dL_ground_0 rfl (lv_at hl 0 rfl) ?_
  refine lv_iload_n hx hb dL_ground_1 rfl (lv_at hl 1 rfl) ?_
  refine lv_iload_n hx hb dL_ground_2 rfl (lv_at hl 2 rfl) ?_
  refine lv_iload_n hx hb dL_ground_3 rfl (lv_at hl 3 rfl) ?_
  refine lv_iload hx hb dL_ground_4 (lv_at hl 4 rfl) ?_
  refine lv_iload hx hb dL_ground_6 (lv_at hl 5 rfl) ?_
  refine lv_iload hx hb dL_ground_8 (lv_at hl 6 rfl) ?_
  refine vx_callv (vx_runV (As := [.int (cell), .int (layer), .int (p0), .int (e0), .int (g0), .int (c0)]) (rest := []) ⟨hx, hb, hml, hown, hts⟩ hcx (cwV 6 hts gL_ground_X5_ground rfl rfl rfl (by decide +kernel) ⟨Nat.le_of_ble_eq_true rfl, Nat.le_of_ble_eq_true rfl⟩) ⟨yPc_blind, va_recv hK (va_P.one hP.main) (ci := 6) (q0 := 0) rfl rfl, fun U hU hW => ⟨rfl, by rw [hU]; exact hP, va_K.moved hW.alike hK, (cST_at hZ hS hU hW.alike).narrow (fun q h => Or.inl h)⟩⟩ rfl rfl hl.1 rfl (lv_room (Nat.le_of_ble_eq_true rfl)) dL_ground_10 ⟨Nat.le_of_ble_eq_true rfl, Nat.le_of_ble_eq_true rfl⟩) hS (fun q _ h => Or.inl h) (fun q h => Or.inl h) (fun q _ h => Or.inl h) (fun E ce q9 u t H1 locs1 ht hvm hpx hbx hz1 hk hS => ?_) (fun u t H1 locs1 ht hvm hw hB hz1 hk hS => ?_)
  · obtain ⟨rfl, hP1⟩ := hbx
    rw [ht] at hP1
    replace hq := hq.kept (hk _ hq.lt (by show ¬ cpG o z qo; unfold cpG; omega))
    rcases hkx with h | h | h
    · exact absurd h hpx
    · subst h
      refine vx_catch (own := RL) (name := "java/lang/IndexOutOfBoundsException") (E := xE 1) hown (tableOf []) ⟨0, 13, 16, 13⟩ (tableOf [(0, 13, 20, 15)]) hT (fun z9 hz9 => absurd hz9 (List.not_mem_nil)) (by decide) (by decide) (hts _ (List.mem_of_getElem? (i := 1) rfl)) (va_Nw.use (xNW_tab _ (List.mem_of_getElem? (i := 0) rfl)) (hZ.2.2.2.2.1 _ (List.mem_of_getElem? (i := 0) rfl))) hce hcv hcl ?_
      refine lv_astore (lv' := [(7, .ref (q9)), (0, .ref (o)), (1, .int (cell)), (2, .int (layer)), (3, .int (p0)), (4, .int (e0)), (5, .int (g0)), (6, .int (c0))]) hx hb dL_ground_16 hl (by decide) rfl (fun ls hl => ?_)
      refine lv_iconst (v := nI (1)) hx hb dL_ground_18 (by decide) ?_
      exact w_nret (Pic1 := fun H : Heap => lPic G ids o z tE (if 1 = 0 then (k_ground_s σ cell layer p0 e0 g0 c0) else σ) H ∧ ∃ v, lOut G ids qo v H ∧ (1 = 0 → (fun _ => True) v)) (v := nI (1)) hx hb hr hlocks (Nat.le_of_ble_eq_true rfl) (Nat.le_of_ble_eq_true rfl) ⟨by rw [if_neg (by decide)]; exact ⟨d, w, hP1, hWz⟩, f 0, ⟨f, hq, rfl⟩, fun h => absurd h (by decide)⟩ hS dL_ground_19 rfl
    · subst h
      refine vx_catch (own := RL) (name := "java/lang/IllegalArgumentException") (E := xE 2) hown (tableOf [(0, 13, 16, 13)]) ⟨0, 13, 20, 15⟩ (tableOf []) hT (fun z9 hz9 => by rw [show z9 = ⟨0, 13, 16, 13⟩ from List.mem_singleton.mp hz9]; exact Or.inr ⟨by decide, _, (hts _ (List.mem_of_getElem? (i := 1) rfl)), hN.1⟩) (by decide) (by decide) (hts _ (List.mem_of_getElem? (i := 2) rfl)) (va_Nw.use (xNW_tab _ (List.mem_of_getElem? (i := 1) rfl)) (hZ.2.2.2.2.1 _ (List.mem_of_getElem? (i := 1) rfl))) hce hcv hcl ?_
      refine lv_astore (lv' := [(7, .ref (q9)), (0, .ref (o)), (1, .int (cell)), (2, .int (layer)), (3, .int (p0)), (4, .int (e0)), (5, .int (g0)), (6, .int (c0))]) hx hb dL_ground_20 hl (by decide) rfl (fun ls hl => ?_)
      refine lv_iconst (v := nI (2)) hx hb dL_ground_22 (by decide) ?_
      exact w_nret (Pic1 := fun H : Heap => lPic G ids o z tE (if 2 = 0 then (k_ground_s σ cell layer p0 e0 g0 c0) else σ) H ∧ ∃ v, lOut G ids qo v H ∧ (2 = 0 → (fun _ => True) v)) (v := nI (2)) hx hb hr hlocks (Nat.le_of_ble_eq_true rfl) (Nat.le_of_ble_eq_true rfl) ⟨by rw [if_neg (by decide)]; exact ⟨d, w, hP1, hWz⟩, f 0, ⟨f, hq, rfl⟩, fun h => absurd h (by decide)⟩ hS dL_ground_23 rfl
  · have hX0 : X = 0 := hw
    rw [ht] at hB
    replace hq := hq.kept (hk _ hq.lt (by show ¬ cpG o z qo; unfold cpG; omega))
    clear hcx hkx hk
    subst hX0
    have hP2 := hB
    refine lv_goto (tgt := 24) hx hb dL_ground_13 (by decide) ?_
    refine lv_iconst (v := nI (0)) hx hb dL_ground_24 (by decide) ?_
    exact w_nret (Pic1 := fun H : Heap => lPic G ids o z tE (if 0 = 0 then (k_ground_s σ cell layer p0 e0 g0 c0) else σ) H ∧ ∃ v, lOut G ids qo v H ∧ (0 = 0 → (fun _ => True) v)) (v := nI (0)) hx hb hr hlocks (Nat.le_of_ble_eq_true rfl) (Nat.le_of_ble_eq_true rfl) ⟨by rw [if_pos rfl]; exact ⟨d, w, hP2, hWz⟩, f 0, ⟨f, hq, rfl⟩, fun _ => trivial⟩ hS dL_ground_25 rfl
theorem kxK_pass (σ : Sg) (months : Int32) (air : Int32) (snow : Int32) : xK [2, 3] (kx_pass σ months air snow) := by
  unfold kx_pass
  repeat' first | exact xK_0 | exact xK_Ix (by decide) | exact xK_Rg (by decide) | exact xK_St (by decide) | refine xK_s ?_ ?_
set_option maxHeartbeats 4000000 in
set_option maxRecDepth 100000 in
theorem lc_pass (l : Launch) (hl0 : l.stackTraces = false) (G : va_G) (ids : Nat → ClassId) (tS tE o z qo : Nat) (hqo : o + 184 ≤ qo) (hzq : z = qo + 1) (σ : Sg) (months : Int32) (air : Int32) (snow : Int32) (hO : cOK σ) (hR : cRd σ) : lW l yL_pass wsL_pass ({ frames := 8, cells := 4, slots := 24, locals := 154 } : Room) G ids tS tE [.ref (o), .int (months), .int (air), .int (snow), .ref (qo)] o z qo σ [2, 3] (kx_pass σ months air snow) (fun v => v = (k_pass σ months air snow).toInt64) (k_pass_s σ months air snow) 4 24 := by
  unfold lW
  refine lw_ofWH (cc := cL_pass) (maxL := 6) (ret := some .int) (hh := [(0, 12, 15, 15), (0, 12, 19, 25)]) (by decide) rfl ?_
  intro p e s m args below meth c s₁ B hml hv
  obtain ⟨rfl, ⟨⟨d, w, hP, hWz⟩, v0, f, hq, hf0⟩, hK, hZ, hN⟩ := hv
  have hW0 := wOK_z hP hWz
  have hcx := cx_pass l hl0 G ids o z tS tE d w σ months air snow hO hR
  have hkx := xK_2 (kxK_pass σ months air snow)
  obtain ⟨X, hX⟩ : ∃ X : Nat, X = kx_pass σ months air snow := ⟨_, rfl⟩
  rw [← hX] at hcx hkx ⊢
  clear hX
  have hx := B.exec
  have hb := B.bytes
  have hr := B.returns
  have hts := atoms_spec (ws := wsL_pass) B.pre
  have hown : s.vm.findClass RL = some m.cls := findClass_of_methodNamed B.named
  have hlocks := B.notSynchronized
  have hT : c.exceptionTable.toList = tableOf [(0, 12, 15, 15), (0, 12, 19, 25)] := vx_table B (hts _ List.mem_cons_self)
  have hS : va_S (lG o z qo) s.heap s.heap [] := va_S.rf
  have hzs : z ≤ s.heap.size := by have q := hq.lt; omega
  have hl := lv_entry ([.ref (o), .int (months), .int (air), .int (snow), .ref (qo)]) (n := 6) (Nat.le_of_ble_eq_true rfl)
  rw [lg_entry_eq]
  generalize (lg_sl ([.ref (o), .int (months), .int (air), .int (snow), .ref (qo)]) ++ List.replicate (6 - (lg_sl ([.ref (o), .int (months), .int (air), .int (snow), .ref (qo)])).length) Slot.unset).toArray = ls at hl ⊢
  have hl : lv_has ls 6 [(0, .ref (o)), (1, .int (months)), (2, .int (air)), (3, .int (snow)), (4, .ref (qo))] := hl
  refine lv_aload hx hb dL_pass_0 (lv_at hl 4 rfl) ?_
  refine lv_iconst (v := nI (0)) hx hb dL_pass_2 (by decide) ?_
  refine lv_aload_n hx hb dL_pass_3 rfl (lv_at hl 0 rfl) ?_
  refine lv_iload_n hx hb dL_pass_4 rfl (lv_at hl 1 rfl) ?_
  refine lv_iload_n hx hb dL_pass_5 rfl (lv_at hl 2 rfl) ?_
  refine lv_iload_n hx hb dL_pass_6 rfl (lv_at hl 3 rfl) ?_
  refine vx_calli (vx_runV (As := [.int (months), .int (air), .int (snow)]) (rest := [.int (nI 0), .ref (qo)]) ⟨hx, hb, hml, hown, hts⟩ hcx (cwV 3 hts gL_pass_X5_pass rfl rfl rfl (by decide +kernel) ⟨Nat.le_of_ble_eq_true rfl, Nat.le_of_ble_eq_true rfl⟩) ⟨yPc_blind, va_recv hK (va_P.one hP.main) (ci := 6) (q0 := 0) rfl rfl, fun U hU hW => ⟨rfl, by rw [hU]; exact hP, va_K.moved hW.alike hK, (cST_at hZ hS hU hW.alike).narrow (fun q h => Or.inl h)⟩⟩ rfl rfl hl.1 rfl (lv_room (Nat.le_of_ble_eq_true rfl)) dL_pass_7 ⟨Nat.le_of_ble_eq_true rfl, Nat.le_of_ble_eq_true rfl⟩) hS (fun q _ h => Or.inl h) (fun q h => Or.inl h) (fun q _ h => Or.inl h) (fun E ce q9 u t H1 locs1 ht hvm hpx hbx hz1 hk hS => ?_) (fun r u t H1 locs1 ht hvm hw hB hz1 hk hS => ?_)
  · obtain ⟨rfl, hP1⟩ := hbx
    rw [ht] at hP1
    replace hq := hq.kept (hk _ hq.lt (by show ¬ cpG o z qo; unfold cpG; omega))
    rcases hkx with h | h | h
    · exact absurd h hpx
    · subst h
      refine vx_catch (own := RL) (name := "java/lang/IllegalArgumentException") (E := xE 2) hown (tableOf []) ⟨0, 12, 15, 15⟩ (tableOf [(0, 12, 19, 25)]) hT (fun z9 hz9 => absurd hz9 (List.not_mem_nil)) (by decide) (by decide) (hts _ (List.mem_of_getElem? (i := 1) rfl)) (va_Nw.use (xNW_tab _ (List.mem_of_getElem? (i := 1) rfl)) (hZ.2.2.2.2.1 _ (List.mem_of_getElem? (i := 1) rfl))) hce hcv hcl ?_
      refine lv_astore (lv' := [(5, .ref (q9)), (0, .ref (o)), (1, .int (months)), (2, .int (air)), (3, .int (snow)), (4, .ref (qo))]) hx hb dL_pass_15 hl (by decide) rfl (fun ls hl => ?_)
      refine lv_iconst (v := nI (1)) hx hb dL_pass_17 (by decide) ?_
      exact w_nret (Pic1 := fun H : Heap => lPic G ids o z tE (if 2 = 0 then (k_pass_s σ months air snow) else σ) H ∧ ∃ v, lOut G ids qo v H ∧ (2 = 0 → (fun v => v = (k_pass σ months air snow).toInt64) v)) (v := nI (1)) hx hb hr hlocks (Nat.le_of_ble_eq_true rfl) (Nat.le_of_ble_eq_true rfl) ⟨by rw [if_neg (by decide)]; exact ⟨d, w, hP1, hWz⟩, f 0, ⟨f, hq, rfl⟩, fun h => absurd h (by decide)⟩ hS dL_pass_18 rfl
    · subst h
      refine vx_catch (own := RL) (name := "java/lang/IllegalStateException") (E := xE 3) hown (tableOf [(0, 12, 15, 15)]) ⟨0, 12, 19, 25⟩ (tableOf []) hT (fun z9 hz9 => by rw [show z9 = ⟨0, 12, 15, 15⟩ from List.mem_singleton.mp hz9]; exact Or.inr ⟨by decide, _, (hts _ (List.mem_of_getElem? (i := 1) rfl)), hN.2.2⟩) (by decide) (by decide) (hts _ (List.mem_of_getElem? (i := 2) rfl)) (va_Nw.use (xNW_tab _ (List.mem_of_getElem? (i := 2) rfl)) (hZ.2.2.2.2.1 _ (List.mem_of_getElem? (i := 2) rfl))) hce hcv hcl ?_
      refine lv_astore (lv' := [(5, .ref (q9)), (0, .ref (o)), (1, .int (months)), (2, .int (air)), (3, .int (snow)), (4, .ref (qo))]) hx hb dL_pass_19 hl (by decide) rfl (fun ls hl => ?_)
      refine lv_iconst (v := nI (2)) hx hb dL_pass_21 (by decide) ?_
      exact w_nret (Pic1 := fun H : Heap => lPic G ids o z tE (if 3 = 0 then (k_pass_s σ months air snow) else σ) H ∧ ∃ v, lOut G ids qo v H ∧ (3 = 0 → (fun v => v = (k_pass σ months air snow).toInt64) v)) (v := nI (2)) hx hb hr hlocks (Nat.le_of_ble_eq_true rfl) (Nat.le_of_ble_eq_true rfl) ⟨by rw [if_neg (by decide)]; exact ⟨d, w, hP1, hWz⟩, f 0, ⟨f, hq, rfl⟩, fun h => absurd h (by decide)⟩ hS dL_pass_22 rfl
  · obtain ⟨hX0, hrv⟩ := hw
    subst hrv
    rw [ht] at hB
    replace hq := hq.kept (hk _ hq.lt (by show ¬ cpG o z qo; unfold cpG; omega))
    clear hcx hkx hk
    subst hX0
    refine lv_i2l (v := (k_pass σ months air snow).toInt64) hx hb dL_pass_10 rfl ?_
    refine x_last (x := (k_pass σ months air snow).toInt64) hx hb hK hq (Or.inr rfl) hS (i := nI 0) (vp_in_nI (by decide) (by decide)) dL_pass_11 (fun H2 locs2 h9 ho hS => ?_)
    have hP2 := CPic.keepx (n1 := qo) hB (fun y hy e => lw_qo hB hy hqo hzq e) (fun q _ hne => ho.2 q hne)
    refine lv_goto (tgt := 23) hx hb dL_pass_12 (by decide) ?_
    refine lv_iconst (v := nI (0)) hx hb dL_pass_23 (by decide) ?_
    exact w_nret (Pic1 := fun H : Heap => lPic G ids o z tE (if 0 = 0 then (k_pass_s σ months air snow) else σ) H ∧ ∃ v, lOut G ids qo v H ∧ (0 = 0 → (fun v => v = (k_pass σ months air snow).toInt64) v)) (v := nI (0)) hx hb hr hlocks (Nat.le_of_ble_eq_true rfl) (Nat.le_of_ble_eq_true rfl) ⟨by rw [if_pos rfl]; exact ⟨d, w, hP2, hWz⟩, (k_pass σ months air snow).toInt64, ⟨_, h9, lw_f0⟩, fun _ => rfl⟩ hS dL_pass_24 rfl
theorem kxK_fire (σ : Sg) (cell : Int32) : xK [1, 3] (kx_fire σ cell) := by
  unfold kx_fire
  repeat' first | exact xK_0 | exact xK_Ix (by decide) | exact xK_Rg (by decide) | exact xK_St (by decide) | refine xK_s ?_ ?_
set_option maxHeartbeats 4000000 in
set_option maxRecDepth 100000 in
theorem lc_fire (l : Launch) (hl0 : l.stackTraces = false) (G : va_G) (ids : Nat → ClassId) (tS tE o z qo : Nat) (hqo : o + 184 ≤ qo) (hzq : z = qo + 1) (σ : Sg) (cell : Int32) : lW l yL_fire wsL_fire ({ frames := 8, cells := 2, slots := 12, locals := 145 } : Room) G ids tS tE [.ref (o), .int (cell), .ref (qo)] o z qo σ [1, 3] (kx_fire σ cell) (fun v => v = (k_fire σ cell).toInt64) (k_fire_s σ cell) 2 12 := by
  unfold lW
  refine lw_ofWH (cc := cL_fire) (maxL := 4) (ret := some .int) (hh := [(0, 9, 12, 13), (0, 9, 15, 25)]) (by decide) rfl ?_
  intro p e s m args below meth c s₁ B hml hv
  obtain ⟨rfl, ⟨⟨d, w, hP, hWz⟩, v0, f, hq, hf0⟩, hK, hZ, hN⟩ := hv
  have hW0 := wOK_z hP hWz
  have hcx := cx_fire l hl0 G ids o z tS tE d w σ cell
  have hkx := xK_2 (kxK_fire σ cell)
  obtain ⟨X, hX⟩ : ∃ X : Nat, X = kx_fire σ cell := ⟨_, rfl⟩
  rw [← hX] at hcx hkx ⊢
  clear hX
  have hx := B.exec
  have hb := B.bytes
  have hr := B.returns
  have hts := atoms_spec (ws := wsL_fire) B.pre
  have hown : s.vm.findClass RL = some m.cls := findClass_of_methodNamed B.named
  have hlocks := B.notSynchronized
  have hT : c.exceptionTable.toList = tableOf [(0, 9, 12, 13), (0, 9, 15, 25)] := vx_table B (hts _ List.mem_cons_self)
  have hS : va_S (lG o z qo) s.heap s.heap [] := va_S.rf
  have hzs : z ≤ s.heap.size := by have q := hq.lt; omega
  have hl := lv_entry ([.ref (o), .int (cell), .ref (qo)]) (n := 4) (Nat.le_of_ble_eq_true rfl)
  rw [lg_entry_eq]
  generalize (lg_sl ([.ref (o), .int (cell), .ref (qo)]) ++ List.replicate (4 - (lg_sl ([.ref (o), .int (cell), .ref (qo)])).length) Slot.unset).toArray = ls at hl ⊢
  have hl : lv_has ls 4 [(0, .ref (o)), (1, .int (cell)), (2, .ref (qo))] := hl
  refine lv_aload_n hx hb dL_fire_0 rfl (lv_at hl 2 rfl) ?_
  refine lv_iconst (v := nI (0)) hx hb dL_fire_1 (by decide) ?_
  refine lv_aload_n hx hb dL_fire_2 rfl (lv_at hl 0 rfl) ?_
  refine lv_iload_n hx hb dL_fire_3 rfl (lv_at hl 1 rfl) ?_
  refine vx_calli (vx_runV (As := [.int (cell)]) (rest := [.int (nI 0), .ref (qo)]) ⟨hx, hb, hml, hown, hts⟩ hcx (cwV 1 hts gL_fire_X5_fire rfl rfl rfl (by decide +kernel) ⟨Nat.le_of_ble_eq_true rfl, Nat.le_of_ble_eq_true rfl⟩) ⟨yPc_blind, va_recv hK (va_P.one hP.main) (ci := 6) (q0 := 0) rfl rfl, fun U hU hW => ⟨rfl, by rw [hU]; exact hP, va_K.moved hW.alike hK, (cST_at hZ hS hU hW.alike).narrow (fun q h => Or.inl h)⟩⟩ rfl rfl hl.1 rfl (lv_room (Nat.le_of_ble_eq_true rfl)) dL_fire_4 ⟨Nat.le_of_ble_eq_true rfl, Nat.le_of_ble_eq_true rfl⟩) hS (fun q _ h => Or.inl h) (fun q h => Or.inl h) (fun q _ h => Or.inl h) (fun E ce q9 u t H1 locs1 ht hvm hpx hbx hz1 hk hS => ?_) (fun r u t H1 locs1 ht hvm hw hB hz1 hk hS => ?_)
  · obtain ⟨rfl, hP1⟩ := hbx
    rw [ht] at hP1
    replace hq := hq.kept (hk _ hq.lt (by show ¬ cpG o z qo; unfold cpG; omega))
    rcases hkx with h | h | h
    · exact absurd h hpx
    · subst h
      refine vx_catch (own := RL) (name := "java/lang/IndexOutOfBoundsException") (E := xE 1) hown (tableOf []) ⟨0, 9, 12, 13⟩ (tableOf [(0, 9, 15, 25)]) hT (fun z9 hz9 => absurd hz9 (List.not_mem_nil)) (by decide) (by decide) (hts _ (List.mem_of_getElem? (i := 1) rfl)) (va_Nw.use (xNW_tab _ (List.mem_of_getElem? (i := 0) rfl)) (hZ.2.2.2.2.1 _ (List.mem_of_getElem? (i := 0) rfl))) hce hcv hcl ?_
      refine lv_astore_n (lv' := [(3, .ref (q9)), (0, .ref (o)), (1, .int (cell)), (2, .ref (qo))]) hx hb dL_fire_12 rfl hl (by decide) rfl (fun ls hl => ?_)
      refine lv_iconst (v := nI (1)) hx hb dL_fire_13 (by decide) ?_
      exact w_nret (Pic1 := fun H : Heap => lPic G ids o z tE (if 1 = 0 then (k_fire_s σ cell) else σ) H ∧ ∃ v, lOut G ids qo v H ∧ (1 = 0 → (fun v => v = (k_fire σ cell).toInt64) v)) (v := nI (1)) hx hb hr hlocks (Nat.le_of_ble_eq_true rfl) (Nat.le_of_ble_eq_true rfl) ⟨by rw [if_neg (by decide)]; exact ⟨d, w, hP1, hWz⟩, f 0, ⟨f, hq, rfl⟩, fun h => absurd h (by decide)⟩ hS dL_fire_14 rfl
    · subst h
      refine vx_catch (own := RL) (name := "java/lang/IllegalStateException") (E := xE 3) hown (tableOf [(0, 9, 12, 13)]) ⟨0, 9, 15, 25⟩ (tableOf []) hT (fun z9 hz9 => by rw [show z9 = ⟨0, 9, 12, 13⟩ from List.mem_singleton.mp hz9]; exact Or.inr ⟨by decide, _, (hts _ (List.mem_of_getElem? (i := 1) rfl)), hN.2.1⟩) (by decide) (by decide) (hts _ (List.mem_of_getElem? (i := 2) rfl)) (va_Nw.use (xNW_tab _ (List.mem_of_getElem? (i := 2) rfl)) (hZ.2.2.2.2.1 _ (List.mem_of_getElem? (i := 2) rfl))) hce hcv hcl ?_
      refine lv_astore_n (lv' := [(3, .ref (q9)), (0, .ref (o)), (1, .int (cell)), (2, .ref (qo))]) hx hb dL_fire_15 rfl hl (by decide) rfl (fun ls hl => ?_)
      refine lv_iconst (v := nI (2)) hx hb dL_fire_16 (by decide) ?_
      exact w_nret (Pic1 := fun H : Heap => lPic G ids o z tE (if 3 = 0 then (k_fire_s σ cell) else σ) H ∧ ∃ v, lOut G ids qo v H ∧ (3 = 0 → (fun v => v = (k_fire σ cell).toInt64) v)) (v := nI (2)) hx hb hr hlocks (Nat.le_of_ble_eq_true rfl) (Nat.le_of_ble_eq_true rfl) ⟨by rw [if_neg (by decide)]; exact ⟨d, w, hP1, hWz⟩, f 0, ⟨f, hq, rfl⟩, fun h => absurd h (by decide)⟩ hS dL_fire_17 rfl
  · obtain ⟨hX0, hrv⟩ := hw
    subst hrv
    rw [ht] at hB
    replace hq := hq.kept (hk _ hq.lt (by show ¬ cpG o z qo; unfold cpG; omega))
    clear hcx hkx hk
    subst hX0
    refine lv_i2l (v := (k_fire σ cell).toInt64) hx hb dL_fire_7 rfl ?_
    refine x_last (x := (k_fire σ cell).toInt64) hx hb hK hq (Or.inr rfl) hS (i := nI 0) (vp_in_nI (by decide) (by decide)) dL_fire_8 (fun H2 locs2 h9 ho hS => ?_)
    have hP2 := CPic.keepx (n1 := qo) hB (fun y hy e => lw_qo hB hy hqo hzq e) (fun q _ hne => ho.2 q hne)
    refine lv_goto (tgt := 18) hx hb dL_fire_9 (by decide) ?_
    refine lv_iconst (v := nI (0)) hx hb dL_fire_18 (by decide) ?_
    exact w_nret (Pic1 := fun H : Heap => lPic G ids o z tE (if 0 = 0 then (k_fire_s σ cell) else σ) H ∧ ∃ v, lOut G ids qo v H ∧ (0 = 0 → (fun v => v = (k_fire σ cell).toInt64) v)) (v := nI (0)) hx hb hr hlocks (Nat.le_of_ble_eq_true rfl) (Nat.le_of_ble_eq_true rfl) ⟨by rw [if_pos rfl]; exact ⟨d, w, hP2, hWz⟩, (k_fire σ cell).toInt64, ⟨_, h9, lw_f0⟩, fun _ => rfl⟩ hS dL_fire_19 rfl
theorem kxK_breach (σ : Sg) (cell : Int32) : xK [1, 3] (kx_breach σ cell) := by
  unfold kx_breach
  repeat' first | exact xK_0 | exact xK_Ix (by decide) | exact xK_Rg (by decide) | exact xK_St (by decide) | refine xK_s ?_ ?_
set_option maxHeartbeats 4000000 in
set_option maxRecDepth 100000 in
theorem lc_breach (l : Launch) (hl0 : l.stackTraces = false) (G : va_G) (ids : Nat → ClassId) (tS tE o z qo : Nat) (hqo : o + 184 ≤ qo) (hzq : z = qo + 1) (σ : Sg) (cell : Int32) : lW l yL_breach wsL_breach ({ frames := 8, cells := 2, slots := 12, locals := 146 } : Room) G ids tS tE [.ref (o), .int (cell), .ref (qo)] o z qo σ [1, 3] (kx_breach σ cell) (fun v => v = (k_breach σ cell).toInt64) (k_breach_s σ cell) 2 12 := by
  unfold lW
  refine lw_ofWH (cc := cL_breach) (maxL := 4) (ret := some .int) (hh := [(0, 9, 12, 13), (0, 9, 15, 25)]) (by decide) rfl ?_
  intro p e s m args below meth c s₁ B hml hv
  obtain ⟨rfl, ⟨⟨d, w, hP, hWz⟩, v0, f, hq, hf0⟩, hK, hZ, hN⟩ := hv
  have hW0 := wOK_z hP hWz
  have hcx := cx_breach l hl0 G ids o z tS tE d w σ cell
  have hkx := xK_2 (kxK_breach σ cell)
  obtain ⟨X, hX⟩ : ∃ X : Nat, X = kx_breach σ cell := ⟨_, rfl⟩
  rw [← hX] at hcx hkx ⊢
  clear hX
  have hx := B.exec
  have hb := B.bytes
  have hr := B.returns
  have hts := atoms_spec (ws := wsL_breach) B.pre
  have hown : s.vm.findClass RL = some m.cls := findClass_of_methodNamed B.named
  have hlocks := B.notSynchronized
  have hT : c.exceptionTable.toList = tableOf [(0, 9, 12, 13), (0, 9, 15, 25)] := vx_table B (hts _ List.mem_cons_self)
  have hS : va_S (lG o z qo) s.heap s.heap [] := va_S.rf
  have hzs : z ≤ s.heap.size := by have q := hq.lt; omega
  have hl := lv_entry ([.ref (o), .int (cell), .ref (qo)]) (n := 4) (Nat.le_of_ble_eq_true rfl)
  rw [lg_entry_eq]
  generalize (lg_sl ([.ref (o), .int (cell), .ref (qo)]) ++ List.replicate (4 - (lg_sl ([.ref (o), .int (cell), .ref (qo)])).length) Slot.unset).toArray = ls at hl ⊢
  have hl : lv_has ls 4 [(0, .ref (o)), (1, .int (cell)), (2, .ref (qo))] := hl
  refine lv_aload_n hx hb dL_breach_0 rfl (lv_at hl 2 rfl) ?_
  refine lv_iconst (v := nI (0)) hx hb dL_breach_1 (by decide) ?_
  refine lv_aload_n hx hb dL_breach_2 rfl (lv_at hl 0 rfl) ?_
  refine lv_iload_n hx hb dL_breach_3 rfl (lv_at hl 1 rfl) ?_
  refine vx_calli (vx_runV (As := [.int (cell)]) (rest := [.int (nI 0), .ref (qo)]) ⟨hx, hb, hml, hown, hts⟩ hcx (cwV 1 hts gL_breach_X5_breach rfl rfl rfl (by decide +kernel) ⟨Nat.le_of_ble_eq_true rfl, Nat.le_of_ble_eq_true rfl⟩) ⟨yPc_blind, va_recv hK (va_P.one hP.main) (ci := 6) (q0 := 0) rfl rfl, fun U hU hW => ⟨rfl, by rw [hU]; exact hP, va_K.moved hW.alike hK, (cST_at hZ hS hU hW.alike).narrow (fun q h => Or.inl h)⟩⟩ rfl rfl hl.1 rfl (lv_room (Nat.le_of_ble_eq_true rfl)) dL_breach_4 ⟨Nat.le_of_ble_eq_true rfl, Nat.le_of_ble_eq_true rfl⟩) hS (fun q _ h => Or.inl h) (fun q h => Or.inl h) (fun q _ h => Or.inl h) (fun E ce q9 u t H1 locs1 ht hvm hpx hbx hz1 hk hS => ?_) (fun r u t H1 locs1 ht hvm hw hB hz1 hk hS => ?_)
  · obtain ⟨rfl, hP1⟩ := hbx
    rw [ht] at hP1
    replace hq := hq.kept (hk _ hq.lt (by show ¬ cpG o z qo; unfold cpG; omega))
    rcases hkx with h | h | h
    · exact absurd h hpx
    · subst h
      refine vx_catch (own := RL) (name := "java/lang/IndexOutOfBoundsException") (E := xE 1) hown (tableOf []) ⟨0, 9, 12, 13⟩ (tableOf [(0, 9, 15, 25)]) hT (fun z9 hz9 => absurd hz9 (List.not_mem_nil)) (by decide) (by decide) (hts _ (List.mem_of_getElem? (i := 1) rfl)) (va_Nw.use (xNW_tab _ (List.mem_of_getElem? (i := 0) rfl)) (hZ.2.2.2.2.1 _ (List.mem_of_getElem? (i := 0) rfl))) hce hcv hcl ?_
      refine lv_astore_n (lv' := [(3, .ref (q9)), (0, .ref (o)), (1, .int (cell)), (2, .ref (qo))]) hx hb dL_breach_12 rfl hl (by decide) rfl (fun ls hl => ?_)
      refine lv_iconst (v := nI (1)) hx hb dL_breach_13 (by decide) ?_
      exact w_nret (Pic1 := fun H : Heap => lPic G ids o z tE (if 1 = 0 then (k_breach_s σ cell) else σ) H ∧ ∃ v, lOut G ids qo v H ∧ (1 = 0 → (fun v => v = (k_breach σ cell).toInt64) v)) (v := nI (1)) hx hb hr hlocks (Nat.le_of_ble_eq_true rfl) (Nat.le_of_ble_eq_true rfl) ⟨by rw [if_neg (by decide)]; exact ⟨d, w, hP1, hWz⟩, f 0, ⟨f, hq, rfl⟩, fun h => absurd h (by decide)⟩ hS dL_breach_14 rfl
    · subst h
      refine vx_catch (own := RL) (name := "java/lang/IllegalStateException") (E := xE 3) hown (tableOf [(0, 9, 12, 13)]) ⟨0, 9, 15, 25⟩ (tableOf []) hT (fun z9 hz9 => by rw [show z9 = ⟨0, 9, 12, 13⟩ from List.mem_singleton.mp hz9]; exact Or.inr ⟨by decide, _, (hts _ (List.mem_of_getElem? (i := 1) rfl)), hN.2.1⟩) (by decide) (by decide) (hts _ (List.mem_of_getElem? (i := 2) rfl)) (va_Nw.use (xNW_tab _ (List.mem_of_getElem? (i := 2) rfl)) (hZ.2.2.2.2.1 _ (List.mem_of_getElem? (i := 2) rfl))) hce hcv hcl ?_
      refine lv_astore_n (lv' := [(3, .ref (q9)), (0, .ref (o)), (1, .int (cell)), (2, .ref (qo))]) hx hb dL_breach_15 rfl hl (by decide) rfl (fun ls hl => ?_)
      refine lv_iconst (v := nI (2)) hx hb dL_breach_16 (by decide) ?_
      exact w_nret (Pic1 := fun H : Heap => lPic G ids o z tE (if 3 = 0 then (k_breach_s σ cell) else σ) H ∧ ∃ v, lOut G ids qo v H ∧ (3 = 0 → (fun v => v = (k_breach σ cell).toInt64) v)) (v := nI (2)) hx hb hr hlocks (Nat.le_of_ble_eq_true rfl) (Nat.le_of_ble_eq_true rfl) ⟨by rw [if_neg (by decide)]; exact ⟨d, w, hP1, hWz⟩, f 0, ⟨f, hq, rfl⟩, fun h => absurd h (by decide)⟩ hS dL_breach_17 rfl
  · obtain ⟨hX0, hrv⟩ := hw
    subst hrv
    rw [ht] at hB
    replace hq := hq.kept (hk _ hq.lt (by show ¬ cpG o z qo; unfold cpG; omega))
    clear hcx hkx hk
    subst hX0
    refine lv_i2l (v := (k_breach σ cell).toInt64) hx hb dL_breach_7 rfl ?_
    refine x_last (x := (k_breach σ cell).toInt64) hx hb hK hq (Or.inr rfl) hS (i := nI 0) (vp_in_nI (by decide) (by decide)) dL_breach_8 (fun H2 locs2 h9 ho hS => ?_)
    have hP2 := CPic.keepx (n1 := qo) hB (fun y hy e => lw_qo hB hy hqo hzq e) (fun q _ hne => ho.2 q hne)
    refine lv_goto (tgt := 18) hx hb dL_breach_9 (by decide) ?_
    refine lv_iconst (v := nI (0)) hx hb dL_breach_18 (by decide) ?_
    exact w_nret (Pic1 := fun H : Heap => lPic G ids o z tE (if 0 = 0 then (k_breach_s σ cell) else σ) H ∧ ∃ v, lOut G ids qo v H ∧ (0 = 0 → (fun v => v = (k_breach σ cell).toInt64) v)) (v := nI (0)) hx hb hr hlocks (Nat.le_of_ble_eq_true rfl) (Nat.le_of_ble_eq_true rfl) ⟨by rw [if_pos rfl]; exact ⟨d, w, hP2, hWz⟩, (k_breach σ cell).toInt64, ⟨_, h9, lw_f0⟩, fun _ => rfl⟩ hS dL_breach_19 rfl
theorem kxK_house (σ : Sg) (cell : Int32) (pile : Int32) (ic : Int32) : xK [1, 3] (kx_house σ cell pile ic) := by
  unfold kx_house
  repeat' first | exact xK_0 | exact xK_Ix (by decide) | exact xK_Rg (by decide) | exact xK_St (by decide) | refine xK_s ?_ ?_
set_option maxHeartbeats 4000000 in
set_option maxRecDepth 100000 in
theorem lc_house (l : Launch) (hl0 : l.stackTraces = false) (G : va_G) (ids : Nat → ClassId) (tS tE o z qo : Nat) (hqo : o + 184 ≤ qo) (hzq : z = qo + 1) (σ : Sg) (cell : Int32) (pile : Int32) (ic : Int32) (hO : cOK σ) (hC : cCl σ) (hz : ic = 0 ∨ ic = 1) : lW l yL_house wsL_house ({ frames := 9, cells := 5, slots := 83, locals := 185 } : Room) G ids tS tE [.ref (o), .int (cell), .int (pile), .int (ic), .ref (qo)] o z qo σ [1, 3] (kx_house σ cell pile ic) (fun v => v = (k_house σ cell pile ic).toInt64) (k_house_s σ cell pile ic) 5 83 := by
  unfold lW
  refine lw_ofWH (cc := cL_house) (maxL := 6) (ret := some .int) (hh := [(0, 12, 15, 13), (0, 12, 19, 25)]) (by decide) rfl ?_
  intro p e s m args below meth c s₁ B hml hv
  obtain ⟨rfl, ⟨⟨d, w, hP, hWz⟩, v0, f, hq, hf0⟩, hK, hZ, hN⟩ := hv
  have hW0 := wOK_z hP hWz
  have hcx := cx_house l hl0 G ids o z tS tE d w σ cell pile ic hO hC hW0 hz
  have hkx := xK_2 (kxK_house σ cell pile ic)
  obtain ⟨X, hX⟩ : ∃ X : Nat, X = kx_house σ cell pile ic := ⟨_, rfl⟩
  rw [← hX] at hcx hkx ⊢
  clear hX
  have hx := B.exec
  have hb := B.bytes
  have hr := B.returns
  have hts := atoms_spec (ws := wsL_house) B.pre
  have hown : s.vm.findClass RL = some m.cls := findClass_of_methodNamed B.named
  have hlocks := B.notSynchronized
  have hT : c.exceptionTable.toList = tableOf [(0, 12, 15, 13), (0, 12, 19, 25)] := vx_table B (hts _ List.mem_cons_self)
  have hS : va_S (lG o z qo) s.heap s.heap [] := va_S.rf
  have hzs : z ≤ s.heap.size := by have q := hq.lt; omega
  have hl := lv_entry ([.ref (o), .int (cell), .int (pile), .int (ic), .ref (qo)]) (n := 6) (Nat.le_of_ble_eq_true rfl)
  rw [lg_entry_eq]
  generalize (lg_sl ([.ref (o), .int (cell), .int (pile), .int (ic), .ref (qo)]) ++ List.replicate (6 - (lg_sl ([.ref (o), .int (cell), .int (pile), .int (ic), .ref (qo)])).length) Slot.unset).toArray = ls at hl ⊢
  have hl : lv_has ls 6 [(0, .ref (o)), (1, .int (cell)), (2, .int (pile)), (3, .int (ic)), (4, .ref (qo))] := hl
  refine lv_aload hx hb dL_house_0 (lv_at hl 4 rfl) ?_
  refine lv_iconst (v := nI (0)) hx hb dL_house_2 (by decide) ?_
  refine lv_aload_n hx hb dL_house_3 rfl (lv_at hl 0 rfl) ?_
  refine lv_iload_n hx hb dL_house_4 rfl (lv_at hl 1 rfl) ?_
  refine lv_iload_n hx hb dL_house_5 rfl (lv_at hl 2 rfl) ?_
  refine lv_iload_n hx hb dL_house_6 rfl (lv_at hl 3 rfl) ?_
  refine vx_calli (vx_runV (As := [.int (cell), .int (pile), .int (ic)]) (rest := [.int (nI 0), .ref (qo)]) ⟨hx, hb, hml, hown, hts⟩ hcx (cwV 3 hts gL_house_X5_house rfl rfl rfl (by decide +kernel) ⟨Nat.le_of_ble_eq_true rfl, Nat.le_of_ble_eq_true rfl⟩) ⟨yPc_blind, va_recv hK (va_P.one hP.main) (ci := 6) (q0 := 0) rfl rfl, fun U hU hW => ⟨rfl, by rw [hU]; exact ⟨hP, hzs⟩, va_K.moved hW.alike hK, (cST_at hZ hS hU hW.alike).narrow (fun q h => Or.inl h)⟩⟩ rfl rfl hl.1 rfl (lv_room (Nat.le_of_ble_eq_true rfl)) dL_house_7 ⟨Nat.le_of_ble_eq_true rfl, Nat.le_of_ble_eq_true rfl⟩) hS (fun q _ h => Or.inl h) (fun q h => Or.inl h) (fun q _ h => Or.inl h) (fun E ce q9 u t H1 locs1 ht hvm hpx hbx hz1 hk hS => ?_) (fun r u t H1 locs1 ht hvm hw hB hz1 hk hS => ?_)
  · obtain ⟨rfl, hP1⟩ := hbx
    rw [ht] at hP1
    replace hq := hq.kept (hk _ hq.lt (by show ¬ cpG o z qo; unfold cpG; omega))
    rcases hkx with h | h | h
    · exact absurd h hpx
    · subst h
      refine vx_catch (own := RL) (name := "java/lang/IndexOutOfBoundsException") (E := xE 1) hown (tableOf []) ⟨0, 12, 15, 13⟩ (tableOf [(0, 12, 19, 25)]) hT (fun z9 hz9 => absurd hz9 (List.not_mem_nil)) (by decide) (by decide) (hts _ (List.mem_of_getElem? (i := 1) rfl)) (va_Nw.use (xNW_tab _ (List.mem_of_getElem? (i := 0) rfl)) (hZ.2.2.2.2.1 _ (List.mem_of_getElem? (i := 0) rfl))) hce hcv hcl ?_
      refine lv_astore (lv' := [(5, .ref (q9)), (0, .ref (o)), (1, .int (cell)), (2, .int (pile)), (3, .int (ic)), (4, .ref (qo))]) hx hb dL_house_15 hl (by decide) rfl (fun ls hl => ?_)
      refine lv_iconst (v := nI (1)) hx hb dL_house_17 (by decide) ?_
      exact w_nret (Pic1 := fun H : Heap => lPic G ids o z tE (if 1 = 0 then (k_house_s σ cell pile ic) else σ) H ∧ ∃ v, lOut G ids qo v H ∧ (1 = 0 → (fun v => v = (k_house σ cell pile ic).toInt64) v)) (v := nI (1)) hx hb hr hlocks (Nat.le_of_ble_eq_true rfl) (Nat.le_of_ble_eq_true rfl) ⟨by rw [if_neg (by decide)]; exact ⟨d, w, hP1, hWz⟩, f 0, ⟨f, hq, rfl⟩, fun h => absurd h (by decide)⟩ hS dL_house_18 rfl
    · subst h
      refine vx_catch (own := RL) (name := "java/lang/IllegalStateException") (E := xE 3) hown (tableOf [(0, 12, 15, 13)]) ⟨0, 12, 19, 25⟩ (tableOf []) hT (fun z9 hz9 => by rw [show z9 = ⟨0, 12, 15, 13⟩ from List.mem_singleton.mp hz9]; exact Or.inr ⟨by decide, _, (hts _ (List.mem_of_getElem? (i := 1) rfl)), hN.2.1⟩) (by decide) (by decide) (hts _ (List.mem_of_getElem? (i := 2) rfl)) (va_Nw.use (xNW_tab _ (List.mem_of_getElem? (i := 2) rfl)) (hZ.2.2.2.2.1 _ (List.mem_of_getElem? (i := 2) rfl))) hce hcv hcl ?_
      refine lv_astore (lv' := [(5, .ref (q9)), (0, .ref (o)), (1, .int (cell)), (2, .int (pile)), (3, .int (ic)), (4, .ref (qo))]) hx hb dL_house_19 hl (by decide) rfl (fun ls hl => ?_)
      refine lv_iconst (v := nI (2)) hx hb dL_house_21 (by decide) ?_
      exact w_nret (Pic1 := fun H : Heap => lPic G ids o z tE (if 3 = 0 then (k_house_s σ cell pile ic) else σ) H ∧ ∃ v, lOut G ids qo v H ∧ (3 = 0 → (fun v => v = (k_house σ cell pile ic).toInt64) v)) (v := nI (2)) hx hb hr hlocks (Nat.le_of_ble_eq_true rfl) (Nat.le_of_ble_eq_true rfl) ⟨by rw [if_neg (by decide)]; exact ⟨d, w, hP1, hWz⟩, f 0, ⟨f, hq, rfl⟩, fun h => absurd h (by decide)⟩ hS dL_house_22 rfl
  · obtain ⟨hX0, hrv, hW1⟩ := hw
    subst hrv
    rw [ht] at hB
    replace hq := hq.kept (hk _ hq.lt (by show ¬ cpG o z qo; unfold cpG; omega))
    clear hcx hkx hk
    subst hX0
    refine lv_i2l (v := (k_house σ cell pile ic).toInt64) hx hb dL_house_10 rfl ?_
    refine x_last (x := (k_house σ cell pile ic).toInt64) hx hb hK hq (Or.inr rfl) hS (i := nI 0) (vp_in_nI (by decide) (by decide)) dL_house_11 (fun H2 locs2 h9 ho hS => ?_)
    have hP2 := CPic.keepx (n1 := qo) hB (fun y hy e => lw_qo hB hy hqo hzq e) (fun q _ hne => ho.2 q hne)
    refine lv_goto (tgt := 23) hx hb dL_house_12 (by decide) ?_
    refine lv_iconst (v := nI (0)) hx hb dL_house_23 (by decide) ?_
    exact w_nret (Pic1 := fun H : Heap => lPic G ids o z tE (if 0 = 0 then (k_house_s σ cell pile ic) else σ) H ∧ ∃ v, lOut G ids qo v H ∧ (0 = 0 → (fun v => v = (k_house σ cell pile ic).toInt64) v)) (v := nI (0)) hx hb hr hlocks (Nat.le_of_ble_eq_true rfl) (Nat.le_of_ble_eq_true rfl) ⟨by rw [if_pos rfl]; exact lPic_of hP2 hW1, (k_house σ cell pile ic).toInt64, ⟨_, h9, lw_f0⟩, fun _ => rfl⟩ hS dL_house_24 rfl
theorem kxK_borehole (σ : Sg) (cell : Int32) (dr : Int32) : xK [1, 2, 3] (kx_borehole σ cell dr) := by
  unfold kx_borehole
  repeat' first | exact xK_0 | exact xK_Ix (by decide) | exact xK_Rg (by decide) | exact xK_St (by decide) | refine xK_s ?_ ?_
set_option maxHeartbeats 4000000 in
set_option maxRecDepth 100000 in
theorem lc_borehole (l : Launch) (hl0 : l.stackTraces = false) (G : va_G) (ids : Nat → ClassId) (tS tE o z qo : Nat) (hqo : o + 184 ≤ qo) (hzq : z = qo + 1) (σ : Sg) (cell : Int32) (dr : Int32) (hO : cOK σ) : lW l yL_borehole wsL_borehole ({ frames := 9, cells := 6, slots := 3083, locals := 183 } : Room) G ids tS tE [.ref (o), .int (cell), .int (dr), .ref (qo)] o z qo σ [1, 2, 3] (kx_borehole σ cell dr) (fun v => v = (k_borehole σ cell dr).toInt64) (k_borehole_s σ cell dr) 6 3083 := by
  unfold lW
  refine lw_ofWH (cc := cL_borehole) (maxL := 5) (ret := some .int) (hh := [(0, 10, 13, 13), (0, 10, 17, 15), (0, 10, 21, 25)]) (by decide) rfl ?_
  intro p e s m args below meth c s₁ B hml hv
  obtain ⟨rfl, ⟨⟨d, w, hP, hWz⟩, v0, f, hq, hf0⟩, hK, hZ, hN⟩ := hv
  have hW0 := wOK_z hP hWz
  have hcx := cx_borehole l hl0 G ids o z tS tE d w σ cell dr hO hW0
  have hkx := xK_3 (kxK_borehole σ cell dr)
  obtain ⟨X, hX⟩ : ∃ X : Nat, X = kx_borehole σ cell dr := ⟨_, rfl⟩
  rw [← hX] at hcx hkx ⊢
  clear hX
  have hx := B.exec
  have hb := B.bytes
  have hr := B.returns
  have hts := atoms_spec (ws := wsL_borehole) B.pre
  have hown : s.vm.findClass RL = some m.cls := findClass_of_methodNamed B.named
  have hlocks := B.notSynchronized
  have hT : c.exceptionTable.toList = tableOf [(0, 10, 13, 13), (0, 10, 17, 15), (0, 10, 21, 25)] := vx_table B (hts _ List.mem_cons_self)
  have hS : va_S (lG o z qo) s.heap s.heap [] := va_S.rf
  have hzs : z ≤ s.heap.size := by have q := hq.lt; omega
  have hl := lv_entry ([.ref (o), .int (cell), .int (dr), .ref (qo)]) (n := 5) (Nat.le_of_ble_eq_true rfl)
  rw [lg_entry_eq]
  generalize (lg_sl ([.ref (o), .int (cell), .int (dr), .ref (qo)]) ++ List.replicate (5 - (lg_sl ([.ref (o), .int (cell), .int (dr), .ref (qo)])).length) Slot.unset).toArray = ls at hl ⊢
  have hl : lv_has ls 5 [(0, .ref (o)), (1, .int (cell)), (2, .int (dr)), (3, .ref (qo))] := hl
  refine lv_aload_n hx hb dL_borehole_0 rfl (lv_at hl 3 rfl) ?_
  refine lv_iconst (v := nI (0)) hx hb dL_borehole_1 (by decide) ?_
  refine lv_aload_n hx hb dL_borehole_2 rfl (lv_at hl 0 rfl) ?_
  refine lv_iload_n hx hb dL_borehole_3 rfl (lv_at hl 1 rfl) ?_
  refine lv_iload_n hx hb dL_borehole_4 rfl (lv_at hl 2 rfl) ?_
  refine vx_calli (vx_runV (As := [.int (cell), .int (dr)]) (rest := [.int (nI 0), .ref (qo)]) ⟨hx, hb, hml, hown, hts⟩ hcx (cwV 2 hts gL_borehole_X5_borehole rfl rfl rfl (by decide +kernel) ⟨Nat.le_of_ble_eq_true rfl, Nat.le_of_ble_eq_true rfl⟩) ⟨yPc_blind, va_recv hK (va_P.one hP.main) (ci := 6) (q0 := 0) rfl rfl, fun U hU hW => ⟨rfl, by rw [hU]; exact ⟨hP, hzs⟩, va_K.moved hW.alike hK, (cST_at hZ hS hU hW.alike).narrow (fun q h => Or.inl h)⟩⟩ rfl rfl hl.1 rfl (lv_room (Nat.le_of_ble_eq_true rfl)) dL_borehole_5 ⟨Nat.le_of_ble_eq_true rfl, Nat.le_of_ble_eq_true rfl⟩) hS (fun q _ h => Or.inl h) (fun q h => Or.inl h) (fun q _ h => Or.inl h) (fun E ce q9 u t H1 locs1 ht hvm hpx hbx hz1 hk hS => ?_) (fun r u t H1 locs1 ht hvm hw hB hz1 hk hS => ?_)
  · obtain ⟨rfl, hP1⟩ := hbx
    rw [ht] at hP1
    replace hq := hq.kept (hk _ hq.lt (by show ¬ cpG o z qo; unfold cpG; omega))
    rcases hkx with h | h | h | h
    · exact absurd h hpx
    · subst h
      refine vx_catch (own := RL) (name := "java/lang/IndexOutOfBoundsException") (E := xE 1) hown (tableOf []) ⟨0, 10, 13, 13⟩ (tableOf [(0, 10, 17, 15), (0, 10, 21, 25)]) hT (fun z9 hz9 => absurd hz9 (List.not_mem_nil)) (by decide) (by decide) (hts _ (List.mem_of_getElem? (i := 1) rfl)) (va_Nw.use (xNW_tab _ (List.mem_of_getElem? (i := 0) rfl)) (hZ.2.2.2.2.1 _ (List.mem_of_getElem? (i := 0) rfl))) hce hcv hcl ?_
      refine lv_astore (lv' := [(4, .ref (q9)), (0, .ref (o)), (1, .int (cell)), (2, .int (dr)), (3, .ref (qo))]) hx hb dL_borehole_13 hl (by decide) rfl (fun ls hl => ?_)
      refine lv_iconst (v := nI (1)) hx hb dL_borehole_15 (by decide) ?_
      exact w_nret (Pic1 := fun H : Heap => lPic G ids o z tE (if 1 = 0 then (k_borehole_s σ cell dr) else σ) H ∧ ∃ v, lOut G ids qo v H ∧ (1 = 0 → (fun v => v = (k_borehole σ cell dr).toInt64) v)) (v := nI (1)) hx hb hr hlocks (Nat.le_of_ble_eq_true rfl) (Nat.le_of_ble_eq_true rfl) ⟨by rw [if_neg (by decide)]; exact ⟨d, w, hP1, hWz⟩, f 0, ⟨f, hq, rfl⟩, fun h => absurd h (by decide)⟩ hS dL_borehole_16 rfl
    · subst h
      refine vx_catch (own := RL) (name := "java/lang/IllegalArgumentException") (E := xE 2) hown (tableOf [(0, 10, 13, 13)]) ⟨0, 10, 17, 15⟩ (tableOf [(0, 10, 21, 25)]) hT (fun z9 hz9 => by rw [show z9 = ⟨0, 10, 13, 13⟩ from List.mem_singleton.mp hz9]; exact Or.inr ⟨by decide, _, (hts _ (List.mem_of_getElem? (i := 1) rfl)), hN.1⟩) (by decide) (by decide) (hts _ (List.mem_of_getElem? (i := 2) rfl)) (va_Nw.use (xNW_tab _ (List.mem_of_getElem? (i := 1) rfl)) (hZ.2.2.2.2.1 _ (List.mem_of_getElem? (i := 1) rfl))) hce hcv hcl ?_
      refine lv_astore (lv' := [(4, .ref (q9)), (0, .ref (o)), (1, .int (cell)), (2, .int (dr)), (3, .ref (qo))]) hx hb dL_borehole_17 hl (by decide) rfl (fun ls hl => ?_)
      refine lv_iconst (v := nI (2)) hx hb dL_borehole_19 (by decide) ?_
      exact w_nret (Pic1 := fun H : Heap => lPic G ids o z tE (if 2 = 0 then (k_borehole_s σ cell dr) else σ) H ∧ ∃ v, lOut G ids qo v H ∧ (2 = 0 → (fun v => v = (k_borehole σ cell dr).toInt64) v)) (v := nI (2)) hx hb hr hlocks (Nat.le_of_ble_eq_true rfl) (Nat.le_of_ble_eq_true rfl) ⟨by rw [if_neg (by decide)]; exact ⟨d, w, hP1, hWz⟩, f 0, ⟨f, hq, rfl⟩, fun h => absurd h (by decide)⟩ hS dL_borehole_20 rfl
    · subst h
      refine vx_catch (own := RL) (name := "java/lang/IllegalStateException") (E := xE 3) hown (tableOf [(0, 10, 13, 13), (0, 10, 17, 15)]) ⟨0, 10, 21, 25⟩ (tableOf []) hT (fun z9 hz9 => Or.elim (List.mem_cons.mp hz9) (fun e9 => by rw [show z9 = ⟨0, 10, 13, 13⟩ from e9]; exact Or.inr ⟨by decide, _, (hts _ (List.mem_of_getElem? (i := 1) rfl)), hN.2.1⟩) (fun e8 => by rw [show z9 = ⟨0, 10, 17, 15⟩ from (List.mem_singleton.mp e8)]; exact Or.inr ⟨by decide, _, (hts _ (List.mem_of_getElem? (i := 2) rfl)), hN.2.2⟩)) (by decide) (by decide) (hts _ (List.mem_of_getElem? (i := 3) rfl)) (va_Nw.use (xNW_tab _ (List.mem_of_getElem? (i := 2) rfl)) (hZ.2.2.2.2.1 _ (List.mem_of_getElem? (i := 2) rfl))) hce hcv hcl ?_
      refine lv_astore (lv' := [(4, .ref (q9)), (0, .ref (o)), (1, .int (cell)), (2, .int (dr)), (3, .ref (qo))]) hx hb dL_borehole_21 hl (by decide) rfl (fun ls hl => ?_)
      refine lv_iconst (v := nI (3)) hx hb dL_borehole_23 (by decide) ?_
      exact w_nret (Pic1 := fun H : Heap => lPic G ids o z tE (if 3 = 0 then (k_borehole_s σ cell dr) else σ) H ∧ ∃ v, lOut G ids qo v H ∧ (3 = 0 → (fun v => v = (k_borehole σ cell dr).toInt64) v)) (v := nI (3)) hx hb hr hlocks (Nat.le_of_ble_eq_true rfl) (Nat.le_of_ble_eq_true rfl) ⟨by rw [if_neg (by decide)]; exact ⟨d, w, hP1, hWz⟩, f 0, ⟨f, hq, rfl⟩, fun h => absurd h (by decide)⟩ hS dL_borehole_24 rfl
  · obtain ⟨hX0, hrv, hW1⟩ := hw
    subst hrv
    rw [ht] at hB
    replace hq := hq.kept (hk _ hq.lt (by show ¬ cpG o z qo; unfold cpG; omega))
    clear hcx hkx hk
    subst hX0
    refine lv_i2l (v := (k_borehole σ cell dr).toInt64) hx hb dL_borehole_8 rfl ?_
    refine x_last (x := (k_borehole σ cell dr).toInt64) hx hb hK hq (Or.inr rfl) hS (i := nI 0) (vp_in_nI (by decide) (by decide)) dL_borehole_9 (fun H2 locs2 h9 ho hS => ?_)
    have hP2 := CPic.keepx (n1 := qo) hB (fun y hy e => lw_qo hB hy hqo hzq e) (fun q _ hne => ho.2 q hne)
    refine lv_goto (tgt := 25) hx hb dL_borehole_10 (by decide) ?_
    refine lv_iconst (v := nI (0)) hx hb dL_borehole_25 (by decide) ?_
    exact w_nret (Pic1 := fun H : Heap => lPic G ids o z tE (if 0 = 0 then (k_borehole_s σ cell dr) else σ) H ∧ ∃ v, lOut G ids qo v H ∧ (0 = 0 → (fun v => v = (k_borehole σ cell dr).toInt64) v)) (v := nI (0)) hx hb hr hlocks (Nat.le_of_ble_eq_true rfl) (Nat.le_of_ble_eq_true rfl) ⟨by rw [if_pos rfl]; exact lPic_of hP2 hW1, (k_borehole σ cell dr).toInt64, ⟨_, h9, lw_f0⟩, fun _ => rfl⟩ hS dL_borehole_26 rfl
theorem kxK_claim (σ : Sg) (house : Int32) : xK [1, 3] (kx_claim σ house) := by
  unfold kx_claim
  repeat' first | exact xK_0 | exact xK_Ix (by decide) | exact xK_Rg (by decide) | exact xK_St (by decide) | refine xK_s ?_ ?_
set_option maxHeartbeats 4000000 in
set_option maxRecDepth 100000 in
theorem lc_claim (l : Launch) (hl0 : l.stackTraces = false) (G : va_G) (ids : Nat → ClassId) (tS tE o z qo : Nat) (hqo : o + 184 ≤ qo) (hzq : z = qo + 1) (σ : Sg) (house : Int32) (hO : cOK σ) : lW l yL_claim wsL_claim ({ frames := 9, cells := 4, slots := 76, locals := 183 } : Room) G ids tS tE [.ref (o), .int (house), .ref (qo)] o z qo σ [1, 3] (kx_claim σ house) (fun v => v = (k_claim σ house).toInt64) (k_claim_s σ house) 4 76 := by
  unfold lW
  refine lw_ofWH (cc := cL_claim) (maxL := 4) (ret := some .int) (hh := [(0, 9, 12, 13), (0, 9, 15, 25)]) (by decide) rfl ?_
  intro p e s m args below meth c s₁ B hml hv
  obtain ⟨rfl, ⟨⟨d, w, hP, hWz⟩, v0, f, hq, hf0⟩, hK, hZ, hN⟩ := hv
  have hW0 := wOK_z hP hWz
  have hcx := cx_claim l hl0 G ids o z tS tE d w σ house hO hW0
  have hkx := xK_2 (kxK_claim σ house)
  obtain ⟨X, hX⟩ : ∃ X : Nat, X = kx_claim σ house := ⟨_, rfl⟩
  rw [← hX] at hcx hkx ⊢
  clear hX
  have hx := B.exec
  have hb := B.bytes
  have hr := B.returns
  have hts := atoms_spec (ws := wsL_claim) B.pre
  have hown : s.vm.findClass RL = some m.cls := findClass_of_methodNamed B.named
  have hlocks := B.notSynchronized
  have hT : c.exceptionTable.toList = tableOf [(0, 9, 12, 13), (0, 9, 15, 25)] := vx_table B (hts _ List.mem_cons_self)
  have hS : va_S (lG o z qo) s.heap s.heap [] := va_S.rf
  have hzs : z ≤ s.heap.size := by have q := hq.lt; omega
  have hl := lv_entry ([.ref (o), .int (house), .ref (qo)]) (n := 4) (Nat.le_of_ble_eq_true rfl)
  rw [lg_entry_eq]
  generalize (lg_sl ([.ref (o), .int (house), .ref (qo)]) ++ List.replicate (4 - (lg_sl ([.ref (o), .int (house), .ref (qo)])).length) Slot.unset).toArray = ls at hl ⊢
  have hl : lv_has ls 4 [(0, .ref (o)), (1, .int (house)), (2, .ref (qo))] := hl
  refine lv_aload_n hx hb dL_claim_0 rfl (lv_at hl 2 rfl) ?_
  refine lv_iconst (v := nI (0)) hx hb dL_claim_1 (by decide) ?_
  refine lv_aload_n hx hb dL_claim_2 rfl (lv_at hl 0 rfl) ?_
  refine lv_iload_n hx hb dL_claim_3 rfl (lv_at hl 1 rfl) ?_
  refine vx_calli (vx_runV (As := [.int (house)]) (rest := [.int (nI 0), .ref (qo)]) ⟨hx, hb, hml, hown, hts⟩ hcx (cwV 1 hts gL_claim_X5_claim rfl rfl rfl (by decide +kernel) ⟨Nat.le_of_ble_eq_true rfl, Nat.le_of_ble_eq_true rfl⟩) ⟨yPc_blind, va_recv hK (va_P.one hP.main) (ci := 6) (q0 := 0) rfl rfl, fun U hU hW => ⟨rfl, by rw [hU]; exact ⟨hP, hzs⟩, va_K.moved hW.alike hK, (cST_at hZ hS hU hW.alike).narrow (fun q h => Or.inl h)⟩⟩ rfl rfl hl.1 rfl (lv_room (Nat.le_of_ble_eq_true rfl)) dL_claim_4 ⟨Nat.le_of_ble_eq_true rfl, Nat.le_of_ble_eq_true rfl⟩) hS (fun q _ h => Or.inl h) (fun q h => Or.inl h) (fun q _ h => Or.inl h) (fun E ce q9 u t H1 locs1 ht hvm hpx hbx hz1 hk hS => ?_) (fun r u t H1 locs1 ht hvm hw hB hz1 hk hS => ?_)
  · obtain ⟨rfl, hP1⟩ := hbx
    rw [ht] at hP1
    replace hq := hq.kept (hk _ hq.lt (by show ¬ cpG o z qo; unfold cpG; omega))
    rcases hkx with h | h | h
    · exact absurd h hpx
    · subst h
      refine vx_catch (own := RL) (name := "java/lang/IndexOutOfBoundsException") (E := xE 1) hown (tableOf []) ⟨0, 9, 12, 13⟩ (tableOf [(0, 9, 15, 25)]) hT (fun z9 hz9 => absurd hz9 (List.not_mem_nil)) (by decide) (by decide) (hts _ (List.mem_of_getElem? (i := 1) rfl)) (va_Nw.use (xNW_tab _ (List.mem_of_getElem? (i := 0) rfl)) (hZ.2.2.2.2.1 _ (List.mem_of_getElem? (i := 0) rfl))) hce hcv hcl ?_
      refine lv_astore_n (lv' := [(3, .ref (q9)), (0, .ref (o)), (1, .int (house)), (2, .ref (qo))]) hx hb dL_claim_12 rfl hl (by decide) rfl (fun ls hl => ?_)
      refine lv_iconst (v := nI (1)) hx hb dL_claim_13 (by decide) ?_
      exact w_nret (Pic1 := fun H : Heap => lPic G ids o z tE (if 1 = 0 then (k_claim_s σ house) else σ) H ∧ ∃ v, lOut G ids qo v H ∧ (1 = 0 → (fun v => v = (k_claim σ house).toInt64) v)) (v := nI (1)) hx hb hr hlocks (Nat.le_of_ble_eq_true rfl) (Nat.le_of_ble_eq_true rfl) ⟨by rw [if_neg (by decide)]; exact ⟨d, w, hP1, hWz⟩, f 0, ⟨f, hq, rfl⟩, fun h => absurd h (by decide)⟩ hS dL_claim_14 rfl
    · subst h
      refine vx_catch (own := RL) (name := "java/lang/IllegalStateException") (E := xE 3) hown (tableOf [(0, 9, 12, 13)]) ⟨0, 9, 15, 25⟩ (tableOf []) hT (fun z9 hz9 => by rw [show z9 = ⟨0, 9, 12, 13⟩ from List.mem_singleton.mp hz9]; exact Or.inr ⟨by decide, _, (hts _ (List.mem_of_getElem? (i := 1) rfl)), hN.2.1⟩) (by decide) (by decide) (hts _ (List.mem_of_getElem? (i := 2) rfl)) (va_Nw.use (xNW_tab _ (List.mem_of_getElem? (i := 2) rfl)) (hZ.2.2.2.2.1 _ (List.mem_of_getElem? (i := 2) rfl))) hce hcv hcl ?_
      refine lv_astore_n (lv' := [(3, .ref (q9)), (0, .ref (o)), (1, .int (house)), (2, .ref (qo))]) hx hb dL_claim_15 rfl hl (by decide) rfl (fun ls hl => ?_)
      refine lv_iconst (v := nI (2)) hx hb dL_claim_16 (by decide) ?_
      exact w_nret (Pic1 := fun H : Heap => lPic G ids o z tE (if 3 = 0 then (k_claim_s σ house) else σ) H ∧ ∃ v, lOut G ids qo v H ∧ (3 = 0 → (fun v => v = (k_claim σ house).toInt64) v)) (v := nI (2)) hx hb hr hlocks (Nat.le_of_ble_eq_true rfl) (Nat.le_of_ble_eq_true rfl) ⟨by rw [if_neg (by decide)]; exact ⟨d, w, hP1, hWz⟩, f 0, ⟨f, hq, rfl⟩, fun h => absurd h (by decide)⟩ hS dL_claim_17 rfl
  · obtain ⟨hX0, hrv, hW1⟩ := hw
    subst hrv
    rw [ht] at hB
    replace hq := hq.kept (hk _ hq.lt (by show ¬ cpG o z qo; unfold cpG; omega))
    clear hcx hkx hk
    subst hX0
    refine lv_i2l (v := (k_claim σ house).toInt64) hx hb dL_claim_7 rfl ?_
    refine x_last (x := (k_claim σ house).toInt64) hx hb hK hq (Or.inr rfl) hS (i := nI 0) (vp_in_nI (by decide) (by decide)) dL_claim_8 (fun H2 locs2 h9 ho hS => ?_)
    have hP2 := CPic.keepx (n1 := qo) hB (fun y hy e => lw_qo hB hy hqo hzq e) (fun q _ hne => ho.2 q hne)
    refine lv_goto (tgt := 18) hx hb dL_claim_9 (by decide) ?_
    refine lv_iconst (v := nI (0)) hx hb dL_claim_18 (by decide) ?_
    exact w_nret (Pic1 := fun H : Heap => lPic G ids o z tE (if 0 = 0 then (k_claim_s σ house) else σ) H ∧ ∃ v, lOut G ids qo v H ∧ (0 = 0 → (fun v => v = (k_claim σ house).toInt64) v)) (v := nI (0)) hx hb hr hlocks (Nat.le_of_ble_eq_true rfl) (Nat.le_of_ble_eq_true rfl) ⟨by rw [if_pos rfl]; exact lPic_of hP2 hW1, (k_claim σ house).toInt64, ⟨_, h9, lw_f0⟩, fun _ => rfl⟩ hS dL_claim_19 rfl
theorem kxK_cellOf (σ : Sg) (cell : Int32) (what : Int32) : xK [1, 2] (kx_cellOf σ cell what) := by
  unfold kx_cellOf
  repeat' first | exact xK_0 | exact xK_Ix (by decide) | exact xK_Rg (by decide) | exact xK_St (by decide) | refine xK_s ?_ ?_
set_option maxHeartbeats 4000000 in
set_option maxRecDepth 100000 in
theorem lc_cellOf (l : Launch) (hl0 : l.stackTraces = false) (G : va_G) (ids : Nat → ClassId) (tS tE o z qo : Nat) (hqo : o + 184 ≤ qo) (hzq : z = qo + 1) (σ : Sg) (cell : Int32) (what : Int32) : lW l yL_cellOf wsL_cellOf ({ frames := 8, cells := 2, slots := 12, locals := 145 } : Room) G ids tS tE [.ref (o), .int (cell), .int (what), .ref (qo)] o z qo σ [1, 2] (kx_cellOf σ cell what) (fun v => v = (k_cellOf σ cell what).toInt64) (k_cellOf_s σ cell what) 2 12 := by
  unfold lW
  refine lw_ofWH (cc := cL_cellOf) (maxL := 5) (ret := some .int) (hh := [(0, 10, 13, 13), (0, 10, 17, 15)]) (by decide) rfl ?_
  intro p e s m args below meth c s₁ B hml hv
  obtain ⟨rfl, ⟨⟨d, w, hP, hWz⟩, v0, f, hq, hf0⟩, hK, hZ, hN⟩ := hv
  have hW0 := wOK_z hP hWz
  have hcx := cx_cellOf l hl0 G ids o z tS tE d w σ cell what
  have hkx := xK_2 (kxK_cellOf σ cell what)
  obtain ⟨X, hX⟩ : ∃ X : Nat, X = kx_cellOf σ cell what := ⟨_, rfl⟩
  rw [← hX] at hcx hkx ⊢
  clear hX
  have hx := B.exec
  have hb := B.bytes
  have hr := B.returns
  have hts := atoms_spec (ws := wsL_cellOf) B.pre
  have hown : s.vm.findClass RL = some m.cls := findClass_of_methodNamed B.named
  have hlocks := B.notSynchronized
  have hT : c.exceptionTable.toList = tableOf [(0, 10, 13, 13), (0, 10, 17, 15)] := vx_table B (hts _ List.mem_cons_self)
  have hS : va_S (lG o z qo) s.heap s.heap [] := va_S.rf
  have hzs : z ≤ s.heap.size := by have q := hq.lt; omega
  have hl := lv_entry ([.ref (o), .int (cell), .int (what), .ref (qo)]) (n := 5) (Nat.le_of_ble_eq_true rfl)
  rw [lg_entry_eq]
  generalize (lg_sl ([.ref (o), .int (cell), .int (what), .ref (qo)]) ++ List.replicate (5 - (lg_sl ([.ref (o), .int (cell), .int (what), .ref (qo)])).length) Slot.unset).toArray = ls at hl ⊢
  have hl : lv_has ls 5 [(0, .ref (o)), (1, .int (cell)), (2, .int (what)), (3, .ref (qo))] := hl
  refine lv_aload_n hx hb dL_cellOf_0 rfl (lv_at hl 3 rfl) ?_
  refine lv_iconst (v := nI (0)) hx hb dL_cellOf_1 (by decide) ?_
  refine lv_aload_n hx hb dL_cellOf_2 rfl (lv_at hl 0 rfl) ?_
  refine lv_iload_n hx hb dL_cellOf_3 rfl (lv_at hl 1 rfl) ?_
  refine lv_iload_n hx hb dL_cellOf_4 rfl (lv_at hl 2 rfl) ?_
  refine vx_calli (vx_runV (As := [.int (cell), .int (what)]) (rest := [.int (nI 0), .ref (qo)]) ⟨hx, hb, hml, hown, hts⟩ hcx (cwV 2 hts gL_cellOf_X5_cellOf rfl rfl rfl (by decide +kernel) ⟨Nat.le_of_ble_eq_true rfl, Nat.le_of_ble_eq_true rfl⟩) ⟨yPc_blind, va_recv hK (va_P.one hP.main) (ci := 6) (q0 := 0) rfl rfl, fun U hU hW => ⟨rfl, by rw [hU]; exact hP, va_K.moved hW.alike hK, (cST_at hZ hS hU hW.alike).narrow (fun q h => Or.inl h)⟩⟩ rfl rfl hl.1 rfl (lv_room (Nat.le_of_ble_eq_true rfl)) dL_cellOf_5 ⟨Nat.le_of_ble_eq_true rfl, Nat.le_of_ble_eq_true rfl⟩) hS (fun q _ h => Or.inl h) (fun q h => Or.inl h) (fun q _ h => Or.inl h) (fun E ce q9 u t H1 locs1 ht hvm hpx hbx hz1 hk hS => ?_) (fun r u t H1 locs1 ht hvm hw hB hz1 hk hS => ?_)
  · obtain ⟨rfl, hP1⟩ := hbx
    rw [ht] at hP1
    replace hq := hq.kept (hk _ hq.lt (by show ¬ cpG o z qo; unfold cpG; omega))
    rcases hkx with h | h | h
    · exact absurd h hpx
    · subst h
      refine vx_catch (own := RL) (name := "java/lang/IndexOutOfBoundsException") (E := xE 1) hown (tableOf []) ⟨0, 10, 13, 13⟩ (tableOf [(0, 10, 17, 15)]) hT (fun z9 hz9 => absurd hz9 (List.not_mem_nil)) (by decide) (by decide) (hts _ (List.mem_of_getElem? (i := 1) rfl)) (va_Nw.use (xNW_tab _ (List.mem_of_getElem? (i := 0) rfl)) (hZ.2.2.2.2.1 _ (List.mem_of_getElem? (i := 0) rfl))) hce hcv hcl ?_
      refine lv_astore (lv' := [(4, .ref (q9)), (0, .ref (o)), (1, .int (cell)), (2, .int (what)), (3, .ref (qo))]) hx hb dL_cellOf_13 hl (by decide) rfl (fun ls hl => ?_)
      refine lv_iconst (v := nI (1)) hx hb dL_cellOf_15 (by decide) ?_
      exact w_nret (Pic1 := fun H : Heap => lPic G ids o z tE (if 1 = 0 then (k_cellOf_s σ cell what) else σ) H ∧ ∃ v, lOut G ids qo v H ∧ (1 = 0 → (fun v => v = (k_cellOf σ cell what).toInt64) v)) (v := nI (1)) hx hb hr hlocks (Nat.le_of_ble_eq_true rfl) (Nat.le_of_ble_eq_true rfl) ⟨by rw [if_neg (by decide)]; exact ⟨d, w, hP1, hWz⟩, f 0, ⟨f, hq, rfl⟩, fun h => absurd h (by decide)⟩ hS dL_cellOf_16 rfl
    · subst h
      refine vx_catch (own := RL) (name := "java/lang/IllegalArgumentException") (E := xE 2) hown (tableOf [(0, 10, 13, 13)]) ⟨0, 10, 17, 15⟩ (tableOf []) hT (fun z9 hz9 => by rw [show z9 = ⟨0, 10, 13, 13⟩ from List.mem_singleton.mp hz9]; exact Or.inr ⟨by decide, _, (hts _ (List.mem_of_getElem? (i := 1) rfl)), hN.1⟩) (by decide) (by decide) (hts _ (List.mem_of_getElem? (i := 2) rfl)) (va_Nw.use (xNW_tab _ (List.mem_of_getElem? (i := 1) rfl)) (hZ.2.2.2.2.1 _ (List.mem_of_getElem? (i := 1) rfl))) hce hcv hcl ?_
      refine lv_astore (lv' := [(4, .ref (q9)), (0, .ref (o)), (1, .int (cell)), (2, .int (what)), (3, .ref (qo))]) hx hb dL_cellOf_17 hl (by decide) rfl (fun ls hl => ?_)
      refine lv_iconst (v := nI (2)) hx hb dL_cellOf_19 (by decide) ?_
      exact w_nret (Pic1 := fun H : Heap => lPic G ids o z tE (if 2 = 0 then (k_cellOf_s σ cell what) else σ) H ∧ ∃ v, lOut G ids qo v H ∧ (2 = 0 → (fun v => v = (k_cellOf σ cell what).toInt64) v)) (v := nI (2)) hx hb hr hlocks (Nat.le_of_ble_eq_true rfl) (Nat.le_of_ble_eq_true rfl) ⟨by rw [if_neg (by decide)]; exact ⟨d, w, hP1, hWz⟩, f 0, ⟨f, hq, rfl⟩, fun h => absurd h (by decide)⟩ hS dL_cellOf_20 rfl
  · obtain ⟨hX0, hrv⟩ := hw
    subst hrv
    rw [ht] at hB
    replace hq := hq.kept (hk _ hq.lt (by show ¬ cpG o z qo; unfold cpG; omega))
    clear hcx hkx hk
    subst hX0
    refine lv_i2l (v := (k_cellOf σ cell what).toInt64) hx hb dL_cellOf_8 rfl ?_
    refine x_last (x := (k_cellOf σ cell what).toInt64) hx hb hK hq (Or.inr rfl) hS (i := nI 0) (vp_in_nI (by decide) (by decide)) dL_cellOf_9 (fun H2 locs2 h9 ho hS => ?_)
    have hP2 := CPic.keepx (n1 := qo) hB (fun y hy e => lw_qo hB hy hqo hzq e) (fun q _ hne => ho.2 q hne)
    refine lv_goto (tgt := 21) hx hb dL_cellOf_10 (by decide) ?_
    refine lv_iconst (v := nI (0)) hx hb dL_cellOf_21 (by decide) ?_
    exact w_nret (Pic1 := fun H : Heap => lPic G ids o z tE (if 0 = 0 then (k_cellOf_s σ cell what) else σ) H ∧ ∃ v, lOut G ids qo v H ∧ (0 = 0 → (fun v => v = (k_cellOf σ cell what).toInt64) v)) (v := nI (0)) hx hb hr hlocks (Nat.le_of_ble_eq_true rfl) (Nat.le_of_ble_eq_true rfl) ⟨by rw [if_pos rfl]; exact ⟨d, w, hP2, hWz⟩, (k_cellOf σ cell what).toInt64, ⟨_, h9, lw_f0⟩, fun _ => rfl⟩ hS dL_cellOf_22 rfl
theorem kxK_layerOf (σ : Sg) (cell : Int32) (layer : Int32) (what : Int32) : xK [1, 2] (kx_layerOf σ cell layer what) := by
  unfold kx_layerOf
  repeat' first | exact xK_0 | exact xK_Ix (by decide) | exact xK_Rg (by decide) | exact xK_St (by decide) | refine xK_s ?_ ?_
set_option maxHeartbeats 4000000 in
set_option maxRecDepth 100000 in
theorem lc_layerOf (l : Launch) (hl0 : l.stackTraces = false) (G : va_G) (ids : Nat → ClassId) (tS tE o z qo : Nat) (hqo : o + 184 ≤ qo) (hzq : z = qo + 1) (σ : Sg) (cell : Int32) (layer : Int32) (what : Int32) : lW l yL_layerOf wsL_layerOf ({ frames := 8, cells := 3, slots := 18, locals := 146 } : Room) G ids tS tE [.ref (o), .int (cell), .int (layer), .int (what), .ref (qo)] o z qo σ [1, 2] (kx_layerOf σ cell layer what) (fun v => v = (k_layerOf σ cell layer what).toInt64) σ 3 18 := by
  unfold lW
  refine lw_ofWH (cc := cL_layerOf) (maxL := 6) (ret := some .int) (hh := [(0, 12, 15, 13), (0, 12, 19, 15)]) (by decide) rfl ?_
  intro p e s m args below meth c s₁ B hml hv
  obtain ⟨rfl, ⟨⟨d, w, hP, hWz⟩, v0, f, hq, hf0⟩, hK, hZ, hN⟩ := hv
  have hW0 := wOK_z hP hWz
  have hcx := cx_layerOf l hl0 G ids o z tS tE d w σ cell layer what
  have hkx := xK_2 (kxK_layerOf σ cell layer what)
  obtain ⟨X, hX⟩ : ∃ X : Nat, X = kx_layerOf σ cell layer what := ⟨_, rfl⟩
  rw [← hX] at hcx hkx ⊢
  clear hX
  have hx := B.exec
  have hb := B.bytes
  have hr := B.returns
  have hts := atoms_spec (ws := wsL_layerOf) B.pre
  have hown : s.vm.findClass RL = some m.cls := findClass_of_methodNamed B.named
  have hlocks := B.notSynchronized
  have hT : c.exceptionTable.toList = tableOf [(0, 12, 15, 13), (0, 12, 19, 15)] := vx_table B (hts _ List.mem_cons_self)
  have hS : va_S (lG o z qo) s.heap s.heap [] := va_S.rf
  have hzs : z ≤ s.heap.size := by have q := hq.lt; omega
  have hl := lv_entry ([.ref (o), .int (cell), .int (layer), .int (what), .ref (qo)]) (n := 6) (Nat.le_of_ble_eq_true rfl)
  rw [lg_entry_eq]
  generalize (lg_sl ([.ref (o), .int (cell), .int (layer), .int (what), .ref (qo)]) ++ List.replicate (6 - (lg_sl ([.ref (o), .int (cell), .int (layer), .int (what), .ref (qo)])).length) Slot.unset).toArray = ls at hl ⊢
  have hl : lv_has ls 6 [(0, .ref (o)), (1, .int (cell)), (2, .int (layer)), (3, .int (what)), (4, .ref (qo))] := hl
  refine lv_aload hx hb dL_layerOf_0 (lv_at hl 4 rfl) ?_
  refine lv_iconst (v := nI (0)) hx hb dL_layerOf_2 (by decide) ?_
  refine lv_aload_n hx hb dL_layerOf_3 rfl (lv_at hl 0 rfl) ?_
  refine lv_iload_n hx hb dL_layerOf_4 rfl (lv_at hl 1 rfl) ?_
  refine lv_iload_n hx hb dL_layerOf_5 rfl (lv_at hl 2 rfl) ?_
  refine lv_iload_n hx hb dL_layerOf_6 rfl (lv_at hl 3 rfl) ?_
  refine vx_calli (vx_runV (As := [.int (cell), .int (layer), .int (what)]) (rest := [.int (nI 0), .ref (qo)]) ⟨hx, hb, hml, hown, hts⟩ hcx (cwV 3 hts gL_layerOf_X5_layerOf rfl rfl rfl (by decide +kernel) ⟨Nat.le_of_ble_eq_true rfl, Nat.le_of_ble_eq_true rfl⟩) ⟨yPc_blind, va_recv hK (va_P.one hP.main) (ci := 6) (q0 := 0) rfl rfl, fun U hU hW => ⟨rfl, by rw [hU]; exact hP, va_K.moved hW.alike hK, (cST_at hZ hS hU hW.alike).narrow (fun q h => Or.inl h)⟩⟩ rfl rfl hl.1 rfl (lv_room (Nat.le_of_ble_eq_true rfl)) dL_layerOf_7 ⟨Nat.le_of_ble_eq_true rfl, Nat.le_of_ble_eq_true rfl⟩) hS (fun q _ h => Or.inl h) (fun q h => Or.inl h) (fun q _ h => Or.inl h) (fun E ce q9 u t H1 locs1 ht hvm hpx hbx hz1 hk hS => ?_) (fun r u t H1 locs1 ht hvm hw hB hz1 hk hS => ?_)
  · obtain ⟨rfl, hP1⟩ := hbx
    rw [ht] at hP1
    replace hq := hq.kept (hk _ hq.lt (by show ¬ cpG o z qo; unfold cpG; omega))
    rcases hkx with h | h | h
    · exact absurd h hpx
    · subst h
      refine vx_catch (own := RL) (name := "java/lang/IndexOutOfBoundsException") (E := xE 1) hown (tableOf []) ⟨0, 12, 15, 13⟩ (tableOf [(0, 12, 19, 15)]) hT (fun z9 hz9 => absurd hz9 (List.not_mem_nil)) (by decide) (by decide) (hts _ (List.mem_of_getElem? (i := 1) rfl)) (va_Nw.use (xNW_tab _ (List.mem_of_getElem? (i := 0) rfl)) (hZ.2.2.2.2.1 _ (List.mem_of_getElem? (i := 0) rfl))) hce hcv hcl ?_
      refine lv_astore (lv' := [(5, .ref (q9)), (0, .ref (o)), (1, .int (cell)), (2, .int (layer)), (3, .int (what)), (4, .ref (qo))]) hx hb dL_layerOf_15 hl (by decide) rfl (fun ls hl => ?_)
      refine lv_iconst (v := nI (1)) hx hb dL_layerOf_17 (by decide) ?_
      exact w_nret (Pic1 := fun H : Heap => lPic G ids o z tE (if 1 = 0 then σ else σ) H ∧ ∃ v, lOut G ids qo v H ∧ (1 = 0 → (fun v => v = (k_layerOf σ cell layer what).toInt64) v)) (v := nI (1)) hx hb hr hlocks (Nat.le_of_ble_eq_true rfl) (Nat.le_of_ble_eq_true rfl) ⟨by rw [if_neg (by decide)]; exact ⟨d, w, hP1, hWz⟩, f 0, ⟨f, hq, rfl⟩, fun h => absurd h (by decide)⟩ hS dL_layerOf_18 rfl
    · subst h
      refine vx_catch (own := RL) (name := "java/lang/IllegalArgumentException") (E := xE 2) hown (tableOf [(0, 12, 15, 13)]) ⟨0, 12, 19, 15⟩ (tableOf []) hT (fun z9 hz9 => by rw [show z9 = ⟨0, 12, 15, 13⟩ from List.mem_singleton.mp hz9]; exact Or.inr ⟨by decide, _, (hts _ (List.mem_of_getElem? (i := 1) rfl)), hN.1⟩) (by decide) (by decide) (hts _ (List.mem_of_getElem? (i := 2) rfl)) (va_Nw.use (xNW_tab _ (List.mem_of_getElem? (i := 1) rfl)) (hZ.2.2.2.2.1 _ (List.mem_of_getElem? (i := 1) rfl))) hce hcv hcl ?_
      refine lv_astore (lv' := [(5, .ref (q9)), (0, .ref (o)), (1, .int (cell)), (2, .int (layer)), (3, .int (what)), (4, .ref (qo))]) hx hb dL_layerOf_19 hl (by decide) rfl (fun ls hl => ?_)
      refine lv_iconst (v := nI (2)) hx hb dL_layerOf_21 (by decide) ?_
      exact w_nret (Pic1 := fun H : Heap => lPic G ids o z tE (if 2 = 0 then σ else σ) H ∧ ∃ v, lOut G ids qo v H ∧ (2 = 0 → (fun v => v = (k_layerOf σ cell layer what).toInt64) v)) (v := nI (2)) hx hb hr hlocks (Nat.le_of_ble_eq_true rfl) (Nat.le_of_ble_eq_true rfl) ⟨by rw [if_neg (by decide)]; exact ⟨d, w, hP1, hWz⟩, f 0, ⟨f, hq, rfl⟩, fun h => absurd h (by decide)⟩ hS dL_layerOf_22 rfl
  · obtain ⟨hX0, hrv⟩ := hw
    subst hrv
    rw [ht] at hB
    replace hq := hq.kept (hk _ hq.lt (by show ¬ cpG o z qo; unfold cpG; omega))
    clear hcx hkx hk
    subst hX0
    refine lv_i2l (v := (k_layerOf σ cell layer what).toInt64) hx hb dL_layerOf_10 rfl ?_
    refine x_last (x := (k_layerOf σ cell layer what).toInt64) hx hb hK hq (Or.inr rfl) hS (i := nI 0) (vp_in_nI (by decide) (by decide)) dL_layerOf_11 (fun H2 locs2 h9 ho hS => ?_)
    have hP2 := CPic.keepx (n1 := qo) hB (fun y hy e => lw_qo hB hy hqo hzq e) (fun q _ hne => ho.2 q hne)
    refine lv_goto (tgt := 23) hx hb dL_layerOf_12 (by decide) ?_
    refine lv_iconst (v := nI (0)) hx hb dL_layerOf_23 (by decide) ?_
    exact w_nret (Pic1 := fun H : Heap => lPic G ids o z tE (if 0 = 0 then σ else σ) H ∧ ∃ v, lOut G ids qo v H ∧ (0 = 0 → (fun v => v = (k_layerOf σ cell layer what).toInt64) v)) (v := nI (0)) hx hb hr hlocks (Nat.le_of_ble_eq_true rfl) (Nat.le_of_ble_eq_true rfl) ⟨by rw [if_pos rfl]; exact ⟨d, w, hP2, hWz⟩, (k_layerOf σ cell layer what).toInt64, ⟨_, h9, lw_f0⟩, fun _ => rfl⟩ hS dL_layerOf_24 rfl
theorem kxK_neighbour (σ : Sg) (cell : Int32) (at_ : Int32) : xK [1] (kx_neighbour σ cell at_) := by
  unfold kx_neighbour
  repeat' first | exact xK_0 | exact xK_Ix (by decide) | exact xK_Rg (by decide) | exact xK_St (by decide) | refine xK_s ?_ ?_
set_option maxHeartbeats 4000000 in
set_option maxRecDepth 100000 in
theorem lc_neighbour (l : Launch) (hl0 : l.stackTraces = false) (G : va_G) (ids : Nat → ClassId) (tS tE o z qo : Nat) (hqo : o + 184 ≤ qo) (hzq : z = qo + 1) (σ : Sg) (cell : Int32) (at_ : Int32) : lW l yL_neighbour wsL_neighbour ({ frames := 8, cells := 2, slots := 12, locals := 146 } : Room) G ids tS tE [.ref (o), .int (cell), .int (at_), .ref (qo)] o z qo σ [1] (kx_neighbour σ cell at_) (fun v => v = (k_neighbour σ cell at_).toInt64) σ 2 12 := by
  unfold lW
  refine lw_ofWH (cc := cL_neighbour) (maxL := 5) (ret := some .int) (hh := [(0, 10, 13, 13)]) (by decide) rfl ?_
  intro p e s m args below meth c s₁ B hml hv
  obtain ⟨rfl, ⟨⟨d, w, hP, hWz⟩, v0, f, hq, hf0⟩, hK, hZ, hN⟩ := hv
  have hW0 := wOK_z hP hWz
  have hcx := cx_neighbour l hl0 G ids o z tS tE d w σ cell at_
  have hkx := xK_1 (kxK_neighbour σ cell at_)
  obtain ⟨X, hX⟩ : ∃ X : Nat, X = kx_neighbour σ cell at_ := ⟨_, rfl⟩
  rw [← hX] at hcx hkx ⊢
  clear hX
  have hx := B.exec
  have hb := B.bytes
  have hr := B.returns
  have hts := atoms_spec (ws := wsL_neighbour) B.pre
  have hown : s.vm.findClass RL = some m.cls := findClass_of_methodNamed B.named
  have hlocks := B.notSynchronized
  have hT : c.exceptionTable.toList = tableOf [(0, 10, 13, 13)] := vx_table B (hts _ List.mem_cons_self)
  have hS : va_S (lG o z qo) s.heap s.heap [] := va_S.rf
  have hzs : z ≤ s.heap.size := by have q := hq.lt; omega
  have hl := lv_entry ([.ref (o), .int (cell), .int (at_), .ref (qo)]) (n := 5) (Nat.le_of_ble_eq_true rfl)
  rw [lg_entry_eq]
  generalize (lg_sl ([.ref (o), .int (cell), .int (at_), .ref (qo)]) ++ List.replicate (5 - (lg_sl ([.ref (o), .int (cell), .int (at_), .ref (qo)])).length) Slot.unset).toArray = ls at hl ⊢
  have hl : lv_has ls 5 [(0, .ref (o)), (1, .int (cell)), (2, .int (at_)), (3, .ref (qo))] := hl
  refine lv_aload_n hx hb dL_neighbour_0 rfl (lv_at hl 3 rfl) ?_
  refine lv_iconst (v := nI (0)) hx hb dL_neighbour_1 (by decide) ?_
  refine lv_aload_n hx hb dL_neighbour_2 rfl (lv_at hl 0 rfl) ?_
  refine lv_iload_n hx hb dL_neighbour_3 rfl (lv_at hl 1 rfl) ?_
  refine lv_iload_n hx hb dL_neighbour_4 rfl (lv_at hl 2 rfl) ?_
  refine vx_calli (vx_runV (As := [.int (cell), .int (at_)]) (rest := [.int (nI 0), .ref (qo)]) ⟨hx, hb, hml, hown, hts⟩ hcx (cwV 2 hts gL_neighbour_X5_neighbour rfl rfl rfl (by decide +kernel) ⟨Nat.le_of_ble_eq_true rfl, Nat.le_of_ble_eq_true rfl⟩) ⟨yPc_blind, va_recv hK (va_P.one hP.main) (ci := 6) (q0 := 0) rfl rfl, fun U hU hW => ⟨rfl, by rw [hU]; exact hP, va_K.moved hW.alike hK, (cST_at hZ hS hU hW.alike).narrow (fun q h => Or.inl h)⟩⟩ rfl rfl hl.1 rfl (lv_room (Nat.le_of_ble_eq_true rfl)) dL_neighbour_5 ⟨Nat.le_of_ble_eq_true rfl, Nat.le_of_ble_eq_true rfl⟩) hS (fun q _ h => Or.inl h) (fun q h => Or.inl h) (fun q _ h => Or.inl h) (fun E ce q9 u t H1 locs1 ht hvm hpx hbx hz1 hk hS => ?_) (fun r u t H1 locs1 ht hvm hw hB hz1 hk hS => ?_)
  · obtain ⟨rfl, hP1⟩ := hbx
    rw [ht] at hP1
    replace hq := hq.kept (hk _ hq.lt (by show ¬ cpG o z qo; unfold cpG; omega))
    rcases hkx with h | h
    · exact absurd h hpx
    · subst h
      refine vx_catch (own := RL) (name := "java/lang/IndexOutOfBoundsException") (E := xE 1) hown (tableOf []) ⟨0, 10, 13, 13⟩ (tableOf []) hT (fun z9 hz9 => absurd hz9 (List.not_mem_nil)) (by decide) (by decide) (hts _ (List.mem_of_getElem? (i := 1) rfl)) (va_Nw.use (xNW_tab _ (List.mem_of_getElem? (i := 0) rfl)) (hZ.2.2.2.2.1 _ (List.mem_of_getElem? (i := 0) rfl))) hce hcv hcl ?_
      refine lv_astore (lv' := [(4, .ref (q9)), (0, .ref (o)), (1, .int (cell)), (2, .int (at_)), (3, .ref (qo))]) hx hb dL_neighbour_13 hl (by decide) rfl (fun ls hl => ?_)
      refine lv_iconst (v := nI (1)) hx hb dL_neighbour_15 (by decide) ?_
      exact w_nret (Pic1 := fun H : Heap => lPic G ids o z tE (if 1 = 0 then σ else σ) H ∧ ∃ v, lOut G ids qo v H ∧ (1 = 0 → (fun v => v = (k_neighbour σ cell at_).toInt64) v)) (v := nI (1)) hx hb hr hlocks (Nat.le_of_ble_eq_true rfl) (Nat.le_of_ble_eq_true rfl) ⟨by rw [if_neg (by decide)]; exact ⟨d, w, hP1, hWz⟩, f 0, ⟨f, hq, rfl⟩, fun h => absurd h (by decide)⟩ hS dL_neighbour_16 rfl
  · obtain ⟨hX0, hrv⟩ := hw
    subst hrv
    rw [ht] at hB
    replace hq := hq.kept (hk _ hq.lt (by show ¬ cpG o z qo; unfold cpG; omega))
    clear hcx hkx hk
    subst hX0
    refine lv_i2l (v := (k_neighbour σ cell at_).toInt64) hx hb dL_neighbour_8 rfl ?_
    refine x_last (x := (k_neighbour σ cell at_).toInt64) hx hb hK hq (Or.inr rfl) hS (i := nI 0) (vp_in_nI (by decide) (by decide)) dL_neighbour_9 (fun H2 locs2 h9 ho hS => ?_)
    have hP2 := CPic.keepx (n1 := qo) hB (fun y hy e => lw_qo hB hy hqo hzq e) (fun q _ hne => ho.2 q hne)
    refine lv_goto (tgt := 17) hx hb dL_neighbour_10 (by decide) ?_
    refine lv_iconst (v := nI (0)) hx hb dL_neighbour_17 (by decide) ?_
    exact w_nret (Pic1 := fun H : Heap => lPic G ids o z tE (if 0 = 0 then σ else σ) H ∧ ∃ v, lOut G ids qo v H ∧ (0 = 0 → (fun v => v = (k_neighbour σ cell at_).toInt64) v)) (v := nI (0)) hx hb hr hlocks (Nat.le_of_ble_eq_true rfl) (Nat.le_of_ble_eq_true rfl) ⟨by rw [if_pos rfl]; exact ⟨d, w, hP2, hWz⟩, (k_neighbour σ cell at_).toInt64, ⟨_, h9, lw_f0⟩, fun _ => rfl⟩ hS dL_neighbour_18 rfl
theorem kxK_houseOf (σ : Sg) (house : Int32) (what : Int32) : xK [1, 2] (kx_houseOf σ house what) := by
  unfold kx_houseOf
  repeat' first | exact xK_0 | exact xK_Ix (by decide) | exact xK_Rg (by decide) | exact xK_St (by decide) | refine xK_s ?_ ?_
set_option maxHeartbeats 4000000 in
set_option maxRecDepth 100000 in
theorem lc_houseOf (l : Launch) (hl0 : l.stackTraces = false) (G : va_G) (ids : Nat → ClassId) (tS tE o z qo : Nat) (hqo : o + 184 ≤ qo) (hzq : z = qo + 1) (σ : Sg) (house : Int32) (what : Int32) (hO : cOK σ) : lW l yL_houseOf wsL_houseOf ({ frames := 8, cells := 2, slots := 12, locals := 158 } : Room) G ids tS tE [.ref (o), .int (house), .int (what), .ref (qo)] o z qo σ [1, 2] (kx_houseOf σ house what) (fun v => v = (k_houseOf σ house what).toInt64) σ 2 12 := by
  unfold lW
  refine lw_ofWH (cc := cL_houseOf) (maxL := 5) (ret := some .int) (hh := [(0, 10, 13, 13), (0, 10, 17, 15)]) (by decide) rfl ?_
  intro p e s m args below meth c s₁ B hml hv
  obtain ⟨rfl, ⟨⟨d, w, hP, hWz⟩, v0, f, hq, hf0⟩, hK, hZ, hN⟩ := hv
  have hW0 := wOK_z hP hWz
  have hcx := cx_houseOf l hl0 G ids o z tS tE d w σ house what hO
  have hkx := xK_2 (kxK_houseOf σ house what)
  obtain ⟨X, hX⟩ : ∃ X : Nat, X = kx_houseOf σ house what := ⟨_, rfl⟩
  rw [← hX] at hcx hkx ⊢
  clear hX
  have hx := B.exec
  have hb := B.bytes
  have hr := B.returns
  have hts := atoms_spec (ws := wsL_houseOf) B.pre
  have hown : s.vm.findClass RL = some m.cls := findClass_of_methodNamed B.named
  have hlocks := B.notSynchronized
  have hT : c.exceptionTable.toList = tableOf [(0, 10, 13, 13), (0, 10, 17, 15)] := vx_table B (hts _ List.mem_cons_self)
  have hS : va_S (lG o z qo) s.heap s.heap [] := va_S.rf
  have hzs : z ≤ s.heap.size := by have q := hq.lt; omega
  have hl := lv_entry ([.ref (o), .int (house), .int (what), .ref (qo)]) (n := 5) (Nat.le_of_ble_eq_true rfl)
  rw [lg_entry_eq]
  generalize (lg_sl ([.ref (o), .int (house), .int (what), .ref (qo)]) ++ List.replicate (5 - (lg_sl ([.ref (o), .int (house), .int (what), .ref (qo)])).length) Slot.unset).toArray = ls at hl ⊢
  have hl : lv_has ls 5 [(0, .ref (o)), (1, .int (house)), (2, .int (what)), (3, .ref (qo))] := hl
  refine lv_aload_n hx hb dL_houseOf_0 rfl (lv_at hl 3 rfl) ?_
  refine lv_iconst (v := nI (0)) hx hb dL_houseOf_1 (by decide) ?_
  refine lv_aload_n hx hb dL_houseOf_2 rfl (lv_at hl 0 rfl) ?_
  refine lv_iload_n hx hb dL_houseOf_3 rfl (lv_at hl 1 rfl) ?_
  refine lv_iload_n hx hb dL_houseOf_4 rfl (lv_at hl 2 rfl) ?_
  refine vx_calli (vx_runV (As := [.int (house), .int (what)]) (rest := [.int (nI 0), .ref (qo)]) ⟨hx, hb, hml, hown, hts⟩ hcx (cwV 2 hts gL_houseOf_X5_houseOf rfl rfl rfl (by decide +kernel) ⟨Nat.le_of_ble_eq_true rfl, Nat.le_of_ble_eq_true rfl⟩) ⟨yPc_blind, va_recv hK (va_P.one hP.main) (ci := 6) (q0 := 0) rfl rfl, fun U hU hW => ⟨rfl, by rw [hU]; exact hP, va_K.moved hW.alike hK, (cST_at hZ hS hU hW.alike).narrow (fun q h => Or.inl h)⟩⟩ rfl rfl hl.1 rfl (lv_room (Nat.le_of_ble_eq_true rfl)) dL_houseOf_5 ⟨Nat.le_of_ble_eq_true rfl, Nat.le_of_ble_eq_true rfl⟩) hS (fun q _ h => Or.inl h) (fun q h => Or.inl h) (fun q _ h => Or.inl h) (fun E ce q9 u t H1 locs1 ht hvm hpx hbx hz1 hk hS => ?_) (fun r u t H1 locs1 ht hvm hw hB hz1 hk hS => ?_)
  · obtain ⟨rfl, hP1⟩ := hbx
    rw [ht] at hP1
    replace hq := hq.kept (hk _ hq.lt (by show ¬ cpG o z qo; unfold cpG; omega))
    rcases hkx with h | h | h
    · exact absurd h hpx
    · subst h
      refine vx_catch (own := RL) (name := "java/lang/IndexOutOfBoundsException") (E := xE 1) hown (tableOf []) ⟨0, 10, 13, 13⟩ (tableOf [(0, 10, 17, 15)]) hT (fun z9 hz9 => absurd hz9 (List.not_mem_nil)) (by decide) (by decide) (hts _ (List.mem_of_getElem? (i := 1) rfl)) (va_Nw.use (xNW_tab _ (List.mem_of_getElem? (i := 0) rfl)) (hZ.2.2.2.2.1 _ (List.mem_of_getElem? (i := 0) rfl))) hce hcv hcl ?_
      refine lv_astore (lv' := [(4, .ref (q9)), (0, .ref (o)), (1, .int (house)), (2, .int (what)), (3, .ref (qo))]) hx hb dL_houseOf_13 hl (by decide) rfl (fun ls hl => ?_)
      refine lv_iconst (v := nI (1)) hx hb dL_houseOf_15 (by decide) ?_
      exact w_nret (Pic1 := fun H : Heap => lPic G ids o z tE (if 1 = 0 then σ else σ) H ∧ ∃ v, lOut G ids qo v H ∧ (1 = 0 → (fun v => v = (k_houseOf σ house what).toInt64) v)) (v := nI (1)) hx hb hr hlocks (Nat.le_of_ble_eq_true rfl) (Nat.le_of_ble_eq_true rfl) ⟨by rw [if_neg (by decide)]; exact ⟨d, w, hP1, hWz⟩, f 0, ⟨f, hq, rfl⟩, fun h => absurd h (by decide)⟩ hS dL_houseOf_16 rfl
    · subst h
      refine vx_catch (own := RL) (name := "java/lang/IllegalArgumentException") (E := xE 2) hown (tableOf [(0, 10, 13, 13)]) ⟨0, 10, 17, 15⟩ (tableOf []) hT (fun z9 hz9 => by rw [show z9 = ⟨0, 10, 13, 13⟩ from List.mem_singleton.mp hz9]; exact Or.inr ⟨by decide, _, (hts _ (List.mem_of_getElem? (i := 1) rfl)), hN.1⟩) (by decide) (by decide) (hts _ (List.mem_of_getElem? (i := 2) rfl)) (va_Nw.use (xNW_tab _ (List.mem_of_getElem? (i := 1) rfl)) (hZ.2.2.2.2.1 _ (List.mem_of_getElem? (i := 1) rfl))) hce hcv hcl ?_
      refine lv_astore (lv' := [(4, .ref (q9)), (0, .ref (o)), (1, .int (house)), (2, .int (what)), (3, .ref (qo))]) hx hb dL_houseOf_17 hl (by decide) rfl (fun ls hl => ?_)
      refine lv_iconst (v := nI (2)) hx hb dL_houseOf_19 (by decide) ?_
      exact w_nret (Pic1 := fun H : Heap => lPic G ids o z tE (if 2 = 0 then σ else σ) H ∧ ∃ v, lOut G ids qo v H ∧ (2 = 0 → (fun v => v = (k_houseOf σ house what).toInt64) v)) (v := nI (2)) hx hb hr hlocks (Nat.le_of_ble_eq_true rfl) (Nat.le_of_ble_eq_true rfl) ⟨by rw [if_neg (by decide)]; exact ⟨d, w, hP1, hWz⟩, f 0, ⟨f, hq, rfl⟩, fun h => absurd h (by decide)⟩ hS dL_houseOf_20 rfl
  · obtain ⟨hX0, hrv⟩ := hw
    subst hrv
    rw [ht] at hB
    replace hq := hq.kept (hk _ hq.lt (by show ¬ cpG o z qo; unfold cpG; omega))
    clear hcx hkx hk
    subst hX0
    refine lv_i2l (v := (k_houseOf σ house what).toInt64) hx hb dL_houseOf_8 rfl ?_
    refine x_last (x := (k_houseOf σ house what).toInt64) hx hb hK hq (Or.inr rfl) hS (i := nI 0) (vp_in_nI (by decide) (by decide)) dL_houseOf_9 (fun H2 locs2 h9 ho hS => ?_)
    have hP2 := CPic.keepx (n1 := qo) hB (fun y hy e => lw_qo hB hy hqo hzq e) (fun q _ hne => ho.2 q hne)
    refine lv_goto (tgt := 21) hx hb dL_houseOf_10 (by decide) ?_
    refine lv_iconst (v := nI (0)) hx hb dL_houseOf_21 (by decide) ?_
    exact w_nret (Pic1 := fun H : Heap => lPic G ids o z tE (if 0 = 0 then σ else σ) H ∧ ∃ v, lOut G ids qo v H ∧ (0 = 0 → (fun v => v = (k_houseOf σ house what).toInt64) v)) (v := nI (0)) hx hb hr hlocks (Nat.le_of_ble_eq_true rfl) (Nat.le_of_ble_eq_true rfl) ⟨by rw [if_pos rfl]; exact ⟨d, w, hP2, hWz⟩, (k_houseOf σ house what).toInt64, ⟨_, h9, lw_f0⟩, fun _ => rfl⟩ hS dL_houseOf_22 rfl
theorem kxK_reading (σ : Sg) (hole : Int32) (mo : Int32) (layer : Int32) : xK [1] (kx_reading σ hole mo layer) := by
  unfold kx_reading
  repeat' first | exact xK_0 | exact xK_Ix (by decide) | exact xK_Rg (by decide) | exact xK_St (by decide) | refine xK_s ?_ ?_
set_option maxHeartbeats 4000000 in
set_option maxRecDepth 100000 in
theorem lc_reading (l : Launch) (hl0 : l.stackTraces = false) (G : va_G) (ids : Nat → ClassId) (tS tE o z qo : Nat) (hqo : o + 184 ≤ qo) (hzq : z = qo + 1) (σ : Sg) (hole : Int32) (mo : Int32) (layer : Int32) (hO : cOK σ) : lW l yL_reading wsL_reading ({ frames := 8, cells := 3, slots := 18, locals := 145 } : Room) G ids tS tE [.ref (o), .int (hole), .int (mo), .int (layer), .ref (qo)] o z qo σ [1] (kx_reading σ hole mo layer) (fun v => v = (k_reading σ hole mo layer).toInt64) σ 3 18 := by
  unfold lW
  refine lw_ofWH (cc := cL_reading) (maxL := 6) (ret := some .int) (hh := [(0, 12, 15, 13)]) (by decide) rfl ?_
  intro p e s m args below meth c s₁ B hml hv
  obtain ⟨rfl, ⟨⟨d, w, hP, hWz⟩, v0, f, hq, hf0⟩, hK, hZ, hN⟩ := hv
  have hW0 := wOK_z hP hWz
  have hcx := cx_reading l hl0 G ids o z tS tE d w σ hole mo layer hO
  have hkx := xK_1 (kxK_reading σ hole mo layer)
  obtain ⟨X, hX⟩ : ∃ X : Nat, X = kx_reading σ hole mo layer := ⟨_, rfl⟩
  rw [← hX] at hcx hkx ⊢
  clear hX
  have hx := B.exec
  have hb := B.bytes
  have hr := B.returns
  have hts := atoms_spec (ws := wsL_reading) B.pre
  have hown : s.vm.findClass RL = some m.cls := findClass_of_methodNamed B.named
  have hlocks := B.notSynchronized
  have hT : c.exceptionTable.toList = tableOf [(0, 12, 15, 13)] := vx_table B (hts _ List.mem_cons_self)
  have hS : va_S (lG o z qo) s.heap s.heap [] := va_S.rf
  have hzs : z ≤ s.heap.size := by have q := hq.lt; omega
  have hl := lv_entry ([.ref (o), .int (hole), .int (mo), .int (layer), .ref (qo)]) (n := 6) (Nat.le_of_ble_eq_true rfl)
  rw [lg_entry_eq]
  generalize (lg_sl ([.ref (o), .int (hole), .int (mo), .int (layer), .ref (qo)]) ++ List.replicate (6 - (lg_sl ([.ref (o), .int (hole), .int (mo), .int (layer), .ref (qo)])).length) Slot.unset).toArray = ls at hl ⊢
  have hl : lv_has ls 6 [(0, .ref (o)), (1, .int (hole)), (2, .int (mo)), (3, .int (layer)), (4, .ref (qo))] := hl
  refine lv_aload hx hb dL_reading_0 (lv_at hl 4 rfl) ?_
  refine lv_iconst (v := nI (0)) hx hb dL_reading_2 (by decide) ?_
  refine lv_aload_n hx hb dL_reading_3 rfl (lv_at hl 0 rfl) ?_
  refine lv_iload_n hx hb dL_reading_4 rfl (lv_at hl 1 rfl) ?_
  refine lv_iload_n hx hb dL_reading_5 rfl (lv_at hl 2 rfl) ?_
  refine lv_iload_n hx hb dL_reading_6 rfl (lv_at hl 3 rfl) ?_
  refine vx_calli (vx_runV (As := [.int (hole), .int (mo), .int (layer)]) (rest := [.int (nI 0), .ref (qo)]) ⟨hx, hb, hml, hown, hts⟩ hcx (cwV 3 hts gL_reading_X5_reading rfl rfl rfl (by decide +kernel) ⟨Nat.le_of_ble_eq_true rfl, Nat.le_of_ble_eq_true rfl⟩) ⟨yPc_blind, va_recv hK (va_P.one hP.main) (ci := 6) (q0 := 0) rfl rfl, fun U hU hW => ⟨rfl, by rw [hU]; exact hP, va_K.moved hW.alike hK, (cST_at hZ hS hU hW.alike).narrow (fun q h => Or.inl h)⟩⟩ rfl rfl hl.1 rfl (lv_room (Nat.le_of_ble_eq_true rfl)) dL_reading_7 ⟨Nat.le_of_ble_eq_true rfl, Nat.le_of_ble_eq_true rfl⟩) hS (fun q _ h => Or.inl h) (fun q h => Or.inl h) (fun q _ h => Or.inl h) (fun E ce q9 u t H1 locs1 ht hvm hpx hbx hz1 hk hS => ?_) (fun r u t H1 locs1 ht hvm hw hB hz1 hk hS => ?_)
  · obtain ⟨rfl, hP1⟩ := hbx
    rw [ht] at hP1
    replace hq := hq.kept (hk _ hq.lt (by show ¬ cpG o z qo; unfold cpG; omega))
    rcases hkx with h | h
    · exact absurd h hpx
    · subst h
      refine vx_catch (own := RL) (name := "java/lang/IndexOutOfBoundsException") (E := xE 1) hown (tableOf []) ⟨0, 12, 15, 13⟩ (tableOf []) hT (fun z9 hz9 => absurd hz9 (List.not_mem_nil)) (by decide) (by decide) (hts _ (List.mem_of_getElem? (i := 1) rfl)) (va_Nw.use (xNW_tab _ (List.mem_of_getElem? (i := 0) rfl)) (hZ.2.2.2.2.1 _ (List.mem_of_getElem? (i := 0) rfl))) hce hcv hcl ?_
      refine lv_astore (lv' := [(5, .ref (q9)), (0, .ref (o)), (1, .int (hole)), (2, .int (mo)), (3, .int (layer)), (4, .ref (qo))]) hx hb dL_reading_15 hl (by decide) rfl (fun ls hl => ?_)
      refine lv_iconst (v := nI (1)) hx hb dL_reading_17 (by decide) ?_
      exact w_nret (Pic1 := fun H : Heap => lPic G ids o z tE (if 1 = 0 then σ else σ) H ∧ ∃ v, lOut G ids qo v H ∧ (1 = 0 → (fun v => v = (k_reading σ hole mo layer).toInt64) v)) (v := nI (1)) hx hb hr hlocks (Nat.le_of_ble_eq_true rfl) (Nat.le_of_ble_eq_true rfl) ⟨by rw [if_neg (by decide)]; exact ⟨d, w, hP1, hWz⟩, f 0, ⟨f, hq, rfl⟩, fun h => absurd h (by decide)⟩ hS dL_reading_18 rfl
  · obtain ⟨hX0, hrv⟩ := hw
    subst hrv
    rw [ht] at hB
    replace hq := hq.kept (hk _ hq.lt (by show ¬ cpG o z qo; unfold cpG; omega))
    clear hcx hkx hk
    subst hX0
    refine lv_i2l (v := (k_reading σ hole mo layer).toInt64) hx hb dL_reading_10 rfl ?_
    refine x_last (x := (k_reading σ hole mo layer).toInt64) hx hb hK hq (Or.inr rfl) hS (i := nI 0) (vp_in_nI (by decide) (by decide)) dL_reading_11 (fun H2 locs2 h9 ho hS => ?_)
    have hP2 := CPic.keepx (n1 := qo) hB (fun y hy e => lw_qo hB hy hqo hzq e) (fun q _ hne => ho.2 q hne)
    refine lv_goto (tgt := 19) hx hb dL_reading_12 (by decide) ?_
    refine lv_iconst (v := nI (0)) hx hb dL_reading_19 (by decide) ?_
    exact w_nret (Pic1 := fun H : Heap => lPic G ids o z tE (if 0 = 0 then σ else σ) H ∧ ∃ v, lOut G ids qo v H ∧ (0 = 0 → (fun v => v = (k_reading σ hole mo layer).toInt64) v)) (v := nI (0)) hx hb hr hlocks (Nat.le_of_ble_eq_true rfl) (Nat.le_of_ble_eq_true rfl) ⟨by rw [if_pos rfl]; exact ⟨d, w, hP2, hWz⟩, (k_reading σ hole mo layer).toInt64, ⟨_, h9, lw_f0⟩, fun _ => rfl⟩ hS dL_reading_20 rfl
theorem kxK_claimOf (σ : Sg) (claim : Int32) : xK [1] (kx_claimOf σ claim) := by
  unfold kx_claimOf
  repeat' first | exact xK_0 | exact xK_Ix (by decide) | exact xK_Rg (by decide) | exact xK_St (by decide) | refine xK_s ?_ ?_
set_option maxHeartbeats 4000000 in
set_option maxRecDepth 100000 in
theorem lc_claimOf (l : Launch) (hl0 : l.stackTraces = false) (G : va_G) (ids : Nat → ClassId) (tS tE o z qo : Nat) (hqo : o + 184 ≤ qo) (hzq : z = qo + 1) (σ : Sg) (claim : Int32) (hO : cOK σ) : lW l yL_claimOf wsL_claimOf ({ frames := 8, cells := 1, slots := 6, locals := 142 } : Room) G ids tS tE [.ref (o), .int (claim), .ref (qo)] o z qo σ [1] (kx_claimOf σ claim) (fun v => v = (k_claimOf σ claim).toInt64) σ 1 6 := by
  unfold lW
  refine lw_ofWH (cc := cL_claimOf) (maxL := 4) (ret := some .int) (hh := [(0, 9, 12, 13)]) (by decide) rfl ?_
  intro p e s m args below meth c s₁ B hml hv
  obtain ⟨rfl, ⟨⟨d, w, hP, hWz⟩, v0, f, hq, hf0⟩, hK, hZ, hN⟩ := hv
  have hW0 := wOK_z hP hWz
  have hcx := cx_claimOf l hl0 G ids o z tS tE d w σ claim hO
  have hkx := xK_1 (kxK_claimOf σ claim)
  obtain ⟨X, hX⟩ : ∃ X : Nat, X = kx_claimOf σ claim := ⟨_, rfl⟩
  rw [← hX] at hcx hkx ⊢
  clear hX
  have hx := B.exec
  have hb := B.bytes
  have hr := B.returns
  have hts := atoms_spec (ws := wsL_claimOf) B.pre
  have hown : s.vm.findClass RL = some m.cls := findClass_of_methodNamed B.named
  have hlocks := B.notSynchronized
  have hT : c.exceptionTable.toList = tableOf [(0, 9, 12, 13)] := vx_table B (hts _ List.mem_cons_self)
  have hS : va_S (lG o z qo) s.heap s.heap [] := va_S.rf
  have hzs : z ≤ s.heap.size := by have q := hq.lt; omega
  have hl := lv_entry ([.ref (o), .int (claim), .ref (qo)]) (n := 4) (Nat.le_of_ble_eq_true rfl)
  rw [lg_entry_eq]
  generalize (lg_sl ([.ref (o), .int (claim), .ref (qo)]) ++ List.replicate (4 - (lg_sl ([.ref (o), .int (claim), .ref (qo)])).length) Slot.unset).toArray = ls at hl ⊢
  have hl : lv_has ls 4 [(0, .ref (o)), (1, .int (claim)), (2, .ref (qo))] := hl
  refine lv_aload_n hx hb dL_claimOf_0 rfl (lv_at hl 2 rfl) ?_
  refine lv_iconst (v := nI (0)) hx hb dL_claimOf_1 (by decide) ?_
  refine lv_aload_n hx hb dL_claimOf_2 rfl (lv_at hl 0 rfl) ?_
  refine lv_iload_n hx hb dL_claimOf_3 rfl (lv_at hl 1 rfl) ?_
  refine vx_calli (vx_runV (As := [.int (claim)]) (rest := [.int (nI 0), .ref (qo)]) ⟨hx, hb, hml, hown, hts⟩ hcx (cwV 1 hts gL_claimOf_X5_claimOf rfl rfl rfl (by decide +kernel) ⟨Nat.le_of_ble_eq_true rfl, Nat.le_of_ble_eq_true rfl⟩) ⟨yPc_blind, va_recv hK (va_P.one hP.main) (ci := 6) (q0 := 0) rfl rfl, fun U hU hW => ⟨rfl, by rw [hU]; exact hP, va_K.moved hW.alike hK, (cST_at hZ hS hU hW.alike).narrow (fun q h => Or.inl h)⟩⟩ rfl rfl hl.1 rfl (lv_room (Nat.le_of_ble_eq_true rfl)) dL_claimOf_4 ⟨Nat.le_of_ble_eq_true rfl, Nat.le_of_ble_eq_true rfl⟩) hS (fun q _ h => Or.inl h) (fun q h => Or.inl h) (fun q _ h => Or.inl h) (fun E ce q9 u t H1 locs1 ht hvm hpx hbx hz1 hk hS => ?_) (fun r u t H1 locs1 ht hvm hw hB hz1 hk hS => ?_)
  · obtain ⟨rfl, hP1⟩ := hbx
    rw [ht] at hP1
    replace hq := hq.kept (hk _ hq.lt (by show ¬ cpG o z qo; unfold cpG; omega))
    rcases hkx with h | h
    · exact absurd h hpx
    · subst h
      refine vx_catch (own := RL) (name := "java/lang/IndexOutOfBoundsException") (E := xE 1) hown (tableOf []) ⟨0, 9, 12, 13⟩ (tableOf []) hT (fun z9 hz9 => absurd hz9 (List.not_mem_nil)) (by decide) (by decide) (hts _ (List.mem_of_getElem? (i := 1) rfl)) (va_Nw.use (xNW_tab _ (List.mem_of_getElem? (i := 0) rfl)) (hZ.2.2.2.2.1 _ (List.mem_of_getElem? (i := 0) rfl))) hce hcv hcl ?_
      refine lv_astore_n (lv' := [(3, .ref (q9)), (0, .ref (o)), (1, .int (claim)), (2, .ref (qo))]) hx hb dL_claimOf_12 rfl hl (by decide) rfl (fun ls hl => ?_)
      refine lv_iconst (v := nI (1)) hx hb dL_claimOf_13 (by decide) ?_
      exact w_nret (Pic1 := fun H : Heap => lPic G ids o z tE (if 1 = 0 then σ else σ) H ∧ ∃ v, lOut G ids qo v H ∧ (1 = 0 → (fun v => v = (k_claimOf σ claim).toInt64) v)) (v := nI (1)) hx hb hr hlocks (Nat.le_of_ble_eq_true rfl) (Nat.le_of_ble_eq_true rfl) ⟨by rw [if_neg (by decide)]; exact ⟨d, w, hP1, hWz⟩, f 0, ⟨f, hq, rfl⟩, fun h => absurd h (by decide)⟩ hS dL_claimOf_14 rfl
  · obtain ⟨hX0, hrv⟩ := hw
    subst hrv
    rw [ht] at hB
    replace hq := hq.kept (hk _ hq.lt (by show ¬ cpG o z qo; unfold cpG; omega))
    clear hcx hkx hk
    subst hX0
    refine lv_i2l (v := (k_claimOf σ claim).toInt64) hx hb dL_claimOf_7 rfl ?_
    refine x_last (x := (k_claimOf σ claim).toInt64) hx hb hK hq (Or.inr rfl) hS (i := nI 0) (vp_in_nI (by decide) (by decide)) dL_claimOf_8 (fun H2 locs2 h9 ho hS => ?_)
    have hP2 := CPic.keepx (n1 := qo) hB (fun y hy e => lw_qo hB hy hqo hzq e) (fun q _ hne => ho.2 q hne)
    refine lv_goto (tgt := 15) hx hb dL_claimOf_9 (by decide) ?_
    refine lv_iconst (v := nI (0)) hx hb dL_claimOf_15 (by decide) ?_
    exact w_nret (Pic1 := fun H : Heap => lPic G ids o z tE (if 0 = 0 then σ else σ) H ∧ ∃ v, lOut G ids qo v H ∧ (0 = 0 → (fun v => v = (k_claimOf σ claim).toInt64) v)) (v := nI (0)) hx hb hr hlocks (Nat.le_of_ble_eq_true rfl) (Nat.le_of_ble_eq_true rfl) ⟨by rw [if_pos rfl]; exact ⟨d, w, hP2, hWz⟩, (k_claimOf σ claim).toInt64, ⟨_, h9, lw_f0⟩, fun _ => rfl⟩ hS dL_claimOf_16 rfl
theorem kxK_claimAnew (σ : Sg) (claim : Int32) : xK [1] (kx_claimAnew σ claim) := by
  unfold kx_claimAnew
  repeat' first | exact xK_0 | exact xK_Ix (by decide) | exact xK_Rg (by decide) | exact xK_St (by decide) | refine xK_s ?_ ?_
set_option maxHeartbeats 4000000 in
set_option maxRecDepth 100000 in
theorem lc_claimAnew (l : Launch) (hl0 : l.stackTraces = false) (G : va_G) (ids : Nat → ClassId) (tS tE o z qo : Nat) (hqo : o + 184 ≤ qo) (hzq : z = qo + 1) (σ : Sg) (claim : Int32) (hO : cOK σ) (hC : cCl σ) : lW l yL_claimAnew wsL_claimAnew ({ frames := 8, cells := 1, slots := 6, locals := 157 } : Room) G ids tS tE [.ref (o), .int (claim), .ref (qo)] o z qo σ [1] (kx_claimAnew σ claim) (fun v => v = (k_claimAnew σ claim).toInt64) σ 1 6 := by
  unfold lW
  refine lw_ofWH (cc := cL_claimAnew) (maxL := 4) (ret := some .int) (hh := [(0, 9, 12, 13)]) (by decide) rfl ?_
  intro p e s m args below meth c s₁ B hml hv
  obtain ⟨rfl, ⟨⟨d, w, hP, hWz⟩, v0, f, hq, hf0⟩, hK, hZ, hN⟩ := hv
  have hW0 := wOK_z hP hWz
  have hcx := cx_claimAnew l hl0 G ids o z tS tE d w σ claim hO hC
  have hkx := xK_1 (kxK_claimAnew σ claim)
  obtain ⟨X, hX⟩ : ∃ X : Nat, X = kx_claimAnew σ claim := ⟨_, rfl⟩
  rw [← hX] at hcx hkx ⊢
  clear hX
  have hx := B.exec
  have hb := B.bytes
  have hr := B.returns
  have hts := atoms_spec (ws := wsL_claimAnew) B.pre
  have hown : s.vm.findClass RL = some m.cls := findClass_of_methodNamed B.named
  have hlocks := B.notSynchronized
  have hT : c.exceptionTable.toList = tableOf [(0, 9, 12, 13)] := vx_table B (hts _ List.mem_cons_self)
  have hS : va_S (lG o z qo) s.heap s.heap [] := va_S.rf
  have hzs : z ≤ s.heap.size := by have q := hq.lt; omega
  have hl := lv_entry ([.ref (o), .int (claim), .ref (qo)]) (n := 4) (Nat.le_of_ble_eq_true rfl)
  rw [lg_entry_eq]
  generalize (lg_sl ([.ref (o), .int (claim), .ref (qo)]) ++ List.replicate (4 - (lg_sl ([.ref (o), .int (claim), .ref (qo)])).length) Slot.unset).toArray = ls at hl ⊢
  have hl : lv_has ls 4 [(0, .ref (o)), (1, .int (claim)), (2, .ref (qo))] := hl
  refine lv_aload_n hx hb dL_claimAnew_0 rfl (lv_at hl 2 rfl) ?_
  refine lv_iconst (v := nI (0)) hx hb dL_claimAnew_1 (by decide) ?_
  refine lv_aload_n hx hb dL_claimAnew_2 rfl (lv_at hl 0 rfl) ?_
  refine lv_iload_n hx hb dL_claimAnew_3 rfl (lv_at hl 1 rfl) ?_
  refine vx_calli (vx_runV (As := [.int (claim)]) (rest := [.int (nI 0), .ref (qo)]) ⟨hx, hb, hml, hown, hts⟩ hcx (cwV 1 hts gL_claimAnew_X5_claimAnew rfl rfl rfl (by decide +kernel) ⟨Nat.le_of_ble_eq_true rfl, Nat.le_of_ble_eq_true rfl⟩) ⟨yPc_blind, va_recv hK (va_P.one hP.main) (ci := 6) (q0 := 0) rfl rfl, fun U hU hW => ⟨rfl, by rw [hU]; exact hP, va_K.moved hW.alike hK, (cST_at hZ hS hU hW.alike).narrow (fun q h => Or.inl h)⟩⟩ rfl rfl hl.1 rfl (lv_room (Nat.le_of_ble_eq_true rfl)) dL_claimAnew_4 ⟨Nat.le_of_ble_eq_true rfl, Nat.le_of_ble_eq_true rfl⟩) hS (fun q _ h => Or.inl h) (fun q h => Or.inl h) (fun q _ h => Or.inl h) (fun E ce q9 u t H1 locs1 ht hvm hpx hbx hz1 hk hS => ?_) (fun r u t H1 locs1 ht hvm hw hB hz1 hk hS => ?_)
  · obtain ⟨rfl, hP1⟩ := hbx
    rw [ht] at hP1
    replace hq := hq.kept (hk _ hq.lt (by show ¬ cpG o z qo; unfold cpG; omega))
    rcases hkx with h | h
    · exact absurd h hpx
    · subst h
      refine vx_catch (own := RL) (name := "java/lang/IndexOutOfBoundsException") (E := xE 1) hown (tableOf []) ⟨0, 9, 12, 13⟩ (tableOf []) hT (fun z9 hz9 => absurd hz9 (List.not_mem_nil)) (by decide) (by decide) (hts _ (List.mem_of_getElem? (i := 1) rfl)) (va_Nw.use (xNW_tab _ (List.mem_of_getElem? (i := 0) rfl)) (hZ.2.2.2.2.1 _ (List.mem_of_getElem? (i := 0) rfl))) hce hcv hcl ?_
      refine lv_astore_n (lv' := [(3, .ref (q9)), (0, .ref (o)), (1, .int (claim)), (2, .ref (qo))]) hx hb dL_claimAnew_12 rfl hl (by decide) rfl (fun ls hl => ?_)
      refine lv_iconst (v := nI (1)) hx hb dL_claimAnew_13 (by decide) ?_
      exact w_nret (Pic1 := fun H : Heap => lPic G ids o z tE (if 1 = 0 then σ else σ) H ∧ ∃ v, lOut G ids qo v H ∧ (1 = 0 → (fun v => v = (k_claimAnew σ claim).toInt64) v)) (v := nI (1)) hx hb hr hlocks (Nat.le_of_ble_eq_true rfl) (Nat.le_of_ble_eq_true rfl) ⟨by rw [if_neg (by decide)]; exact ⟨d, w, hP1, hWz⟩, f 0, ⟨f, hq, rfl⟩, fun h => absurd h (by decide)⟩ hS dL_claimAnew_14 rfl
  · obtain ⟨hX0, hrv⟩ := hw
    subst hrv
    rw [ht] at hB
    replace hq := hq.kept (hk _ hq.lt (by show ¬ cpG o z qo; unfold cpG; omega))
    clear hcx hkx hk
    subst hX0
    refine lv_i2l (v := (k_claimAnew σ claim).toInt64) hx hb dL_claimAnew_7 rfl ?_
    refine x_last (x := (k_claimAnew σ claim).toInt64) hx hb hK hq (Or.inr rfl) hS (i := nI 0) (vp_in_nI (by decide) (by decide)) dL_claimAnew_8 (fun H2 locs2 h9 ho hS => ?_)
    have hP2 := CPic.keepx (n1 := qo) hB (fun y hy e => lw_qo hB hy hqo hzq e) (fun q _ hne => ho.2 q hne)
    refine lv_goto (tgt := 15) hx hb dL_claimAnew_9 (by decide) ?_
    refine lv_iconst (v := nI (0)) hx hb dL_claimAnew_15 (by decide) ?_
    exact w_nret (Pic1 := fun H : Heap => lPic G ids o z tE (if 0 = 0 then σ else σ) H ∧ ∃ v, lOut G ids qo v H ∧ (0 = 0 → (fun v => v = (k_claimAnew σ claim).toInt64) v)) (v := nI (0)) hx hb hr hlocks (Nat.le_of_ble_eq_true rfl) (Nat.le_of_ble_eq_true rfl) ⟨by rw [if_pos rfl]; exact ⟨d, w, hP2, hWz⟩, (k_claimAnew σ claim).toInt64, ⟨_, h9, lw_f0⟩, fun _ => rfl⟩ hS dL_claimAnew_16 rfl
theorem kxK_balance (σ : Sg) (kind : Int32) (what : Int32) : xK [2] (kx_balance σ kind what) := by
  unfold kx_balance
  repeat' first | exact xK_0 | exact xK_Ix (by decide) | exact xK_Rg (by decide) | exact xK_St (by decide) | refine xK_s ?_ ?_
set_option maxHeartbeats 4000000 in
set_option maxRecDepth 100000 in
theorem lc_balance (l : Launch) (hl0 : l.stackTraces = false) (G : va_G) (ids : Nat → ClassId) (tS tE o z qo : Nat) (hqo : o + 184 ≤ qo) (hzq : z = qo + 1) (σ : Sg) (kind : Int32) (what : Int32) : lW l yL_balance wsL_balance ({ frames := 8, cells := 2, slots := 12, locals := 144 } : Room) G ids tS tE [.ref (o), .int (kind), .int (what), .ref (qo)] o z qo σ [2] (kx_balance σ kind what) (fun v => v = (k_balance σ kind what)) σ 2 12 := by
  unfold lW
  refine lw_ofWH (cc := cL_balance) (maxL := 5) (ret := some .int) (hh := [(0, 9, 12, 15)]) (by decide) rfl ?_
  intro p e s m args below meth c s₁ B hml hv
  obtain ⟨rfl, ⟨⟨d, w, hP, hWz⟩, v0, f, hq, hf0⟩, hK, hZ, hN⟩ := hv
  have hW0 := wOK_z hP hWz
  have hcx := cx_balance l hl0 G ids o z tS tE d w σ kind what
  have hkx := xK_1 (kxK_balance σ kind what)
  obtain ⟨X, hX⟩ : ∃ X : Nat, X = kx_balance σ kind what := ⟨_, rfl⟩
  rw [← hX] at hcx hkx ⊢
  clear hX
  have hx := B.exec
  have hb := B.bytes
  have hr := B.returns
  have hts := atoms_spec (ws := wsL_balance) B.pre
  have hown : s.vm.findClass RL = some m.cls := findClass_of_methodNamed B.named
  have hlocks := B.notSynchronized
  have hT : c.exceptionTable.toList = tableOf [(0, 9, 12, 15)] := vx_table B (hts _ List.mem_cons_self)
  have hS : va_S (lG o z qo) s.heap s.heap [] := va_S.rf
  have hzs : z ≤ s.heap.size := by have q := hq.lt; omega
  have hl := lv_entry ([.ref (o), .int (kind), .int (what), .ref (qo)]) (n := 5) (Nat.le_of_ble_eq_true rfl)
  rw [lg_entry_eq]
  generalize (lg_sl ([.ref (o), .int (kind), .int (what), .ref (qo)]) ++ List.replicate (5 - (lg_sl ([.ref (o), .int (kind), .int (what), .ref (qo)])).length) Slot.unset).toArray = ls at hl ⊢
  have hl : lv_has ls 5 [(0, .ref (o)), (1, .int (kind)), (2, .int (what)), (3, .ref (qo))] := hl
  refine lv_aload_n hx hb dL_balance_0 rfl (lv_at hl 3 rfl) ?_
  refine lv_iconst (v := nI (0)) hx hb dL_balance_1 (by decide) ?_
  refine lv_aload_n hx hb dL_balance_2 rfl (lv_at hl 0 rfl) ?_
  refine lv_iload_n hx hb dL_balance_3 rfl (lv_at hl 1 rfl) ?_
  refine lv_iload_n hx hb dL_balance_4 rfl (lv_at hl 2 rfl) ?_
  refine vx_calll (vx_runV (As := [.int (kind), .int (what)]) (rest := [.int (nI 0), .ref (qo)]) ⟨hx, hb, hml, hown, hts⟩ hcx (cwV 2 hts gL_balance_X5_balance rfl rfl rfl (by decide +kernel) ⟨Nat.le_of_ble_eq_true rfl, Nat.le_of_ble_eq_true rfl⟩) ⟨yPc_blind, va_recv hK (va_P.one hP.main) (ci := 6) (q0 := 0) rfl rfl, fun U hU hW => ⟨rfl, by rw [hU]; exact hP, va_K.moved hW.alike hK, (cST_at hZ hS hU hW.alike).narrow (fun q h => Or.inl h)⟩⟩ rfl rfl hl.1 rfl (lv_room (Nat.le_of_ble_eq_true rfl)) dL_balance_5 ⟨Nat.le_of_ble_eq_true rfl, Nat.le_of_ble_eq_true rfl⟩) hS (fun q _ h => Or.inl h) (fun q h => Or.inl h) (fun q _ h => Or.inl h) (fun E ce q9 u t H1 locs1 ht hvm hpx hbx hz1 hk hS => ?_) (fun r u t H1 locs1 ht hvm hw hB hz1 hk hS => ?_)
  · obtain ⟨rfl, hP1⟩ := hbx
    rw [ht] at hP1
    replace hq := hq.kept (hk _ hq.lt (by show ¬ cpG o z qo; unfold cpG; omega))
    rcases hkx with h | h
    · exact absurd h hpx
    · subst h
      refine vx_catch (own := RL) (name := "java/lang/IllegalArgumentException") (E := xE 2) hown (tableOf []) ⟨0, 9, 12, 15⟩ (tableOf []) hT (fun z9 hz9 => absurd hz9 (List.not_mem_nil)) (by decide) (by decide) (hts _ (List.mem_of_getElem? (i := 1) rfl)) (va_Nw.use (xNW_tab _ (List.mem_of_getElem? (i := 1) rfl)) (hZ.2.2.2.2.1 _ (List.mem_of_getElem? (i := 1) rfl))) hce hcv hcl ?_
      refine lv_astore (lv' := [(4, .ref (q9)), (0, .ref (o)), (1, .int (kind)), (2, .int (what)), (3, .ref (qo))]) hx hb dL_balance_12 hl (by decide) rfl (fun ls hl => ?_)
      refine lv_iconst (v := nI (1)) hx hb dL_balance_14 (by decide) ?_
      exact w_nret (Pic1 := fun H : Heap => lPic G ids o z tE (if 2 = 0 then σ else σ) H ∧ ∃ v, lOut G ids qo v H ∧ (2 = 0 → (fun v => v = (k_balance σ kind what)) v)) (v := nI (1)) hx hb hr hlocks (Nat.le_of_ble_eq_true rfl) (Nat.le_of_ble_eq_true rfl) ⟨by rw [if_neg (by decide)]; exact ⟨d, w, hP1, hWz⟩, f 0, ⟨f, hq, rfl⟩, fun h => absurd h (by decide)⟩ hS dL_balance_15 rfl
  · obtain ⟨hX0, hrv⟩ := hw
    subst hrv
    rw [ht] at hB
    replace hq := hq.kept (hk _ hq.lt (by show ¬ cpG o z qo; unfold cpG; omega))
    clear hcx hkx hk
    subst hX0
    refine x_last (x := (k_balance σ kind what)) hx hb hK hq (Or.inr rfl) hS (i := nI 0) (vp_in_nI (by decide) (by decide)) dL_balance_8 (fun H2 locs2 h9 ho hS => ?_)
    have hP2 := CPic.keepx (n1 := qo) hB (fun y hy e => lw_qo hB hy hqo hzq e) (fun q _ hne => ho.2 q hne)
    refine lv_goto (tgt := 16) hx hb dL_balance_9 (by decide) ?_
    refine lv_iconst (v := nI (0)) hx hb dL_balance_16 (by decide) ?_
    exact w_nret (Pic1 := fun H : Heap => lPic G ids o z tE (if 0 = 0 then σ else σ) H ∧ ∃ v, lOut G ids qo v H ∧ (0 = 0 → (fun v => v = (k_balance σ kind what)) v)) (v := nI (0)) hx hb hr hlocks (Nat.le_of_ble_eq_true rfl) (Nat.le_of_ble_eq_true rfl) ⟨by rw [if_pos rfl]; exact ⟨d, w, hP2, hWz⟩, (k_balance σ kind what), ⟨_, h9, lw_f0⟩, fun _ => rfl⟩ hS dL_balance_17 rfl
theorem kxK_air (σ : Sg) (gas : Int32) : xK [2] (kx_air σ gas) := by
  unfold kx_air
  repeat' first | exact xK_0 | exact xK_Ix (by decide) | exact xK_Rg (by decide) | exact xK_St (by decide) | refine xK_s ?_ ?_
set_option maxHeartbeats 4000000 in
set_option maxRecDepth 100000 in
theorem lc_air (l : Launch) (hl0 : l.stackTraces = false) (G : va_G) (ids : Nat → ClassId) (tS tE o z qo : Nat) (hqo : o + 184 ≤ qo) (hzq : z = qo + 1) (σ : Sg) (gas : Int32) : lW l yL_air wsL_air ({ frames := 8, cells := 1, slots := 6, locals := 143 } : Room) G ids tS tE [.ref (o), .int (gas), .ref (qo)] o z qo σ [2] (kx_air σ gas) (fun v => v = (k_air σ gas)) σ 1 6 := by
  unfold lW
  refine lw_ofWH (cc := cL_air) (maxL := 4) (ret := some .int) (hh := [(0, 8, 11, 15)]) (by decide) rfl ?_
  intro p e s m args below meth c s₁ B hml hv
  obtain ⟨rfl, ⟨⟨d, w, hP, hWz⟩, v0, f, hq, hf0⟩, hK, hZ, hN⟩ := hv
  have hW0 := wOK_z hP hWz
  have hcx := cx_air l hl0 G ids o z tS tE d w σ gas
  have hkx := xK_1 (kxK_air σ gas)
  obtain ⟨X, hX⟩ : ∃ X : Nat, X = kx_air σ gas := ⟨_, rfl⟩
  rw [← hX] at hcx hkx ⊢
  clear hX
  have hx := B.exec
  have hb := B.bytes
  have hr := B.returns
  have hts := atoms_spec (ws := wsL_air) B.pre
  have hown : s.vm.findClass RL = some m.cls := findClass_of_methodNamed B.named
  have hlocks := B.notSynchronized
  have hT : c.exceptionTable.toList = tableOf [(0, 8, 11, 15)] := vx_table B (hts _ List.mem_cons_self)
  have hS : va_S (lG o z qo) s.heap s.heap [] := va_S.rf
  have hzs : z ≤ s.heap.size := by have q := hq.lt; omega
  have hl := lv_entry ([.ref (o), .int (gas), .ref (qo)]) (n := 4) (Nat.le_of_ble_eq_true rfl)
  rw [lg_entry_eq]
  generalize (lg_sl ([.ref (o), .int (gas), .ref (qo)]) ++ List.replicate (4 - (lg_sl ([.ref (o), .int (gas), .ref (qo)])).length) Slot.unset).toArray = ls at hl ⊢
  have hl : lv_has ls 4 [(0, .ref (o)), (1, .int (gas)), (2, .ref (qo))] := hl
  refine lv_aload_n hx hb dL_air_0 rfl (lv_at hl 2 rfl) ?_
  refine lv_iconst (v := nI (0)) hx hb dL_air_1 (by decide) ?_
  refine lv_aload_n hx hb dL_air_2 rfl (lv_at hl 0 rfl) ?_
  refine lv_iload_n hx hb dL_air_3 rfl (lv_at hl 1 rfl) ?_
  refine vx_calll (vx_runV (As := [.int (gas)]) (rest := [.int (nI 0), .ref (qo)]) ⟨hx, hb, hml, hown, hts⟩ hcx (cwV 1 hts gL_air_X5_air rfl rfl rfl (by decide +kernel) ⟨Nat.le_of_ble_eq_true rfl, Nat.le_of_ble_eq_true rfl⟩) ⟨yPc_blind, va_recv hK (va_P.one hP.main) (ci := 6) (q0 := 0) rfl rfl, fun U hU hW => ⟨rfl, by rw [hU]; exact hP, va_K.moved hW.alike hK, (cST_at hZ hS hU hW.alike).narrow (fun q h => Or.inl h)⟩⟩ rfl rfl hl.1 rfl (lv_room (Nat.le_of_ble_eq_true rfl)) dL_air_4 ⟨Nat.le_of_ble_eq_true rfl, Nat.le_of_ble_eq_true rfl⟩) hS (fun q _ h => Or.inl h) (fun q h => Or.inl h) (fun q _ h => Or.inl h) (fun E ce q9 u t H1 locs1 ht hvm hpx hbx hz1 hk hS => ?_) (fun r u t H1 locs1 ht hvm hw hB hz1 hk hS => ?_)
  · obtain ⟨rfl, hP1⟩ := hbx
    rw [ht] at hP1
    replace hq := hq.kept (hk _ hq.lt (by show ¬ cpG o z qo; unfold cpG; omega))
    rcases hkx with h | h
    · exact absurd h hpx
    · subst h
      refine vx_catch (own := RL) (name := "java/lang/IllegalArgumentException") (E := xE 2) hown (tableOf []) ⟨0, 8, 11, 15⟩ (tableOf []) hT (fun z9 hz9 => absurd hz9 (List.not_mem_nil)) (by decide) (by decide) (hts _ (List.mem_of_getElem? (i := 1) rfl)) (va_Nw.use (xNW_tab _ (List.mem_of_getElem? (i := 1) rfl)) (hZ.2.2.2.2.1 _ (List.mem_of_getElem? (i := 1) rfl))) hce hcv hcl ?_
      refine lv_astore_n (lv' := [(3, .ref (q9)), (0, .ref (o)), (1, .int (gas)), (2, .ref (qo))]) hx hb dL_air_11 rfl hl (by decide) rfl (fun ls hl => ?_)
      refine lv_iconst (v := nI (1)) hx hb dL_air_12 (by decide) ?_
      exact w_nret (Pic1 := fun H : Heap => lPic G ids o z tE (if 2 = 0 then σ else σ) H ∧ ∃ v, lOut G ids qo v H ∧ (2 = 0 → (fun v => v = (k_air σ gas)) v)) (v := nI (1)) hx hb hr hlocks (Nat.le_of_ble_eq_true rfl) (Nat.le_of_ble_eq_true rfl) ⟨by rw [if_neg (by decide)]; exact ⟨d, w, hP1, hWz⟩, f 0, ⟨f, hq, rfl⟩, fun h => absurd h (by decide)⟩ hS dL_air_13 rfl
  · obtain ⟨hX0, hrv⟩ := hw
    subst hrv
    rw [ht] at hB
    replace hq := hq.kept (hk _ hq.lt (by show ¬ cpG o z qo; unfold cpG; omega))
    clear hcx hkx hk
    subst hX0
    refine x_last (x := (k_air σ gas)) hx hb hK hq (Or.inr rfl) hS (i := nI 0) (vp_in_nI (by decide) (by decide)) dL_air_7 (fun H2 locs2 h9 ho hS => ?_)
    have hP2 := CPic.keepx (n1 := qo) hB (fun y hy e => lw_qo hB hy hqo hzq e) (fun q _ hne => ho.2 q hne)
    refine lv_goto (tgt := 14) hx hb dL_air_8 (by decide) ?_
    refine lv_iconst (v := nI (0)) hx hb dL_air_14 (by decide) ?_
    exact w_nret (Pic1 := fun H : Heap => lPic G ids o z tE (if 0 = 0 then σ else σ) H ∧ ∃ v, lOut G ids qo v H ∧ (0 = 0 → (fun v => v = (k_air σ gas)) v)) (v := nI (0)) hx hb hr hlocks (Nat.le_of_ble_eq_true rfl) (Nat.le_of_ble_eq_true rfl) ⟨by rw [if_pos rfl]; exact ⟨d, w, hP2, hWz⟩, (k_air σ gas), ⟨_, h9, lw_f0⟩, fun _ => rfl⟩ hS dL_air_15 rfl
