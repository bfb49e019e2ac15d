theorem w_maxN (x : Nat) (h : x < 2 ^ 31 := by omega) : w_max (nI x) (nI 0) = nI x := by
  unfold w_max
  rw [if_neg (nI_nlt (by omega) (by omega))]
theorem w_max1 {h : Nat} (h1 : 1 ≤ h) (h2 : h < 2 ^ 31) : w_max (nI 1) (nI h) = nI h := by
  unfold w_max
  by_cases q : nI 1 < nI h
  · rw [if_pos q]
  · rw [if_neg q]
    have : ¬ 1 < h := fun z => q (nI_lt z h2)
    exact congrArg nI (by omega)
theorem w_minN {x y : Nat} (h : x ≤ y) (hy : y < 2 ^ 31) : w_min (nI x) (nI y) = nI x := by
  unfold w_min
  rw [if_neg (nI_nlt h hy)]
theorem nI_gt0 {x : Nat} (h : 0 < x) (hx : x < 2 ^ 31) : 0 < nI x := nI_lt (a := 0) h hx
theorem z_fit {v : Int32} (h : v = 0 ∨ v = 1) : fits .boolean (.int v) = true := by
  rcases h with h | h <;> subst h <;> decide +kernel
theorem n_shr1 {p : Program} {l : Launch} {e : Env} {R : Room} {s : State} {m : MethodId} {args : Array Value} {below : List Frame} {meth : Method} {c : Code} {H : Heap} {locs : List Loc} {cells slots : Nat} {Q : State → Prop} {cc : ByteArray} {pc : Nat} {ls : Array Slot} {rest : List Value} (hx : p.tables.exec = Jvm.exec) (hb : c.code = cc) {x : Nat} (h : x < 2 ^ 31) (d : decode cc pc = .ok (.ishr, 1)) (k : W p l e R s m args below meth c H locs cells slots Q (F0 m (pc + 1) ls (.int (nI (x / 2)) :: rest))) : W p l e R s m args below meth c H locs cells slots Q (F0 m pc ls (.int (nI 1) :: .int (nI x) :: rest)) :=
  lv_ishr hx hb d (by rw [pk_shrN h (nI 1 &&& 31) 1 (by decide)]; exact k)
set_option maxHeartbeats 4000000 in
set_option maxRecDepth 100000 in
theorem cn_X4_init (l : Launch) (G : va_G) (ids : Nat → ClassId) (tS tE : Nat) (h n0 : Nat) (ex : Int32) : wV l yX4_init wsX4_init ({ frames := 1, cells := 0, slots := 0, locals := 20 } : Room) G ids tS tE [.ref (h), .int (ex)] (fun H : Heap => H.size = n0 ∧ va_at G vwCl (h, .inr (5, [.int (0), .int (0), .int (0), .int (0)])) H) (fun H : Heap => H.size = n0 ∧ va_at G vwCl (h, .inr (5, [.int (nI (5)), .int (ex), .int ((-1000)), .int (nI (400))])) H) (fun q : Nat => q = h) 0 0 := by
  unfold wV
  refine Met.ofW (cc := cX4_init) (maxL := 2) (ret := none) (by decide) rfl ?_
  intro p e s m args below meth c s₁ B hml hv
  obtain ⟨rfl, ⟨hsz, hh⟩, hK, hZ⟩ := hv
  have hx := B.exec
  have hb := B.bytes
  have hr := B.returns
  have hts := atoms_spec (ws := wsX4_init) B.pre
  have hown : s.vm.findClass RX4 = some m.cls := findClass_of_methodNamed B.named
  have hlocks := B.notSynchronized
  have hin2 := (name_of_methodNamed B.named B.method).1
  have hS : va_S (fun q : Nat => q = h) s.heap s.heap [] := va_S.rf
  have hin_wsX40 : ∀ w ∈ wsX40, w ∈ wsX4_init := fun w h => List.mem_cons_of_mem _ (List.mem_append_right _ h)
  have lt_hh : h < n0 := by have q : h < s.heap.size := hh.lt; omega
  have hl := lv_entry ([.ref (h), .int (ex)]) (n := 2) (Nat.le_of_ble_eq_true rfl)
  rw [lg_entry_eq]
  generalize (lg_sl ([.ref (h), .int (ex)]) ++ List.replicate (2 - (lg_sl ([.ref (h), .int (ex)])).length) Slot.unset).toArray = ls at hl ⊢
  have hl : lv_has ls 2 [(0, .ref (h)), (1, .int (ex))] := hl
  refine lv_aload_n hx hb dX4_init_0 rfl (lv_at hl 0 rfl) ?_
  refine W.objInit hx hb hown (hts _ (List.mem_of_getElem? (i := 1) rfl)) (hts _ (List.mem_of_getElem? (i := 2) rfl)) (hts _ (List.mem_of_getElem? (i := 3) rfl)) rfl (by rw [hml]; exact hl.1) rfl dX4_init_1 (Nat.le_of_ble_eq_true rfl) (Nat.le_of_ble_eq_true rfl) ?_
  refine lv_aload_n hx hb dX4_init_4 rfl (lv_at hl 0 rfl) ?_
  refine lv_iconst (v := nI (5)) hx hb dX4_init_5 (by decide) ?_
  refine x_put (C := RX4) (T := TX4) (N := 4) (ci := 5) (fs := [.int (0), .int (0), .int (0), .int (0)]) (ty := .int) (v := .int (nI (5))) hx hb hts hin_wsX40 tyX4 tyX4_ok nmX4 hown hK hh (by first | exact rfl | (show h = h; omega)) hS rfl 0 (by decide) (index := 9) (List.mem_of_getElem? (i := 4) rfl) rfl (by decide +kernel) rfl rfl (Nat.le_of_ble_eq_true rfl) dX4_init_6 (fun H locs h9 ho hS => ?_)
  replace hh : va_at G vwCl (h, .inr (5, [.int (nI (5)), .int (0), .int (0), .int (0)])) H := h9
  replace hsz : H.size = n0 := ho.1.trans hsz
  clear ho
  refine lv_aload_n hx hb dX4_init_9 rfl (lv_at hl 0 rfl) ?_
  refine lv_sipush (v := (-1000)) hx hb dX4_init_10 (by decide) ?_
  refine x_put (C := RX4) (T := TX4) (N := 4) (ci := 5) (fs := [.int (nI (5)), .int (0), .int (0), .int (0)]) (ty := .int) (v := .int ((-1000))) hx hb hts hin_wsX40 tyX4 tyX4_ok nmX4 hown hK hh (by first | exact rfl | (show h = h; omega)) hS rfl 2 (by decide) (index := 15) (List.mem_of_getElem? (i := 5) rfl) rfl (by decide +kernel) rfl rfl (Nat.le_of_ble_eq_true rfl) dX4_init_13 (fun H locs h9 ho hS => ?_)
  replace hh : va_at G vwCl (h, .inr (5, [.int (nI (5)), .int (0), .int ((-1000)), .int (0)])) H := h9
  replace hsz : H.size = n0 := ho.1.trans hsz
  clear ho
  refine lv_aload_n hx hb dX4_init_16 rfl (lv_at hl 0 rfl) ?_
  refine lv_sipush (v := nI (400)) hx hb dX4_init_17 (by decide) ?_
  refine x_put (C := RX4) (T := TX4) (N := 4) (ci := 5) (fs := [.int (nI (5)), .int (0), .int ((-1000)), .int (0)]) (ty := .int) (v := .int (nI (400))) hx hb hts hin_wsX40 tyX4 tyX4_ok nmX4 hown hK hh (by first | exact rfl | (show h = h; omega)) hS rfl 3 (by decide) (index := 18) (List.mem_of_getElem? (i := 6) rfl) rfl (by decide +kernel) rfl rfl (Nat.le_of_ble_eq_true rfl) dX4_init_20 (fun H locs h9 ho hS => ?_)
  replace hh : va_at G vwCl (h, .inr (5, [.int (nI (5)), .int (0), .int ((-1000)), .int (nI (400))])) H := h9
  replace hsz : H.size = n0 := ho.1.trans hsz
  clear ho
  refine lv_aload_n hx hb dX4_init_23 rfl (lv_at hl 0 rfl) ?_
  refine lv_iload_n hx hb dX4_init_24 rfl (lv_at hl 1 rfl) ?_
  refine x_put (C := RX4) (T := TX4) (N := 4) (ci := 5) (fs := [.int (nI (5)), .int (0), .int ((-1000)), .int (nI (400))]) (ty := .int) (v := .int (ex)) hx hb hts hin_wsX40 tyX4 tyX4_ok nmX4 hown hK hh (by first | exact rfl | (show h = h; omega)) hS rfl 1 (by decide) (index := 21) (List.mem_of_getElem? (i := 7) rfl) rfl (by decide +kernel) rfl rfl (Nat.le_of_ble_eq_true rfl) dX4_init_25 (fun H locs h9 ho hS => ?_)
  replace hh : va_at G vwCl (h, .inr (5, [.int (nI (5)), .int (ex), .int ((-1000)), .int (nI (400))])) H := h9
  replace hsz : H.size = n0 := ho.1.trans hsz
  clear ho
  exact w_vret (Pic1 := (fun H : Heap => H.size = n0 ∧ va_at G vwCl (h, .inr (5, [.int (nI (5)), .int (ex), .int ((-1000)), .int (nI (400))])) H)) hx hb hr hlocks (Nat.le_of_ble_eq_true rfl) (Nat.le_of_ble_eq_true rfl) ⟨hsz, hh⟩ hS dX4_init_28
set_option maxHeartbeats 4000000 in
set_option maxRecDepth 100000 in
theorem cn_X3_init (l : Launch) (G : va_G) (ids : Nat → ClassId) (tS tE : Nat) (h n0 : Nat) (ce pi ic bu : Int32) (hz : ic = 0 ∨ ic = 1) : wV l yX3_init wsX3_init ({ frames := 1, cells := 0, slots := 0, locals := 20 } : Room) G ids tS tE [.ref (h), .int (ce), .int (pi), .int (ic), .int (bu)] (fun H : Heap => H.size = n0 ∧ va_at G vwCl (h, .inr (4, [.int (0), .int (0), .int (0), .int (0), .int (0)])) H) (fun H : Heap => H.size = n0 ∧ va_at G vwCl (h, .inr (4, [.int (ce), .int (pi), .int (ic), .int (bu), .int (0)])) H) (fun q : Nat => q = h) 0 0 := by
  unfold wV
  refine Met.ofW (cc := cX3_init) (maxL := 5) (ret := none) (by decide) rfl ?_
  intro p e s m args below meth c s₁ B hml hv
  obtain ⟨rfl, ⟨hsz, hh⟩, hK, hZ⟩ := hv
  have hx := B.exec
  have hb := B.bytes
  have hr := B.returns
  have hts := atoms_spec (ws := wsX3_init) B.pre
  have hown : s.vm.findClass RX3 = some m.cls := findClass_of_methodNamed B.named
  have hlocks := B.notSynchronized
  have hin2 := (name_of_methodNamed B.named B.method).1
  have hS : va_S (fun q : Nat => q = h) s.heap s.heap [] := va_S.rf
  have hin_wsX30 : ∀ w ∈ wsX30, w ∈ wsX3_init := fun w h => List.mem_cons_of_mem _ (List.mem_append_right _ h)
  have lt_hh : h < n0 := by have q : h < s.heap.size := hh.lt; omega
  have hl := lv_entry ([.ref (h), .int (ce), .int (pi), .int (ic), .int (bu)]) (n := 5) (Nat.le_of_ble_eq_true rfl)
  rw [lg_entry_eq]
  generalize (lg_sl ([.ref (h), .int (ce), .int (pi), .int (ic), .int (bu)]) ++ List.replicate (5 - (lg_sl ([.ref (h), .int (ce), .int (pi), .int (ic), .int (bu)])).length) Slot.unset).toArray = ls at hl ⊢
  have hl : lv_has ls 5 [(0, .ref (h)), (1, .int (ce)), (2, .int (pi)), (3, .int (ic)), (4, .int (bu))] := hl
  refine lv_aload_n hx hb dX3_init_0 rfl (lv_at hl 0 rfl) ?_
  refine W.objInit hx hb hown (hts _ (List.mem_of_getElem? (i := 1) rfl)) (hts _ (List.mem_of_getElem? (i := 2) rfl)) (hts _ (List.mem_of_getElem? (i := 3) rfl)) rfl (by rw [hml]; exact hl.1) rfl dX3_init_1 (Nat.le_of_ble_eq_true rfl) (Nat.le_of_ble_eq_true rfl) ?_
  refine lv_aload_n hx hb dX3_init_4 rfl (lv_at hl 0 rfl) ?_
  refine lv_iload_n hx hb dX3_init_5 rfl (lv_at hl 1 rfl) ?_
  refine x_putF (C := RX3) (T := TX3) (N := 5) (ci := 4) (fs := [.int (0), .int (0), .int (0), .int (0), .int (0)]) (ty := .int) (v := .int (ce)) hx hb hts hin_wsX30 tyX3 tyX3_ok nmX3 hown hK hh (by first | exact rfl | (show h = h; omega)) hS rfl 0 (by decide) (index := 7) (List.mem_of_getElem? (i := 4) rfl) rfl hin2 rfl (by decide +kernel) rfl rfl (Nat.le_of_ble_eq_true rfl) dX3_init_6 (fun H locs h9 ho hS => ?_)
  replace hh : va_at G vwCl (h, .inr (4, [.int (ce), .int (0), .int (0), .int (0), .int (0)])) H := h9
  replace hsz : H.size = n0 := ho.1.trans hsz
  clear ho
  refine lv_aload_n hx hb dX3_init_9 rfl (lv_at hl 0 rfl) ?_
  refine lv_iload_n hx hb dX3_init_10 rfl (lv_at hl 2 rfl) ?_
  refine x_putF (C := RX3) (T := TX3) (N := 5) (ci := 4) (fs := [.int (ce), .int (0), .int (0), .int (0), .int (0)]) (ty := .int) (v := .int (pi)) hx hb hts hin_wsX30 tyX3 tyX3_ok nmX3 hown hK hh (by first | exact rfl | (show h = h; omega)) hS rfl 1 (by decide) (index := 13) (List.mem_of_getElem? (i := 5) rfl) rfl hin2 rfl (by decide +kernel) rfl rfl (Nat.le_of_ble_eq_true rfl) dX3_init_11 (fun H locs h9 ho hS => ?_)
  replace hh : va_at G vwCl (h, .inr (4, [.int (ce), .int (pi), .int (0), .int (0), .int (0)])) H := h9
  replace hsz : H.size = n0 := ho.1.trans hsz
  clear ho
  refine lv_aload_n hx hb dX3_init_14 rfl (lv_at hl 0 rfl) ?_
  refine lv_iload_n hx hb dX3_init_15 rfl (lv_at hl 3 rfl) ?_
  refine x_putF (C := RX3) (T := TX3) (N := 5) (ci := 4) (fs := [.int (ce), .int (pi), .int (0), .int (0), .int (0)]) (ty := .boolean) (v := .int (ic)) hx hb hts hin_wsX30 tyX3 tyX3_ok nmX3 hown hK hh (by first | exact rfl | (show h = h; omega)) hS rfl 2 (by decide) (index := 16) (List.mem_of_getElem? (i := 6) rfl) rfl hin2 rfl (by decide +kernel) (z_nar hz) (z_fit hz) (Nat.le_of_ble_eq_true rfl) dX3_init_16 (fun H locs h9 ho hS => ?_)
  replace hh : va_at G vwCl (h, .inr (4, [.int (ce), .int (pi), .int (ic), .int (0), .int (0)])) H := h9
  replace hsz : H.size = n0 := ho.1.trans hsz
  clear ho
  refine lv_aload_n hx hb dX3_init_19 rfl (lv_at hl 0 rfl) ?_
  refine lv_iload hx hb dX3_init_20 (lv_at hl 4 rfl) ?_
  refine x_putF (C := RX3) (T := TX3) (N := 5) (ci := 4) (fs := [.int (ce), .int (pi), .int (ic), .int (0), .int (0)]) (ty := .int) (v := .int (bu)) hx hb hts hin_wsX30 tyX3 tyX3_ok nmX3 hown hK hh (by first | exact rfl | (show h = h; omega)) hS rfl 3 (by decide) (index := 20) (List.mem_of_getElem? (i := 7) rfl) rfl hin2 rfl (by decide +kernel) rfl rfl (Nat.le_of_ble_eq_true rfl) dX3_init_22 (fun H locs h9 ho hS => ?_)
  replace hh : va_at G vwCl (h, .inr (4, [.int (ce), .int (pi), .int (ic), .int (bu), .int (0)])) H := h9
  replace hsz : H.size = n0 := ho.1.trans hsz
  clear ho
  exact w_vret (Pic1 := (fun H : Heap => H.size = n0 ∧ va_at G vwCl (h, .inr (4, [.int (ce), .int (pi), .int (ic), .int (bu), .int (0)])) H)) hx hb hr hlocks (Nat.le_of_ble_eq_true rfl) (Nat.le_of_ble_eq_true rfl) ⟨hsz, hh⟩ hS dX3_init_25
set_option maxHeartbeats 4000000 in
set_option maxRecDepth 100000 in
theorem cn_X2_init (l : Launch) (G : va_G) (ids : Nat → ClassId) (tS tE : Nat) (h b n0 : Nat) (ce pi ic bu ti fi am : Int32) (hbh : b ≠ h) : wV l yX2_init wsX2_init ({ frames := 1, cells := 0, slots := 0, locals := 20 } : Room) G ids tS tE [.ref (h), .ref (b), .int (fi), .int (am)] (fun H : Heap => H.size = n0 ∧ va_at G vwCl (h, .inr (3, [.null, .int (0), .int (0), .int (0)])) H ∧ va_at G vwCl (b, .inr (4, [.int (ce), .int (pi), .int (ic), .int (bu), .int (ti)])) H) (fun H : Heap => H.size = n0 ∧ va_at G vwCl (h, .inr (3, [.ref (b), .int (ti), .int (fi), .int (am)])) H ∧ va_at G vwCl (b, .inr (4, [.int (ce), .int (pi), .int (ic), .int (bu), .int (ti)])) H) (fun q : Nat => q = h) 0 0 := by
  unfold wV
  refine Met.ofW (cc := cX2_init) (maxL := 4) (ret := none) (by decide) rfl ?_
  intro p e s m args below meth c s₁ B hml hv
  obtain ⟨rfl, ⟨hsz, hh, hho⟩, hK, hZ⟩ := hv
  have hx := B.exec
  have hb := B.bytes
  have hr := B.returns
  have hts := atoms_spec (ws := wsX2_init) B.pre
  have hown : s.vm.findClass RX2 = some m.cls := findClass_of_methodNamed B.named
  have hlocks := B.notSynchronized
  have hin2 := (name_of_methodNamed B.named B.method).1
  have hS : va_S (fun q : Nat => q = h) s.heap s.heap [] := va_S.rf
  have hin_wsX20 : ∀ w ∈ wsX20, w ∈ wsX2_init := fun w h => List.mem_cons_of_mem _ (List.mem_append_left _ (List.mem_append_right _ h))
  have hin_wsX30 : ∀ w ∈ wsX30, w ∈ wsX2_init := fun w h => List.mem_cons_of_mem _ (List.mem_append_right _ h)
  have lt_hh : h < n0 := by have q : h < s.heap.size := hh.lt; omega
  have lt_hho : b < n0 := by have q : b < s.heap.size := hho.lt; omega
  have hl := lv_entry ([.ref (h), .ref (b), .int (fi), .int (am)]) (n := 4) (Nat.le_of_ble_eq_true rfl)
  rw [lg_entry_eq]
  generalize (lg_sl ([.ref (h), .ref (b), .int (fi), .int (am)]) ++ List.replicate (4 - (lg_sl ([.ref (h), .ref (b), .int (fi), .int (am)])).length) Slot.unset).toArray = ls at hl ⊢
  have hl : lv_has ls 4 [(0, .ref (h)), (1, .ref (b)), (2, .int (fi)), (3, .int (am))] := hl
  refine lv_aload_n hx hb dX2_init_0 rfl (lv_at hl 0 rfl) ?_
  refine W.objInit hx hb hown (hts _ (List.mem_of_getElem? (i := 1) rfl)) (hts _ (List.mem_of_getElem? (i := 2) rfl)) (hts _ (List.mem_of_getElem? (i := 3) rfl)) rfl (by rw [hml]; exact hl.1) rfl dX2_init_1 (Nat.le_of_ble_eq_true rfl) (Nat.le_of_ble_eq_true rfl) ?_
  refine lv_aload_n hx hb dX2_init_4 rfl (lv_at hl 0 rfl) ?_
  refine lv_aload_n hx hb dX2_init_5 rfl (lv_at hl 1 rfl) ?_
  refine x_putF (C := RX2) (T := TX2) (N := 4) (ci := 3) (fs := [.null, .int (0), .int (0), .int (0)]) (ty := (.object "Wakeground$House")) (v := .ref (b)) hx hb hts hin_wsX20 tyX2 tyX2_ok nmX2 hown hK hh (by first | exact rfl | (show h = h; omega)) hS rfl 0 (by decide) (index := 7) (List.mem_of_getElem? (i := 4) rfl) rfl hin2 rfl (by decide +kernel) rfl rfl (Nat.le_of_ble_eq_true rfl) dX2_init_6 (fun H locs h9 ho hS => ?_)
  replace hh : va_at G vwCl (h, .inr (3, [.ref (b), .int (0), .int (0), .int (0)])) H := h9
  replace hho := hho.only ho (show b ≠ h by omega)
  replace hsz : H.size = n0 := ho.1.trans hsz
  clear ho
  refine lv_aload_n hx hb dX2_init_9 rfl (lv_at hl 0 rfl) ?_
  refine lv_aload_n hx hb dX2_init_10 rfl (lv_at hl 1 rfl) ?_
  refine x_get (C := RX3) (T := TX3) (N := 5) (ci := 4) (fs := [.int (ce), .int (pi), .int (ic), .int (bu), .int (ti)]) (v := .int (ti)) hx hb hts hin_wsX30 hown hK hho rfl 4 (by decide) (index := 13) (List.mem_of_getElem? (i := 5) rfl) rfl dX2_init_11 ?_
  refine x_putF (C := RX2) (T := TX2) (N := 4) (ci := 3) (fs := [.ref (b), .int (0), .int (0), .int (0)]) (ty := .int) (v := .int (ti)) hx hb hts hin_wsX20 tyX2 tyX2_ok nmX2 hown hK hh (by first | exact rfl | (show h = h; omega)) hS rfl 1 (by decide) (index := 19) (List.mem_of_getElem? (i := 6) rfl) rfl hin2 rfl (by decide +kernel) rfl rfl (Nat.le_of_ble_eq_true rfl) dX2_init_14 (fun H locs h9 ho hS => ?_)
  replace hh : va_at G vwCl (h, .inr (3, [.ref (b), .int (ti), .int (0), .int (0)])) H := h9
  replace hho := hho.only ho (show b ≠ h by omega)
  replace hsz : H.size = n0 := ho.1.trans hsz
  clear ho
  refine lv_aload_n hx hb dX2_init_17 rfl (lv_at hl 0 rfl) ?_
  refine lv_iload_n hx hb dX2_init_18 rfl (lv_at hl 2 rfl) ?_
  refine x_putF (C := RX2) (T := TX2) (N := 4) (ci := 3) (fs := [.ref (b), .int (ti), .int (0), .int (0)]) (ty := .int) (v := .int (fi)) hx hb hts hin_wsX20 tyX2 tyX2_ok nmX2 hown hK hh (by first | exact rfl | (show h = h; omega)) hS rfl 2 (by decide) (index := 20) (List.mem_of_getElem? (i := 7) rfl) rfl hin2 rfl (by decide +kernel) rfl rfl (Nat.le_of_ble_eq_true rfl) dX2_init_19 (fun H locs h9 ho hS => ?_)
  replace hh : va_at G vwCl (h, .inr (3, [.ref (b), .int (ti), .int (fi), .int (0)])) H := h9
  replace hho := hho.only ho (show b ≠ h by omega)
  replace hsz : H.size = n0 := ho.1.trans hsz
  clear ho
  refine lv_aload_n hx hb dX2_init_22 rfl (lv_at hl 0 rfl) ?_
  refine lv_iload_n hx hb dX2_init_23 rfl (lv_at hl 3 rfl) ?_
  refine x_putF (C := RX2) (T := TX2) (N := 4) (ci := 3) (fs := [.ref (b), .int (ti), .int (fi), .int (0)]) (ty := .int) (v := .int (am)) hx hb hts hin_wsX20 tyX2 tyX2_ok nmX2 hown hK hh (by first | exact rfl | (show h = h; omega)) hS rfl 3 (by decide) (index := 23) (List.mem_of_getElem? (i := 8) rfl) rfl hin2 rfl (by decide +kernel) rfl rfl (Nat.le_of_ble_eq_true rfl) dX2_init_24 (fun H locs h9 ho hS => ?_)
  replace hh : va_at G vwCl (h, .inr (3, [.ref (b), .int (ti), .int (fi), .int (am)])) H := h9
  replace hho := hho.only ho (show b ≠ h by omega)
  replace hsz : H.size = n0 := ho.1.trans hsz
  clear ho
  exact w_vret (Pic1 := (fun H : Heap => H.size = n0 ∧ va_at G vwCl (h, .inr (3, [.ref (b), .int (ti), .int (fi), .int (am)])) H ∧ va_at G vwCl (b, .inr (4, [.int (ce), .int (pi), .int (ic), .int (bu), .int (ti)])) H)) hx hb hr hlocks (Nat.le_of_ble_eq_true rfl) (Nat.le_of_ble_eq_true rfl) ⟨hsz, hh, hho⟩ hS dX2_init_27
set_option maxHeartbeats 4000000 in
set_option maxRecDepth 100000 in
theorem cn_X0_init (l : Launch) (G : va_G) (ids : Nat → ClassId) (tS tE : Nat) (h n0 k : Nat) (ce dr : Int32) (hk : k ≤ 600) : wV l yX0_init wsX0_init ({ frames := 1, cells := 1, slots := 3000, locals := 21 } : Room) G ids tS tE [.ref (h), .int (ce), .int (dr), .int (nI (k))] (fun H : Heap => H.size = n0 ∧ va_at G vwCl (h, .inr (1, [.int (0), .int (0), .int (0), .null, .int (0)])) H) (fun H : Heap => H.size = n0 + 1 ∧ va_at G vwCl (h, .inr (1, [.int (ce), .int (dr), .int (nI (k)), .ref (n0), .int (0)])) H ∧ va_at G vwCl (n0, .inl (ids 0, 5 * (600 - k), .inl (fun _ => 0))) H) (fun q : Nat => q = h) 1 3000 := by
  unfold wV
  refine Met.ofW (cc := cX0_init) (maxL := 4) (ret := none) (by decide) rfl ?_
  intro p e s m args below meth c s₁ B hml hv
  obtain ⟨rfl, ⟨hsz, hh⟩, hK, hZ⟩ := hv
  have hx := B.exec
  have hb := B.bytes
  have hr := B.returns
  have hts := atoms_spec (ws := wsX0_init) B.pre
  have hown : s.vm.findClass RX0 = some m.cls := findClass_of_methodNamed B.named
  have hlocks := B.notSynchronized
  have hin2 := (name_of_methodNamed B.named B.method).1
  have hS : va_S (fun q : Nat => q = h) s.heap s.heap [] := va_S.rf
  have hin_wsX00 : ∀ w ∈ wsX00, w ∈ wsX0_init := fun w h => List.mem_cons_of_mem _ (List.mem_append_right _ h)
  have lt_hh : h < n0 := by have q : h < s.heap.size := hh.lt; omega
  have hl := lv_entry ([.ref (h), .int (ce), .int (dr), .int (nI (k))]) (n := 4) (Nat.le_of_ble_eq_true rfl)
  rw [lg_entry_eq]
  generalize (lg_sl ([.ref (h), .int (ce), .int (dr), .int (nI (k))]) ++ List.replicate (4 - (lg_sl ([.ref (h), .int (ce), .int (dr), .int (nI (k))])).length) Slot.unset).toArray = ls at hl ⊢
  have hl : lv_has ls 4 [(0, .ref (h)), (1, .int (ce)), (2, .int (dr)), (3, .int (nI (k)))] := hl
  refine lv_aload_n hx hb dX0_init_0 rfl (lv_at hl 0 rfl) ?_
  refine W.objInit hx hb hown (hts _ (List.mem_of_getElem? (i := 1) rfl)) (hts _ (List.mem_of_getElem? (i := 2) rfl)) (hts _ (List.mem_of_getElem? (i := 3) rfl)) rfl (by rw [hml]; exact hl.1) rfl dX0_init_1 (Nat.le_of_ble_eq_true rfl) (Nat.le_of_ble_eq_true rfl) ?_
  refine lv_aload_n hx hb dX0_init_4 rfl (lv_at hl 0 rfl) ?_
  refine lv_iload_n hx hb dX0_init_5 rfl (lv_at hl 1 rfl) ?_
  refine x_putF (C := RX0) (T := TX0) (N := 5) (ci := 1) (fs := [.int (0), .int (0), .int (0), .null, .int (0)]) (ty := .int) (v := .int (ce)) hx hb hts hin_wsX00 tyX0 tyX0_ok nmX0 hown hK hh (by first | exact rfl | (show h = h; omega)) hS rfl 0 (by decide) (index := 9) (List.mem_of_getElem? (i := 4) rfl) rfl hin2 rfl (by decide +kernel) rfl rfl (Nat.le_of_ble_eq_true rfl) dX0_init_6 (fun H locs h9 ho hS => ?_)
  replace hh : va_at G vwCl (h, .inr (1, [.int (ce), .int (0), .int (0), .null, .int (0)])) H := h9
  replace hsz : H.size = n0 := ho.1.trans hsz
  clear ho
  refine lv_aload_n hx hb dX0_init_9 rfl (lv_at hl 0 rfl) ?_
  refine lv_iload_n hx hb dX0_init_10 rfl (lv_at hl 2 rfl) ?_
  refine x_putF (C := RX0) (T := TX0) (N := 5) (ci := 1) (fs := [.int (ce), .int (0), .int (0), .null, .int (0)]) (ty := .int) (v := .int (dr)) hx hb hts hin_wsX00 tyX0 tyX0_ok nmX0 hown hK hh (by first | exact rfl | (show h = h; omega)) hS rfl 1 (by decide) (index := 15) (List.mem_of_getElem? (i := 5) rfl) rfl hin2 rfl (by decide +kernel) rfl rfl (Nat.le_of_ble_eq_true rfl) dX0_init_11 (fun H locs h9 ho hS => ?_)
  replace hh : va_at G vwCl (h, .inr (1, [.int (ce), .int (dr), .int (0), .null, .int (0)])) H := h9
  replace hsz : H.size = n0 := ho.1.trans hsz
  clear ho
  refine lv_aload_n hx hb dX0_init_14 rfl (lv_at hl 0 rfl) ?_
  refine lv_iload_n hx hb dX0_init_15 rfl (lv_at hl 3 rfl) ?_
  refine x_putF (C := RX0) (T := TX0) (N := 5) (ci := 1) (fs := [.int (ce), .int (dr), .int (0), .null, .int (0)]) (ty := .int) (v := .int (nI (k))) hx hb hts hin_wsX00 tyX0 tyX0_ok nmX0 hown hK hh (by first | exact rfl | (show h = h; omega)) hS rfl 2 (by decide) (index := 18) (List.mem_of_getElem? (i := 6) rfl) rfl hin2 rfl (by decide +kernel) rfl rfl (Nat.le_of_ble_eq_true rfl) dX0_init_16 (fun H locs h9 ho hS => ?_)
  replace hh : va_at G vwCl (h, .inr (1, [.int (ce), .int (dr), .int (nI (k)), .null, .int (0)])) H := h9
  replace hsz : H.size = n0 := ho.1.trans hsz
  clear ho
  refine lv_aload_n hx hb dX0_init_19 rfl (lv_at hl 0 rfl) ?_
  refine lv_sipush (v := nI (600)) hx hb dX0_init_20 (by decide) ?_
  refine lv_iload_n hx hb dX0_init_23 rfl (lv_at hl 3 rfl) ?_
  refine n_sub (x := 600) (y := k) hx hb (by omega) dX0_init_24 ?_
  refine lv_iconst (v := nI (0)) hx hb dX0_init_25 (by decide) ?_
  refine w_mmax (x := nI (600 - k)) (y := nI (0)) hx hb hml hl.1 hown hts (List.mem_of_getElem? (i := 7) rfl) (List.mem_of_getElem? (i := 8) rfl) (List.mem_of_getElem? (i := 9) rfl) (List.mem_of_getElem? (i := 10) rfl) (Nat.le_of_ble_eq_true rfl) (Nat.le_of_ble_eq_true rfl) (Nat.le_of_ble_eq_true rfl) (Nat.le_of_ble_eq_true rfl) (Nat.le_of_ble_eq_true rfl) dX0_init_26 ?_
  refine W.eq (g2 := F0 m 29 ls (.int (nI (600 - k)) :: .ref (h) :: [])) (congrArg (fun v => F0 m 29 ls (Value.int v :: .ref (h) :: [])) (w_maxN _)) ?_
  refine lv_iconst (v := nI (5)) hx hb dX0_init_29 (by decide) ?_
  refine n_mul (x := 600 - k) (y := 5) hx hb dX0_init_30 ?_
  refine W.eq (g2 := F0 m 31 ls (.int (nI (5 * (600 - k))) :: .ref (h) :: [])) (congrArg (fun v => F0 m 31 ls (Value.int v :: .ref (h) :: [])) (congrArg nI (Nat.mul_comm _ _))) ?_
  refine x_newa (atype := .int) (ty := .int) (cI := ids 0) (N' := 5 * (600 - k)) (a0 := (5 * (600 - k), .inl (fun _ => 0))) (c1 := 1) (s1 := 0 + (5 * (600 - k))) (q := n0) hx hb (hts _ (List.mem_of_getElem? (i := 11) rfl)) rfl hK 0 (cTy_nm hK).1 hS rfl (nI_pos (by omega)) (nI_clamp (by omega)) (by first | decide | (show _ * 4 ≤ _; omega)) (Nat.le_of_ble_eq_true rfl) (by show 0 + (5 * (600 - k)) ≤ 3000; omega) dX0_init_31 rfl rfl hsz (fun H hm hc1 hS => ?_)
  replace hh := hh.kept (hm.2 _ hh.lt)
  replace hsz : H.size = n0 + 1 := by rw [hm.1, hsz]
  clear hm
  refine x_putF (C := RX0) (T := TX0) (N := 5) (ci := 1) (fs := [.int (ce), .int (dr), .int (nI (k)), .null, .int (0)]) (ty := (.array .int)) (v := .ref (n0)) hx hb hts hin_wsX00 tyX0 tyX0_ok nmX0 hown hK hh (by first | exact rfl | (show h = h; omega)) hS rfl 3 (by decide) (index := 27) (List.mem_of_getElem? (i := 12) rfl) rfl hin2 rfl (by decide +kernel) rfl rfl (Nat.le_of_ble_eq_true rfl) dX0_init_33 (fun H locs h9 ho hS => ?_)
  replace hh : va_at G vwCl (h, .inr (1, [.int (ce), .int (dr), .int (nI (k)), .ref (n0), .int (0)])) H := h9
  replace hc1 := hc1.only ho (show n0 ≠ h by omega)
  replace hsz : H.size = n0 + 1 := ho.1.trans hsz
  clear ho
  exact w_vret (Pic1 := (fun H : Heap => H.size = n0 + 1 ∧ va_at G vwCl (h, .inr (1, [.int (ce), .int (dr), .int (nI (k)), .ref (n0), .int (0)])) H ∧ va_at G vwCl (n0, .inl (ids 0, 5 * (600 - k), .inl (fun _ => 0))) H)) hx hb hr hlocks (Nat.le_of_ble_eq_true rfl) (by show 0 + (5 * (600 - k)) ≤ 3000; omega) ⟨hsz, hh, hc1⟩ hS dX0_init_36
set_option maxHeartbeats 4000000 in
set_option maxRecDepth 100000 in
theorem cn_Jxa1e45_init_da8c8 (l : Launch) (G : va_G) (ids : Nat → ClassId) (tS tE : Nat) (h n0 : Nat) : wV l yJxa1e45_init_da8c8 wsJxa1e45_init_da8c8 ({ frames := 1, cells := 0, slots := 0, locals := 20 } : Room) G ids tS tE [.ref (h)] (fun H : Heap => H.size = n0 ∧ va_at G vwCl (h, .inr (0, [.int (0), .null, .int (0)])) H) (fun H : Heap => H.size = n0 ∧ va_at G vwCl (h, .inr (0, [.int (0), .null, .int (0)])) H) (fun q : Nat => q = h) 0 0 := by
  unfold wV
  refine Met.ofW (cc := cJxa1e45_init_da8c8) (maxL := 1) (ret := none) (by decide) rfl ?_
  intro p e s m args below meth c s₁ B hml hv
  obtain ⟨rfl, ⟨hsz, hh⟩, hK, hZ⟩ := hv
  have hx := B.exec
  have hb := B.bytes
  have hr := B.returns
  have hts := atoms_spec (ws := wsJxa1e45_init_da8c8) B.pre
  have hown : s.vm.findClass RJxa1e45 = some m.cls := findClass_of_methodNamed B.named
  have hlocks := B.notSynchronized
  have hin2 := (name_of_methodNamed B.named B.method).1
  have hS : va_S (fun q : Nat => q = h) s.heap s.heap [] := va_S.rf
  have lt_hh : h < n0 := by have q : h < s.heap.size := hh.lt; omega
  have hl := lv_entry ([.ref (h)]) (n := 1) (Nat.le_of_ble_eq_true rfl)
  rw [lg_entry_eq]
  generalize (lg_sl ([.ref (h)]) ++ List.replicate (1 - (lg_sl ([.ref (h)])).length) Slot.unset).toArray = ls at hl ⊢
  have hl : lv_has ls 1 [(0, .ref (h))] := hl
  refine lv_aload_n hx hb dJxa1e45_init_da8c8_0 rfl (lv_at hl 0 rfl) ?_
  refine W.objInit hx hb hown (hts _ (List.mem_of_getElem? (i := 1) rfl)) (hts _ (List.mem_of_getElem? (i := 2) rfl)) (hts _ (List.mem_of_getElem? (i := 3) rfl)) rfl (by rw [hml]; exact hl.1) rfl dJxa1e45_init_da8c8_1 (Nat.le_of_ble_eq_true rfl) (Nat.le_of_ble_eq_true rfl) ?_
  exact w_vret (Pic1 := (fun H : Heap => H.size = n0 ∧ va_at G vwCl (h, .inr (0, [.int (0), .null, .int (0)])) H)) hx hb hr hlocks (Nat.le_of_ble_eq_true rfl) (Nat.le_of_ble_eq_true rfl) ⟨hsz, hh⟩ hS dJxa1e45_init_da8c8_4
set_option maxHeartbeats 4000000 in
set_option maxRecDepth 100000 in
theorem cn_Jxc12de_init_da8c8 (l : Launch) (G : va_G) (ids : Nat → ClassId) (tS tE : Nat) (h n0 : Nat) : wV l yJxc12de_init_da8c8 wsJxc12de_init_da8c8 ({ frames := 2, cells := 0, slots := 0, locals := 40 } : Room) G ids tS tE [.ref (h)] (fun H : Heap => H.size = n0 ∧ va_at G vwCl (h, .inr (0, [.int (0), .null, .int (0)])) H) (fun H : Heap => H.size = n0 ∧ va_at G vwCl (h, .inr (0, [.int (nI (0)), .null, .int (0)])) H) (fun q : Nat => q = h) 0 0 := by
  unfold wV
  refine Met.ofW (cc := cJxc12de_init_da8c8) (maxL := 1) (ret := none) (by decide) rfl ?_
  intro p e s m args below meth c s₁ B hml hv
  obtain ⟨rfl, ⟨hsz, hh⟩, hK, hZ⟩ := hv
  have hx := B.exec
  have hb := B.bytes
  have hr := B.returns
  have hts := atoms_spec (ws := wsJxc12de_init_da8c8) B.pre
  have hown : s.vm.findClass RJxc12de = some m.cls := findClass_of_methodNamed B.named
  have hlocks := B.notSynchronized
  have hin2 := (name_of_methodNamed B.named B.method).1
  have hS : va_S (fun q : Nat => q = h) s.heap s.heap [] := va_S.rf
  have hin_wsJx4a65c0 : ∀ w ∈ wsJx4a65c0, w ∈ wsJxc12de_init_da8c8 := fun w h => List.mem_cons_of_mem _ (List.mem_append_right _ h)
  have lt_hh : h < n0 := by have q : h < s.heap.size := hh.lt; omega
  have hl := lv_entry ([.ref (h)]) (n := 1) (Nat.le_of_ble_eq_true rfl)
  rw [lg_entry_eq]
  generalize (lg_sl ([.ref (h)]) ++ List.replicate (1 - (lg_sl ([.ref (h)])).length) Slot.unset).toArray = ls at hl ⊢
  have hl : lv_has ls 1 [(0, .ref (h))] := hl
  refine lv_aload_n hx hb dJxc12de_init_da8c8_0 rfl (lv_at hl 0 rfl) ?_
  refine w_init (As := []) (rest := []) (c1 := 0) (s1 := 0) (fun q h => by (try dsimp only at h); (try dsimp only); omega) ⟨hx, hb, hml, hown, hts⟩ (cn_Jxa1e45_init_da8c8 l G ids tS tE h n0) (cwI 0 hts gJxc12de_init_da8c8_Jxa1e45_init_da8c8 rfl rfl rfl (hts _ (List.mem_of_getElem? (i := 4) rfl)) (hts _ (List.mem_of_getElem? (i := 2) rfl)) (hts _ (List.mem_of_getElem? (i := 3) rfl)) rfl (by decide +kernel) ⟨Nat.le_of_ble_eq_true rfl, Nat.le_of_ble_eq_true rfl⟩) hK hZ ⟨hsz, hh⟩ hS rfl hl.1 rfl (Nat.le_of_ble_eq_true rfl) dJxc12de_init_da8c8_1 ⟨Nat.le_of_ble_eq_true rfl, (Nat.le_of_ble_eq_true rfl)⟩ rfl rfl (fun H locs hP1 _ hk1 hS => ?_)
  clear hk1
  obtain ⟨hsz, hh⟩ := hP1
  refine lv_aload_n hx hb dJxc12de_init_da8c8_4 rfl (lv_at hl 0 rfl) ?_
  refine lv_iconst (v := nI (0)) hx hb dJxc12de_init_da8c8_5 (by decide) ?_
  refine x_put (C := RJx4a65c) (T := TJx4a65c) (N := 3) (ci := 0) (fs := [.int (0), .null, .int (0)]) (ty := .int) (v := .int (nI (0))) hx hb hts hin_wsJx4a65c0 tyJx4a65c tyJx4a65c_ok nmJx4a65c hown hK hh (by first | exact rfl | (show h = h; omega)) hS rfl 0 (by decide) (index := 7) (List.mem_of_getElem? (i := 1) rfl) rfl (by decide +kernel) rfl rfl (Nat.le_of_ble_eq_true rfl) dJxc12de_init_da8c8_6 (fun H locs h9 ho hS => ?_)
  replace hh : va_at G vwCl (h, .inr (0, [.int (nI (0)), .null, .int (0)])) H := h9
  replace hsz : H.size = n0 := ho.1.trans hsz
  clear ho
  exact w_vret (Pic1 := (fun H : Heap => H.size = n0 ∧ va_at G vwCl (h, .inr (0, [.int (nI (0)), .null, .int (0)])) H)) hx hb hr hlocks (Nat.le_of_ble_eq_true rfl) (Nat.le_of_ble_eq_true rfl) ⟨hsz, hh⟩ hS dJxc12de_init_da8c8_9
set_option maxHeartbeats 4000000 in
set_option maxRecDepth 100000 in
theorem cn_Jx4a65c_init_da8c8 (l : Launch) (G : va_G) (ids : Nat → ClassId) (tS tE : Nat) (h n0 : Nat) : wV l yJx4a65c_init_da8c8 wsJx4a65c_init_da8c8 ({ frames := 3, cells := 0, slots := 0, locals := 60 } : Room) G ids tS tE [.ref (h)] (fun H : Heap => H.size = n0 ∧ va_at G vwCl (h, .inr (0, [.int (0), .null, .int (0)])) H) (fun H : Heap => H.size = n0 ∧ va_at G vwCl (h, .inr (0, [.int (nI (0)), .ref (tE), .int (0)])) H) (fun q : Nat => q = h) 0 0 := by
  unfold wV
  refine Met.ofW (cc := cJx4a65c_init_da8c8) (maxL := 1) (ret := none) (by decide) rfl ?_
  intro p e s m args below meth c s₁ B hml hv
  obtain ⟨rfl, ⟨hsz, hh⟩, hK, hZ⟩ := hv
  have hx := B.exec
  have hb := B.bytes
  have hr := B.returns
  have hts := atoms_spec (ws := wsJx4a65c_init_da8c8) B.pre
  have hown : s.vm.findClass RJx4a65c = some m.cls := findClass_of_methodNamed B.named
  have hlocks := B.notSynchronized
  have hin2 := (name_of_methodNamed B.named B.method).1
  have hS : va_S (fun q : Nat => q = h) s.heap s.heap [] := va_S.rf
  have hin_wsJx4a65c0 : ∀ w ∈ wsJx4a65c0, w ∈ wsJx4a65c_init_da8c8 := fun w h => List.mem_cons_of_mem _ (List.mem_append_right _ h)
  have lt_hh : h < n0 := by have q : h < s.heap.size := hh.lt; omega
  have hl := lv_entry ([.ref (h)]) (n := 1) (Nat.le_of_ble_eq_true rfl)
  rw [lg_entry_eq]
  generalize (lg_sl ([.ref (h)]) ++ List.replicate (1 - (lg_sl ([.ref (h)])).length) Slot.unset).toArray = ls at hl ⊢
  have hl : lv_has ls 1 [(0, .ref (h))] := hl
  refine lv_aload_n hx hb dJx4a65c_init_da8c8_0 rfl (lv_at hl 0 rfl) ?_
  refine w_init (As := []) (rest := []) (c1 := 0) (s1 := 0) (fun q h => by (try dsimp only at h); (try dsimp only); omega) ⟨hx, hb, hml, hown, hts⟩ (cn_Jxc12de_init_da8c8 l G ids tS tE h n0) (cwI 0 hts gJx4a65c_init_da8c8_Jxc12de_init_da8c8 rfl rfl rfl (hts _ (List.mem_of_getElem? (i := 5) rfl)) (hts _ (List.mem_of_getElem? (i := 3) rfl)) (hts _ (List.mem_of_getElem? (i := 4) rfl)) rfl (by decide +kernel) ⟨Nat.le_of_ble_eq_true rfl, Nat.le_of_ble_eq_true rfl⟩) hK hZ ⟨hsz, hh⟩ hS rfl hl.1 rfl (Nat.le_of_ble_eq_true rfl) dJx4a65c_init_da8c8_1 ⟨Nat.le_of_ble_eq_true rfl, (Nat.le_of_ble_eq_true rfl)⟩ rfl rfl (fun H locs hP1 _ hk1 hS => ?_)
  clear hk1
  obtain ⟨hsz, hh⟩ := hP1
  refine lv_aload_n hx hb dJx4a65c_init_da8c8_4 rfl (lv_at hl 0 rfl) ?_
  refine va_gets hx hb hZ.2.1.1 hS hown (hts _ (List.mem_of_getElem? (i := 1) rfl)) (fun _ h => h) dJx4a65c_init_da8c8_5 ?_
  refine x_put (C := RJx4a65c) (T := TJx4a65c) (N := 3) (ci := 0) (fs := [.int (nI (0)), .null, .int (0)]) (ty := (.array (.object "java/lang/Object"))) (v := .ref (tE)) hx hb hts hin_wsJx4a65c0 tyJx4a65c tyJx4a65c_ok nmJx4a65c hown hK hh (by first | exact rfl | (show h = h; omega)) hS rfl 1 (by decide) (index := 9) (List.mem_of_getElem? (i := 2) rfl) rfl (by decide +kernel) rfl rfl (Nat.le_of_ble_eq_true rfl) dJx4a65c_init_da8c8_8 (fun H locs h9 ho hS => ?_)
  replace hh : va_at G vwCl (h, .inr (0, [.int (nI (0)), .ref (tE), .int (0)])) H := h9
  replace hsz : H.size = n0 := ho.1.trans hsz
  clear ho
  exact w_vret (Pic1 := (fun H : Heap => H.size = n0 ∧ va_at G vwCl (h, .inr (0, [.int (nI (0)), .ref (tE), .int (0)])) H)) hx hb hr hlocks (Nat.le_of_ble_eq_true rfl) (Nat.le_of_ble_eq_true rfl) ⟨hsz, hh⟩ hS dJx4a65c_init_da8c8_11
set_option maxHeartbeats 4000000 in
set_option maxRecDepth 100000 in
theorem cn_X1_init (l : Launch) (G : va_G) (ids : Nat → ClassId) (tS tE : Nat) (h n0 : Nat) : wV l yX1_init wsX1_init ({ frames := 2, cells := 6, slots := 25, locals := 41 } : Room) G ids tS tE [.ref (h)] (fun H : Heap => H.size = n0 ∧ va_at G vwCl (h, .inr (2, [.null, .int (0), .int (0), .int (0), .int (0), .int (0), .int (0)])) H) (fun H : Heap => H.size = n0 + 6 ∧ va_at G vwCl (h, .inr (2, [.ref (n0), .int (nI (100)), .int (0), .int (0), .int (nI (2)), .int (0), .int ((-1))])) H ∧ va_at G vwCl (n0, .inl (ids 4, 5, .inr (.inr (.inr (.inr (va_up (va_up (va_up (va_up (va_up (fun _ => none) 0 (some (n0 + 1))) 1 (some (n0 + 2))) 2 (some (n0 + 3))) 3 (some (n0 + 4))) 4 (some (n0 + 5)))))))) H ∧ va_at G vwCl (n0 + 1, .inr (5, [.int (nI (5)), .int (nI (0)), .int ((-1000)), .int (nI (400))])) H ∧ va_at G vwCl (n0 + 2, .inr (5, [.int (nI (5)), .int (nI (2)), .int ((-1000)), .int (nI (400))])) H ∧ va_at G vwCl (n0 + 3, .inr (5, [.int (nI (5)), .int (nI (3)), .int ((-1000)), .int (nI (400))])) H ∧ va_at G vwCl (n0 + 4, .inr (5, [.int (nI (5)), .int (nI (2)), .int ((-1000)), .int (nI (400))])) H ∧ va_at G vwCl (n0 + 5, .inr (5, [.int (nI (5)), .int (nI (0)), .int ((-1000)), .int (nI (400))])) H) (fun q : Nat => q = h ∨ n0 ≤ q) 6 25 := by
  unfold wV
  refine Met.ofW (cc := cX1_init) (maxL := 1) (ret := none) (by decide) rfl ?_
  intro p e s m args below meth c s₁ B hml hv
  obtain ⟨rfl, ⟨hsz, hh⟩, hK, hZ⟩ := hv
  have hx := B.exec
  have hb := B.bytes
  have hr := B.returns
  have hts := atoms_spec (ws := wsX1_init) B.pre
  have hown : s.vm.findClass RX1 = some m.cls := findClass_of_methodNamed B.named
  have hlocks := B.notSynchronized
  have hin2 := (name_of_methodNamed B.named B.method).1
  have hS : va_S (fun q : Nat => q = h ∨ n0 ≤ q) s.heap s.heap [] := va_S.rf
  have hin_wsX40 : ∀ w ∈ wsX40, w ∈ wsX1_init := fun w h => List.mem_cons_of_mem _ (List.mem_append_left _ (List.mem_append_right _ h))
  have hin_wsX10 : ∀ w ∈ wsX10, w ∈ wsX1_init := fun w h => List.mem_cons_of_mem _ (List.mem_append_right _ h)
  have lt_hh : h < n0 := by have q : h < s.heap.size := hh.lt; omega
  have hl := lv_entry ([.ref (h)]) (n := 1) (Nat.le_of_ble_eq_true rfl)
  rw [lg_entry_eq]
  generalize (lg_sl ([.ref (h)]) ++ List.replicate (1 - (lg_sl ([.ref (h)])).length) Slot.unset).toArray = ls at hl ⊢
  have hl : lv_has ls 1 [(0, .ref (h))] := hl
  refine lv_aload_n hx hb dX1_init_0 rfl (lv_at hl 0 rfl) ?_
  refine W.objInit hx hb hown (hts _ (List.mem_of_getElem? (i := 1) rfl)) (hts _ (List.mem_of_getElem? (i := 2) rfl)) (hts _ (List.mem_of_getElem? (i := 3) rfl)) rfl (by rw [hml]; exact hl.1) rfl dX1_init_1 (Nat.le_of_ble_eq_true rfl) (Nat.le_of_ble_eq_true rfl) ?_
  refine lv_aload_n hx hb dX1_init_4 rfl (lv_at hl 0 rfl) ?_
  refine lv_iconst (v := nI (5)) hx hb dX1_init_5 (by decide) ?_
  refine x_newq (cI := ids 4) (N' := 5) (c1 := 1) (s1 := 5) (q := n0) hx hb hown (hts _ (List.mem_of_getElem? (i := 4) rfl)) hZ.2.2.2.2.2.2.2.2 hK 4 rfl hS (nI_pos (by omega)) (nI_clamp (by omega)) (by omega) (Nat.le_of_ble_eq_true rfl) (Nat.le_of_ble_eq_true rfl) dX1_init_6 rfl rfl hsz (fun H hm hc1 hS => ?_)
  replace hh := hh.kept (hm.2 _ hh.lt)
  replace hsz : H.size = n0 + 1 := by rw [hm.1, hsz]
  clear hm
  refine lv_dup hx hb dX1_init_9 rfl ?_
  refine lv_iconst (v := nI (0)) hx hb dX1_init_10 (by decide) ?_
  refine x_new (C := RX4) (T := TX4) (N := 4) (ci := 5) (fs := [.int (0), .int (0), .int (0), .int (0)]) (c1 := 2) (s1 := 9) (q := n0 + 1) hx hb hts hin_wsX40 tyX4 tyX4_ok hown (List.mem_of_getElem? (i := 4) rfl) (List.mem_of_getElem? (i := 5) rfl) (List.mem_of_getElem? (i := 6) rfl) hK hS rfl (fun j hj => by rcases (show j = 0 ∨ j = 1 ∨ j = 2 ∨ j = 3 by omega) with rfl | rfl | rfl | rfl <;> rfl) (Nat.le_of_ble_eq_true rfl) (Nat.le_of_ble_eq_true rfl) dX1_init_11 rfl rfl hsz (fun H hm hc2 hS => ?_)
  replace hh := hh.kept (hm.2 _ hh.lt)
  replace hc1 := hc1.kept (hm.2 _ hc1.lt)
  replace hsz : H.size = n0 + 2 := by rw [hm.1, hsz]
  clear hm
  refine lv_dup hx hb dX1_init_14 rfl ?_
  refine lv_iconst (v := nI (0)) hx hb dX1_init_15 (by decide) ?_
  refine w_init (As := [.int (nI (0))]) (rest := [.ref (n0 + 1), .int (nI (0)), .ref (n0), .ref (n0), .ref (h)]) (c1 := 2) (s1 := 9) (fun q h => by (try dsimp only at h); (try dsimp only); omega) ⟨hx, hb, hml, hown, hts⟩ (cn_X4_init l G ids tS tE (n0 + 1) (n0 + 2) (nI (0))) (cwI 1 hts gX1_init_X4_init rfl rfl rfl (hts _ (List.mem_of_getElem? (i := 6) rfl)) (hts _ (List.mem_of_getElem? (i := 11) rfl)) (hts _ (List.mem_of_getElem? (i := 12) rfl)) rfl (by decide +kernel) ⟨Nat.le_of_ble_eq_true rfl, Nat.le_of_ble_eq_true rfl⟩) hK hZ ⟨hsz, hc2⟩ hS rfl hl.1 rfl (Nat.le_of_ble_eq_true rfl) dX1_init_16 ⟨Nat.le_of_ble_eq_true rfl, (Nat.le_of_ble_eq_true rfl)⟩ rfl rfl (fun H locs hP1 _ hk1 hS => ?_)
  replace hh := hh.kept (hk1 _ hh.lt (by show ¬ (h = n0 + 1); omega))
  replace hc1 := hc1.kept (hk1 _ hc1.lt (by show ¬ (n0 = n0 + 1); omega))
  clear hk1
  obtain ⟨hsz, hc2⟩ := hP1
  refine x_aast (r := (RX4, TX4, 4)) hx hb hK 4 rfl hc1 (by first | exact rfl | (show n0 = h ∨ n0 ≤ n0; omega)) hS hc2 rfl vb_asgS (i := nI (0)) (vp_in_nI (by omega) (by omega)) dX1_init_19 (fun H locs h9 ho hS => ?_)
  rw [nI_clamp (by omega)] at h9
  replace hc1 : va_at G vwCl (n0, .inl (ids 4, 5, .inr (.inr (.inr (.inr (va_up (fun _ => none) 0 (some (n0 + 1)))))))) H := h9
  replace hh := hh.only ho (show h ≠ n0 by omega)
  replace hc2 := hc2.only ho (show n0 + 1 ≠ n0 by omega)
  replace hsz : H.size = n0 + 2 := ho.1.trans hsz
  clear ho
  refine lv_dup hx hb dX1_init_20 rfl ?_
  refine lv_iconst (v := nI (1)) hx hb dX1_init_21 (by decide) ?_
  refine x_new (C := RX4) (T := TX4) (N := 4) (ci := 5) (fs := [.int (0), .int (0), .int (0), .int (0)]) (c1 := 3) (s1 := 13) (q := n0 + 2) hx hb hts hin_wsX40 tyX4 tyX4_ok hown (List.mem_of_getElem? (i := 4) rfl) (List.mem_of_getElem? (i := 5) rfl) (List.mem_of_getElem? (i := 6) rfl) hK hS rfl (fun j hj => by rcases (show j = 0 ∨ j = 1 ∨ j = 2 ∨ j = 3 by omega) with rfl | rfl | rfl | rfl <;> rfl) (Nat.le_of_ble_eq_true rfl) (Nat.le_of_ble_eq_true rfl) dX1_init_22 rfl rfl hsz (fun H hm hc3 hS => ?_)
  replace hh := hh.kept (hm.2 _ hh.lt)
  replace hc1 := hc1.kept (hm.2 _ hc1.lt)
  replace hc2 := hc2.kept (hm.2 _ hc2.lt)
  replace hsz : H.size = n0 + 3 := by rw [hm.1, hsz]
  clear hm
  refine lv_dup hx hb dX1_init_25 rfl ?_
  refine lv_iconst (v := nI (2)) hx hb dX1_init_26 (by decide) ?_
  refine w_init (As := [.int (nI (2))]) (rest := [.ref (n0 + 2), .int (nI (1)), .ref (n0), .ref (n0), .ref (h)]) (c1 := 3) (s1 := 13) (fun q h => by (try dsimp only at h); (try dsimp only); omega) ⟨hx, hb, hml, hown, hts⟩ (cn_X4_init l G ids tS tE (n0 + 2) (n0 + 3) (nI (2))) (cwI 1 hts gX1_init_X4_init rfl rfl rfl (hts _ (List.mem_of_getElem? (i := 6) rfl)) (hts _ (List.mem_of_getElem? (i := 11) rfl)) (hts _ (List.mem_of_getElem? (i := 12) rfl)) rfl (by decide +kernel) ⟨Nat.le_of_ble_eq_true rfl, Nat.le_of_ble_eq_true rfl⟩) hK hZ ⟨hsz, hc3⟩ hS rfl hl.1 rfl (Nat.le_of_ble_eq_true rfl) dX1_init_27 ⟨Nat.le_of_ble_eq_true rfl, (Nat.le_of_ble_eq_true rfl)⟩ rfl rfl (fun H locs hP1 _ hk1 hS => ?_)
  replace hh := hh.kept (hk1 _ hh.lt (by show ¬ (h = n0 + 2); omega))
  replace hc1 := hc1.kept (hk1 _ hc1.lt (by show ¬ (n0 = n0 + 2); omega))
  replace hc2 := hc2.kept (hk1 _ hc2.lt (by show ¬ ((n0 + 1) = n0 + 2); omega))
  clear hk1
  obtain ⟨hsz, hc3⟩ := hP1
  refine x_aast (r := (RX4, TX4, 4)) hx hb hK 4 rfl hc1 (by first | exact rfl | (show n0 = h ∨ n0 ≤ n0; omega)) hS hc3 rfl vb_asgS (i := nI (1)) (vp_in_nI (by omega) (by omega)) dX1_init_30 (fun H locs h9 ho hS => ?_)
  rw [nI_clamp (by omega)] at h9
  replace hc1 : va_at G vwCl (n0, .inl (ids 4, 5, .inr (.inr (.inr (.inr (va_up (va_up (fun _ => none) 0 (some (n0 + 1))) 1 (some (n0 + 2)))))))) H := h9
  replace hh := hh.only ho (show h ≠ n0 by omega)
  replace hc2 := hc2.only ho (show n0 + 1 ≠ n0 by omega)
  replace hc3 := hc3.only ho (show n0 + 2 ≠ n0 by omega)
  replace hsz : H.size = n0 + 3 := ho.1.trans hsz
  clear ho
  refine lv_dup hx hb dX1_init_31 rfl ?_
  refine lv_iconst (v := nI (2)) hx hb dX1_init_32 (by decide) ?_
  refine x_new (C := RX4) (T := TX4) (N := 4) (ci := 5) (fs := [.int (0), .int (0), .int (0), .int (0)]) (c1 := 4) (s1 := 17) (q := n0 + 3) hx hb hts hin_wsX40 tyX4 tyX4_ok hown (List.mem_of_getElem? (i := 4) rfl) (List.mem_of_getElem? (i := 5) rfl) (List.mem_of_getElem? (i := 6) rfl) hK hS rfl (fun j hj => by rcases (show j = 0 ∨ j = 1 ∨ j = 2 ∨ j = 3 by omega) with rfl | rfl | rfl | rfl <;> rfl) (Nat.le_of_ble_eq_true rfl) (Nat.le_of_ble_eq_true rfl) dX1_init_33 rfl rfl hsz (fun H hm hc4 hS => ?_)
  replace hh := hh.kept (hm.2 _ hh.lt)
  replace hc1 := hc1.kept (hm.2 _ hc1.lt)
  replace hc2 := hc2.kept (hm.2 _ hc2.lt)
  replace hc3 := hc3.kept (hm.2 _ hc3.lt)
  replace hsz : H.size = n0 + 4 := by rw [hm.1, hsz]
  clear hm
  refine lv_dup hx hb dX1_init_36 rfl ?_
  refine lv_iconst (v := nI (3)) hx hb dX1_init_37 (by decide) ?_
  refine w_init (As := [.int (nI (3))]) (rest := [.ref (n0 + 3), .int (nI (2)), .ref (n0), .ref (n0), .ref (h)]) (c1 := 4) (s1 := 17) (fun q h => by (try dsimp only at h); (try dsimp only); omega) ⟨hx, hb, hml, hown, hts⟩ (cn_X4_init l G ids tS tE (n0 + 3) (n0 + 4) (nI (3))) (cwI 1 hts gX1_init_X4_init rfl rfl rfl (hts _ (List.mem_of_getElem? (i := 6) rfl)) (hts _ (List.mem_of_getElem? (i := 11) rfl)) (hts _ (List.mem_of_getElem? (i := 12) rfl)) rfl (by decide +kernel) ⟨Nat.le_of_ble_eq_true rfl, Nat.le_of_ble_eq_true rfl⟩) hK hZ ⟨hsz, hc4⟩ hS rfl hl.1 rfl (Nat.le_of_ble_eq_true rfl) dX1_init_38 ⟨Nat.le_of_ble_eq_true rfl, (Nat.le_of_ble_eq_true rfl)⟩ rfl rfl (fun H locs hP1 _ hk1 hS => ?_)
  replace hh := hh.kept (hk1 _ hh.lt (by show ¬ (h = n0 + 3); omega))
  replace hc1 := hc1.kept (hk1 _ hc1.lt (by show ¬ (n0 = n0 + 3); omega))
  replace hc2 := hc2.kept (hk1 _ hc2.lt (by show ¬ ((n0 + 1) = n0 + 3); omega))
  replace hc3 := hc3.kept (hk1 _ hc3.lt (by show ¬ ((n0 + 2) = n0 + 3); omega))
  clear hk1
  obtain ⟨hsz, hc4⟩ := hP1
  refine x_aast (r := (RX4, TX4, 4)) hx hb hK 4 rfl hc1 (by first | exact rfl | (show n0 = h ∨ n0 ≤ n0; omega)) hS hc4 rfl vb_asgS (i := nI (2)) (vp_in_nI (by omega) (by omega)) dX1_init_41 (fun H locs h9 ho hS => ?_)
  rw [nI_clamp (by omega)] at h9
  replace hc1 : va_at G vwCl (n0, .inl (ids 4, 5, .inr (.inr (.inr (.inr (va_up (va_up (va_up (fun _ => none) 0 (some (n0 + 1))) 1 (some (n0 + 2))) 2 (some (n0 + 3)))))))) H := h9
  replace hh := hh.only ho (show h ≠ n0 by omega)
  replace hc2 := hc2.only ho (show n0 + 1 ≠ n0 by omega)
  replace hc3 := hc3.only ho (show n0 + 2 ≠ n0 by omega)
  replace hc4 := hc4.only ho (show n0 + 3 ≠ n0 by omega)
  replace hsz : H.size = n0 + 4 := ho.1.trans hsz
  clear ho
  refine lv_dup hx hb dX1_init_42 rfl ?_
  refine lv_iconst (v := nI (3)) hx hb dX1_init_43 (by decide) ?_
  refine x_new (C := RX4) (T := TX4) (N := 4) (ci := 5) (fs := [.int (0), .int (0), .int (0), .int (0)]) (c1 := 5) (s1 := 21) (q := n0 + 4) hx hb hts hin_wsX40 tyX4 tyX4_ok hown (List.mem_of_getElem? (i := 4) rfl) (List.mem_of_getElem? (i := 5) rfl) (List.mem_of_getElem? (i := 6) rfl) hK hS rfl (fun j hj => by rcases (show j = 0 ∨ j = 1 ∨ j = 2 ∨ j = 3 by omega) with rfl | rfl | rfl | rfl <;> rfl) (Nat.le_of_ble_eq_true rfl) (Nat.le_of_ble_eq_true rfl) dX1_init_44 rfl rfl hsz (fun H hm hc5 hS => ?_)
  replace hh := hh.kept (hm.2 _ hh.lt)
  replace hc1 := hc1.kept (hm.2 _ hc1.lt)
  replace hc2 := hc2.kept (hm.2 _ hc2.lt)
  replace hc3 := hc3.kept (hm.2 _ hc3.lt)
  replace hc4 := hc4.kept (hm.2 _ hc4.lt)
  replace hsz : H.size = n0 + 5 := by rw [hm.1, hsz]
  clear hm
  refine lv_dup hx hb dX1_init_47 rfl ?_
  refine lv_iconst (v := nI (2)) hx hb dX1_init_48 (by decide) ?_
  refine w_init (As := [.int (nI (2))]) (rest := [.ref (n0 + 4), .int (nI (3)), .ref (n0), .ref (n0), .ref (h)]) (c1 := 5) (s1 := 21) (fun q h => by (try dsimp only at h); (try dsimp only); omega) ⟨hx, hb, hml, hown, hts⟩ (cn_X4_init l G ids tS tE (n0 + 4) (n0 + 5) (nI (2))) (cwI 1 hts gX1_init_X4_init rfl rfl rfl (hts _ (List.mem_of_getElem? (i := 6) rfl)) (hts _ (List.mem_of_getElem? (i := 11) rfl)) (hts _ (List.mem_of_getElem? (i := 12) rfl)) rfl (by decide +kernel) ⟨Nat.le_of_ble_eq_true rfl, Nat.le_of_ble_eq_true rfl⟩) hK hZ ⟨hsz, hc5⟩ hS rfl hl.1 rfl (Nat.le_of_ble_eq_true rfl) dX1_init_49 ⟨Nat.le_of_ble_eq_true rfl, (Nat.le_of_ble_eq_true rfl)⟩ rfl rfl (fun H locs hP1 _ hk1 hS => ?_)
  replace hh := hh.kept (hk1 _ hh.lt (by show ¬ (h = n0 + 4); omega))
  replace hc1 := hc1.kept (hk1 _ hc1.lt (by show ¬ (n0 = n0 + 4); omega))
  replace hc2 := hc2.kept (hk1 _ hc2.lt (by show ¬ ((n0 + 1) = n0 + 4); omega))
  replace hc3 := hc3.kept (hk1 _ hc3.lt (by show ¬ ((n0 + 2) = n0 + 4); omega))
  replace hc4 := hc4.kept (hk1 _ hc4.lt (by show ¬ ((n0 + 3) = n0 + 4); omega))
  clear hk1
  obtain ⟨hsz, hc5⟩ := hP1
  refine x_aast (r := (RX4, TX4, 4)) hx hb hK 4 rfl hc1 (by first | exact rfl | (show n0 = h ∨ n0 ≤ n0; omega)) hS hc5 rfl vb_asgS (i := nI (3)) (vp_in_nI (by omega) (by omega)) dX1_init_52 (fun H locs h9 ho hS => ?_)
  rw [nI_clamp (by omega)] at h9
  replace hc1 : va_at G vwCl (n0, .inl (ids 4, 5, .inr (.inr (.inr (.inr (va_up (va_up (va_up (va_up (fun _ => none) 0 (some (n0 + 1))) 1 (some (n0 + 2))) 2 (some (n0 + 3))) 3 (some (n0 + 4)))))))) H := h9
  replace hh := hh.only ho (show h ≠ n0 by omega)
  replace hc2 := hc2.only ho (show n0 + 1 ≠ n0 by omega)
  replace hc3 := hc3.only ho (show n0 + 2 ≠ n0 by omega)
  replace hc4 := hc4.only ho (show n0 + 3 ≠ n0 by omega)
  replace hc5 := hc5.only ho (show n0 + 4 ≠ n0 by omega)
  replace hsz : H.size = n0 + 5 := ho.1.trans hsz
  clear ho
  refine lv_dup hx hb dX1_init_53 rfl ?_
  refine lv_iconst (v := nI (4)) hx hb dX1_init_54 (by decide) ?_
  refine x_new (C := RX4) (T := TX4) (N := 4) (ci := 5) (fs := [.int (0), .int (0), .int (0), .int (0)]) (c1 := 6) (s1 := 25) (q := n0 + 5) hx hb hts hin_wsX40 tyX4 tyX4_ok hown (List.mem_of_getElem? (i := 4) rfl) (List.mem_of_getElem? (i := 5) rfl) (List.mem_of_getElem? (i := 6) rfl) hK hS rfl (fun j hj => by rcases (show j = 0 ∨ j = 1 ∨ j = 2 ∨ j = 3 by omega) with rfl | rfl | rfl | rfl <;> rfl) (Nat.le_of_ble_eq_true rfl) (Nat.le_of_ble_eq_true rfl) dX1_init_55 rfl rfl hsz (fun H hm hc6 hS => ?_)
  replace hh := hh.kept (hm.2 _ hh.lt)
  replace hc1 := hc1.kept (hm.2 _ hc1.lt)
  replace hc2 := hc2.kept (hm.2 _ hc2.lt)
  replace hc3 := hc3.kept (hm.2 _ hc3.lt)
  replace hc4 := hc4.kept (hm.2 _ hc4.lt)
  replace hc5 := hc5.kept (hm.2 _ hc5.lt)
  replace hsz : H.size = n0 + 6 := by rw [hm.1, hsz]
  clear hm
  refine lv_dup hx hb dX1_init_58 rfl ?_
  refine lv_iconst (v := nI (0)) hx hb dX1_init_59 (by decide) ?_
  refine w_init (As := [.int (nI (0))]) (rest := [.ref (n0 + 5), .int (nI (4)), .ref (n0), .ref (n0), .ref (h)]) (c1 := 6) (s1 := 25) (fun q h => by (try dsimp only at h); (try dsimp only); omega) ⟨hx, hb, hml, hown, hts⟩ (cn_X4_init l G ids tS tE (n0 + 5) (n0 + 6) (nI (0))) (cwI 1 hts gX1_init_X4_init rfl rfl rfl (hts _ (List.mem_of_getElem? (i := 6) rfl)) (hts _ (List.mem_of_getElem? (i := 11) rfl)) (hts _ (List.mem_of_getElem? (i := 12) rfl)) rfl (by decide +kernel) ⟨Nat.le_of_ble_eq_true rfl, Nat.le_of_ble_eq_true rfl⟩) hK hZ ⟨hsz, hc6⟩ hS rfl hl.1 rfl (Nat.le_of_ble_eq_true rfl) dX1_init_60 ⟨Nat.le_of_ble_eq_true rfl, (Nat.le_of_ble_eq_true rfl)⟩ rfl rfl (fun H locs hP1 _ hk1 hS => ?_)
  replace hh := hh.kept (hk1 _ hh.lt (by show ¬ (h = n0 + 5); omega))
  replace hc1 := hc1.kept (hk1 _ hc1.lt (by show ¬ (n0 = n0 + 5); omega))
  replace hc2 := hc2.kept (hk1 _ hc2.lt (by show ¬ ((n0 + 1) = n0 + 5); omega))
  replace hc3 := hc3.kept (hk1 _ hc3.lt (by show ¬ ((n0 + 2) = n0 + 5); omega))
  replace hc4 := hc4.kept (hk1 _ hc4.lt (by show ¬ ((n0 + 3) = n0 + 5); omega))
  replace hc5 := hc5.kept (hk1 _ hc5.lt (by show ¬ ((n0 + 4) = n0 + 5); omega))
  clear hk1
  obtain ⟨hsz, hc6⟩ := hP1
  refine x_aast (r := (RX4, TX4, 4)) hx hb hK 4 rfl hc1 (by first | exact rfl | (show n0 = h ∨ n0 ≤ n0; omega)) hS hc6 rfl vb_asgS (i := nI (4)) (vp_in_nI (by omega) (by omega)) dX1_init_63 (fun H locs h9 ho hS => ?_)
  rw [nI_clamp (by omega)] at h9
  replace hc1 : va_at G vwCl (n0, .inl (ids 4, 5, .inr (.inr (.inr (.inr (va_up (va_up (va_up (va_up (va_up (fun _ => none) 0 (some (n0 + 1))) 1 (some (n0 + 2))) 2 (some (n0 + 3))) 3 (some (n0 + 4))) 4 (some (n0 + 5)))))))) H := h9
  replace hh := hh.only ho (show h ≠ n0 by omega)
  replace hc2 := hc2.only ho (show n0 + 1 ≠ n0 by omega)
  replace hc3 := hc3.only ho (show n0 + 2 ≠ n0 by omega)
  replace hc4 := hc4.only ho (show n0 + 3 ≠ n0 by omega)
  replace hc5 := hc5.only ho (show n0 + 4 ≠ n0 by omega)
  replace hc6 := hc6.only ho (show n0 + 5 ≠ n0 by omega)
  replace hsz : H.size = n0 + 6 := ho.1.trans hsz
  clear ho
  refine x_putF (C := RX1) (T := TX1) (N := 7) (ci := 2) (fs := [.null, .int (0), .int (0), .int (0), .int (0), .int (0), .int (0)]) (ty := (.array (.object "Wakeground$Layer"))) (v := .ref (n0)) hx hb hts hin_wsX10 tyX1 tyX1_ok nmX1 hown hK hh (by first | exact rfl | (show h = h ∨ n0 ≤ h; omega)) hS rfl 0 (by decide) (index := 14) (List.mem_of_getElem? (i := 7) rfl) rfl hin2 rfl (by decide +kernel) rfl rfl (Nat.le_of_ble_eq_true rfl) dX1_init_64 (fun H locs h9 ho hS => ?_)
  replace hh : va_at G vwCl (h, .inr (2, [.ref (n0), .int (0), .int (0), .int (0), .int (0), .int (0), .int (0)])) H := h9
  replace hc1 := hc1.only ho (show n0 ≠ h by omega)
  replace hc2 := hc2.only ho (show n0 + 1 ≠ h by omega)
  replace hc3 := hc3.only ho (show n0 + 2 ≠ h by omega)
  replace hc4 := hc4.only ho (show n0 + 3 ≠ h by omega)
  replace hc5 := hc5.only ho (show n0 + 4 ≠ h by omega)
  replace hc6 := hc6.only ho (show n0 + 5 ≠ h by omega)
  replace hsz : H.size = n0 + 6 := ho.1.trans hsz
  clear ho
  refine lv_aload_n hx hb dX1_init_67 rfl (lv_at hl 0 rfl) ?_
  refine lv_bipush (v := nI (100)) hx hb dX1_init_68 (by decide) ?_
  refine x_put (C := RX1) (T := TX1) (N := 7) (ci := 2) (fs := [.ref (n0), .int (0), .int (0), .int (0), .int (0), .int (0), .int (0)]) (ty := .int) (v := .int (nI (100))) hx hb hts hin_wsX10 tyX1 tyX1_ok nmX1 hown hK hh (by first | exact rfl | (show h = h ∨ n0 ≤ h; omega)) hS rfl 1 (by decide) (index := 20) (List.mem_of_getElem? (i := 8) rfl) rfl (by decide +kernel) rfl rfl (Nat.le_of_ble_eq_true rfl) dX1_init_70 (fun H locs h9 ho hS => ?_)
  replace hh : va_at G vwCl (h, .inr (2, [.ref (n0), .int (nI (100)), .int (0), .int (0), .int (0), .int (0), .int (0)])) H := h9
  replace hc1 := hc1.only ho (show n0 ≠ h by omega)
  replace hc2 := hc2.only ho (show n0 + 1 ≠ h by omega)
  replace hc3 := hc3.only ho (show n0 + 2 ≠ h by omega)
  replace hc4 := hc4.only ho (show n0 + 3 ≠ h by omega)
  replace hc5 := hc5.only ho (show n0 + 4 ≠ h by omega)
  replace hc6 := hc6.only ho (show n0 + 5 ≠ h by omega)
  replace hsz : H.size = n0 + 6 := ho.1.trans hsz
  clear ho
  refine lv_aload_n hx hb dX1_init_73 rfl (lv_at hl 0 rfl) ?_
  refine lv_iconst (v := nI (2)) hx hb dX1_init_74 (by decide) ?_
  refine x_put (C := RX1) (T := TX1) (N := 7) (ci := 2) (fs := [.ref (n0), .int (nI (100)), .int (0), .int (0), .int (0), .int (0), .int (0)]) (ty := .int) (v := .int (nI (2))) hx hb hts hin_wsX10 tyX1 tyX1_ok nmX1 hown hK hh (by first | exact rfl | (show h = h ∨ n0 ≤ h; omega)) hS rfl 4 (by decide) (index := 24) (List.mem_of_getElem? (i := 9) rfl) rfl (by decide +kernel) rfl rfl (Nat.le_of_ble_eq_true rfl) dX1_init_75 (fun H locs h9 ho hS => ?_)
  replace hh : va_at G vwCl (h, .inr (2, [.ref (n0), .int (nI (100)), .int (0), .int (0), .int (nI (2)), .int (0), .int (0)])) H := h9
  replace hc1 := hc1.only ho (show n0 ≠ h by omega)
  replace hc2 := hc2.only ho (show n0 + 1 ≠ h by omega)
  replace hc3 := hc3.only ho (show n0 + 2 ≠ h by omega)
  replace hc4 := hc4.only ho (show n0 + 3 ≠ h by omega)
  replace hc5 := hc5.only ho (show n0 + 4 ≠ h by omega)
  replace hc6 := hc6.only ho (show n0 + 5 ≠ h by omega)
  replace hsz : H.size = n0 + 6 := ho.1.trans hsz
  clear ho
  refine lv_aload_n hx hb dX1_init_78 rfl (lv_at hl 0 rfl) ?_
  refine lv_iconst (v := (-1)) hx hb dX1_init_79 (by decide) ?_
  refine x_put (C := RX1) (T := TX1) (N := 7) (ci := 2) (fs := [.ref (n0), .int (nI (100)), .int (0), .int (0), .int (nI (2)), .int (0), .int (0)]) (ty := .int) (v := .int ((-1))) hx hb hts hin_wsX10 tyX1 tyX1_ok nmX1 hown hK hh (by first | exact rfl | (show h = h ∨ n0 ≤ h; omega)) hS rfl 6 (by decide) (index := 27) (List.mem_of_getElem? (i := 10) rfl) rfl (by decide +kernel) rfl rfl (Nat.le_of_ble_eq_true rfl) dX1_init_80 (fun H locs h9 ho hS => ?_)
  replace hh : va_at G vwCl (h, .inr (2, [.ref (n0), .int (nI (100)), .int (0), .int (0), .int (nI (2)), .int (0), .int ((-1))])) H := h9
  replace hc1 := hc1.only ho (show n0 ≠ h by omega)
  replace hc2 := hc2.only ho (show n0 + 1 ≠ h by omega)
  replace hc3 := hc3.only ho (show n0 + 2 ≠ h by omega)
  replace hc4 := hc4.only ho (show n0 + 3 ≠ h by omega)
  replace hc5 := hc5.only ho (show n0 + 4 ≠ h by omega)
  replace hc6 := hc6.only ho (show n0 + 5 ≠ h by omega)
  replace hsz : H.size = n0 + 6 := ho.1.trans hsz
  clear ho
  exact w_vret (Pic1 := (fun H : Heap => H.size = n0 + 6 ∧ va_at G vwCl (h, .inr (2, [.ref (n0), .int (nI (100)), .int (0), .int (0), .int (nI (2)), .int (0), .int ((-1))])) H ∧ va_at G vwCl (n0, .inl (ids 4, 5, .inr (.inr (.inr (.inr (va_up (va_up (va_up (va_up (va_up (fun _ => none) 0 (some (n0 + 1))) 1 (some (n0 + 2))) 2 (some (n0 + 3))) 3 (some (n0 + 4))) 4 (some (n0 + 5)))))))) H ∧ va_at G vwCl (n0 + 1, .inr (5, [.int (nI (5)), .int (nI (0)), .int ((-1000)), .int (nI (400))])) H ∧ va_at G vwCl (n0 + 2, .inr (5, [.int (nI (5)), .int (nI (2)), .int ((-1000)), .int (nI (400))])) H ∧ va_at G vwCl (n0 + 3, .inr (5, [.int (nI (5)), .int (nI (3)), .int ((-1000)), .int (nI (400))])) H ∧ va_at G vwCl (n0 + 4, .inr (5, [.int (nI (5)), .int (nI (2)), .int ((-1000)), .int (nI (400))])) H ∧ va_at G vwCl (n0 + 5, .inr (5, [.int (nI (5)), .int (nI (0)), .int ((-1000)), .int (nI (400))])) H)) hx hb hr hlocks (Nat.le_of_ble_eq_true rfl) (Nat.le_of_ble_eq_true rfl) ⟨hsz, hh, hc1, hc2, hc3, hc4, hc5, hc6⟩ hS dX1_init_83
