set_option maxHeartbeats 4000000 in
set_option maxRecDepth 100000 in
theorem cn_J8_newLength_cabcc (l : Launch) (G : va_G) (ids : Nat → ClassId) (tS tE : Nat) (n0 k h : Nat) (hk : k ≤ 100) (hh : 1 ≤ h ∧ h ≤ 100) : wI l yJ8_newLength_cabcc wsJ8_newLength_cabcc ({ frames := 1, cells := 0, slots := 0, locals := 21 } : Room) G ids tS tE [.int (nI (k)), .int (nI (1)), .int (nI (h))] (fun H : Heap => H.size = n0) (nI (k + h)) (fun H : Heap => H.size = n0) (fun _ : Nat => False) 0 0 := by
  unfold wI
  refine Met.ofW (cc := cJ8_newLength_cabcc) (maxL := 4) (ret := (some .int)) (by decide) rfl ?_
  intro p e s m args below meth c s₁ B hml hv
  obtain ⟨rfl, hsz, hK, hZ⟩ := hv
  have hx := B.exec
  have hb := B.bytes
  have hr := B.returns
  have hts := atoms_spec (ws := wsJ8_newLength_cabcc) B.pre
  have hown : s.vm.findClass RJ8 = some m.cls := findClass_of_methodNamed B.named
  have hlocks := B.notSynchronized
  have hin2 := (name_of_methodNamed B.named B.method).1
  have hS : va_S (fun _ : Nat => False) s.heap s.heap [] := va_S.rf
  have hl := lv_entry ([.int (nI (k)), .int (nI (1)), .int (nI (h))]) (n := 4) (Nat.le_of_ble_eq_true rfl)
  rw [lg_entry_eq]
  generalize (lg_sl ([.int (nI (k)), .int (nI (1)), .int (nI (h))]) ++ List.replicate (4 - (lg_sl ([.int (nI (k)), .int (nI (1)), .int (nI (h))])).length) Slot.unset).toArray = ls at hl ⊢
  have hl : lv_has ls 4 [(0, .int (nI (k))), (1, .int (nI (1))), (2, .int (nI (h)))] := hl
  refine lv_iload_n hx hb dJ8_newLength_cabcc_0 rfl (lv_at hl 0 rfl) ?_
  refine lv_iload_n hx hb dJ8_newLength_cabcc_1 rfl (lv_at hl 1 rfl) ?_
  refine lv_iload_n hx hb dJ8_newLength_cabcc_2 rfl (lv_at hl 2 rfl) ?_
  refine w_mmax (x := nI (1)) (y := nI (h)) hx hb hml hl.1 hown hts (List.mem_of_getElem? (i := 1) rfl) (List.mem_of_getElem? (i := 2) rfl) (List.mem_of_getElem? (i := 3) rfl) (List.mem_of_getElem? (i := 4) rfl) (Nat.le_of_ble_eq_true rfl) (Nat.le_of_ble_eq_true rfl) (Nat.le_of_ble_eq_true rfl) (Nat.le_of_ble_eq_true rfl) (Nat.le_of_ble_eq_true rfl) dJ8_newLength_cabcc_3 ?_
  refine W.eq (g2 := F0 m 6 ls (.int (nI (h)) :: .int (nI (k)) :: [])) (congrArg (fun v => F0 m 6 ls (Value.int v :: .int (nI (k)) :: [])) (w_max1 hh.1 (by omega))) ?_
  refine n_add (x := k) (y := h) hx hb dJ8_newLength_cabcc_6 ?_
  refine lv_istore_n (lv' := [(3, .int (nI (k + h))), (0, .int (nI (k))), (1, .int (nI (1))), (2, .int (nI (h)))]) hx hb dJ8_newLength_cabcc_7 rfl hl (by decide) rfl (fun ls hl => ?_)
  refine lv_iconst (v := nI (0)) hx hb dJ8_newLength_cabcc_8 (by decide) ?_
  refine lv_iload_n hx hb dJ8_newLength_cabcc_9 rfl (lv_at hl 0 rfl) ?_
  refine n_icmp_ge (x := 0) (y := k + h) (tgt := 21) hx hb (by omega) (by omega) dJ8_newLength_cabcc_10 (by decide) (fun c_1 => absurd c_1 (by omega)) (fun c_1 => ?_)
  refine lv_iload_n hx hb dJ8_newLength_cabcc_13 rfl (lv_at hl 0 rfl) ?_
  refine lv_ldc (own := RJ8) (v := nI 2147483639) hx hb hown (hts _ (List.mem_of_getElem? (i := 5) rfl)) dJ8_newLength_cabcc_14 ?_
  refine n_icmp_gt (x := k + h) (y := 2147483639) (tgt := 21) hx hb (by omega) (by omega) dJ8_newLength_cabcc_16 (by decide) (fun c_2 => absurd c_2 (by omega)) (fun c_2 => ?_)
  refine lv_iload_n hx hb dJ8_newLength_cabcc_19 rfl (lv_at hl 0 rfl) ?_
  exact w_nret (Pic1 := (fun H : Heap => H.size = n0)) (v := nI (k + h)) hx hb hr hlocks (Nat.le_of_ble_eq_true rfl) (Nat.le_of_ble_eq_true rfl) hsz hS dJ8_newLength_cabcc_20 rfl
set_option maxHeartbeats 4000000 in
set_option maxRecDepth 100000 in
theorem cn_growI_a (l : Launch) (G : va_G) (ids : Nat → ClassId) (tS tE : Nat) (b n0 : Nat) (mc : Int32) : wR l yJx4a65c_grow_92f84 wsJx4a65c_grow_92f84 ({ frames := 1, cells := 1, slots := 10, locals := 21 } : Room) G ids tS tE [.ref (b), .int (nI (1))] (fun H : Heap => H.size = n0 ∧ va_at G vwCl (b, .inr (0, [.int (mc), .ref (tE), .int (nI (0))])) H) (n0) (fun H : Heap => H.size = n0 + 1 ∧ va_at G vwCl (b, .inr (0, [.int (mc), .ref (n0), .int (nI (0))])) H ∧ va_at G vwCl (n0, .inl (ids 5, 10, .inr (.inr (.inr (.inr (fun _ => none)))))) H) (fun q : Nat => q = b ∨ n0 ≤ q) 1 10 := by
  unfold wR
  refine Met.ofW (cc := cJx4a65c_grow_92f84) (maxL := 4) (ret := (some (.array (.object "java/lang/Object")))) (by decide) rfl ?_
  intro p e s m args below meth c s₁ B hml hv
  obtain ⟨rfl, ⟨hsz, hb_⟩, hK, hZ⟩ := hv
  have hx := B.exec
  have hb := B.bytes
  have hr := B.returns
  have hts := atoms_spec (ws := wsJx4a65c_grow_92f84) B.pre
  have hown : s.vm.findClass RJx4a65c = some m.cls := findClass_of_methodNamed B.named
  have hlocks := B.notSynchronized
  have hin2 := (name_of_methodNamed B.named B.method).1
  have hS : va_S (fun q : Nat => q = b ∨ n0 ≤ q) s.heap s.heap [] := va_S.rf
  have hin_wsJx4a65c0 : ∀ w ∈ wsJx4a65c0, w ∈ wsJx4a65c_grow_92f84 := fun w h => List.mem_cons_of_mem _ (List.mem_append_right _ h)
  have lt_hb_ : b < n0 := by have q : b < s.heap.size := hb_.lt; omega
  have hl := lv_entry ([.ref (b), .int (nI (1))]) (n := 4) (Nat.le_of_ble_eq_true rfl)
  rw [lg_entry_eq]
  generalize (lg_sl ([.ref (b), .int (nI (1))]) ++ List.replicate (4 - (lg_sl ([.ref (b), .int (nI (1))])).length) Slot.unset).toArray = ls at hl ⊢
  have hl : lv_has ls 4 [(0, .ref (b)), (1, .int (nI (1)))] := hl
  refine lv_aload_n hx hb dJx4a65c_grow_92f84_0 rfl (lv_at hl 0 rfl) ?_
  refine x_get (C := RJx4a65c) (T := TJx4a65c) (N := 3) (ci := 0) (fs := [.int (mc), .ref (tE), .int (nI (0))]) (v := .ref (tE)) hx hb hts hin_wsJx4a65c0 hown hK hb_ rfl 1 (by decide) (index := 9) (List.mem_of_getElem? (i := 1) rfl) rfl dJx4a65c_grow_92f84_1 ?_
  refine va_tlen hx hb hZ.2.1.2 hS (v := nI 0) rfl dJx4a65c_grow_92f84_4 ?_
  refine lv_istore_n (lv' := [(2, .int (nI (0))), (0, .ref (b)), (1, .int (nI (1)))]) hx hb dJx4a65c_grow_92f84_5 rfl hl (by decide) rfl (fun ls hl => ?_)
  refine lv_iload_n hx hb dJx4a65c_grow_92f84_6 rfl (lv_at hl 0 rfl) ?_
  refine lv_if_gt (x := nI (0)) (tgt := 20) hx hb dJx4a65c_grow_92f84_7 (by decide) (fun c_1 => absurd c_1 (by decide)) (fun c_1 => ?_)
  refine lv_aload_n hx hb dJx4a65c_grow_92f84_10 rfl (lv_at hl 1 rfl) ?_
  refine x_get (C := RJx4a65c) (T := TJx4a65c) (N := 3) (ci := 0) (fs := [.int (mc), .ref (tE), .int (nI (0))]) (v := .ref (tE)) hx hb hts hin_wsJx4a65c0 hown hK hb_ rfl 1 (by decide) (index := 9) (List.mem_of_getElem? (i := 1) rfl) rfl dJx4a65c_grow_92f84_11 ?_
  refine va_gets hx hb hZ.2.1.1 hS hown (hts _ (List.mem_of_getElem? (i := 2) rfl)) (fun _ h => h) dJx4a65c_grow_92f84_14 ?_
  refine lv_acmp_eq (rx := some (tE)) (ry := some (tE)) (tgt := 45) hx hb dJx4a65c_grow_92f84_17 (by decide) (fun _ => ?_) (fun h => absurd rfl h)
  refine lv_aload_n hx hb dJx4a65c_grow_92f84_45 rfl (lv_at hl 1 rfl) ?_
  refine lv_bipush (v := nI (10)) hx hb dJx4a65c_grow_92f84_46 (by decide) ?_
  refine lv_iload_n hx hb dJx4a65c_grow_92f84_48 rfl (lv_at hl 2 rfl) ?_
  refine w_mmax (x := nI (10)) (y := nI (1)) hx hb hml hl.1 hown hts (List.mem_of_getElem? (i := 3) rfl) (List.mem_of_getElem? (i := 4) rfl) (List.mem_of_getElem? (i := 5) rfl) (List.mem_of_getElem? (i := 6) rfl) (Nat.le_of_ble_eq_true rfl) (Nat.le_of_ble_eq_true rfl) (Nat.le_of_ble_eq_true rfl) (Nat.le_of_ble_eq_true rfl) (Nat.le_of_ble_eq_true rfl) dJx4a65c_grow_92f84_49 ?_
  refine W.eq (g2 := F0 m 52 ls (.int (nI (10)) :: .ref (b) :: [])) (congrArg (fun v => F0 m 52 ls (Value.int v :: .ref (b) :: [])) (by decide)) ?_
  refine x_newq (cI := ids 5) (N' := 10) (c1 := 1) (s1 := 10) (q := n0) hx hb hown (hts _ (List.mem_of_getElem? (i := 7) rfl)) hZ.2.2.2.2.2.2.1 hK 5 rfl hS (nI_pos (by omega)) (nI_clamp (by omega)) (by omega) (Nat.le_of_ble_eq_true rfl) (Nat.le_of_ble_eq_true rfl) dJx4a65c_grow_92f84_52 rfl rfl hsz (fun H hm hc1 hS => ?_)
  replace hb_ := hb_.kept (hm.2 _ hb_.lt)
  replace hsz : H.size = n0 + 1 := by rw [hm.1, hsz]
  clear hm
  refine lv_dup_x1 hx hb dJx4a65c_grow_92f84_55 rfl rfl ?_
  refine x_put (C := RJx4a65c) (T := TJx4a65c) (N := 3) (ci := 0) (fs := [.int (mc), .ref (tE), .int (nI (0))]) (ty := (.array (.object "java/lang/Object"))) (v := .ref (n0)) hx hb hts hin_wsJx4a65c0 tyJx4a65c tyJx4a65c_ok nmJx4a65c hown hK hb_ (by first | exact rfl | (show b = b ∨ n0 ≤ b; omega)) hS rfl 1 (by decide) (index := 9) (List.mem_of_getElem? (i := 1) rfl) rfl (by decide +kernel) rfl rfl (Nat.le_of_ble_eq_true rfl) dJx4a65c_grow_92f84_56 (fun H locs h9 ho hS => ?_)
  replace hb_ : va_at G vwCl (b, .inr (0, [.int (mc), .ref (n0), .int (nI (0))])) H := h9
  replace hc1 := hc1.only ho (show n0 ≠ b by omega)
  replace hsz : H.size = n0 + 1 := ho.1.trans hsz
  clear ho
  exact w_rret (Pic1 := (fun H : Heap => H.size = n0 + 1 ∧ va_at G vwCl (b, .inr (0, [.int (mc), .ref (n0), .int (nI (0))])) H ∧ va_at G vwCl (n0, .inl (ids 5, 10, .inr (.inr (.inr (.inr (fun _ => none)))))) H)) hx hb hr hlocks (Nat.le_of_ble_eq_true rfl) (Nat.le_of_ble_eq_true rfl) ⟨hsz, hb_, hc1⟩ hS dJx4a65c_grow_92f84_59
set_option maxHeartbeats 4000000 in
set_option maxRecDepth 100000 in
theorem cn_growI_b (l : Launch) (G : va_G) (ids : Nat → ClassId) (tS tE : Nat) (b r n0 k : Nat) (mc : Int32) (cx : Nat) (rx : vw_C) (f : Nat → Option Nat) (hk : 10 ≤ k ∧ k ≤ 40) (hcx : vwCl[cx]? = some rx) (hcast : Cond.castable rx.1 "java/lang/Object" ∈ xNW) (hbr : b ≠ r) (hne : ∀ j, j < k → f j ≠ some b) (hnr : ∀ j, j < k → f j ≠ some r) : wR l yJx4a65c_grow_92f84 wsJx4a65c_grow_92f84 ({ frames := 4, cells := 1, slots := 60, locals := 74 } : Room) G ids tS tE [.ref (b), .int (nI (k + 1))] (fun H : Heap => H.size = n0 ∧ va_at G vwCl (b, .inr (0, [.int (mc), .ref (r), .int (nI (k))])) H ∧ va_at G vwCl (r, .inl (ids 5, k, .inr (.inr (.inr (.inr (f)))))) H ∧ EL G cx k (f) H) (n0) (fun H : Heap => (∃ n1, n0 < n1 ∧ H.size = n1) ∧ va_at G vwCl (b, .inr (0, [.int (mc), .ref (n0), .int (nI (k))])) H ∧ va_at G vwCl (n0, .inl (ids 5, k + k / 2, .inr (.inr (.inr (.inr (va_cpy f (fun _ => none) 0 0 k)))))) H) (fun q : Nat => q = b ∨ q = r ∨ n0 ≤ q) 1 60 := by
  unfold wR
  refine Met.ofW (cc := cJx4a65c_grow_92f84) (maxL := 4) (ret := (some (.array (.object "java/lang/Object")))) (by decide) rfl ?_
  intro p e s m args below meth c s₁ B hml hv
  obtain ⟨rfl, ⟨hsz, hb_, hr_, he_⟩, hK, hZ⟩ := hv
  have hx := B.exec
  have hb := B.bytes
  have hr := B.returns
  have hts := atoms_spec (ws := wsJx4a65c_grow_92f84) B.pre
  have hown : s.vm.findClass RJx4a65c = some m.cls := findClass_of_methodNamed B.named
  have hlocks := B.notSynchronized
  have hin2 := (name_of_methodNamed B.named B.method).1
  have hS : va_S (fun q : Nat => q = b ∨ q = r ∨ n0 ≤ q) s.heap s.heap [] := va_S.rf
  have hin_wsJx4a65c0 : ∀ w ∈ wsJx4a65c0, w ∈ wsJx4a65c_grow_92f84 := fun w h => List.mem_cons_of_mem _ (List.mem_append_right _ h)
  have lt_hb_ : b < n0 := by have q : b < s.heap.size := hb_.lt; omega
  have lt_hr_ : r < n0 := by have q : r < s.heap.size := hr_.lt; omega
  have hl := lv_entry ([.ref (b), .int (nI (k + 1))]) (n := 4) (Nat.le_of_ble_eq_true rfl)
  rw [lg_entry_eq]
  generalize (lg_sl ([.ref (b), .int (nI (k + 1))]) ++ List.replicate (4 - (lg_sl ([.ref (b), .int (nI (k + 1))])).length) Slot.unset).toArray = ls at hl ⊢
  have hl : lv_has ls 4 [(0, .ref (b)), (1, .int (nI (k + 1)))] := hl
  refine lv_aload_n hx hb dJx4a65c_grow_92f84_0 rfl (lv_at hl 0 rfl) ?_
  refine x_get (C := RJx4a65c) (T := TJx4a65c) (N := 3) (ci := 0) (fs := [.int (mc), .ref (r), .int (nI (k))]) (v := .ref (r)) hx hb hts hin_wsJx4a65c0 hown hK hb_ rfl 1 (by decide) (index := 9) (List.mem_of_getElem? (i := 1) rfl) rfl dJx4a65c_grow_92f84_1 ?_
  refine x_alen hx hb hK 5 rfl hr_ (n := k) rfl dJx4a65c_grow_92f84_4 ?_
  refine lv_istore_n (lv' := [(2, .int (nI (k))), (0, .ref (b)), (1, .int (nI (k + 1)))]) hx hb dJx4a65c_grow_92f84_5 rfl hl (by decide) rfl (fun ls hl => ?_)
  refine lv_iload_n hx hb dJx4a65c_grow_92f84_6 rfl (lv_at hl 0 rfl) ?_
  refine lv_if_gt (x := nI (k)) (tgt := 20) hx hb dJx4a65c_grow_92f84_7 (by decide) (fun c_1 => ?_) (fun c_1 => absurd c_1 (fun q => q (nI_gt0 (by omega) (by omega))))
  refine lv_iload_n hx hb dJx4a65c_grow_92f84_20 rfl (lv_at hl 0 rfl) ?_
  refine lv_iload_n hx hb dJx4a65c_grow_92f84_21 rfl (lv_at hl 2 rfl) ?_
  refine lv_iload_n hx hb dJx4a65c_grow_92f84_22 rfl (lv_at hl 0 rfl) ?_
  refine n_sub (x := k + 1) (y := k) hx hb (by omega) dJx4a65c_grow_92f84_23 ?_
  refine W.eq (g2 := F0 m 24 ls (.int (nI (1)) :: .int (nI (k)) :: [])) (congrArg (fun v => F0 m 24 ls (Value.int v :: .int (nI (k)) :: [])) (congrArg nI (by omega))) ?_
  refine lv_iload_n hx hb dJx4a65c_grow_92f84_24 rfl (lv_at hl 0 rfl) ?_
  refine lv_iconst (v := nI (1)) hx hb dJx4a65c_grow_92f84_25 (by decide) ?_
  refine n_shr1 (x := k) hx hb (by omega) dJx4a65c_grow_92f84_26 ?_
  refine w_callSI (As := [.int (nI (k)), .int (nI (1)), .int (nI (k / 2))]) (rest := []) (c1 := 0) (s1 := 0) (fun q h => h.elim) ⟨hx, hb, hml, hown, hts⟩ (cn_J8_newLength_cabcc l G ids tS tE n0 k (k / 2) (by omega) (by omega)) (va_cwS 3 hts gJx4a65c_grow_92f84_J8_newLength_cabcc rfl rfl rfl (by decide +kernel) ⟨Nat.le_of_ble_eq_true rfl, Nat.le_of_ble_eq_true rfl⟩) hK hZ hsz hS rfl hl.1 rfl (Nat.le_of_ble_eq_true rfl) dJx4a65c_grow_92f84_27 ⟨Nat.le_of_ble_eq_true rfl, (Nat.le_of_ble_eq_true rfl)⟩ rfl rfl (fun H locs hP1 _ hk1 hS => ?_)
  replace hb_ := hb_.kept (hk1 _ hb_.lt (fun h => h))
  replace hr_ := hr_.kept (hk1 _ hr_.lt (fun h => h))
  replace he_ := he_.kept (fun q hq j hj hy => hk1 q hq (fun h => h))
  clear hk1
  replace hsz : H.size = n0 := hP1
  refine lv_istore_n (lv' := [(3, .int (nI (k + k / 2))), (2, .int (nI (k))), (0, .ref (b)), (1, .int (nI (k + 1)))]) hx hb dJx4a65c_grow_92f84_30 rfl hl (by decide) rfl (fun ls hl => ?_)
  refine lv_aload_n hx hb dJx4a65c_grow_92f84_31 rfl (lv_at hl 2 rfl) ?_
  refine lv_aload_n hx hb dJx4a65c_grow_92f84_32 rfl (lv_at hl 2 rfl) ?_
  refine x_get (C := RJx4a65c) (T := TJx4a65c) (N := 3) (ci := 0) (fs := [.int (mc), .ref (r), .int (nI (k))]) (v := .ref (r)) hx hb hts hin_wsJx4a65c0 hown hK hb_ rfl 1 (by decide) (index := 9) (List.mem_of_getElem? (i := 1) rfl) rfl dJx4a65c_grow_92f84_33 ?_
  refine lv_iload_n hx hb dJx4a65c_grow_92f84_36 rfl (lv_at hl 0 rfl) ?_
  refine w_callSR (As := [.ref (r), .int (nI (k + k / 2))]) (rest := [.ref (b)]) (c1 := 1) (s1 := 60) (fun q h => by (try dsimp only at h); (try dsimp only); omega) ⟨hx, hb, hml, hown, hts⟩ (cj_copy2 l G ids tS tE r n0 k (k + k / 2) cx rx f (by omega) (by omega) hcx hcast) (va_cwS 2 hts gJx4a65c_grow_92f84_J7_copyOf_1904c rfl rfl rfl (by decide +kernel) ⟨Nat.le_of_ble_eq_true rfl, Nat.le_of_ble_eq_true rfl⟩) hK hZ ⟨hsz, hr_, he_⟩ hS rfl hl.1 rfl (Nat.le_of_ble_eq_true rfl) dJx4a65c_grow_92f84_37 ⟨Nat.le_of_ble_eq_true rfl, (Nat.le_of_ble_eq_true rfl)⟩ rfl rfl (fun H locs hP1 _ hk1 hS => ?_)
  replace hb_ := hb_.kept (hk1 _ hb_.lt (by show ¬ (b = r ∨ n0 ≤ b); omega))
  clear hk1
  obtain ⟨⟨n1, hn1, hsz⟩, hn_⟩ := hP1
  refine lv_dup_x1 hx hb dJx4a65c_grow_92f84_40 rfl rfl ?_
  refine x_put (C := RJx4a65c) (T := TJx4a65c) (N := 3) (ci := 0) (fs := [.int (mc), .ref (r), .int (nI (k))]) (ty := (.array (.object "java/lang/Object"))) (v := .ref (n0)) hx hb hts hin_wsJx4a65c0 tyJx4a65c tyJx4a65c_ok nmJx4a65c hown hK hb_ (by first | exact rfl | (show b = b ∨ b = r ∨ n0 ≤ b; omega)) hS rfl 1 (by decide) (index := 9) (List.mem_of_getElem? (i := 1) rfl) rfl (by decide +kernel) rfl rfl (Nat.le_of_ble_eq_true rfl) dJx4a65c_grow_92f84_41 (fun H locs h9 ho hS => ?_)
  replace hb_ : va_at G vwCl (b, .inr (0, [.int (mc), .ref (n0), .int (nI (k))])) H := h9
  replace hn_ := hn_.only ho (show n0 ≠ b by omega)
  replace hsz : H.size = n1 := ho.1.trans hsz
  clear ho
  exact w_rret (Pic1 := (fun H : Heap => (∃ n1, n0 < n1 ∧ H.size = n1) ∧ va_at G vwCl (b, .inr (0, [.int (mc), .ref (n0), .int (nI (k))])) H ∧ va_at G vwCl (n0, .inl (ids 5, k + k / 2, .inr (.inr (.inr (.inr (va_cpy f (fun _ => none) 0 0 k)))))) H)) hx hb hr hlocks (Nat.le_of_ble_eq_true rfl) (Nat.le_of_ble_eq_true rfl) ⟨⟨n1, hn1, hsz⟩, hb_, hn_⟩ hS dJx4a65c_grow_92f84_44
set_option maxHeartbeats 4000000 in
set_option maxRecDepth 100000 in
theorem cn_grow_a (l : Launch) (G : va_G) (ids : Nat → ClassId) (tS tE : Nat) (b n0 : Nat) (mc : Int32) : wR l yJx4a65c_grow_d5877 wsJx4a65c_grow_d5877 ({ frames := 2, cells := 1, slots := 10, locals := 44 } : Room) G ids tS tE [.ref (b)] (fun H : Heap => H.size = n0 ∧ va_at G vwCl (b, .inr (0, [.int (mc), .ref (tE), .int (nI (0))])) H) (n0) (fun H : Heap => H.size = n0 + 1 ∧ va_at G vwCl (b, .inr (0, [.int (mc), .ref (n0), .int (nI (0))])) H ∧ va_at G vwCl (n0, .inl (ids 5, 10, .inr (.inr (.inr (.inr (fun _ => none)))))) H) (fun q : Nat => q = b ∨ n0 ≤ q) 1 10 := by
  unfold wR
  refine Met.ofW (cc := cJx4a65c_grow_d5877) (maxL := 1) (ret := (some (.array (.object "java/lang/Object")))) (by decide) rfl ?_
  intro p e s m args below meth c s₁ B hml hv
  obtain ⟨rfl, ⟨hsz, hb_⟩, hK, hZ⟩ := hv
  have hx := B.exec
  have hb := B.bytes
  have hr := B.returns
  have hts := atoms_spec (ws := wsJx4a65c_grow_d5877) B.pre
  have hown : s.vm.findClass RJx4a65c = some m.cls := findClass_of_methodNamed B.named
  have hlocks := B.notSynchronized
  have hin2 := (name_of_methodNamed B.named B.method).1
  have hS : va_S (fun q : Nat => q = b ∨ n0 ≤ q) s.heap s.heap [] := va_S.rf
  have hin_wsJx4a65c0 : ∀ w ∈ wsJx4a65c0, w ∈ wsJx4a65c_grow_d5877 := fun w h => List.mem_cons_of_mem _ (List.mem_append_right _ h)
  have lt_hb_ : b < n0 := by have q : b < s.heap.size := hb_.lt; omega
  have hl := lv_entry ([.ref (b)]) (n := 1) (Nat.le_of_ble_eq_true rfl)
  rw [lg_entry_eq]
  generalize (lg_sl ([.ref (b)]) ++ List.replicate (1 - (lg_sl ([.ref (b)])).length) Slot.unset).toArray = ls at hl ⊢
  have hl : lv_has ls 1 [(0, .ref (b))] := hl
  refine lv_aload_n hx hb dJx4a65c_grow_d5877_0 rfl (lv_at hl 0 rfl) ?_
  refine lv_aload_n hx hb dJx4a65c_grow_d5877_1 rfl (lv_at hl 0 rfl) ?_
  refine x_get (C := RJx4a65c) (T := TJx4a65c) (N := 3) (ci := 0) (fs := [.int (mc), .ref (tE), .int (nI (0))]) (v := .int (nI (0))) hx hb hts hin_wsJx4a65c0 hown hK hb_ rfl 2 (by decide) (index := 48) (List.mem_of_getElem? (i := 1) rfl) rfl dJx4a65c_grow_d5877_2 ?_
  refine lv_iconst (v := nI (1)) hx hb dJx4a65c_grow_d5877_5 (by decide) ?_
  refine n_add (x := 0) (y := 1) hx hb dJx4a65c_grow_d5877_6 ?_
  refine W.eq (g2 := F0 m 7 ls (.int (nI (1)) :: .ref (b) :: [])) (congrArg (fun v => F0 m 7 ls (Value.int v :: .ref (b) :: [])) (congrArg nI (by omega))) ?_
  refine w_callR (As := [.int (nI (1))]) (rest := []) (c1 := 1) (s1 := 10) (fun q h => by (try dsimp only at h); (try dsimp only); omega) ⟨hx, hb, hml, hown, hts⟩ (cn_growI_a l G ids tS tE b n0 mc) (cwV 1 hts gJx4a65c_grow_d5877_Jx4a65c_grow_92f84 rfl rfl rfl (by decide +kernel) ⟨Nat.le_of_ble_eq_true rfl, Nat.le_of_ble_eq_true rfl⟩) hK hZ hb_ rfl ⟨hsz, hb_⟩ hS rfl hl.1 rfl (Nat.le_of_ble_eq_true rfl) dJx4a65c_grow_d5877_7 ⟨Nat.le_of_ble_eq_true rfl, (Nat.le_of_ble_eq_true rfl)⟩ rfl rfl (fun H locs hP1 _ hk1 hS => ?_)
  clear hk1
  obtain ⟨hsz, hb_, hn_⟩ := hP1
  exact w_rret (Pic1 := (fun H : Heap => H.size = n0 + 1 ∧ va_at G vwCl (b, .inr (0, [.int (mc), .ref (n0), .int (nI (0))])) H ∧ va_at G vwCl (n0, .inl (ids 5, 10, .inr (.inr (.inr (.inr (fun _ => none)))))) H)) hx hb hr hlocks (Nat.le_of_ble_eq_true rfl) (Nat.le_of_ble_eq_true rfl) ⟨hsz, hb_, hn_⟩ hS dJx4a65c_grow_d5877_10
set_option maxHeartbeats 4000000 in
set_option maxRecDepth 100000 in
theorem cn_grow_b (l : Launch) (G : va_G) (ids : Nat → ClassId) (tS tE : Nat) (b r n0 k : Nat) (mc : Int32) (cx : Nat) (rx : vw_C) (f : Nat → Option Nat) (hk : 10 ≤ k ∧ k ≤ 40) (hcx : vwCl[cx]? = some rx) (hcast : Cond.castable rx.1 "java/lang/Object" ∈ xNW) (hbr : b ≠ r) (hne : ∀ j, j < k → f j ≠ some b) (hnr : ∀ j, j < k → f j ≠ some r) : wR l yJx4a65c_grow_d5877 wsJx4a65c_grow_d5877 ({ frames := 5, cells := 1, slots := 60, locals := 97 } : Room) G ids tS tE [.ref (b)] (fun H : Heap => H.size = n0 ∧ va_at G vwCl (b, .inr (0, [.int (mc), .ref (r), .int (nI (k))])) H ∧ va_at G vwCl (r, .inl (ids 5, k, .inr (.inr (.inr (.inr (f)))))) H ∧ EL G cx k (f) H) (n0) (fun H : Heap => (∃ n1, n0 < n1 ∧ H.size = n1) ∧ va_at G vwCl (b, .inr (0, [.int (mc), .ref (n0), .int (nI (k))])) H ∧ va_at G vwCl (n0, .inl (ids 5, k + k / 2, .inr (.inr (.inr (.inr (va_cpy f (fun _ => none) 0 0 k)))))) H) (fun q : Nat => q = b ∨ q = r ∨ n0 ≤ q) 1 60 := by
  unfold wR
  refine Met.ofW (cc := cJx4a65c_grow_d5877) (maxL := 1) (ret := (some (.array (.object "java/lang/Object")))) (by decide) rfl ?_
  intro p e s m args below meth c s₁ B hml hv
  obtain ⟨rfl, ⟨hsz, hb_, hr_, he_⟩, hK, hZ⟩ := hv
  have hx := B.exec
  have hb := B.bytes
  have hr := B.returns
  have hts := atoms_spec (ws := wsJx4a65c_grow_d5877) B.pre
  have hown : s.vm.findClass RJx4a65c = some m.cls := findClass_of_methodNamed B.named
  have hlocks := B.notSynchronized
  have hin2 := (name_of_methodNamed B.named B.method).1
  have hS : va_S (fun q : Nat => q = b ∨ q = r ∨ n0 ≤ q) s.heap s.heap [] := va_S.rf
  have hin_wsJx4a65c0 : ∀ w ∈ wsJx4a65c0, w ∈ wsJx4a65c_grow_d5877 := fun w h => List.mem_cons_of_mem _ (List.mem_append_right _ h)
  have lt_hb_ : b < n0 := by have q : b < s.heap.size := hb_.lt; omega
  have lt_hr_ : r < n0 := by have q : r < s.heap.size := hr_.lt; omega
  have hl := lv_entry ([.ref (b)]) (n := 1) (Nat.le_of_ble_eq_true rfl)
  rw [lg_entry_eq]
  generalize (lg_sl ([.ref (b)]) ++ List.replicate (1 - (lg_sl ([.ref (b)])).length) Slot.unset).toArray = ls at hl ⊢
  have hl : lv_has ls 1 [(0, .ref (b))] := hl
  refine lv_aload_n hx hb dJx4a65c_grow_d5877_0 rfl (lv_at hl 0 rfl) ?_
  refine lv_aload_n hx hb dJx4a65c_grow_d5877_1 rfl (lv_at hl 0 rfl) ?_
  refine x_get (C := RJx4a65c) (T := TJx4a65c) (N := 3) (ci := 0) (fs := [.int (mc), .ref (r), .int (nI (k))]) (v := .int (nI (k))) hx hb hts hin_wsJx4a65c0 hown hK hb_ rfl 2 (by decide) (index := 48) (List.mem_of_getElem? (i := 1) rfl) rfl dJx4a65c_grow_d5877_2 ?_
  refine lv_iconst (v := nI (1)) hx hb dJx4a65c_grow_d5877_5 (by decide) ?_
  refine n_add (x := k) (y := 1) hx hb dJx4a65c_grow_d5877_6 ?_
  refine w_callR (As := [.int (nI (k + 1))]) (rest := []) (c1 := 1) (s1 := 60) (fun q h => by (try dsimp only at h); (try dsimp only); omega) ⟨hx, hb, hml, hown, hts⟩ (cn_growI_b l G ids tS tE b r n0 k mc cx rx f hk hcx hcast hbr hne hnr) (cwV 1 hts gJx4a65c_grow_d5877_Jx4a65c_grow_92f84 rfl rfl rfl (by decide +kernel) ⟨Nat.le_of_ble_eq_true rfl, Nat.le_of_ble_eq_true rfl⟩) hK hZ hb_ rfl ⟨hsz, hb_, hr_, he_⟩ hS rfl hl.1 rfl (Nat.le_of_ble_eq_true rfl) dJx4a65c_grow_d5877_7 ⟨Nat.le_of_ble_eq_true rfl, (Nat.le_of_ble_eq_true rfl)⟩ rfl rfl (fun H locs hP1 _ hk1 hS => ?_)
  clear hk1
  obtain ⟨⟨n1, hn1, hsz⟩, hb_, hn_⟩ := hP1
  exact w_rret (Pic1 := (fun H : Heap => (∃ n1, n0 < n1 ∧ H.size = n1) ∧ va_at G vwCl (b, .inr (0, [.int (mc), .ref (n0), .int (nI (k))])) H ∧ va_at G vwCl (n0, .inl (ids 5, k + k / 2, .inr (.inr (.inr (.inr (va_cpy f (fun _ => none) 0 0 k)))))) H)) hx hb hr hlocks (Nat.le_of_ble_eq_true rfl) (Nat.le_of_ble_eq_true rfl) ⟨⟨n1, hn1, hsz⟩, hb_, hn_⟩ hS dJx4a65c_grow_d5877_10
