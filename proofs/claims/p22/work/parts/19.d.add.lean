set_option maxHeartbeats 4000000 in
set_option maxRecDepth 100000 in
theorem cn_add3_a (l : Launch) (G : va_G) (ids : Nat → ClassId) (tS tE : Nat) (b x n0 : Nat) (mc : Int32) (cx : Nat) (rx : vw_C) (fx : List Value) (hcx : vwCl[cx]? = some rx) (hcast : Cond.castable rx.1 "java/lang/Object" ∈ xNW) (hxb : x ≠ b) : wV l yJx4a65c_add_72be8 wsJx4a65c_add_72be8 ({ frames := 3, cells := 1, slots := 10, locals := 64 } : Room) G ids tS tE [.ref (b), .ref (x), .ref (tE), .int (nI (0))] (fun H : Heap => H.size = n0 ∧ va_at G vwCl (b, .inr (0, [.int (mc), .ref (tE), .int (nI (0))])) H ∧ va_at G vwCl (x, .inr (cx, fx)) H) (fun H : Heap => H.size = n0 + 1 ∧ va_at G vwCl (b, .inr (0, [.int (mc), .ref (n0), .int (nI (1))])) H ∧ va_at G vwCl (n0, .inl (ids 5, 10, .inr (.inr (.inr (.inr (va_up (fun _ => none) 0 (some (x)))))))) H) (fun q : Nat => q = b ∨ n0 ≤ q) 1 10 := by
  unfold wV
  refine Met.ofW (cc := cJx4a65c_add_72be8) (maxL := 4) (ret := none) (by decide) rfl ?_
  intro p e s m args below meth c s₁ B hml hv
  obtain ⟨rfl, ⟨hsz, hb_, hx_⟩, hK, hZ⟩ := hv
  have hx := B.exec
  have hb := B.bytes
  have hr := B.returns
  have hts := atoms_spec (ws := wsJx4a65c_add_72be8) B.pre
  have hown : s.vm.findClass RJx4a65c = some m.cls := findClass_of_methodNamed B.named
  have hlocks := B.notSynchronized
  have hin2 := (name_of_methodNamed B.named B.method).1
  have hS : va_S (fun q : Nat => q = b ∨ n0 ≤ q) s.heap s.heap [] := va_S.rf
  have hin_wsJx4a65c0 : ∀ w ∈ wsJx4a65c0, w ∈ wsJx4a65c_add_72be8 := fun w h => List.mem_cons_of_mem _ (List.mem_append_right _ h)
  have lt_hb_ : b < n0 := by have q : b < s.heap.size := hb_.lt; omega
  have lt_hx_ : x < n0 := by have q : x < s.heap.size := hx_.lt; omega
  have hl := lv_entry ([.ref (b), .ref (x), .ref (tE), .int (nI (0))]) (n := 4) (Nat.le_of_ble_eq_true rfl)
  rw [lg_entry_eq]
  generalize (lg_sl ([.ref (b), .ref (x), .ref (tE), .int (nI (0))]) ++ List.replicate (4 - (lg_sl ([.ref (b), .ref (x), .ref (tE), .int (nI (0))])).length) Slot.unset).toArray = ls at hl ⊢
  have hl : lv_has ls 4 [(0, .ref (b)), (1, .ref (x)), (2, .ref (tE)), (3, .int (nI (0)))] := hl
  refine lv_iload_n hx hb dJx4a65c_add_72be8_0 rfl (lv_at hl 3 rfl) ?_
  refine lv_aload_n hx hb dJx4a65c_add_72be8_1 rfl (lv_at hl 2 rfl) ?_
  refine va_tlen hx hb hZ.2.1.2 hS (v := nI 0) rfl dJx4a65c_add_72be8_2 ?_
  refine n_icmp_ne (x := 0) (y := 0) (tgt := 11) hx hb (by omega) (by omega) dJx4a65c_add_72be8_3 (by decide) (fun c_1 => absurd c_1 (by omega)) (fun c_1 => ?_)
  refine lv_aload_n hx hb dJx4a65c_add_72be8_6 rfl (lv_at hl 0 rfl) ?_
  refine w_callR (As := []) (rest := []) (c1 := 1) (s1 := 10) (fun q h => by (try dsimp only at h); (try dsimp only); omega) ⟨hx, hb, hml, hown, hts⟩ (cn_grow_a l G ids tS tE b n0 mc) (cwV 0 hts gJx4a65c_add_72be8_Jx4a65c_grow_d5877 rfl rfl rfl (by decide +kernel) ⟨Nat.le_of_ble_eq_true rfl, Nat.le_of_ble_eq_true rfl⟩) hK hZ hb_ rfl ⟨hsz, hb_⟩ hS rfl hl.1 rfl (Nat.le_of_ble_eq_true rfl) dJx4a65c_add_72be8_7 ⟨Nat.le_of_ble_eq_true rfl, (Nat.le_of_ble_eq_true rfl)⟩ rfl rfl (fun H locs hP1 _ hk1 hS => ?_)
  replace hx_ := hx_.kept (hk1 _ hx_.lt (by show ¬ (x = b ∨ n0 ≤ x); omega))
  clear hk1
  obtain ⟨hsz, hb_, hn_⟩ := hP1
  refine lv_astore_n (lv' := [(2, .ref (n0)), (0, .ref (b)), (1, .ref (x)), (3, .int (nI (0)))]) hx hb dJx4a65c_add_72be8_10 rfl hl (by decide) rfl (fun ls hl => ?_)
  refine lv_aload_n hx hb dJx4a65c_add_72be8_11 rfl (lv_at hl 0 rfl) ?_
  refine lv_iload_n hx hb dJx4a65c_add_72be8_12 rfl (lv_at hl 3 rfl) ?_
  refine lv_aload_n hx hb dJx4a65c_add_72be8_13 rfl (lv_at hl 2 rfl) ?_
  refine x_aast (r := rx) hx hb hK 5 rfl hn_ (by first | exact rfl | (show n0 = b ∨ n0 ≤ n0; omega)) hS hx_ hcx (vb_asgC (hZ.2.2.2.2.1 _ hcast)) (i := nI (0)) (vp_in_nI (by omega) (by omega)) dJx4a65c_add_72be8_14 (fun H locs h9 ho hS => ?_)
  rw [nI_clamp (by omega)] at h9
  replace hn_ : va_at G vwCl (n0, .inl (ids 5, 10, .inr (.inr (.inr (.inr (va_up (fun _ => none) 0 (some (x)))))))) H := h9
  replace hx_ := hx_.only ho (show x ≠ n0 by omega)
  replace hb_ := hb_.only ho (show b ≠ n0 by omega)
  replace hsz : H.size = n0 + 1 := ho.1.trans hsz
  clear ho
  refine lv_aload_n hx hb dJx4a65c_add_72be8_15 rfl (lv_at hl 1 rfl) ?_
  refine lv_iload_n hx hb dJx4a65c_add_72be8_16 rfl (lv_at hl 3 rfl) ?_
  refine lv_iconst (v := nI (1)) hx hb dJx4a65c_add_72be8_17 (by decide) ?_
  refine n_add (x := 0) (y := 1) hx hb dJx4a65c_add_72be8_18 ?_
  refine W.eq (g2 := F0 m 19 ls (.int (nI (1)) :: .ref (b) :: [])) (congrArg (fun v => F0 m 19 ls (Value.int v :: .ref (b) :: [])) (congrArg nI (by omega))) ?_
  refine x_put (C := RJx4a65c) (T := TJx4a65c) (N := 3) (ci := 0) (fs := [.int (mc), .ref (n0), .int (nI (0))]) (ty := .int) (v := .int (nI (1))) hx hb hts hin_wsJx4a65c0 tyJx4a65c tyJx4a65c_ok nmJx4a65c hown hK hb_ (by first | exact rfl | (show b = b ∨ n0 ≤ b; omega)) hS rfl 2 (by decide) (index := 48) (List.mem_of_getElem? (i := 1) rfl) rfl (by decide +kernel) rfl rfl (Nat.le_of_ble_eq_true rfl) dJx4a65c_add_72be8_19 (fun H locs h9 ho hS => ?_)
  replace hb_ : va_at G vwCl (b, .inr (0, [.int (mc), .ref (n0), .int (nI (1))])) H := h9
  replace hx_ := hx_.only ho (show x ≠ b by omega)
  replace hn_ := hn_.only ho (show n0 ≠ b by omega)
  replace hsz : H.size = n0 + 1 := ho.1.trans hsz
  clear ho
  exact w_vret (Pic1 := (fun H : Heap => H.size = n0 + 1 ∧ va_at G vwCl (b, .inr (0, [.int (mc), .ref (n0), .int (nI (1))])) H ∧ va_at G vwCl (n0, .inl (ids 5, 10, .inr (.inr (.inr (.inr (va_up (fun _ => none) 0 (some (x)))))))) H)) hx hb hr hlocks (Nat.le_of_ble_eq_true rfl) (Nat.le_of_ble_eq_true rfl) ⟨hsz, hb_, hn_⟩ hS dJx4a65c_add_72be8_22
set_option maxHeartbeats 4000000 in
set_option maxRecDepth 100000 in
theorem cn_add3_b (l : Launch) (G : va_G) (ids : Nat → ClassId) (tS tE : Nat) (b x r n0 k : Nat) (mc : Int32) (cx : Nat) (rx : vw_C) (fx : List Value) (f : Nat → Option Nat) (hk : 10 ≤ k ∧ k ≤ 40) (hcx : vwCl[cx]? = some rx) (hcast : Cond.castable rx.1 "java/lang/Object" ∈ xNW) (hbr : b ≠ r) (hne : ∀ j, j < k → f j ≠ some b) (hnr : ∀ j, j < k → f j ≠ some r) (hxb : x ≠ b) (hxr : x ≠ r) : wV l yJx4a65c_add_72be8 wsJx4a65c_add_72be8 ({ frames := 6, cells := 1, slots := 60, locals := 117 } : Room) G ids tS tE [.ref (b), .ref (x), .ref (r), .int (nI (k))] (fun H : Heap => H.size = n0 ∧ va_at G vwCl (b, .inr (0, [.int (mc), .ref (r), .int (nI (k))])) H ∧ va_at G vwCl (r, .inl (ids 5, k, .inr (.inr (.inr (.inr (f)))))) H ∧ EL G cx k (f) H ∧ va_at G vwCl (x, .inr (cx, fx)) H) (fun H : Heap => (∃ n1, n0 < n1 ∧ H.size = n1) ∧ va_at G vwCl (b, .inr (0, [.int (mc), .ref (n0), .int (nI (k + 1))])) H ∧ va_at G vwCl (n0, .inl (ids 5, k + k / 2, .inr (.inr (.inr (.inr (va_up (va_cpy f (fun _ => none) 0 0 k) k (some (x)))))))) H) (fun q : Nat => q = b ∨ q = r ∨ n0 ≤ q) 1 60 := by
  unfold wV
  refine Met.ofW (cc := cJx4a65c_add_72be8) (maxL := 4) (ret := none) (by decide) rfl ?_
  intro p e s m args below meth c s₁ B hml hv
  obtain ⟨rfl, ⟨hsz, hb_, hr_, he_, hx_⟩, hK, hZ⟩ := hv
  have hx := B.exec
  have hb := B.bytes
  have hr := B.returns
  have hts := atoms_spec (ws := wsJx4a65c_add_72be8) B.pre
  have hown : s.vm.findClass RJx4a65c = some m.cls := findClass_of_methodNamed B.named
  have hlocks := B.notSynchronized
  have hin2 := (name_of_methodNamed B.named B.method).1
  have hS : va_S (fun q : Nat => q = b ∨ q = r ∨ n0 ≤ q) s.heap s.heap [] := va_S.rf
  have hin_wsJx4a65c0 : ∀ w ∈ wsJx4a65c0, w ∈ wsJx4a65c_add_72be8 := fun w h => List.mem_cons_of_mem _ (List.mem_append_right _ h)
  have lt_hb_ : b < n0 := by have q : b < s.heap.size := hb_.lt; omega
  have lt_hr_ : r < n0 := by have q : r < s.heap.size := hr_.lt; omega
  have lt_hx_ : x < n0 := by have q : x < s.heap.size := hx_.lt; omega
  have hl := lv_entry ([.ref (b), .ref (x), .ref (r), .int (nI (k))]) (n := 4) (Nat.le_of_ble_eq_true rfl)
  rw [lg_entry_eq]
  generalize (lg_sl ([.ref (b), .ref (x), .ref (r), .int (nI (k))]) ++ List.replicate (4 - (lg_sl ([.ref (b), .ref (x), .ref (r), .int (nI (k))])).length) Slot.unset).toArray = ls at hl ⊢
  have hl : lv_has ls 4 [(0, .ref (b)), (1, .ref (x)), (2, .ref (r)), (3, .int (nI (k)))] := hl
  refine lv_iload_n hx hb dJx4a65c_add_72be8_0 rfl (lv_at hl 3 rfl) ?_
  refine lv_aload_n hx hb dJx4a65c_add_72be8_1 rfl (lv_at hl 2 rfl) ?_
  refine x_alen hx hb hK 5 rfl hr_ (n := k) rfl dJx4a65c_add_72be8_2 ?_
  refine n_icmp_ne (x := k) (y := k) (tgt := 11) hx hb (by omega) (by omega) dJx4a65c_add_72be8_3 (by decide) (fun c_1 => absurd c_1 (fun q => q rfl)) (fun c_1 => ?_)
  refine lv_aload_n hx hb dJx4a65c_add_72be8_6 rfl (lv_at hl 0 rfl) ?_
  refine w_callR (As := []) (rest := []) (c1 := 1) (s1 := 60) (fun q h => by (try dsimp only at h); (try dsimp only); omega) ⟨hx, hb, hml, hown, hts⟩ (cn_grow_b l G ids tS tE b r n0 k mc cx rx f hk hcx hcast hbr hne hnr) (cwV 0 hts gJx4a65c_add_72be8_Jx4a65c_grow_d5877 rfl rfl rfl (by decide +kernel) ⟨Nat.le_of_ble_eq_true rfl, Nat.le_of_ble_eq_true rfl⟩) hK hZ hb_ rfl ⟨hsz, hb_, hr_, he_⟩ hS rfl hl.1 rfl (Nat.le_of_ble_eq_true rfl) dJx4a65c_add_72be8_7 ⟨Nat.le_of_ble_eq_true rfl, (Nat.le_of_ble_eq_true rfl)⟩ rfl rfl (fun H locs hP1 _ hk1 hS => ?_)
  replace hx_ := hx_.kept (hk1 _ hx_.lt (by show ¬ (x = b ∨ x = r ∨ n0 ≤ x); omega))
  clear hk1
  obtain ⟨⟨n1, hn1, hsz⟩, hb_, hn_⟩ := hP1
  refine lv_astore_n (lv' := [(2, .ref (n0)), (0, .ref (b)), (1, .ref (x)), (3, .int (nI (k)))]) hx hb dJx4a65c_add_72be8_10 rfl hl (by decide) rfl (fun ls hl => ?_)
  refine lv_aload_n hx hb dJx4a65c_add_72be8_11 rfl (lv_at hl 0 rfl) ?_
  refine lv_iload_n hx hb dJx4a65c_add_72be8_12 rfl (lv_at hl 3 rfl) ?_
  refine lv_aload_n hx hb dJx4a65c_add_72be8_13 rfl (lv_at hl 2 rfl) ?_
  refine x_aast (r := rx) hx hb hK 5 rfl hn_ (by first | exact rfl | (show n0 = b ∨ n0 = r ∨ n0 ≤ n0; omega)) hS hx_ hcx (vb_asgC (hZ.2.2.2.2.1 _ hcast)) (i := nI (k)) (vp_in_nI (by omega) (by omega)) dJx4a65c_add_72be8_14 (fun H locs h9 ho hS => ?_)
  rw [nI_clamp (by omega)] at h9
  replace hn_ : va_at G vwCl (n0, .inl (ids 5, k + k / 2, .inr (.inr (.inr (.inr (va_up (va_cpy f (fun _ => none) 0 0 k) k (some (x)))))))) H := h9
  replace hx_ := hx_.only ho (show x ≠ n0 by omega)
  replace hb_ := hb_.only ho (show b ≠ n0 by omega)
  replace hsz : H.size = n1 := ho.1.trans hsz
  clear ho
  refine lv_aload_n hx hb dJx4a65c_add_72be8_15 rfl (lv_at hl 1 rfl) ?_
  refine lv_iload_n hx hb dJx4a65c_add_72be8_16 rfl (lv_at hl 3 rfl) ?_
  refine lv_iconst (v := nI (1)) hx hb dJx4a65c_add_72be8_17 (by decide) ?_
  refine n_add (x := k) (y := 1) hx hb dJx4a65c_add_72be8_18 ?_
  refine x_put (C := RJx4a65c) (T := TJx4a65c) (N := 3) (ci := 0) (fs := [.int (mc), .ref (n0), .int (nI (k))]) (ty := .int) (v := .int (nI (k + 1))) hx hb hts hin_wsJx4a65c0 tyJx4a65c tyJx4a65c_ok nmJx4a65c hown hK hb_ (by first | exact rfl | (show b = b ∨ b = r ∨ n0 ≤ b; omega)) hS rfl 2 (by decide) (index := 48) (List.mem_of_getElem? (i := 1) rfl) rfl (by decide +kernel) rfl rfl (Nat.le_of_ble_eq_true rfl) dJx4a65c_add_72be8_19 (fun H locs h9 ho hS => ?_)
  replace hb_ : va_at G vwCl (b, .inr (0, [.int (mc), .ref (n0), .int (nI (k + 1))])) H := h9
  replace hx_ := hx_.only ho (show x ≠ b by omega)
  replace hn_ := hn_.only ho (show n0 ≠ b by omega)
  replace hsz : H.size = n1 := ho.1.trans hsz
  clear ho
  exact w_vret (Pic1 := (fun H : Heap => (∃ n1, n0 < n1 ∧ H.size = n1) ∧ va_at G vwCl (b, .inr (0, [.int (mc), .ref (n0), .int (nI (k + 1))])) H ∧ va_at G vwCl (n0, .inl (ids 5, k + k / 2, .inr (.inr (.inr (.inr (va_up (va_cpy f (fun _ => none) 0 0 k) k (some (x)))))))) H)) hx hb hr hlocks (Nat.le_of_ble_eq_true rfl) (Nat.le_of_ble_eq_true rfl) ⟨⟨n1, hn1, hsz⟩, hb_, hn_⟩ hS dJx4a65c_add_72be8_22
set_option maxHeartbeats 4000000 in
set_option maxRecDepth 100000 in
theorem cn_add3_c (l : Launch) (G : va_G) (ids : Nat → ClassId) (tS tE : Nat) (b x r n0 n k : Nat) (mc : Int32) (cx : Nat) (rx : vw_C) (fx : List Value) (f : Nat → Option Nat) (hnk : n < k) (hk : k < 2 ^ 31) (hcx : vwCl[cx]? = some rx) (hcast : Cond.castable rx.1 "java/lang/Object" ∈ xNW) (hxb : x ≠ b) (hxr : x ≠ r) (hbr : b ≠ r) : wV l yJx4a65c_add_72be8 wsJx4a65c_add_72be8 ({ frames := 0, cells := 0, slots := 0, locals := 0 } : Room) G ids tS tE [.ref (b), .ref (x), .ref (r), .int (nI (n))] (fun H : Heap => H.size = n0 ∧ va_at G vwCl (b, .inr (0, [.int (mc), .ref (r), .int (nI (n))])) H ∧ va_at G vwCl (r, .inl (ids 5, k, .inr (.inr (.inr (.inr (f)))))) H ∧ va_at G vwCl (x, .inr (cx, fx)) H) (fun H : Heap => H.size = n0 ∧ va_at G vwCl (b, .inr (0, [.int (mc), .ref (r), .int (nI (n + 1))])) H ∧ va_at G vwCl (r, .inl (ids 5, k, .inr (.inr (.inr (.inr (va_up (f) n (some (x)))))))) H) (fun q : Nat => q = b ∨ q = r) 0 0 := by
  unfold wV
  refine Met.ofW (cc := cJx4a65c_add_72be8) (maxL := 4) (ret := none) (by decide) rfl ?_
  intro p e s m args below meth c s₁ B hml hv
  obtain ⟨rfl, ⟨hsz, hb_, hr_, hx_⟩, hK, hZ⟩ := hv
  have hx := B.exec
  have hb := B.bytes
  have hr := B.returns
  have hts := atoms_spec (ws := wsJx4a65c_add_72be8) B.pre
  have hown : s.vm.findClass RJx4a65c = some m.cls := findClass_of_methodNamed B.named
  have hlocks := B.notSynchronized
  have hin2 := (name_of_methodNamed B.named B.method).1
  have hS : va_S (fun q : Nat => q = b ∨ q = r) s.heap s.heap [] := va_S.rf
  have hin_wsJx4a65c0 : ∀ w ∈ wsJx4a65c0, w ∈ wsJx4a65c_add_72be8 := fun w h => List.mem_cons_of_mem _ (List.mem_append_right _ h)
  have lt_hb_ : b < n0 := by have q : b < s.heap.size := hb_.lt; omega
  have lt_hr_ : r < n0 := by have q : r < s.heap.size := hr_.lt; omega
  have lt_hx_ : x < n0 := by have q : x < s.heap.size := hx_.lt; omega
  have hl := lv_entry ([.ref (b), .ref (x), .ref (r), .int (nI (n))]) (n := 4) (Nat.le_of_ble_eq_true rfl)
  rw [lg_entry_eq]
  generalize (lg_sl ([.ref (b), .ref (x), .ref (r), .int (nI (n))]) ++ List.replicate (4 - (lg_sl ([.ref (b), .ref (x), .ref (r), .int (nI (n))])).length) Slot.unset).toArray = ls at hl ⊢
  have hl : lv_has ls 4 [(0, .ref (b)), (1, .ref (x)), (2, .ref (r)), (3, .int (nI (n)))] := hl
  refine lv_iload_n hx hb dJx4a65c_add_72be8_0 rfl (lv_at hl 3 rfl) ?_
  refine lv_aload_n hx hb dJx4a65c_add_72be8_1 rfl (lv_at hl 2 rfl) ?_
  refine x_alen hx hb hK 5 rfl hr_ (n := k) rfl dJx4a65c_add_72be8_2 ?_
  refine n_icmp_ne (x := n) (y := k) (tgt := 11) hx hb (by omega) (by omega) dJx4a65c_add_72be8_3 (by decide) (fun c_1 => ?_) (fun c_1 => absurd c_1 (by omega))
  refine lv_aload_n hx hb dJx4a65c_add_72be8_11 rfl (lv_at hl 2 rfl) ?_
  refine lv_iload_n hx hb dJx4a65c_add_72be8_12 rfl (lv_at hl 3 rfl) ?_
  refine lv_aload_n hx hb dJx4a65c_add_72be8_13 rfl (lv_at hl 1 rfl) ?_
  refine x_aast (r := rx) hx hb hK 5 rfl hr_ (by first | exact rfl | (show r = b ∨ r = r; omega)) hS hx_ hcx (vb_asgC (hZ.2.2.2.2.1 _ hcast)) (i := nI (n)) (vp_in_nI (by omega) (by omega)) dJx4a65c_add_72be8_14 (fun H locs h9 ho hS => ?_)
  rw [nI_clamp (by omega)] at h9
  replace hr_ : va_at G vwCl (r, .inl (ids 5, k, .inr (.inr (.inr (.inr (va_up (f) n (some (x)))))))) H := h9
  replace hb_ := hb_.only ho (show b ≠ r by omega)
  replace hx_ := hx_.only ho (show x ≠ r by omega)
  replace hsz : H.size = n0 := ho.1.trans hsz
  clear ho
  refine lv_aload_n hx hb dJx4a65c_add_72be8_15 rfl (lv_at hl 0 rfl) ?_
  refine lv_iload_n hx hb dJx4a65c_add_72be8_16 rfl (lv_at hl 3 rfl) ?_
  refine lv_iconst (v := nI (1)) hx hb dJx4a65c_add_72be8_17 (by decide) ?_
  refine n_add (x := n) (y := 1) hx hb dJx4a65c_add_72be8_18 ?_
  refine x_put (C := RJx4a65c) (T := TJx4a65c) (N := 3) (ci := 0) (fs := [.int (mc), .ref (r), .int (nI (n))]) (ty := .int) (v := .int (nI (n + 1))) hx hb hts hin_wsJx4a65c0 tyJx4a65c tyJx4a65c_ok nmJx4a65c hown hK hb_ (by first | exact rfl | (show b = b ∨ b = r; omega)) hS rfl 2 (by decide) (index := 48) (List.mem_of_getElem? (i := 1) rfl) rfl (by decide +kernel) rfl rfl (Nat.le_of_ble_eq_true rfl) dJx4a65c_add_72be8_19 (fun H locs h9 ho hS => ?_)
  replace hb_ : va_at G vwCl (b, .inr (0, [.int (mc), .ref (r), .int (nI (n + 1))])) H := h9
  replace hr_ := hr_.only ho (show r ≠ b by omega)
  replace hx_ := hx_.only ho (show x ≠ b by omega)
  replace hsz : H.size = n0 := ho.1.trans hsz
  clear ho
  exact w_vret (Pic1 := (fun H : Heap => H.size = n0 ∧ va_at G vwCl (b, .inr (0, [.int (mc), .ref (r), .int (nI (n + 1))])) H ∧ va_at G vwCl (r, .inl (ids 5, k, .inr (.inr (.inr (.inr (va_up (f) n (some (x)))))))) H)) hx hb hr hlocks (Nat.le_of_ble_eq_true rfl) (Nat.le_of_ble_eq_true rfl) ⟨hsz, hb_, hr_⟩ hS dJx4a65c_add_72be8_22
set_option maxHeartbeats 4000000 in
set_option maxRecDepth 100000 in
theorem cn_add_a (l : Launch) (G : va_G) (ids : Nat → ClassId) (tS tE : Nat) (b x n0 : Nat) (mc : Int32) (cx : Nat) (rx : vw_C) (fx : List Value) (hcx : vwCl[cx]? = some rx) (hcast : Cond.castable rx.1 "java/lang/Object" ∈ xNW) (hxb : x ≠ b) : wI l yJx4a65c_add_9ea2d wsJx4a65c_add_9ea2d ({ frames := 4, cells := 1, slots := 10, locals := 87 } : Room) G ids tS tE [.ref (b), .ref (x)] (fun H : Heap => H.size = n0 ∧ va_at G vwCl (b, .inr (0, [.int (mc), .ref (tE), .int (nI (0))])) H ∧ va_at G vwCl (x, .inr (cx, fx)) H) (nI 1) (fun H : Heap => H.size = n0 + 1 ∧ va_at G vwCl (b, .inr (0, [.int ((mc) + (nI (1))), .ref (n0), .int (nI (1))])) H ∧ va_at G vwCl (n0, .inl (ids 5, 10, .inr (.inr (.inr (.inr (va_up (fun _ => none) 0 (some (x)))))))) H) (fun q : Nat => q = b ∨ n0 ≤ q) 1 10 := by
  unfold wI
  refine Met.ofW (cc := cJx4a65c_add_9ea2d) (maxL := 2) (ret := (some .boolean)) (by decide) rfl ?_
  intro p e s m args below meth c s₁ B hml hv
  obtain ⟨rfl, ⟨hsz, hb_, hx_⟩, hK, hZ⟩ := hv
  have hx := B.exec
  have hb := B.bytes
  have hr := B.returns
  have hts := atoms_spec (ws := wsJx4a65c_add_9ea2d) B.pre
  have hown : s.vm.findClass RJx4a65c = some m.cls := findClass_of_methodNamed B.named
  have hlocks := B.notSynchronized
  have hin2 := (name_of_methodNamed B.named B.method).1
  have hS : va_S (fun q : Nat => q = b ∨ n0 ≤ q) s.heap s.heap [] := va_S.rf
  have hin_wsJx4a65c0 : ∀ w ∈ wsJx4a65c0, w ∈ wsJx4a65c_add_9ea2d := fun w h => List.mem_cons_of_mem _ (List.mem_append_right _ h)
  have lt_hb_ : b < n0 := by have q : b < s.heap.size := hb_.lt; omega
  have lt_hx_ : x < n0 := by have q : x < s.heap.size := hx_.lt; omega
  have hl := lv_entry ([.ref (b), .ref (x)]) (n := 2) (Nat.le_of_ble_eq_true rfl)
  rw [lg_entry_eq]
  generalize (lg_sl ([.ref (b), .ref (x)]) ++ List.replicate (2 - (lg_sl ([.ref (b), .ref (x)])).length) Slot.unset).toArray = ls at hl ⊢
  have hl : lv_has ls 2 [(0, .ref (b)), (1, .ref (x))] := hl
  refine lv_aload_n hx hb dJx4a65c_add_9ea2d_0 rfl (lv_at hl 0 rfl) ?_
  refine lv_dup hx hb dJx4a65c_add_9ea2d_1 rfl ?_
  refine x_mcget hx hb hts hin_wsJx4a65c0 hown hK hb_ (index := 63) (List.mem_of_getElem? (i := 1) rfl) (List.mem_of_getElem? (i := 2) rfl) dJx4a65c_add_9ea2d_2 ?_
  refine lv_iconst (v := nI (1)) hx hb dJx4a65c_add_9ea2d_5 (by decide) ?_
  refine lv_iadd (x := mc) (y := nI (1)) hx hb dJx4a65c_add_9ea2d_6 ?_
  refine x_mcput hx hb hts hin_wsJx4a65c0 hown hK hb_ (by first | exact rfl | (show b = b ∨ n0 ≤ b; omega)) hS (index := 63) (List.mem_of_getElem? (i := 1) rfl) (List.mem_of_getElem? (i := 2) rfl) dJx4a65c_add_9ea2d_7 (fun H locs h9 ho hS => ?_)
  replace hb_ : va_at G vwCl (b, .inr (0, [.int ((mc) + (nI (1))), .ref (tE), .int (nI (0))])) H := h9
  replace hx_ := hx_.only ho (show x ≠ b by omega)
  replace hsz : H.size = n0 := ho.1.trans hsz
  clear ho
  refine lv_aload_n hx hb dJx4a65c_add_9ea2d_10 rfl (lv_at hl 0 rfl) ?_
  refine lv_aload_n hx hb dJx4a65c_add_9ea2d_11 rfl (lv_at hl 1 rfl) ?_
  refine lv_aload_n hx hb dJx4a65c_add_9ea2d_12 rfl (lv_at hl 0 rfl) ?_
  refine x_get (C := RJx4a65c) (T := TJx4a65c) (N := 3) (ci := 0) (fs := [.int ((mc) + (nI (1))), .ref (tE), .int (nI (0))]) (v := .ref (tE)) hx hb hts hin_wsJx4a65c0 hown hK hb_ rfl 1 (by decide) (index := 9) (List.mem_of_getElem? (i := 3) rfl) rfl dJx4a65c_add_9ea2d_13 ?_
  refine lv_aload_n hx hb dJx4a65c_add_9ea2d_16 rfl (lv_at hl 0 rfl) ?_
  refine x_get (C := RJx4a65c) (T := TJx4a65c) (N := 3) (ci := 0) (fs := [.int ((mc) + (nI (1))), .ref (tE), .int (nI (0))]) (v := .int (nI (0))) hx hb hts hin_wsJx4a65c0 hown hK hb_ rfl 2 (by decide) (index := 48) (List.mem_of_getElem? (i := 4) rfl) rfl dJx4a65c_add_9ea2d_17 ?_
  refine w_callV (As := [.ref (x), .ref (tE), .int (nI (0))]) (rest := []) (c1 := 1) (s1 := 10) (fun q h => by (try dsimp only at h); (try dsimp only); omega) ⟨hx, hb, hml, hown, hts⟩ (cn_add3_a l G ids tS tE b x n0 ((mc) + (nI (1))) cx rx fx hcx hcast hxb) (cwV 3 hts gJx4a65c_add_9ea2d_Jx4a65c_add_72be8 rfl rfl rfl (by decide +kernel) ⟨Nat.le_of_ble_eq_true rfl, Nat.le_of_ble_eq_true rfl⟩) hK hZ hb_ rfl ⟨hsz, hb_, hx_⟩ hS rfl hl.1 rfl (Nat.le_of_ble_eq_true rfl) dJx4a65c_add_9ea2d_20 ⟨Nat.le_of_ble_eq_true rfl, (Nat.le_of_ble_eq_true rfl)⟩ rfl rfl (fun H locs hP1 _ hk1 hS => ?_)
  replace hx_ := hx_.kept (hk1 _ hx_.lt (by show ¬ (x = b ∨ n0 ≤ x); omega))
  clear hk1
  obtain ⟨hsz, hb_, hn_⟩ := hP1
  refine lv_iconst (v := nI (1)) hx hb dJx4a65c_add_9ea2d_23 (by decide) ?_
  exact w_iret (Pic1 := (fun H : Heap => H.size = n0 + 1 ∧ va_at G vwCl (b, .inr (0, [.int ((mc) + (nI (1))), .ref (n0), .int (nI (1))])) H ∧ va_at G vwCl (n0, .inl (ids 5, 10, .inr (.inr (.inr (.inr (va_up (fun _ => none) 0 (some (x)))))))) H)) (v := nI (1)) hx hb hr hlocks (by decide +kernel) (Nat.le_of_ble_eq_true rfl) (Nat.le_of_ble_eq_true rfl) ⟨hsz, hb_, hn_⟩ hS dJx4a65c_add_9ea2d_24 rfl
set_option maxHeartbeats 4000000 in
set_option maxRecDepth 100000 in
theorem cn_add_b (l : Launch) (G : va_G) (ids : Nat → ClassId) (tS tE : Nat) (b x r n0 k : Nat) (mc : Int32) (cx : Nat) (rx : vw_C) (fx : List Value) (f : Nat → Option Nat) (hk : 10 ≤ k ∧ k ≤ 40) (hcx : vwCl[cx]? = some rx) (hcast : Cond.castable rx.1 "java/lang/Object" ∈ xNW) (hbr : b ≠ r) (hne : ∀ j, j < k → f j ≠ some b) (hnr : ∀ j, j < k → f j ≠ some r) (hxb : x ≠ b) (hxr : x ≠ r) : wI l yJx4a65c_add_9ea2d wsJx4a65c_add_9ea2d ({ frames := 7, cells := 1, slots := 60, locals := 140 } : Room) G ids tS tE [.ref (b), .ref (x)] (fun H : Heap => H.size = n0 ∧ va_at G vwCl (b, .inr (0, [.int (mc), .ref (r), .int (nI (k))])) H ∧ va_at G vwCl (r, .inl (ids 5, k, .inr (.inr (.inr (.inr (f)))))) H ∧ EL G cx k (f) H ∧ va_at G vwCl (x, .inr (cx, fx)) H) (nI 1) (fun H : Heap => (∃ n1, n0 < n1 ∧ H.size = n1) ∧ va_at G vwCl (b, .inr (0, [.int ((mc) + (nI (1))), .ref (n0), .int (nI (k + 1))])) H ∧ va_at G vwCl (n0, .inl (ids 5, k + k / 2, .inr (.inr (.inr (.inr (va_up (va_cpy f (fun _ => none) 0 0 k) k (some (x)))))))) H) (fun q : Nat => q = b ∨ q = r ∨ n0 ≤ q) 1 60 := by
  unfold wI
  refine Met.ofW (cc := cJx4a65c_add_9ea2d) (maxL := 2) (ret := (some .boolean)) (by decide) rfl ?_
  intro p e s m args below meth c s₁ B hml hv
  obtain ⟨rfl, ⟨hsz, hb_, hr_, he_, hx_⟩, hK, hZ⟩ := hv
  have hx := B.exec
  have hb := B.bytes
  have hr := B.returns
  have hts := atoms_spec (ws := wsJx4a65c_add_9ea2d) B.pre
  have hown : s.vm.findClass RJx4a65c = some m.cls := findClass_of_methodNamed B.named
  have hlocks := B.notSynchronized
  have hin2 := (name_of_methodNamed B.named B.method).1
  have hS : va_S (fun q : Nat => q = b ∨ q = r ∨ n0 ≤ q) s.heap s.heap [] := va_S.rf
  have hin_wsJx4a65c0 : ∀ w ∈ wsJx4a65c0, w ∈ wsJx4a65c_add_9ea2d := fun w h => List.mem_cons_of_mem _ (List.mem_append_right _ h)
  have lt_hb_ : b < n0 := by have q : b < s.heap.size := hb_.lt; omega
  have lt_hr_ : r < n0 := by have q : r < s.heap.size := hr_.lt; omega
  have lt_hx_ : x < n0 := by have q : x < s.heap.size := hx_.lt; omega
  have hl := lv_entry ([.ref (b), .ref (x)]) (n := 2) (Nat.le_of_ble_eq_true rfl)
  rw [lg_entry_eq]
  generalize (lg_sl ([.ref (b), .ref (x)]) ++ List.replicate (2 - (lg_sl ([.ref (b), .ref (x)])).length) Slot.unset).toArray = ls at hl ⊢
  have hl : lv_has ls 2 [(0, .ref (b)), (1, .ref (x))] := hl
  refine lv_aload_n hx hb dJx4a65c_add_9ea2d_0 rfl (lv_at hl 0 rfl) ?_
  refine lv_dup hx hb dJx4a65c_add_9ea2d_1 rfl ?_
  refine x_mcget hx hb hts hin_wsJx4a65c0 hown hK hb_ (index := 63) (List.mem_of_getElem? (i := 1) rfl) (List.mem_of_getElem? (i := 2) rfl) dJx4a65c_add_9ea2d_2 ?_
  refine lv_iconst (v := nI (1)) hx hb dJx4a65c_add_9ea2d_5 (by decide) ?_
  refine lv_iadd (x := mc) (y := nI (1)) hx hb dJx4a65c_add_9ea2d_6 ?_
  refine x_mcput hx hb hts hin_wsJx4a65c0 hown hK hb_ (by first | exact rfl | (show b = b ∨ b = r ∨ n0 ≤ b; omega)) hS (index := 63) (List.mem_of_getElem? (i := 1) rfl) (List.mem_of_getElem? (i := 2) rfl) dJx4a65c_add_9ea2d_7 (fun H locs h9 ho hS => ?_)
  replace hb_ : va_at G vwCl (b, .inr (0, [.int ((mc) + (nI (1))), .ref (r), .int (nI (k))])) H := h9
  replace hr_ := hr_.only ho (show r ≠ b by omega)
  replace he_ := he_.only ho (fun j hj => hne j hj)
  replace hx_ := hx_.only ho (show x ≠ b by omega)
  replace hsz : H.size = n0 := ho.1.trans hsz
  clear ho
  refine lv_aload_n hx hb dJx4a65c_add_9ea2d_10 rfl (lv_at hl 0 rfl) ?_
  refine lv_aload_n hx hb dJx4a65c_add_9ea2d_11 rfl (lv_at hl 1 rfl) ?_
  refine lv_aload_n hx hb dJx4a65c_add_9ea2d_12 rfl (lv_at hl 0 rfl) ?_
  refine x_get (C := RJx4a65c) (T := TJx4a65c) (N := 3) (ci := 0) (fs := [.int ((mc) + (nI (1))), .ref (r), .int (nI (k))]) (v := .ref (r)) hx hb hts hin_wsJx4a65c0 hown hK hb_ rfl 1 (by decide) (index := 9) (List.mem_of_getElem? (i := 3) rfl) rfl dJx4a65c_add_9ea2d_13 ?_
  refine lv_aload_n hx hb dJx4a65c_add_9ea2d_16 rfl (lv_at hl 0 rfl) ?_
  refine x_get (C := RJx4a65c) (T := TJx4a65c) (N := 3) (ci := 0) (fs := [.int ((mc) + (nI (1))), .ref (r), .int (nI (k))]) (v := .int (nI (k))) hx hb hts hin_wsJx4a65c0 hown hK hb_ rfl 2 (by decide) (index := 48) (List.mem_of_getElem? (i := 4) rfl) rfl dJx4a65c_add_9ea2d_17 ?_
  refine w_callV (As := [.ref (x), .ref (r), .int (nI (k))]) (rest := []) (c1 := 1) (s1 := 60) (fun q h => by (try dsimp only at h); (try dsimp only); omega) ⟨hx, hb, hml, hown, hts⟩ (cn_add3_b l G ids tS tE b x r n0 k ((mc) + (nI (1))) cx rx fx f hk hcx hcast hbr hne hnr hxb hxr) (cwV 3 hts gJx4a65c_add_9ea2d_Jx4a65c_add_72be8 rfl rfl rfl (by decide +kernel) ⟨Nat.le_of_ble_eq_true rfl, Nat.le_of_ble_eq_true rfl⟩) hK hZ hb_ rfl ⟨hsz, hb_, hr_, he_, hx_⟩ hS rfl hl.1 rfl (Nat.le_of_ble_eq_true rfl) dJx4a65c_add_9ea2d_20 ⟨Nat.le_of_ble_eq_true rfl, (Nat.le_of_ble_eq_true rfl)⟩ rfl rfl (fun H locs hP1 _ hk1 hS => ?_)
  replace hx_ := hx_.kept (hk1 _ hx_.lt (by show ¬ (x = b ∨ x = r ∨ n0 ≤ x); omega))
  clear hk1
  obtain ⟨⟨n1, hn1, hsz⟩, hb_, hn_⟩ := hP1
  refine lv_iconst (v := nI (1)) hx hb dJx4a65c_add_9ea2d_23 (by decide) ?_
  exact w_iret (Pic1 := (fun H : Heap => (∃ n1, n0 < n1 ∧ H.size = n1) ∧ va_at G vwCl (b, .inr (0, [.int ((mc) + (nI (1))), .ref (n0), .int (nI (k + 1))])) H ∧ va_at G vwCl (n0, .inl (ids 5, k + k / 2, .inr (.inr (.inr (.inr (va_up (va_cpy f (fun _ => none) 0 0 k) k (some (x)))))))) H)) (v := nI (1)) hx hb hr hlocks (by decide +kernel) (Nat.le_of_ble_eq_true rfl) (Nat.le_of_ble_eq_true rfl) ⟨⟨n1, hn1, hsz⟩, hb_, hn_⟩ hS dJx4a65c_add_9ea2d_24 rfl
set_option maxHeartbeats 4000000 in
set_option maxRecDepth 100000 in
theorem cn_add_c (l : Launch) (G : va_G) (ids : Nat → ClassId) (tS tE : Nat) (b x r n0 n k : Nat) (mc : Int32) (cx : Nat) (rx : vw_C) (fx : List Value) (f : Nat → Option Nat) (hnk : n < k) (hk : k < 2 ^ 31) (hcx : vwCl[cx]? = some rx) (hcast : Cond.castable rx.1 "java/lang/Object" ∈ xNW) (hxb : x ≠ b) (hxr : x ≠ r) (hbr : b ≠ r) : wI l yJx4a65c_add_9ea2d wsJx4a65c_add_9ea2d ({ frames := 1, cells := 0, slots := 0, locals := 23 } : Room) G ids tS tE [.ref (b), .ref (x)] (fun H : Heap => H.size = n0 ∧ va_at G vwCl (b, .inr (0, [.int (mc), .ref (r), .int (nI (n))])) H ∧ va_at G vwCl (r, .inl (ids 5, k, .inr (.inr (.inr (.inr (f)))))) H ∧ va_at G vwCl (x, .inr (cx, fx)) H) (nI 1) (fun H : Heap => H.size = n0 ∧ va_at G vwCl (b, .inr (0, [.int ((mc) + (nI (1))), .ref (r), .int (nI (n + 1))])) H ∧ va_at G vwCl (r, .inl (ids 5, k, .inr (.inr (.inr (.inr (va_up (f) n (some (x)))))))) H) (fun q : Nat => q = b ∨ q = r) 0 0 := by
  unfold wI
  refine Met.ofW (cc := cJx4a65c_add_9ea2d) (maxL := 2) (ret := (some .boolean)) (by decide) rfl ?_
  intro p e s m args below meth c s₁ B hml hv
  obtain ⟨rfl, ⟨hsz, hb_, hr_, hx_⟩, hK, hZ⟩ := hv
  have hx := B.exec
  have hb := B.bytes
  have hr := B.returns
  have hts := atoms_spec (ws := wsJx4a65c_add_9ea2d) B.pre
  have hown : s.vm.findClass RJx4a65c = some m.cls := findClass_of_methodNamed B.named
  have hlocks := B.notSynchronized
  have hin2 := (name_of_methodNamed B.named B.method).1
  have hS : va_S (fun q : Nat => q = b ∨ q = r) s.heap s.heap [] := va_S.rf
  have hin_wsJx4a65c0 : ∀ w ∈ wsJx4a65c0, w ∈ wsJx4a65c_add_9ea2d := fun w h => List.mem_cons_of_mem _ (List.mem_append_right _ h)
  have lt_hb_ : b < n0 := by have q : b < s.heap.size := hb_.lt; omega
  have lt_hr_ : r < n0 := by have q : r < s.heap.size := hr_.lt; omega
  have lt_hx_ : x < n0 := by have q : x < s.heap.size := hx_.lt; omega
  have hl := lv_entry ([.ref (b), .ref (x)]) (n := 2) (Nat.le_of_ble_eq_true rfl)
  rw [lg_entry_eq]
  generalize (lg_sl ([.ref (b), .ref (x)]) ++ List.replicate (2 - (lg_sl ([.ref (b), .ref (x)])).length) Slot.unset).toArray = ls at hl ⊢
  have hl : lv_has ls 2 [(0, .ref (b)), (1, .ref (x))] := hl
  refine lv_aload_n hx hb dJx4a65c_add_9ea2d_0 rfl (lv_at hl 0 rfl) ?_
  refine lv_dup hx hb dJx4a65c_add_9ea2d_1 rfl ?_
  refine x_mcget hx hb hts hin_wsJx4a65c0 hown hK hb_ (index := 63) (List.mem_of_getElem? (i := 1) rfl) (List.mem_of_getElem? (i := 2) rfl) dJx4a65c_add_9ea2d_2 ?_
  refine lv_iconst (v := nI (1)) hx hb dJx4a65c_add_9ea2d_5 (by decide) ?_
  refine lv_iadd (x := mc) (y := nI (1)) hx hb dJx4a65c_add_9ea2d_6 ?_
  refine x_mcput hx hb hts hin_wsJx4a65c0 hown hK hb_ (by first | exact rfl | (show b = b ∨ b = r; omega)) hS (index := 63) (List.mem_of_getElem? (i := 1) rfl) (List.mem_of_getElem? (i := 2) rfl) dJx4a65c_add_9ea2d_7 (fun H locs h9 ho hS => ?_)
  replace hb_ : va_at G vwCl (b, .inr (0, [.int ((mc) + (nI (1))), .ref (r), .int (nI (n))])) H := h9
  replace hr_ := hr_.only ho (show r ≠ b by omega)
  replace hx_ := hx_.only ho (show x ≠ b by omega)
  replace hsz : H.size = n0 := ho.1.trans hsz
  clear ho
  refine lv_aload_n hx hb dJx4a65c_add_9ea2d_10 rfl (lv_at hl 0 rfl) ?_
  refine lv_aload_n hx hb dJx4a65c_add_9ea2d_11 rfl (lv_at hl 1 rfl) ?_
  refine lv_aload_n hx hb dJx4a65c_add_9ea2d_12 rfl (lv_at hl 0 rfl) ?_
  refine x_get (C := RJx4a65c) (T := TJx4a65c) (N := 3) (ci := 0) (fs := [.int ((mc) + (nI (1))), .ref (r), .int (nI (n))]) (v := .ref (r)) hx hb hts hin_wsJx4a65c0 hown hK hb_ rfl 1 (by decide) (index := 9) (List.mem_of_getElem? (i := 3) rfl) rfl dJx4a65c_add_9ea2d_13 ?_
  refine lv_aload_n hx hb dJx4a65c_add_9ea2d_16 rfl (lv_at hl 0 rfl) ?_
  refine x_get (C := RJx4a65c) (T := TJx4a65c) (N := 3) (ci := 0) (fs := [.int ((mc) + (nI (1))), .ref (r), .int (nI (n))]) (v := .int (nI (n))) hx hb hts hin_wsJx4a65c0 hown hK hb_ rfl 2 (by decide) (index := 48) (List.mem_of_getElem? (i := 4) rfl) rfl dJx4a65c_add_9ea2d_17 ?_
  refine w_callV (As := [.ref (x), .ref (r), .int (nI (n))]) (rest := []) (c1 := 0) (s1 := 0) (fun q h => by (try dsimp only at h); (try dsimp only); omega) ⟨hx, hb, hml, hown, hts⟩ (cn_add3_c l G ids tS tE b x r n0 n k ((mc) + (nI (1))) cx rx fx f hnk hk hcx hcast hxb hxr hbr) (cwV 3 hts gJx4a65c_add_9ea2d_Jx4a65c_add_72be8 rfl rfl rfl (by decide +kernel) ⟨Nat.le_of_ble_eq_true rfl, Nat.le_of_ble_eq_true rfl⟩) hK hZ hb_ rfl ⟨hsz, hb_, hr_, hx_⟩ hS rfl hl.1 rfl (Nat.le_of_ble_eq_true rfl) dJx4a65c_add_9ea2d_20 ⟨Nat.le_of_ble_eq_true rfl, (Nat.le_of_ble_eq_true rfl)⟩ rfl rfl (fun H locs hP1 _ hk1 hS => ?_)
  replace hx_ := hx_.kept (hk1 _ hx_.lt (by show ¬ (x = b ∨ x = r); omega))
  clear hk1
  obtain ⟨hsz, hb_, hr_⟩ := hP1
  refine lv_iconst (v := nI (1)) hx hb dJx4a65c_add_9ea2d_23 (by decide) ?_
  exact w_iret (Pic1 := (fun H : Heap => H.size = n0 ∧ va_at G vwCl (b, .inr (0, [.int ((mc) + (nI (1))), .ref (r), .int (nI (n + 1))])) H ∧ va_at G vwCl (r, .inl (ids 5, k, .inr (.inr (.inr (.inr (va_up (f) n (some (x)))))))) H)) (v := nI (1)) hx hb hr hlocks (by decide +kernel) (Nat.le_of_ble_eq_true rfl) (Nat.le_of_ble_eq_true rfl) ⟨hsz, hb_, hr_⟩ hS dJx4a65c_add_9ea2d_24 rfl
