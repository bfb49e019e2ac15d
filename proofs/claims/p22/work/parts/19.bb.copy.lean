/-! Arrays.copyOf of a row of objects of one class -/
theorem va_P.two {G : va_G} {x y : Nat × va_E} {H : Heap} (h1 : va_at G vwCl x H) (h2 : va_at G vwCl y H) : va_P G vwCl [x, y] H := fun k q hq => by
  match k, hq with
  | 0, hq => cases hq; exact h1
  | 1, hq => cases hq; exact h2
theorem va_D.two {A : Nat → Prop} {a b : Nat} {x y : va_E} (hne : a ≠ b) (ha : A a) (hb : A b) : va_D A [(a, x), (b, y)] := by
  refine ⟨fun i j p q hi hj he => ?_, fun k q hq => ?_⟩
  · match i, j, hi, hj with
    | 0, 0, _, _ => rfl
    | 1, 1, _, _ => rfl
    | 0, 1, hi, hj => cases hi; cases hj; exact absurd he hne
    | 1, 0, hi, hj => cases hi; cases hj; exact absurd he.symm hne
  · match k, hq with
    | 0, hq => cases hq; exact ha
    | 1, hq => cases hq; exact hb
def wM (av : List Value) (G : va_G) (ids : Nat → ClassId) (tS tE : Nat) (A : Nat → Prop) (mi : Nat) (Pic : Heap → Prop) : Array Value → State → Prop := va_Pc av (fun U => Pic U.heap ∧ va_K G vwCl (cTy ids) U ∧ cST tS tE A U U.heap ∧ va_Mi "[Ljava/lang/Object;" mi U)
theorem wM_blind {G : va_G} {ids : Nat → ClassId} {tS tE mi : Nat} {A : Nat → Prop} {Pic : Heap → Prop} {av : List Value} : FrameBlind (wM av G ids tS tE A mi Pic) := fun _ U g mk q => ⟨q.1, q.2.1, va_K.moved (u := U) (U := U.calling g mk _) (Vm.Alike.refl U.vm) q.2.2.1, cST.moved (u := U) (U := U.calling g mk _) (Vm.Alike.refl U.vm) q.2.2.2.1, va_Mi.moved (u := U) (U := U.calling g mk _) (Vm.Alike.refl U.vm) q.2.2.2.2⟩
abbrev cpPost (G : va_G) (ids : Nat → ClassId) (n0 k N : Nat) (f : Nat → Option Nat) : Heap → Prop := fun H : Heap => (∃ n1, n0 < n1 ∧ H.size = n1) ∧ va_at G vwCl (n0, .inl (ids 5, N, .inr (.inr (.inr (.inr (va_cpy f (fun _ => none) 0 0 k)))))) H
set_option maxHeartbeats 4000000 in
set_option maxRecDepth 100000 in
theorem cj_copy3 (l : Launch) (G : va_G) (ids : Nat → ClassId) (tS tE mi r n0 k N : Nat) (cx : Nat) (rx : vw_C) (f : Nat → Option Nat) (hk : k ≤ N) (hN : N ≤ 60) (hcx : vwCl[cx]? = some rx) (hcast : Cond.castable rx.1 "java/lang/Object" ∈ xNW) : Met l yJ7_copyOf_6403c wsJ7_copyOf_6403c ({ frames := 1, cells := 1, slots := 60, locals := 30 } : Room) (wM [.ref r, .int (nI N), .ref mi] G ids tS tE (fun q : Nat => q = r ∨ n0 ≤ q) mi (fun H : Heap => H.size = n0 ∧ va_at G vwCl (r, .inl (ids 5, k, .inr (.inr (.inr (.inr f))))) H ∧ EL G cx k f H)) (va_Qr (fun _ : Unit => True) (fun _ a t => a = n0 ∧ cpPost G ids n0 k N f t.heap) (fun q : Nat => q = r ∨ n0 ≤ q)) 1 60 (fun q : Nat => q = r ∨ n0 ≤ q) := by
  refine Met.ofW (cc := cJ7_copyOf_6403c) (maxL := 4) (ret := (some (.array (.object "java/lang/Object")))) (by decide) rfl ?_
  intro p e s m args below meth c s₁ B hml hv
  obtain ⟨rfl, ⟨hsz, hr_, he_⟩, hK, hZ, hM⟩ := hv
  have hx := B.exec
  have hb := B.bytes
  have hr := B.returns
  have hts := atoms_spec (ws := wsJ7_copyOf_6403c) B.pre
  have hown : s.vm.findClass RJ7 = some m.cls := findClass_of_methodNamed B.named
  have hlocks := B.notSynchronized
  have hS : va_S (fun q : Nat => q = r ∨ n0 ≤ q) s.heap s.heap [] := va_S.rf
  have lt_r : r < n0 := by have q : r < s.heap.size := hr_.lt; omega
  have hl := lv_entry ([.ref r, .int (nI N), .ref mi]) (n := 4) (Nat.le_of_ble_eq_true rfl)
  rw [lg_entry_eq]
  generalize (lg_sl ([.ref r, .int (nI N), .ref mi]) ++ List.replicate (4 - (lg_sl ([.ref r, .int (nI N), .ref mi])).length) Slot.unset).toArray = ls at hl ⊢
  have hl : lv_has ls 4 [(0, .ref r), (1, .int (nI N)), (2, .ref mi)] := hl
  refine lv_aload_n hx hb dJ7_copyOf_6403c_0 rfl (lv_at hl 2 rfl) ?_
  refine va_ldcM hx hb hown (hts _ (List.mem_of_getElem? (i := 1) rfl)) hM dJ7_copyOf_6403c_1 ?_
  refine lv_acmp_ne (rx := some mi) (ry := some mi) (tgt := 13) hx hb dJ7_copyOf_6403c_3 (by decide) (fun h => absurd rfl h) (fun _ => ?_)
  refine lv_iload_n hx hb dJ7_copyOf_6403c_6 rfl (lv_at hl 1 rfl) ?_
  refine x_newq (cI := ids 5) (N' := N) (c1 := 1) (s1 := 0 + N) (q := n0) hx hb hown (hts _ (List.mem_of_getElem? (i := 2) rfl)) hZ.2.2.2.2.2.2.1 hK 5 rfl hS (nI_pos (by omega)) (nI_clamp (by omega)) (by omega) (Nat.le_of_ble_eq_true rfl) (by show 0 + N ≤ 60; omega) dJ7_copyOf_6403c_7 rfl rfl hsz (fun H hm hc1 hS => ?_)
  replace hr_ := hr_.kept (hm.2 _ hr_.lt)
  replace he_ := he_.more hm
  replace hsz : H.size = n0 + 1 := by rw [hm.1, hsz]
  clear hm
  refine lv_goto (tgt := 24) hx hb dJ7_copyOf_6403c_10 (by decide) ?_
  refine lv_astore_n (lv' := [(3, .ref n0), (0, .ref r), (1, .int (nI N)), (2, .ref mi)]) hx hb dJ7_copyOf_6403c_24 rfl hl (by decide) rfl (fun ls hl => ?_)
  refine lv_aload_n hx hb dJ7_copyOf_6403c_25 rfl (lv_at hl 1 rfl) ?_
  refine lv_iconst (v := nI 0) hx hb dJ7_copyOf_6403c_26 (by decide) ?_
  refine lv_aload_n hx hb dJ7_copyOf_6403c_27 rfl (lv_at hl 0 rfl) ?_
  refine lv_iconst (v := nI 0) hx hb dJ7_copyOf_6403c_28 (by decide) ?_
  refine lv_aload_n hx hb dJ7_copyOf_6403c_29 rfl (lv_at hl 1 rfl) ?_
  refine x_alen hx hb hK 5 rfl hr_ (n := k) rfl dJ7_copyOf_6403c_30 ?_
  refine lv_iload_n hx hb dJ7_copyOf_6403c_31 rfl (lv_at hl 2 rfl) ?_
  refine w_mmin (x := nI k) (y := nI N) hx hb hml hl.1 hown hts (List.mem_of_getElem? (i := 3) rfl) (List.mem_of_getElem? (i := 4) rfl) (List.mem_of_getElem? (i := 5) rfl) (List.mem_of_getElem? (i := 6) rfl) (Nat.le_of_ble_eq_true rfl) (Nat.le_of_ble_eq_true rfl) (Nat.le_of_ble_eq_true rfl) (Nat.le_of_ble_eq_true rfl) (by show 0 + N ≤ 60; omega) dJ7_copyOf_6403c_32 ?_
  refine W.eq (g2 := F0 m 35 ls (.int (nI k) :: .int (nI 0) :: .ref n0 :: .int (nI 0) :: .ref r :: [])) (congrArg (fun v => F0 m 35 ls (Value.int v :: .int (nI 0) :: .ref n0 :: .int (nI 0) :: .ref r :: [])) (w_minN hk (by omega))) ?_
  refine va_copyq hx hb (hml.trans hl.1.symm) hown (hts _ (List.mem_of_getElem? (i := 7) rfl)) (hts _ (List.mem_of_getElem? (i := 8) rfl)) (hts _ (List.mem_of_getElem? (i := 9) rfl)) (hts _ (List.mem_of_getElem? (i := 10) rfl)) hK (va_P.two hr_ hc1) (va_D.two (A := fun q : Nat => q = r ∨ n0 ≤ q) (show r ≠ n0 by omega) (Or.inl rfl) (Or.inr (Nat.le_refl _))) hS 0 1 5 5 (E0 := "java/lang/Object") (E1 := "java/lang/Object") (C := rx.1) rfl rfl rfl rfl (nI_pos (by decide)) (nI_pos (by decide)) (nI_pos (by omega)) (by rw [nI_clamp (by decide), nI_clamp (by omega)]; omega) (by rw [nI_clamp (by decide), nI_clamp (by omega)]; omega) (fun i hi y hy => ?_) (vb_asgC (va_Nw.use (xNW_tab _ hcast) (hZ.2.2.2.2.1 _ hcast))) (Nat.le_of_ble_eq_true rfl) (Nat.le_of_ble_eq_true rfl) dJ7_copyOf_6403c_35 (fun H1 locs1 hP hD hS => ?_)
  · rw [nI_clamp (by omega)] at hi
    rw [nI_clamp (by decide), Nat.zero_add] at hy
    obtain ⟨fs, q⟩ := he_ i hi y hy
    exact va_recv hK (va_P.one q) (ci := cx) (q0 := 0) hcx rfl
  · refine lv_aload_n hx hb dJ7_copyOf_6403c_38 rfl (lv_at hl 0 rfl) ?_
    have h9 : va_at G vwCl (n0, .inl (ids 5, N, .inr (.inr (.inr (.inr (va_cpy f (fun _ => none) (nI 0).toNatClampNeg (nI 0).toNatClampNeg (nI k).toNatClampNeg)))))) H1 := hP 1 _ rfl
    rw [nI_clamp (by decide), nI_clamp (by omega)] at h9
    exact w_rret (Pic1 := cpPost G ids n0 k N f) hx hb hr hlocks (Nat.le_of_ble_eq_true rfl) (by show 0 + N ≤ 60; omega) ⟨⟨H1.size, h9.lt, rfl⟩, h9⟩ hS dJ7_copyOf_6403c_39
set_option maxHeartbeats 4000000 in
set_option maxRecDepth 100000 in
theorem cj_copy2 (l : Launch) (G : va_G) (ids : Nat → ClassId) (tS tE : Nat) (r n0 k N : Nat) (cx : Nat) (rx : vw_C) (f : Nat → Option Nat) (hk : k ≤ N) (hN : N ≤ 60) (hcx : vwCl[cx]? = some rx) (hcast : Cond.castable rx.1 "java/lang/Object" ∈ xNW) : wR l yJ7_copyOf_1904c wsJ7_copyOf_1904c ({ frames := 2, cells := 1, slots := 60, locals := 53 } : Room) G ids tS tE [.ref r, .int (nI N)] (fun H : Heap => H.size = n0 ∧ va_at G vwCl (r, .inl (ids 5, k, .inr (.inr (.inr (.inr f))))) H ∧ EL G cx k f H) n0 (cpPost G ids n0 k N f) (fun q : Nat => q = r ∨ n0 ≤ q) 1 60 := by
  unfold wR
  refine Met.ofW (cc := cJ7_copyOf_1904c) (maxL := 2) (ret := (some (.array (.object "java/lang/Object")))) (by decide) rfl ?_
  intro p e s m args below meth c s₁ B hml hv
  obtain ⟨rfl, ⟨hsz, hr_, he_⟩, hK, hZ⟩ := hv
  obtain ⟨mi, hM⟩ := hZ.2.2.2.2.2.1
  have hx := B.exec
  have hb := B.bytes
  have hr := B.returns
  have hts := atoms_spec (ws := wsJ7_copyOf_1904c) B.pre
  have hown : s.vm.findClass RJ7 = some m.cls := findClass_of_methodNamed B.named
  have hlocks := B.notSynchronized
  have hS : va_S (fun q : Nat => q = r ∨ n0 ≤ q) s.heap s.heap [] := va_S.rf
  have hl := lv_entry ([.ref r, .int (nI N)]) (n := 2) (Nat.le_of_ble_eq_true rfl)
  rw [lg_entry_eq]
  generalize (lg_sl ([.ref r, .int (nI N)]) ++ List.replicate (2 - (lg_sl ([.ref r, .int (nI N)])).length) Slot.unset).toArray = ls at hl ⊢
  have hl : lv_has ls 2 [(0, .ref r), (1, .int (nI N))] := hl
  refine lv_aload_n hx hb dJ7_copyOf_1904c_0 rfl (lv_at hl 0 rfl) ?_
  refine lv_iload_n hx hb dJ7_copyOf_1904c_1 rfl (lv_at hl 1 rfl) ?_
  refine lv_aload_n hx hb dJ7_copyOf_1904c_2 rfl (lv_at hl 0 rfl) ?_
  refine va_getC hx hb (hml.trans hl.1.symm) (C := "[Ljava/lang/Object;") hown (hts _ (List.mem_of_getElem? (i := 1) rfl)) (va_Nw.use rfl (hZ.2.2.2.2.1 _ (List.mem_of_getElem? (i := 9) rfl))) (hts _ (List.mem_of_getElem? (i := 2) rfl)) (hts _ (List.mem_of_getElem? (i := 3) rfl)) (hts _ (List.mem_of_getElem? (i := 4) rfl)) hM ⟨_, hr_, rfl, cTy_nq hK (t0 := 5) rfl⟩ (Nat.le_of_ble_eq_true rfl) (Nat.le_of_ble_eq_true rfl) dJ7_copyOf_1904c_3 ?_
  refine va_callr (va_runS ⟨hx, hb, hml, hown, hts⟩ (cj_copy3 l G ids tS tE mi r n0 k N cx rx f hk hN hcx hcast) (va_cwS (rm := ({ frames := 1, cells := 1, slots := 60, locals := 30 } : Room)) 3 hts gJ7_copyOf_1904c_J7_copyOf_6403c rfl rfl rfl (by decide +kernel) ⟨Nat.le_of_ble_eq_true rfl, Nat.le_of_ble_eq_true rfl⟩) ⟨wM_blind, fun U hU hW => ⟨rfl, by rw [hU]; exact ⟨hsz, hr_, he_⟩, va_K.moved hW.alike hK, cST_at hZ hS hU hW.alike, va_Mi.moved hW.alike hM⟩⟩ (As := [.ref r, .int (nI N), .ref mi]) (rest := []) rfl rfl hl.1 rfl (lv_room (Nat.le_of_ble_eq_true rfl)) dJ7_copyOf_1904c_6 ⟨Nat.le_of_ble_eq_true rfl, Nat.le_of_ble_eq_true rfl⟩) hS (fun q _ h => h) (fun q h => h) (fun u r1 t H1 locs1 ht hvm hw hB hz hk1 hS1 => ?_)
  obtain ⟨e1, hB⟩ := hB
  rw [ht] at hB
  rw [e1]
  exact w_rret (Pic1 := cpPost G ids n0 k N f) hx hb hr hlocks (Nat.le_of_ble_eq_true rfl) (Nat.le_of_ble_eq_true rfl) hB hS1 dJ7_copyOf_1904c_9
