/-! lists: size, get -/
def xR (l : Launch) (y : MethodName) (ws : List Cond) (rm : Room) (G : va_G) (ids : Nat → ClassId) (av : List Value) (Pic : Heap → Prop) (r : Nat) (Pic1 : Heap → Prop) (A : Nat → Prop) : Prop :=
  Met l y ws rm (xPc av G ids Pic) (va_Qr (fun _ : Unit => True) (fun _ a t => a = r ∧ Pic1 t.heap) A) 0 0 A
section LR
variable {p : Program} {l : Launch} {e : Env} {R : Room} {s : State} {m : MethodId} {args : Array Value} {below : List Frame} {meth : Method} {c : Code} {H : Heap} {locs : List Loc} {cells slots : Nat} {Q : State → Prop}
variable {cc : ByteArray} {pc : Nat} {ls : Array Slot} {rest : List Value} {G : va_G} {ids : Nat → ClassId} {A : Nat → Prop} {H0 : Heap} {Ts : List Cond}
theorem x_callR {y : MethodName} {ws : List Cond} {rm : Room} {b : Nat} {As : List Value} {r : Nat} {Pic Pic1 : Heap → Prop} {A1 : Nat → Prop} {bytes : ByteArray} {maxL nL n index ci : Nat} {ret : Option FieldType} {own C : String} {T : u_T} {N : Nat} {fs : List Value} (hAA : ∀ q, A1 q → A q) (S : CallFix p m c cc nL s args Ts own) (hM : xR l y ws rm G ids (.ref b :: As) Pic r Pic1 A1) (cw : CallW R s args own C index y bytes maxL ret ws rm 0 0 n) (hK : va_K G vwCl (cTy ids) s) (he : va_at G vwCl (b, .inr (ci, fs)) H) (hc : vwCl[ci]? = some (C, T, N)) (hP : Pic H) (hS : va_S A H0 H locs) (hn : As.length = n) (hsz : ls.size = nL) {st0 : List Value} (hst : st0 = As.reverse ++ .ref b :: rest) (hW : (rest.map fun v => v.category).sum ≤ 8) (hdg : decode cc pc = .ok (.invokevirtual index, 3)) (hf : cells ≤ R.cells ∧ slots ≤ R.slots)
    (kk : ∀ (H1 : Heap) (locs1 : List Loc), Pic1 H1 → H.size ≤ H1.size → (∀ q : Nat, q < H.size → ¬ A1 q → H1[q]? = H[q]?) → va_S A H0 H1 locs1 → W p l e R s m args below meth c H1 locs1 cells slots Q (F0 m (pc + 3) ls (.ref r :: rest))) : W p l e R s m args below meth c H locs cells slots Q (F0 m pc ls st0) := by
  refine va_callr (va_runV S hM cw ⟨xPc_blind, va_recv hK (va_P.one he) (ci := ci) (q0 := 0) hc rfl, fun U hU hW => ⟨rfl, by rw [hU]; exact hP, va_K.moved hW.alike hK⟩⟩ rfl hn hsz hst (lv_room hW) hdg hf) hS (fun q _ h => hAA q h) (fun q h => hAA q h) (fun u r1 t H1 locs1 ht hvm hw hB hz hk hS1 => ?_)
  obtain ⟨rfl, hB⟩ := hB
  exact kk H1 locs1 (by rw [← ht]; exact hB) hz hk hS1
theorem x_rret {Pic1 : Heap → Prop} {r : Nat} {n : String} (hx : p.tables.exec = Jvm.exec) (hb : c.code = cc) (hr : meth.sig.returnType = some (.object n)) (hlocks : meth.locks = false) (hP : Pic1 H) (hS : va_S A s.heap H locs) (d : decode cc pc = .ok (.areturn, 1)) : W p l e R s m args below meth c H locs 0 0 (MQ below (va_Qr (fun _ : Unit => True) (fun _ a t => a = r ∧ Pic1 t.heap) A) args s 0 0 A) (F0 m pc ls [.ref r]) :=
  W.aret hx hb hr (Or.inl ⟨_, rfl⟩) (Or.inr ⟨_, rfl⟩) (fun t ht hW => ⟨⟨(), r, rfl, trivial, rfl, by show Pic1 t.heap; rw [ht]; exact hP⟩, hS.F ht⟩) hS.2.2 d hlocks
end LR
theorem cj_check3 (l : Launch) (j n : Nat) (hj : j < n) (hn : n < 2 ^ 31) : sI l yJ3_checkIndex_8e157 wsJ3_checkIndex_8e157 ({ frames := 0, cells := 0, slots := 0, locals := 0 } : Room) [.int (nI j), .int (nI n), .null] (nI j) := by
  unfold sI
  refine Met.ofW (cc := cJ3_checkIndex_8e157) (maxL := 3) (ret := (some .int)) (by decide) rfl ?_
  intro p e s m args below meth c s₁ B hml hv
  obtain ⟨rfl, -⟩ := hv
  have hx := B.exec
  have hb := B.bytes
  have hr := B.returns
  have hts := atoms_spec (ws := wsJ3_checkIndex_8e157) B.pre
  have hown : s.vm.findClass RJ3 = some m.cls := findClass_of_methodNamed B.named
  have hlocks := B.notSynchronized
  have hS : va_S (fun _ => False) s.heap s.heap [] := va_S.rf
  have hl := lv_entry ([.int (nI j), .int (nI n), .null]) (n := 3) (Nat.le_of_ble_eq_true rfl)
  rw [lg_entry_eq]
  generalize (lg_sl ([.int (nI j), .int (nI n), .null]) ++ List.replicate (3 - (lg_sl ([.int (nI j), .int (nI n), .null])).length) Slot.unset).toArray = ls at hl ⊢
  have hl : lv_has ls 3 [(0, .int (nI j)), (1, .int (nI n)), (2, .null)] := hl
  refine w_named (fun WW hWW => ?_)
  refine lv_iload_n hx hb dJ3_checkIndex_8e157_0 rfl (lv_at hl 0 rfl) ?_
  refine lv_if_lt (x := nI j) (tgt := 9) hx hb dJ3_checkIndex_8e157_1 (by decide) (fun h => absurd h (nI_pos (by omega))) (fun _ => ?_)
  refine lv_iload_n hx hb dJ3_checkIndex_8e157_4 rfl (lv_at hl 0 rfl) ?_
  refine lv_iload_n hx hb dJ3_checkIndex_8e157_5 rfl (lv_at hl 1 rfl) ?_
  refine n_icmp_lt (x := j) (y := n) (tgt := 16) hx hb (by omega) (by omega) dJ3_checkIndex_8e157_6 (by decide) (fun _ => ?_) (fun h => absurd hj h)
  refine lv_iload_n hx hb dJ3_checkIndex_8e157_16 rfl (lv_at hl 0 rfl) ?_
  exact s_iret (v := nI j) hx hb hr hlocks hS dJ3_checkIndex_8e157_17 rfl
theorem cj_check2 (l : Launch) (j n : Nat) (hj : j < n) (hn : n < 2 ^ 31) : sI l yJ15_checkIndex_7cf53 wsJ15_checkIndex_7cf53 ({ frames := 1, cells := 0, slots := 0, locals := 22 } : Room) [.int (nI j), .int (nI n)] (nI j) := by
  unfold sI
  refine Met.ofW (cc := cJ15_checkIndex_7cf53) (maxL := 2) (ret := (some .int)) (by decide) rfl ?_
  intro p e s m args below meth c s₁ B hml hv
  obtain ⟨rfl, -⟩ := hv
  have hx := B.exec
  have hb := B.bytes
  have hr := B.returns
  have hts := atoms_spec (ws := wsJ15_checkIndex_7cf53) B.pre
  have hown : s.vm.findClass RJ15 = some m.cls := findClass_of_methodNamed B.named
  have hlocks := B.notSynchronized
  have hS : va_S (fun _ => False) s.heap s.heap [] := va_S.rf
  have hl := lv_entry ([.int (nI j), .int (nI n)]) (n := 2) (Nat.le_of_ble_eq_true rfl)
  rw [lg_entry_eq]
  generalize (lg_sl ([.int (nI j), .int (nI n)]) ++ List.replicate (2 - (lg_sl ([.int (nI j), .int (nI n)])).length) Slot.unset).toArray = ls at hl ⊢
  have hl : lv_has ls 2 [(0, .int (nI j)), (1, .int (nI n))] := hl
  refine w_named (fun WW hWW => ?_)
  refine lv_iload_n hx hb dJ15_checkIndex_7cf53_0 rfl (lv_at hl 0 rfl) ?_
  refine lv_iload_n hx hb dJ15_checkIndex_7cf53_1 rfl (lv_at hl 1 rfl) ?_
  refine lv_null hx hb dJ15_checkIndex_7cf53_2 ?_
  refine s_call (As := [.int (nI j), .int (nI n), .null]) (rest := []) ⟨hx, hb, hml, hown, hts⟩ (cj_check3 l j n hj hn) (va_cwS 3 hts gJ15_checkIndex_7cf53_J3_checkIndex_8e157 rfl rfl rfl (by decide +kernel) ⟨Nat.le_of_ble_eq_true rfl, Nat.le_of_ble_eq_true rfl⟩) hS rfl hl.1 rfl (Nat.le_of_ble_eq_true rfl) dJ15_checkIndex_7cf53_3 ⟨Nat.zero_le _, Nat.zero_le _⟩ (fun H locs _ _ hS => ?_)
  exact s_iret (v := nI j) hx hb hr hlocks hS dJ15_checkIndex_7cf53_6 rfl
/-- a list and its row -/
def LsP (G : va_G) (ids : Nat → ClassId) (b r : Nat) (mc : Int32) (n k : Nat) (f : Nat → Option Nat) (H : Heap) : Prop := va_at G vwCl (b, .inr (0, [.int mc, .ref r, .int (nI n)])) H ∧ va_at G vwCl (r, .inl (ids 5, k, .inr (.inr (.inr (.inr f))))) H
theorem LsP.kept {G : va_G} {ids : Nat → ClassId} {b r : Nat} {mc : Int32} {n k : Nat} {f : Nat → Option Nat} {H H1 : Heap} (hP : LsP G ids b r mc n k f H) (h : ∀ q : Nat, q < H.size → H1[q]? = H[q]?) : LsP G ids b r mc n k f H1 := ⟨hP.1.kept (h _ hP.1.lt), hP.2.kept (h _ hP.2.lt)⟩
theorem cj_size (l : Launch) (G : va_G) (ids : Nat → ClassId) (b : Nat) (v1 v2 : Value) (v : Int32) : xI l yJx4a65c_size_8abf5 wsJx4a65c_size_8abf5 ({ frames := 0, cells := 0, slots := 0, locals := 0 } : Room) G ids [.ref b] (fun H => va_at G vwCl (b, .inr (0, [v1, v2, .int v])) H) v (fun H => va_at G vwCl (b, .inr (0, [v1, v2, .int v])) H) (fun _ => False) := by
  unfold xI
  refine Met.ofW (cc := cJx4a65c_size_8abf5) (maxL := 1) (ret := (some .int)) (by decide) rfl ?_
  intro p e s m args below meth c s₁ B hml hv
  obtain ⟨rfl, hP, hK⟩ := hv
  have hx := B.exec
  have hb := B.bytes
  have hr := B.returns
  have hts := atoms_spec (ws := wsJx4a65c_size_8abf5) B.pre
  have hown : s.vm.findClass RJx4a65c = some m.cls := findClass_of_methodNamed B.named
  have hlocks := B.notSynchronized
  have hS : va_S (fun _ => False) s.heap s.heap [] := va_S.rf
  have hl := lv_entry ([.ref b]) (n := 1) (Nat.le_of_ble_eq_true rfl)
  rw [lg_entry_eq]
  generalize (lg_sl ([.ref b]) ++ List.replicate (1 - (lg_sl ([.ref b])).length) Slot.unset).toArray = ls at hl ⊢
  have hl : lv_has ls 1 [(0, .ref b)] := hl
  refine w_named (fun WW hWW => ?_)
  have hin : ∀ w ∈ wsJx4a65c0, w ∈ wsJx4a65c_size_8abf5 := fun w h => List.mem_cons_of_mem _ (List.mem_append_right _ h)
  refine lv_aload_n hx hb dJx4a65c_size_8abf5_0 rfl (lv_at hl 0 rfl) ?_
  refine x_get (C := RJx4a65c) (T := TJx4a65c) (N := 3) (ci := 0) (fs := [v1, v2, .int v]) (v := .int v) hx hb hts hin hown hK hP rfl 2 (by decide) (index := 48) (List.mem_of_getElem? (i := 1) rfl) rfl dJx4a65c_size_8abf5_1 ?_
  exact x_iret (v := v) hx hb hr hlocks hP hS dJx4a65c_size_8abf5_4 rfl
theorem cj_elem (l : Launch) (G : va_G) (ids : Nat → ClassId) (b r : Nat) (mc : Int32) (n k j a : Nat) (f : Nat → Option Nat) (hj : j < k) (hk : k < 2 ^ 31) (ha : f j = some a) : xR l yJx4a65c_elementData_915e3 wsJx4a65c_elementData_915e3 ({ frames := 0, cells := 0, slots := 0, locals := 0 } : Room) G ids [.ref b, .int (nI j)] (LsP G ids b r mc n k f) a (LsP G ids b r mc n k f) (fun _ => False) := by
  unfold xR
  refine Met.ofW (cc := cJx4a65c_elementData_915e3) (maxL := 2) (ret := (some (.object "java/lang/Object"))) (by decide) rfl ?_
  intro p e s m args below meth c s₁ B hml hv
  obtain ⟨rfl, hP, hK⟩ := hv
  have hx := B.exec
  have hb := B.bytes
  have hr := B.returns
  have hts := atoms_spec (ws := wsJx4a65c_elementData_915e3) B.pre
  have hown : s.vm.findClass RJx4a65c = some m.cls := findClass_of_methodNamed B.named
  have hlocks := B.notSynchronized
  have hS : va_S (fun _ => False) s.heap s.heap [] := va_S.rf
  have hl := lv_entry ([.ref b, .int (nI j)]) (n := 2) (Nat.le_of_ble_eq_true rfl)
  rw [lg_entry_eq]
  generalize (lg_sl ([.ref b, .int (nI j)]) ++ List.replicate (2 - (lg_sl ([.ref b, .int (nI j)])).length) Slot.unset).toArray = ls at hl ⊢
  have hl : lv_has ls 2 [(0, .ref b), (1, .int (nI j))] := hl
  refine w_named (fun WW hWW => ?_)
  have hin : ∀ w ∈ wsJx4a65c0, w ∈ wsJx4a65c_elementData_915e3 := fun w h => List.mem_cons_of_mem _ (List.mem_append_right _ h)
  refine lv_aload_n hx hb dJx4a65c_elementData_915e3_0 rfl (lv_at hl 0 rfl) ?_
  refine x_get (C := RJx4a65c) (T := TJx4a65c) (N := 3) (ci := 0) (fs := [.int mc, .ref r, .int (nI n)]) (v := .ref r) hx hb hts hin hown hK hP.1 rfl 1 (by decide) (index := 9) (List.mem_of_getElem? (i := 1) rfl) rfl dJx4a65c_elementData_915e3_1 ?_
  refine lv_iload_n hx hb dJx4a65c_elementData_915e3_4 rfl (lv_at hl 1 rfl) ?_
  refine x_aald (r := a) hx hb hK 5 rfl hP.2 (vp_in_nI hj hk) (by rw [nI_clamp (by omega)]; exact ha) dJx4a65c_elementData_915e3_5 ?_
  exact x_rret hx hb hr hlocks hP hS dJx4a65c_elementData_915e3_6
theorem cj_get (l : Launch) (G : va_G) (ids : Nat → ClassId) (b r : Nat) (mc : Int32) (n k j a : Nat) (f : Nat → Option Nat) (hj : j < n) (hnk : n ≤ k) (hk : k < 2 ^ 31) (ha : f j = some a) : xR l yJx4a65c_get_915e3 wsJx4a65c_get_915e3 ({ frames := 2, cells := 0, slots := 0, locals := 43 } : Room) G ids [.ref b, .int (nI j)] (LsP G ids b r mc n k f) a (LsP G ids b r mc n k f) (fun _ => False) := by
  unfold xR
  refine Met.ofW (cc := cJx4a65c_get_915e3) (maxL := 2) (ret := (some (.object "java/lang/Object"))) (by decide) rfl ?_
  intro p e s m args below meth c s₁ B hml hv
  obtain ⟨rfl, hP, hK⟩ := hv
  have hx := B.exec
  have hb := B.bytes
  have hr := B.returns
  have hts := atoms_spec (ws := wsJx4a65c_get_915e3) B.pre
  have hown : s.vm.findClass RJx4a65c = some m.cls := findClass_of_methodNamed B.named
  have hlocks := B.notSynchronized
  have hS : va_S (fun _ => False) s.heap s.heap [] := va_S.rf
  have hl := lv_entry ([.ref b, .int (nI j)]) (n := 2) (Nat.le_of_ble_eq_true rfl)
  rw [lg_entry_eq]
  generalize (lg_sl ([.ref b, .int (nI j)]) ++ List.replicate (2 - (lg_sl ([.ref b, .int (nI j)])).length) Slot.unset).toArray = ls at hl ⊢
  have hl : lv_has ls 2 [(0, .ref b), (1, .int (nI j))] := hl
  refine w_named (fun WW hWW => ?_)
  have hin : ∀ w ∈ wsJx4a65c0, w ∈ wsJx4a65c_get_915e3 := fun w h => List.mem_cons_of_mem _ (List.mem_append_right _ h)
  refine lv_iload_n hx hb dJx4a65c_get_915e3_0 rfl (lv_at hl 1 rfl) ?_
  refine lv_aload_n hx hb dJx4a65c_get_915e3_1 rfl (lv_at hl 0 rfl) ?_
  refine x_get (C := RJx4a65c) (T := TJx4a65c) (N := 3) (ci := 0) (fs := [.int mc, .ref r, .int (nI n)]) (v := .int (nI n)) hx hb hts hin hown hK hP.1 rfl 2 (by decide) (index := 48) (List.mem_of_getElem? (i := 1) rfl) rfl dJx4a65c_get_915e3_2 ?_
  refine s_call (As := [.int (nI j), .int (nI n)]) (rest := []) ⟨hx, hb, hml, hown, hts⟩ (cj_check2 l j n hj (by omega)) (va_cwS 2 hts gJx4a65c_get_915e3_J15_checkIndex_7cf53 rfl rfl rfl (by decide +kernel) ⟨Nat.le_of_ble_eq_true rfl, Nat.le_of_ble_eq_true rfl⟩) hS rfl hl.1 rfl (Nat.le_of_ble_eq_true rfl) dJx4a65c_get_915e3_5 ⟨Nat.zero_le _, Nat.zero_le _⟩ (fun H locs _ hk1 hS => ?_)
  replace hP := hP.kept hk1
  refine lv_pop hx hb dJx4a65c_get_915e3_8 rfl ?_
  refine lv_aload_n hx hb dJx4a65c_get_915e3_9 rfl (lv_at hl 0 rfl) ?_
  refine lv_iload_n hx hb dJx4a65c_get_915e3_10 rfl (lv_at hl 1 rfl) ?_
  refine x_callR (As := [.int (nI j)]) (rest := []) (fun _ h => h) ⟨hx, hb, hml, hown, hts⟩ (cj_elem l G ids b r mc n k j a f (by omega) hk ha) (cwV 1 hts gJx4a65c_get_915e3_Jx4a65c_elementData_915e3 rfl rfl rfl (by decide +kernel) ⟨Nat.le_of_ble_eq_true rfl, Nat.le_of_ble_eq_true rfl⟩) hK hP.1 rfl hP hS rfl hl.1 rfl (Nat.le_of_ble_eq_true rfl) dJx4a65c_get_915e3_11 ⟨Nat.zero_le _, Nat.zero_le _⟩ (fun H locs hP _ _ hS => ?_)
  exact x_rret hx hb hr hlocks hP hS dJx4a65c_get_915e3_14
