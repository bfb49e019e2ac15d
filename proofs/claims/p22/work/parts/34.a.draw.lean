/-! the law itself: what it draws, what stays the same -/
set_option maxHeartbeats 4000000 in
set_option maxRecDepth 100000 in
theorem ld_draw (l : Launch) (b L : Nat) (xs : Nat → Int32) (k : Nat) (hk : k < 1000) (hL : L < 1000) : Met l yL_draw wsL_draw ({ frames := 0, cells := 0, slots := 0, locals := 0 } : Room) (va_Pc [.ref b, .int (nI k)] (fun U => va_X b L xs U U.heap ∧ b < U.heap.size)) (va_Qi (fun (x : Int32) (X : Nat) => x = nI X ∧ X < 2 ^ 31) (fun _ _ => True) (fun _ => False)) 0 0 (fun _ => False) := by
  refine Met.ofW (cc := cL_draw) (maxL := 2) (ret := some .int) (by decide) rfl ?_
  intro p e s m args below meth c s₁ B hml hv
  obtain ⟨rfl, hX, hbl⟩ := hv
  have hx := B.exec
  have hb := B.bytes
  have hr := B.returns
  have hts := atoms_spec (ws := wsL_draw) B.pre
  have hown : s.vm.findClass RL = some m.cls := findClass_of_methodNamed B.named
  have hlocks := B.notSynchronized
  have hS : va_S (fun _ => False) s.heap s.heap [] := va_S.rf
  have hl := lv_entry ([.ref b, .int (nI k)]) (n := 2) (Nat.le_of_ble_eq_true rfl)
  rw [lg_entry_eq]
  generalize (lg_sl ([.ref b, .int (nI k)]) ++ List.replicate (2 - (lg_sl ([.ref b, .int (nI k)])).length) Slot.unset).toArray = ls at hl ⊢
  have hl : lv_has ls 2 [(0, .ref b), (1, .int (nI k))] := hl
  have fin : ∀ x : Int32, W p l e (headSpec wsL_draw ({ frames := 0, cells := 0, slots := 0, locals := 0 } : Room)).room s m #[Value.ref b, Value.int (nI k)] below meth c s.heap [] 0 0 (MQ below (va_Qi (fun (x : Int32) (X : Nat) => x = nI X ∧ X < 2 ^ 31) (fun _ _ => True) (fun _ => False)) #[Value.ref b, Value.int (nI k)] s 0 0 (fun _ => False)) (F0 m 20 ls [.int x]) := fun x => by
    refine lv_ldc (own := RL) (v := nI 2147483647) hx hb hown (hts _ (List.mem_of_getElem? (i := 2) rfl)) dL_draw_20 ?_
    refine lv_iand hx hb dL_draw_22 ?_
    obtain ⟨X, hX1, hX2⟩ := pk_andE x (m := nI 2147483647) 31 (by decide)
    rw [hX2]
    exact W.iret hx hb hr (fun t ht hW => ⟨⟨nI X, X, rfl, ⟨rfl, hX1⟩, trivial⟩, hS.F ht⟩) hS.2.2 dL_draw_23 hlocks
  refine lv_iload_n hx hb dL_draw_0 rfl (lv_at hl 1 rfl) ?_
  refine lv_aload_n hx hb dL_draw_1 rfl (lv_at hl 0 rfl) ?_
  refine va_slen hx hb hX hbl (fun h => h) hS dL_draw_2 ?_
  refine n_icmp_ge (x := k) (y := L) (tgt := 12) hx hb (by omega) (by omega) dL_draw_3 (by decide) (fun c9 => ?_) (fun c9 => ?_)
  · refine lv_ldc (own := RL) (v := nI 15595871) hx hb hown (hts _ (List.mem_of_getElem? (i := 1) rfl)) dL_draw_12 ?_
    refine lv_iload_n hx hb dL_draw_14 rfl (lv_at hl 1 rfl) ?_
    refine lv_imul (x := nI 15595871) (y := nI k) hx hb dL_draw_15 ?_
    refine lv_sipush (v := nI 11807) hx hb dL_draw_16 (by decide) ?_
    refine lv_iadd (x := nI 15595871 * nI k) (y := nI 11807) hx hb dL_draw_19 ?_
    exact fin _
  · refine lv_aload_n hx hb dL_draw_6 rfl (lv_at hl 0 rfl) ?_
    refine lv_iload_n hx hb dL_draw_7 rfl (lv_at hl 1 rfl) ?_
    refine va_sld hx hb hX hbl (fun h => h) hS (vp_in_nI (by omega) (by omega)) dL_draw_8 ?_
    refine lv_goto (tgt := 20) hx hb dL_draw_9 (by decide) ?_
    exact fin _
/-- what stays the same in the law's run -/
def LX (p : Program) (l : Launch) (s : State) (m : MethodId) (c : Code) (b L : Nat) (xs : Nat → Int32) (G : va_G) (ids : Nat → ClassId) (tS tE o qo z : Nat) : Prop :=
  p.tables.exec = Jvm.exec ∧ c.code = cL_law ∧ c.maxLocals = 19 ∧ s.vm.findClass RL = some m.cls ∧ (∀ w ∈ wsL_law, w.before #[Value.ref b] s = true) ∧ va_X b L xs s s.heap ∧ b < s.heap.size ∧ l.stackTraces = false ∧ va_K G vwCl (cTy ids) s ∧ cST tS tE (fun q => s.heap.size ≤ q) s s.heap ∧ lNc s ∧ s.heap.size ≤ o ∧ o + 184 ≤ qo ∧ z = qo + 1 ∧ L ≤ 260
def sP (G : va_G) (ids : Nat → ClassId) (qo : Nat) (f : Nat → Int32) (H : Heap) : Prop := va_at G vwCl (qo, .inl (ids 0, 10, .inl f)) H
section LD
variable {p : Program} {l : Launch} {e : Env} {R : Room} {s : State} {m : MethodId} {args : Array Value} {below : List Frame} {meth : Method} {c : Code} {H : Heap} {locs : List Loc} {cells slots : Nat} {Q : State → Prop}
variable {cc : ByteArray} {pc : Nat} {ls : Array Slot} {rest : List Value} {A : Nat → Prop} {Ts : List Cond}
theorem l_draw {b L k nL index : Nat} {xs : Nat → Int32} {own : String} {bytes : ByteArray} {maxL : Nat} {ret : Option FieldType} (F : CallFix p m c cc nL s args Ts own) (cw : CallB R s args own index yL_draw bytes maxL ret wsL_draw ({ frames := 0, cells := 0, slots := 0, locals := 0 } : Room) 0 0 2 ∧ (Cond.static yL_draw).before args s = true) (hX : va_X b L xs s s.heap) (hbl : b < s.heap.size) (hbA : ¬ A b) (hk : k < 1000) (hL : L < 1000) (hS : va_S A s.heap H locs) (hsz : ls.size = nL) (hWd : (rest.map fun v => v.category).sum ≤ 8) (hdg : decode cc pc = .ok (.invokestatic index, 3)) (hf : cells + 0 ≤ R.cells ∧ slots + 0 ≤ R.slots)
    (kk : ∀ (X : Nat) (H1 : Heap) (locs1 : List Loc), X < 2 ^ 31 → va_S A s.heap H1 locs1 → H.size ≤ H1.size → (∀ q : Nat, q < H.size → H1[q]? = H[q]?) → W p l e R s m args below meth c H1 locs1 cells slots Q (F0 m (pc + 3) ls (.int (nI X) :: rest))) : W p l e R s m args below meth c H locs cells slots Q (F0 m pc ls (.int (nI k) :: .ref b :: rest)) := by
  refine va_calli (va_runS (As := [.ref b, .int (nI k)]) (rest := rest) F (ld_draw l b L xs k hk hL) cw ⟨fun _ U g mk q => ⟨q.1, va_X.moved (u := U) (U := U.calling g mk _) (Vm.Alike.refl U.vm) q.2.1, q.2.2⟩, fun U hU hW => ⟨rfl, by rw [hU]; exact (va_X.moved hW.alike hX).kept (hS.2.1 b hbl hbA), by rw [hU]; exact Nat.lt_of_lt_of_le hbl hS.1⟩⟩ rfl rfl hsz rfl (lv_room hWd) hdg hf) hS (fun q _ h => h.elim) (fun q h => h.elim) (fun r1 X t H1 locs1 ht hvm hw hB hz hk9 hS1 => ?_)
  obtain ⟨e1, hX1⟩ := hw
  subst e1
  exact kk X H1 locs1 hX1 hS1 hz (fun q hq => hk9 q hq (fun h => h))
end LD
theorem half64 {x : Int32} (h : 0 ≤ x.toInt) : (x / nI 2).toInt64 = x.toInt64 / (2 : Int64) := by
  apply Int64.toInt_inj.mp
  have k2 : ((2 : Int64)).toInt = 2 := by decide
  rw [t64, Int64.toInt_div_of_ne_right _ _ (by decide), t64, k2, i_half h, Int.tdiv_eq_ediv_of_nonneg h]
theorem left64 {x : Int32} (h : 0 ≤ x.toInt) : (x - x / nI 2).toInt64 = x.toInt64 - (x / nI 2).toInt64 := by
  have e := i_half h
  have q := Int32.toInt_lt x
  exact j_sub (by rw [e]; omega) (by rw [e]; omega)
theorem z64 {x : Int32} (h : x.toInt = 0) : x.toInt64 = (0 : Int64) := by
  rw [oi_32, h]
  rfl
theorem y64 {x : Int32} (h : x.toInt64 = (0 : Int64)) : x.toInt = 0 := by
  rw [← t64, h]
  decide
theorem sk_eq {σ : Sg} (h : IV σ) {b : Nat} (hb : b < cpN σ 1) : σ.1 22 b = nI (sk σ b) ∧ sk σ b ≤ mon σ := by
  have q := h.ok.2.1 b hb
  exact ⟨vp_self q.1, q.2.1⟩
theorem rd_a {σ : Sg} {s : Nat} {m : Nat} (hs : s ≤ 600) (e : nI s - nI 1 = nI m) (h : s ≤ m) (hm : m < 601) : False := by
  have q := congrArg Int32.toInt e
  rw [pk_sub_toInt (by omega) (by decide), nI_toInt (by omega)] at q
  omega
theorem rd_b {a m : Nat} (ha : a ≤ 600) (e : nI a = nI m) (hm : m < a) : False := by
  have q := congrArg Int32.toInt e
  rw [nI_toInt (by omega), nI_toInt (by omega)] at q
  omega
theorem k_13 : (nI 13).toInt = 13 := by decide
theorem ite_eq2 {α : Type} {P : Prop} [Decidable P] {a b c : α} (h : ¬ P → b = c) : (if P then a else b) = if P then a else c := by
  by_cases q : P
  · rw [if_pos q, if_pos q]
  · rw [if_neg q, if_neg q]
    exact h q
theorem vP.only {G : va_G} {ids : Nat → ClassId} {o z tE qo : Nat} {σ : Sg} {H H1 : Heap} (h : vP G ids o z tE σ H) (ho : x_only qo H H1) (h1 : o + 184 ≤ qo) (h2 : z = qo + 1) : vP G ids o z tE σ H1 := by
  obtain ⟨⟨τ, v, d, w, hP, hw⟩, hz⟩ := h
  exact ⟨⟨τ, v, d, w, CPic.keepx (n1 := qo) hP (fun y hy e => lw_qo hP hy (by omega) (by omega) e) (fun q _ hne => ho.2 q hne), hw⟩, by rw [ho.1]; exact hz⟩
