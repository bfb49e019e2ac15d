/-! throws: the three methods that refuse; contracts of methods that return or throw; rows for their calls -/
def xE : Nat → String
  | 1 => "java/lang/IndexOutOfBoundsException"
  | 2 => "java/lang/IllegalArgumentException"
  | _ => "java/lang/IllegalStateException"
/-- the first that is not nought -/
def xs (a b : Nat) : Nat := if a = 0 then b else a
def xIx (i n : Int32) : Nat := if i < 0 then 1 else if i < n then 0 else 1
def xRg (v a b : Int32) : Nat := if v < a then 2 else if v ≤ b then 0 else 2
def xSt (x : Int32) : Nat := if x = 0 then 3 else 0
theorem xIx_in {i : Int32} {n : Nat} (hn : n < 2 ^ 31) (h : xIx i (nI n) = 0) : vp_in i n := by
  unfold xIx at h
  by_cases h1 : i < 0
  · rw [if_pos h1] at h; exact absurd h (by decide)
  · rw [if_neg h1] at h
    by_cases h2 : i < nI n
    · rw [i_lt] at h1 h2
      rw [nI_toInt hn] at h2
      have e0 : (0 : Int32).toInt = 0 := by decide
      rw [e0] at h1
      exact vp_in_iff.mpr ⟨by omega, by omega⟩
    · rw [if_neg h2] at h; exact absurd h (by decide)
theorem xRg_in {v a b : Int32} (h : xRg v a b = 0) : ¬ v < a ∧ v ≤ b := by
  unfold xRg at h
  by_cases h1 : v < a
  · rw [if_pos h1] at h; exact absurd h (by decide)
  · rw [if_neg h1] at h
    by_cases h2 : v ≤ b
    · exact ⟨h1, h2⟩
    · rw [if_neg h2] at h; exact absurd h (by decide)
theorem xRg_in0 {v : Int32} {n : Nat} (hn : n + 1 < 2 ^ 31) (h : xRg v (nI 0) (nI n) = 0) : vp_in v (n + 1) := by
  obtain ⟨h1, h2⟩ := xRg_in h
  rw [i_lt, nI_toInt (by decide)] at h1
  rw [i_le, nI_toInt (by omega)] at h2
  exact vp_in_iff.mpr ⟨by omega, by omega⟩
theorem xSt_ne {x : Int32} (h : xSt x = 0) : ¬ x = 0 := fun q => by unfold xSt at h; rw [if_pos q] at h; exact absurd h (by decide)
theorem i_ne {x : Int32} {k : Nat} (h : ¬ x = nI k) (hk : k < 2 ^ 31) : x.toInt ≠ (k : Int) := fun q => h (Int32.toInt_inj.mp (by rw [q, nI_toInt hk]))
theorem cST.narrow {tS tE : Nat} {A B : Nat → Prop} {U : State} {H : Heap} (h : cST tS tE A U H) (hAB : ∀ q, B q → A q) : cST tS tE B U H :=
  ⟨⟨va_Z.narrow h.1.1 hAB, va_T.narrow h.1.2 hAB⟩, ⟨va_Z.narrow h.2.1.1 hAB, va_T.narrow h.2.1.2 hAB⟩, vx_Zq.narrow h.2.2.1 hAB, vx_Zq.narrow h.2.2.2.1 hAB, h.2.2.2.2⟩
/-- how a refused call ends -/
def zX (X : Nat) (Pic : Heap → Prop) (A : Nat → Prop) : String → State → State → Prop := vx_X (fun _ : Unit => X ≠ 0) (fun E _ t => E = xE X ∧ Pic t.heap) A
def sX (l : Launch) (y : MethodName) (ws : List Cond) (rm : Room) (tS tE : Nat) (As : List Value) (X : Nat) : Prop :=
  vx_Met l y ws rm (va_Pc As (fun U => cST tS tE (fun _ => False) U U.heap)) (va_Qv (fun _ : Unit => X = 0) (fun _ _ => True) (fun _ => False)) (zX X (fun _ => True) (fun _ => False)) 1 6 (fun _ => False)
def zV (l : Launch) (y : MethodName) (ws : List Cond) (rm : Room) (G : va_G) (ids : Nat → ClassId) (tS tE : Nat) (av : List Value) (Pic : Heap → Prop) (X : Nat) (Pic1 : Heap → Prop) (A : Nat → Prop) (mc ms : Nat) : Prop :=
  vx_Met l y ws rm (yPc av G ids tS tE A Pic) (va_Qv (fun _ : Unit => X = 0) (fun _ t => Pic1 t.heap) A) (zX X Pic A) mc ms A
def zI (l : Launch) (y : MethodName) (ws : List Cond) (rm : Room) (G : va_G) (ids : Nat → ClassId) (tS tE : Nat) (av : List Value) (Pic : Heap → Prop) (X : Nat) (r : Int32) (Pic1 : Heap → Prop) (A : Nat → Prop) (mc ms : Nat) : Prop :=
  vx_Met l y ws rm (yPc av G ids tS tE A Pic) (va_Qi (fun (x : Int32) (_ : Unit) => X = 0 ∧ x = r) (fun _ t => Pic1 t.heap) A) (zX X Pic A) mc ms A
def zL (l : Launch) (y : MethodName) (ws : List Cond) (rm : Room) (G : va_G) (ids : Nat → ClassId) (tS tE : Nat) (av : List Value) (Pic : Heap → Prop) (X : Nat) (r : Int64) (Pic1 : Heap → Prop) (A : Nat → Prop) (mc ms : Nat) : Prop :=
  vx_Met l y ws rm (yPc av G ids tS tE A Pic) (va_Ql (fun (x : Int64) (_ : Unit) => X = 0 ∧ x = r) (fun _ t => Pic1 t.heap) A) (zX X Pic A) mc ms A
section ZR
variable {p : Program} {l : Launch} {e : Env} {R : Room} {s : State} {m : MethodId} {args : Array Value} {below : List Frame} {meth : Method} {c : Code} {H : Heap} {locs : List Loc} {cells slots : Nat}
variable {cc : ByteArray} {pc : Nat} {ls : Array Slot} {rest : List Value} {G : va_G} {ids : Nat → ClassId} {A : Nat → Prop} {Ts : List Cond} {o z tS tE : Nat} {d : Nat → Nat → Nat} {w : Nat → Nat} {σ : Sg}
theorem z_vret {Pic1 : Heap → Prop} {X mc ms : Nat} {XC : String → State → State → Prop} (hx : p.tables.exec = Jvm.exec) (hb : c.code = cc) (hr : meth.sig.returnType = none) (hlocks : meth.locks = false) (hX : X = 0) (hc : cells ≤ mc) (hs : slots ≤ ms) (hP : Pic1 H) (hS : va_S A s.heap H locs) (d : decode cc pc = .ok (.return_, 1)) : W p l e R s m args below meth c H locs cells slots (vx_MQ below (va_Qv (fun _ : Unit => X = 0) (fun _ t => Pic1 t.heap) A) XC args s mc ms A) (F0 m pc ls []) :=
  W.widen hc hs (vx_ret (W.vret hx hb hr (fun t ht hW => ⟨⟨(), rfl, hX, by show Pic1 t.heap; rw [ht]; exact hP⟩, hS.F ht⟩) hS.2.2 d hlocks))
theorem z_iret {Pic1 : Heap → Prop} {X mc ms : Nat} {XC : String → State → State → Prop} {v r : Int32} (hx : p.tables.exec = Jvm.exec) (hb : c.code = cc) (hr : meth.sig.returnType = some .int) (hlocks : meth.locks = false) (hX : X = 0) (hc : cells ≤ mc) (hs : slots ≤ ms) (hP : Pic1 H) (hS : va_S A s.heap H locs) (d : decode cc pc = .ok (.ireturn, 1)) (hv : v = r) : W p l e R s m args below meth c H locs cells slots (vx_MQ below (va_Qi (fun (x : Int32) (_ : Unit) => X = 0 ∧ x = r) (fun _ t => Pic1 t.heap) A) XC args s mc ms A) (F0 m pc ls [.int v]) :=
  W.widen hc hs (vx_ret (W.iret hx hb hr (fun t ht hW => ⟨⟨v, (), rfl, ⟨hX, hv⟩, by show Pic1 t.heap; rw [ht]; exact hP⟩, hS.F ht⟩) hS.2.2 d hlocks))
theorem z_lret {Pic1 : Heap → Prop} {X mc ms : Nat} {XC : String → State → State → Prop} {v r : Int64} (hx : p.tables.exec = Jvm.exec) (hb : c.code = cc) (hr : meth.sig.returnType = some .long) (hlocks : meth.locks = false) (hX : X = 0) (hc : cells ≤ mc) (hs : slots ≤ ms) (hP : Pic1 H) (hS : va_S A s.heap H locs) (d : decode cc pc = .ok (.lreturn, 1)) (hv : v = r) : W p l e R s m args below meth c H locs cells slots (vx_MQ below (va_Ql (fun (x : Int64) (_ : Unit) => X = 0 ∧ x = r) (fun _ t => Pic1 t.heap) A) XC args s mc ms A) (F0 m pc ls [.long v]) :=
  W.widen hc hs (vx_ret (W.lret hx hb hr (fun t ht hW => ⟨⟨v, (), rfl, ⟨hX, hv⟩, by show Pic1 t.heap; rw [ht]; exact hP⟩, hS.F ht⟩) hS.2.2 d hlocks))
/-- a refusing method is called: it throws on, or nothing has changed -/
theorem p_need {y : MethodName} {ws : List Cond} {rm : Room} {As : List Value} {X Xm mc ms c1 s1 : Nat} {bytes : ByteArray} {maxL nL n index : Nat} {own : String} {Qc : Array Value → State → Outcome → State → Prop} (S : CallFix p m c cc nL s args Ts own) (hM : sX l y ws rm tS tE As X) (cw : CallB R s args own index y bytes maxL none ws rm 1 6 n ∧ (Cond.static y).before args s = true) (hno : ∀ x ∈ c.exceptionTable.toList, False) (hlocks : meth.locks = false) (hZ : cST tS tE (cpG o z) s s.heap) (hP : CPic G ids o z tE d w σ H) (hS : va_S (cpG o z) s.heap H locs) (hn : As.length = n) (hsz : ls.size = nL) {st0 : List Value} (hst : st0 = As.reverse ++ rest) (hW : (rest.map fun v => v.category).sum ≤ 8) (hdg : decode cc pc = .ok (.invokestatic index, 3)) (hf : cells + 1 ≤ R.cells ∧ slots + 6 ≤ R.slots) (hc1 : cells + 1 = c1) (hs1 : slots + 6 = s1) (hcm : c1 ≤ mc) (hsm : s1 ≤ ms) (hX : X ≠ 0 → Xm = X)
    (kk : X = 0 → ∀ (H1 : Heap) (locs1 : List Loc), CPic G ids o z tE d w σ H1 → va_S (cpG o z) s.heap H1 locs1 → W p l e R s m args below meth c H1 locs1 c1 s1 (vx_MQ below Qc (zX Xm (CPic G ids o z tE d w σ) (cpG o z)) args s mc ms (cpG o z)) (F0 m (pc + 3) ls rest)) : W p l e R s m args below meth c H locs cells slots (vx_MQ below Qc (zX Xm (CPic G ids o z tE d w σ) (cpG o z)) args s mc ms (cpG o z)) (F0 m pc ls st0) := by
  subst hc1; subst hs1
  refine vx_callv (vx_runS S hM cw ⟨fun _ U g mk q => ⟨q.1, cST.moved (u := U) (U := U.calling g mk _) (Vm.Alike.refl U.vm) q.2⟩, fun U hU hW => ⟨rfl, (cST_at hZ hS hU hW.alike).narrow (fun _ h => h.elim)⟩⟩ rfl hn hsz hst (lv_room hW) hdg hf) hS (fun q _ h => h.elim) (fun q h => h.elim) (fun q _ h => h.elim) (fun E ce q9 u t H1 locs1 ht hvm hpx hbx hz hk hS1 hce hcv hcl => ?_) (fun u t H1 locs1 ht hvm hw hB hz hk hS1 => ?_)
  · exact vx_out (fun x h => (hno x h).elim) hlocks hce hcv hcl (fun t' ht' hal => ⟨(), by rw [hX hpx]; exact hpx, ⟨by rw [hX hpx]; exact hbx.1, by rw [ht']; exact hP.keep (fun q hq _ => hk q hq (fun h => h))⟩, hS1.F ht'⟩) hS1.2.2 hcm hsm
  · exact kk hw H1 locs1 (hP.keep (fun q hq _ => hk q hq (fun h => h))) hS1
/-- a throw of the method's own -/
theorem p_throw {cls own : String} {names : List String} {ik ic mc ms Xm : Nat} {Qc : Array Value → State → Outcome → State → Prop} (hx : p.tables.exec = Jvm.exec) (hb : c.code = cc) (hl : l.stackTraces = false) (hown : s.vm.findClass own = some m.cls) (hcls : Bundle.fit cls = true) (hnames : ∀ n ∈ names, Bundle.fit n = true)
    (hk : (Cond.classLink own ik cls).before args s = true) (hini : (Cond.initialized cls).before args s = true) (hat : ∀ w ∈ vx_at0 own ic cls names, w.before args s = true)
    (hgood : ∀ w ∈ Cond.classLink own ik cls :: Cond.initialized cls :: vx_at0 own ic cls names, vx_ot w = true) (hno : ∀ x ∈ c.exceptionTable.toList, False) (hlocks : meth.locks = false) (hZ : cST tS tE (cpG o z) s s.heap) (hP : CPic G ids o z tE d w σ H) (hS : va_S (cpG o z) s.heap H locs) (hsize : ls.size = c.maxLocals)
    (d0 : decode cc pc = .ok (.new ik, 3)) (d3 : decode cc (pc + 3) = .ok (.dup, 1)) (d4 : decode cc (pc + 4) = .ok (.invokespecial ic, 3)) (d7 : decode cc (pc + 7) = .ok (.athrow, 1))
    (hRframes : names.length + 3 < R.frames) (hRlocals : (rest.map fun v => v.category).sum + (13 * (names.length + 1) + 42) ≤ R.locals) (hRcells : cells + 1 ≤ R.cells) (hRslots : slots + 6 ≤ R.slots) (hX : Xm ≠ 0) (hE : cls = xE Xm) (hc : cells + 1 ≤ mc) (hs : slots + 6 ≤ ms) : W p l e R s m args below meth c H locs cells slots (vx_MQ below Qc (zX Xm (CPic G ids o z tE d w σ) (cpG o z)) args s mc ms (cpG o z)) (F0 m pc ls rest) :=
  vx_throw0 hx hb hl hown hcls hnames hk hini hat hgood hZ.2.2.1 hZ.2.2.2.1 hS hsize d0 d3 d4 d7 (fun x h => (hno x h).elim) hRframes hRlocals hRcells hRslots hlocks (fun t hal hz hq => ⟨(), hX, ⟨hE, hP.keep (fun q h _ => hq q h)⟩, ⟨Nat.le_trans hS.1 hz, fun q h1 h2 => (hq q (Nat.lt_of_lt_of_le h1 hS.1)).trans (hS.2.1 q h1 h2)⟩⟩) hS.2.2 hc hs
end ZR
set_option maxHeartbeats 4000000 in
set_option maxRecDepth 100000 in
theorem ck_needIndex (l : Launch) (hl0 : l.stackTraces = false) (tS tE : Nat) (i n : Int32) : sX l yX5_needIndex wsX5_needIndex ({ frames := 6, cells := 1, slots := 6, locals := 100 } : Room) tS tE [.int i, .int n] (xIx i n) := by
  unfold sX
  refine vx_ofW (cc := cX5_needIndex) (maxL := 2) (ret := none) (by decide) rfl ?_
  intro p e s m args below meth c s₁ B hml hno hv
  obtain ⟨rfl, hZ⟩ := hv
  have hx := B.exec
  have hb := B.bytes
  have hr := B.returns
  have hts := atoms_spec (ws := wsX5_needIndex) B.pre
  have hown : s.vm.findClass RX5 = some m.cls := findClass_of_methodNamed B.named
  have hlocks := B.notSynchronized
  have hS : va_S (fun _ => False) s.heap s.heap [] := va_S.rf
  have hl := lv_entry ([.int i, .int n]) (n := 2) (Nat.le_of_ble_eq_true rfl)
  rw [lg_entry_eq]
  generalize (lg_sl ([.int i, .int n]) ++ List.replicate (2 - (lg_sl ([.int i, .int n])).length) Slot.unset).toArray = ls at hl ⊢
  have hl : lv_has ls 2 [(0, .int i), (1, .int n)] := hl
  refine lv_iload_n hx hb dX5_needIndex_0 rfl (lv_at hl 0 rfl) ?_
  refine lv_if_lt (x := i) (tgt := 9) hx hb dX5_needIndex_1 (by decide) (fun c1 => ?_) (fun c1 => ?_)
  · exact vx_throw0 hx hb hl0 (own := RX5) (cls := "java/lang/IndexOutOfBoundsException") (names := ["java/lang/RuntimeException", "java/lang/Exception"]) (ik := 160) (ic := 162) (A := fun _ => False) hown (by decide +kernel) (by decide +kernel) (hts _ (List.mem_of_getElem? (i := 1) rfl)) (hts _ (List.mem_of_getElem? (i := 2) rfl)) (vx_hat (B := xNW) (fun w hw => hts _ (List.mem_cons_of_mem _ (List.mem_append_right _ hw))) (by decide +kernel) (fun w hw => va_Nw.use (xNW_tab w hw) (hZ.2.2.2.2.1 w hw))) (by decide +kernel) hZ.2.2.1 hZ.2.2.2.1 hS (hl.1.trans hml.symm) dX5_needIndex_9 dX5_needIndex_12 dX5_needIndex_13 dX5_needIndex_16 (fun x h => (hno x h).elim) (Nat.le_of_ble_eq_true rfl) (Nat.le_of_ble_eq_true rfl) (Nat.le_of_ble_eq_true rfl) (Nat.le_of_ble_eq_true rfl) hlocks (fun t hal hz hq => ⟨(), by unfold xIx; rw [if_pos c1]; decide, ⟨by unfold xIx; rw [if_pos c1]; rfl, trivial⟩, ⟨hz, fun q h _ => hq q h⟩⟩) (fun z h => nomatch h) (Nat.le_refl _) (Nat.le_refl _)
  · refine lv_iload_n hx hb dX5_needIndex_4 rfl (lv_at hl 0 rfl) ?_
    refine lv_iload_n hx hb dX5_needIndex_5 rfl (lv_at hl 1 rfl) ?_
    refine lv_icmp_lt (x := i) (y := n) (tgt := 17) hx hb dX5_needIndex_6 (by decide) (fun c2 => ?_) (fun c2 => ?_)
    · exact W.widen (k := 1) (n := 6) (by decide) (by decide) (vx_ret (W.vret hx hb hr (fun t ht hW => ⟨⟨(), rfl, by unfold xIx; rw [if_neg c1, if_pos c2], trivial⟩, hS.F ht⟩) hS.2.2 dX5_needIndex_17 hlocks))
    · exact vx_throw0 hx hb hl0 (own := RX5) (cls := "java/lang/IndexOutOfBoundsException") (names := ["java/lang/RuntimeException", "java/lang/Exception"]) (ik := 160) (ic := 162) (A := fun _ => False) hown (by decide +kernel) (by decide +kernel) (hts _ (List.mem_of_getElem? (i := 1) rfl)) (hts _ (List.mem_of_getElem? (i := 2) rfl)) (vx_hat (B := xNW) (fun w hw => hts _ (List.mem_cons_of_mem _ (List.mem_append_right _ hw))) (by decide +kernel) (fun w hw => va_Nw.use (xNW_tab w hw) (hZ.2.2.2.2.1 w hw))) (by decide +kernel) hZ.2.2.1 hZ.2.2.2.1 hS (hl.1.trans hml.symm) dX5_needIndex_9 dX5_needIndex_12 dX5_needIndex_13 dX5_needIndex_16 (fun x h => (hno x h).elim) (Nat.le_of_ble_eq_true rfl) (Nat.le_of_ble_eq_true rfl) (Nat.le_of_ble_eq_true rfl) (Nat.le_of_ble_eq_true rfl) hlocks (fun t hal hz hq => ⟨(), by unfold xIx; rw [if_neg c1, if_neg c2]; decide, ⟨by unfold xIx; rw [if_neg c1, if_neg c2]; rfl, trivial⟩, ⟨hz, fun q h _ => hq q h⟩⟩) (fun z h => nomatch h) (Nat.le_refl _) (Nat.le_refl _)
set_option maxHeartbeats 4000000 in
set_option maxRecDepth 100000 in
theorem ck_needRange (l : Launch) (hl0 : l.stackTraces = false) (tS tE : Nat) (v a b : Int32) : sX l yX5_needRange wsX5_needRange ({ frames := 6, cells := 1, slots := 6, locals := 100 } : Room) tS tE [.int v, .int a, .int b] (xRg v a b) := by
  unfold sX
  refine vx_ofW (cc := cX5_needRange) (maxL := 3) (ret := none) (by decide) rfl ?_
  intro p e s m args below meth c s₁ B hml hno hv
  obtain ⟨rfl, hZ⟩ := hv
  have hx := B.exec
  have hb := B.bytes
  have hr := B.returns
  have hts := atoms_spec (ws := wsX5_needRange) B.pre
  have hown : s.vm.findClass RX5 = some m.cls := findClass_of_methodNamed B.named
  have hlocks := B.notSynchronized
  have hS : va_S (fun _ => False) s.heap s.heap [] := va_S.rf
  have hl := lv_entry ([.int v, .int a, .int b]) (n := 3) (Nat.le_of_ble_eq_true rfl)
  rw [lg_entry_eq]
  generalize (lg_sl ([.int v, .int a, .int b]) ++ List.replicate (3 - (lg_sl ([.int v, .int a, .int b])).length) Slot.unset).toArray = ls at hl ⊢
  have hl : lv_has ls 3 [(0, .int v), (1, .int a), (2, .int b)] := hl
  refine lv_iload_n hx hb dX5_needRange_0 rfl (lv_at hl 0 rfl) ?_
  refine lv_iload_n hx hb dX5_needRange_1 rfl (lv_at hl 1 rfl) ?_
  refine lv_icmp_lt (x := v) (y := a) (tgt := 10) hx hb dX5_needRange_2 (by decide) (fun c1 => ?_) (fun c1 => ?_)
  · exact vx_throw0 hx hb hl0 (own := RX5) (cls := "java/lang/IllegalArgumentException") (names := ["java/lang/RuntimeException", "java/lang/Exception"]) (ik := 207) (ic := 209) (A := fun _ => False) hown (by decide +kernel) (by decide +kernel) (hts _ (List.mem_of_getElem? (i := 1) rfl)) (hts _ (List.mem_of_getElem? (i := 2) rfl)) (vx_hat (B := xNW) (fun w hw => hts _ (List.mem_cons_of_mem _ (List.mem_append_right _ hw))) (by decide +kernel) (fun w hw => va_Nw.use (xNW_tab w hw) (hZ.2.2.2.2.1 w hw))) (by decide +kernel) hZ.2.2.1 hZ.2.2.2.1 hS (hl.1.trans hml.symm) dX5_needRange_10 dX5_needRange_13 dX5_needRange_14 dX5_needRange_17 (fun x h => (hno x h).elim) (Nat.le_of_ble_eq_true rfl) (Nat.le_of_ble_eq_true rfl) (Nat.le_of_ble_eq_true rfl) (Nat.le_of_ble_eq_true rfl) hlocks (fun t hal hz hq => ⟨(), by unfold xRg; rw [if_pos c1]; decide, ⟨by unfold xRg; rw [if_pos c1]; rfl, trivial⟩, ⟨hz, fun q h _ => hq q h⟩⟩) (fun z h => nomatch h) (Nat.le_refl _) (Nat.le_refl _)
  · refine lv_iload_n hx hb dX5_needRange_5 rfl (lv_at hl 0 rfl) ?_
    refine lv_iload_n hx hb dX5_needRange_6 rfl (lv_at hl 2 rfl) ?_
    refine lv_icmp_le (x := v) (y := b) (tgt := 18) hx hb dX5_needRange_7 (by decide) (fun c2 => ?_) (fun c2 => ?_)
    · exact W.widen (k := 1) (n := 6) (by decide) (by decide) (vx_ret (W.vret hx hb hr (fun t ht hW => ⟨⟨(), rfl, by unfold xRg; rw [if_neg c1, if_pos c2], trivial⟩, hS.F ht⟩) hS.2.2 dX5_needRange_18 hlocks))
    · exact vx_throw0 hx hb hl0 (own := RX5) (cls := "java/lang/IllegalArgumentException") (names := ["java/lang/RuntimeException", "java/lang/Exception"]) (ik := 207) (ic := 209) (A := fun _ => False) hown (by decide +kernel) (by decide +kernel) (hts _ (List.mem_of_getElem? (i := 1) rfl)) (hts _ (List.mem_of_getElem? (i := 2) rfl)) (vx_hat (B := xNW) (fun w hw => hts _ (List.mem_cons_of_mem _ (List.mem_append_right _ hw))) (by decide +kernel) (fun w hw => va_Nw.use (xNW_tab w hw) (hZ.2.2.2.2.1 w hw))) (by decide +kernel) hZ.2.2.1 hZ.2.2.2.1 hS (hl.1.trans hml.symm) dX5_needRange_10 dX5_needRange_13 dX5_needRange_14 dX5_needRange_17 (fun x h => (hno x h).elim) (Nat.le_of_ble_eq_true rfl) (Nat.le_of_ble_eq_true rfl) (Nat.le_of_ble_eq_true rfl) (Nat.le_of_ble_eq_true rfl) hlocks (fun t hal hz hq => ⟨(), by unfold xRg; rw [if_neg c1, if_neg c2]; decide, ⟨by unfold xRg; rw [if_neg c1, if_neg c2]; rfl, trivial⟩, ⟨hz, fun q h _ => hq q h⟩⟩) (fun z h => nomatch h) (Nat.le_refl _) (Nat.le_refl _)
set_option maxHeartbeats 4000000 in
set_option maxRecDepth 100000 in
theorem ck_needState (l : Launch) (hl0 : l.stackTraces = false) (tS tE : Nat) (x : Int32) : sX l yX5_needState wsX5_needState ({ frames := 6, cells := 1, slots := 6, locals := 100 } : Room) tS tE [.int x] (xSt x) := by
  unfold sX
  refine vx_ofW (cc := cX5_needState) (maxL := 1) (ret := none) (by decide) rfl ?_
  intro p e s m args below meth c s₁ B hml hno hv
  obtain ⟨rfl, hZ⟩ := hv
  have hx := B.exec
  have hb := B.bytes
  have hr := B.returns
  have hts := atoms_spec (ws := wsX5_needState) B.pre
  have hown : s.vm.findClass RX5 = some m.cls := findClass_of_methodNamed B.named
  have hlocks := B.notSynchronized
  have hS : va_S (fun _ => False) s.heap s.heap [] := va_S.rf
  have hl := lv_entry ([.int x]) (n := 1) (Nat.le_of_ble_eq_true rfl)
  rw [lg_entry_eq]
  generalize (lg_sl ([.int x]) ++ List.replicate (1 - (lg_sl ([.int x])).length) Slot.unset).toArray = ls at hl ⊢
  have hl : lv_has ls 1 [(0, .int x)] := hl
  refine lv_iload_n hx hb dX5_needState_0 rfl (lv_at hl 0 rfl) ?_
  refine lv_if_ne (x := x) (tgt := 12) hx hb dX5_needState_1 (by decide) (fun c1 => ?_) (fun c1 => ?_)
  · exact W.widen (k := 1) (n := 6) (by decide) (by decide) (vx_ret (W.vret hx hb hr (fun t ht hW => ⟨⟨(), rfl, by unfold xSt; rw [if_neg c1], trivial⟩, hS.F ht⟩) hS.2.2 dX5_needState_12 hlocks))
  · exact vx_throw0 hx hb hl0 (own := RX5) (cls := "java/lang/IllegalStateException") (names := ["java/lang/RuntimeException", "java/lang/Exception"]) (ik := 210) (ic := 212) (A := fun _ => False) hown (by decide +kernel) (by decide +kernel) (hts _ (List.mem_of_getElem? (i := 1) rfl)) (hts _ (List.mem_of_getElem? (i := 2) rfl)) (vx_hat (B := xNW) (fun w hw => hts _ (List.mem_cons_of_mem _ (List.mem_append_right _ hw))) (by decide +kernel) (fun w hw => va_Nw.use (xNW_tab w hw) (hZ.2.2.2.2.1 w hw))) (by decide +kernel) hZ.2.2.1 hZ.2.2.2.1 hS (hl.1.trans hml.symm) dX5_needState_4 dX5_needState_7 dX5_needState_8 dX5_needState_11 (fun x h => (hno x h).elim) (Nat.le_of_ble_eq_true rfl) (Nat.le_of_ble_eq_true rfl) (Nat.le_of_ble_eq_true rfl) (Nat.le_of_ble_eq_true rfl) hlocks (fun t hal hz hq => ⟨(), by unfold xSt; rw [if_pos c1]; decide, ⟨by unfold xSt; rw [if_pos c1]; rfl, trivial⟩, ⟨hz, fun q h _ => hq q h⟩⟩) (fun z h => nomatch h) (Nat.le_refl _) (Nat.le_refl _)
