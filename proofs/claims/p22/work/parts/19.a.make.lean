/-! making objects and arrays: rows that tell the address -/
section NW
variable {p : Program} {l : Launch} {e : Env} {R : Room} {s : State} {m : MethodId} {args : Array Value} {below : List Frame} {meth : Method} {c : Code} {H : Heap} {locs : List Loc} {cells slots : Nat} {Q : State → Prop}
variable {cc : ByteArray} {pc : Nat} {ls : Array Slot} {rest : List Value} {G : va_G} {ids : Nat → ClassId} {A : Nat → Prop} {H0 : Heap} {Ts : List Cond} {tS tE : Nat}
/-- a heap that has one cell more -/
def x_more (H H1 : Heap) : Prop := H1.size = H.size + 1 ∧ ∀ q : Nat, q < H.size → H1[q]? = H[q]?
theorem va_S.more {locs : List Loc} {H1 : Heap} (hS : va_S A H0 H locs) (h : x_more H H1) : va_S A H0 H1 locs :=
  ⟨Nat.le_trans hS.1 (by have := h.1; omega), fun x h1 h2 => (h.2 x (Nat.lt_of_lt_of_le h1 hS.1)).trans (hS.2.1 x h1 h2), hS.2.2⟩
theorem x_new (hx : p.tables.exec = Jvm.exec) (hb : c.code = cc) {own C : String} {T : u_T} {N ci index : Nat} (hts : ∀ w ∈ Ts, w.before args s = true) (hin : ∀ w ∈ u_ws C T N, w ∈ Ts) (ty : Nat → FieldType) (hty : ∀ k, k < N → parseFieldDescriptor (T k).2.2.1 = some (ty k)) (hown : s.vm.findClass own = some m.cls) (hcl : Cond.classLink own index C ∈ Ts) (hinst : Cond.instantiable C N ∈ Ts) (hini : Cond.initialized C ∈ Ts) (hK : va_K G vwCl (cTy ids) s) (hS : va_S A H0 H locs) (hc : vwCl[ci]? = some (C, T, N)) {fs : List Value} (hfs : ∀ j, j < N → defaultValue (ty j) = vp_V fs j) (hcells : cells + 1 ≤ R.cells) (hslots : slots + N ≤ R.slots) (hdg : decode cc pc = .ok (.new index, 3)) {c1 s1 q : Nat} (hc1 : cells + 1 = c1) (hs1 : slots + N = s1) (hq : H.size = q)
    (kk : ∀ H1 : Heap, x_more H H1 → va_at G vwCl (q, .inr (ci, fs)) H1 → va_S A H0 H1 locs → W p l e R s m args below meth c H1 locs c1 s1 Q (F0 m (pc + 3) ls (.ref q :: rest))) : W p l e R s m args below meth c H locs cells slots Q (F0 m pc ls rest) := by
  subst hc1; subst hs1; subst hq
  have hKn := hK.1 ci _ hc
  refine W.newcK hx hb hown (hts _ hcl) (hts _ hinst) (hts _ hini) rfl hdg hcells hslots hKn.2.1 rfl fun H1 kC hkC e1 z1 o1 => ?_
  exact kk H1 ⟨z1, o1⟩ ⟨_, hc, (u_born ty hts hin hKn hkC e1 hty).to hfs⟩ (hS.more ⟨z1, o1⟩)
theorem x_newa (hx : p.tables.exec = Jvm.exec) (hb : c.code = cc) {atype : ArrayType} (harr : (Cond.arrayClass (newarray.typeOf atype)).before args s = true) {ty : FieldType} (hty : newarray.typeOf atype = ty) (hK : va_K G vwCl (cTy ids) s) (t0 : Nat) {cI : ClassId} (hnm : s.vm.findClass ("[" ++ ty.toString) = some cI) (hS : va_S A H0 H locs)
    {n : Int32} {N' : Nat} {a0 : vp_A} (ha : vp_cell cI a0 = arrV cI N' (fun _ => defaultValue ty)) (hn : ¬ n < 0) (hN : n.toNatClampNeg = N') (hbytes : N' * componentBytes ty ≤ 536870912) (hcells : cells + 1 ≤ R.cells) (hslots : slots + N' ≤ R.slots) (hdg : decode cc pc = .ok (.newarray atype, 2)) {c1 s1 q : Nat} (hc1 : cells + 1 = c1) (hs1 : slots + N' = s1) (hq : H.size = q)
    (kk : ∀ H1 : Heap, x_more H H1 → va_at G vwCl (q, .inl (cI, a0)) H1 → va_S A H0 H1 locs → W p l e R s m args below meth c H1 locs c1 s1 Q (F0 m (pc + 2) ls (.ref q :: rest))) : W p l e R s m args below meth c H locs cells slots Q (F0 m pc ls (.int n :: rest)) := by
  subst hty; subst hc1; subst hs1; subst hq
  refine va_newaK hx hb harr rfl hdg rfl hn hN hbytes hcells hslots rfl fun H1 cA e1 z1 o1 hAr hNm => ?_
  cases hNm.symm.trans hnm
  refine kk H1 ⟨z1, o1⟩ ?_ (hS.more ⟨z1, o1⟩)
  show H1[H.size]? = some (vp_cell _ _)
  rw [ha]
  exact e1
theorem cTy_nm (hK : va_K G vwCl (cTy ids) s) : s.vm.findClass ("[" ++ FieldType.int.toString) = some (ids 0) ∧ s.vm.findClass ("[" ++ FieldType.boolean.toString) = some (ids 1) ∧ s.vm.findClass ("[" ++ FieldType.long.toString) = some (ids 2) := ⟨(hK.2 0 _ rfl).2, (hK.2 1 _ rfl).2, (hK.2 2 _ rfl).2⟩
theorem cTy_nq (hK : va_K G vwCl (cTy ids) s) {t0 : Nat} {cI : ClassId} {C : String} (ht : (cTy ids)[t0]? = some (cI, .object C)) : s.vm.findClass ("[" ++ (FieldType.object C).toString) = some cI := by
  obtain ⟨kA, comp, h1, h2, h3, h4⟩ := (hK.2 t0 _ ht).2
  exact h4
theorem x_newq (hx : p.tables.exec = Jvm.exec) (hb : c.code = cc) {own C : String} {index : Nat} (hown : s.vm.findClass own = some m.cls) (hclink : (Cond.classLink own index C).before args s = true) (hover : va_AO C s) (hK : va_K G vwCl (cTy ids) s) (t0 : Nat) {cI : ClassId} (ht : (cTy ids)[t0]? = some (cI, .object C)) (hS : va_S A H0 H locs)
    {n : Int32} {N' : Nat} (hn : ¬ n < 0) (hN : n.toNatClampNeg = N') (hbytes : N' * 4 ≤ 536870912) (hcells : cells + 1 ≤ R.cells) (hslots : slots + N' ≤ R.slots) (hdg : decode cc pc = .ok (.anewarray index, 3)) {c1 s1 q : Nat} (hc1 : cells + 1 = c1) (hs1 : slots + N' = s1) (hq : H.size = q)
    (kk : ∀ H1 : Heap, x_more H H1 → va_at G vwCl (q, .inl (cI, N', .inr (.inr (.inr (.inr (fun _ => none)))))) H1 → va_S A H0 H1 locs → W p l e R s m args below meth c H1 locs c1 s1 Q (F0 m (pc + 3) ls (.ref q :: rest))) : W p l e R s m args below meth c H locs cells slots Q (F0 m pc ls (.int n :: rest)) := by
  subst hN; subst hc1; subst hs1; subst hq
  have hnm := cTy_nq hK ht
  refine W.anew hx hb hown hclink (va_AO.use hover) rfl hdg rfl hn hbytes hcells hslots fun cA kA comp f1 f2 f3 f4 => ?_
  cases f1.symm.trans hnm
  generalize hH1 : H.push ({ cls := cI, slots := Array.replicate n.toNatClampNeg .null, vm := .none } : Cell) = H1
  have z1 : H1.size = H.size + 1 := by rw [← hH1, Array.size_push]
  have e1 : H1[H.size]? = some (arrV cI n.toNatClampNeg (fun _ => .null)) := by rw [← hH1, Array.getElem?_push_size, ← arrV_new]
  have o1 : ∀ q : Nat, q < H.size → H1[q]? = H[q]? := fun q hq => by rw [← hH1, Array.getElem?_push, if_neg (Nat.ne_of_lt hq)]
  refine kk H1 ⟨z1, o1⟩ ?_ (hS.more ⟨z1, o1⟩)
  show H1[H.size]? = some (vp_cell _ _)
  rw [vp_cell_q]
  exact e1
/-- an object into a row of objects -/
theorem x_aast (hx : p.tables.exec = Jvm.exec) (hb : c.code = cc) (hK : va_K G vwCl (cTy ids) s) (t0 : Nat) {a : Nat} {cA : ClassId} {E : String} {n : Nat} {f : Nat → Option Nat} (ht : (cTy ids)[t0]? = some (cA, .object E)) (he : va_at G vwCl (a, .inl (cA, n, .inr (.inr (.inr (.inr f))))) H) (hAa : A a) (hS : va_S A H0 H locs) {r : vw_C} {ci v : Nat} {vs : List Value} (hv : va_at G vwCl (v, .inr (ci, vs)) H) (hc : vwCl[ci]? = some r) (hca : ∀ comp c0 : ClassId, s.vm.findClass E = some comp → s.vm.findClass r.1 = some c0 → s.vm.assignable c0 comp = true) {i : Int32} (hin : vp_in i n) (hdg : decode cc pc = .ok (.aastore, 1))
    (kk : ∀ (H1 : Heap) (locs1 : List Loc), va_at G vwCl (a, .inl (cA, n, .inr (.inr (.inr (.inr (va_up f i.toNatClampNeg (some v))))))) H1 → x_only a H H1 → va_S A H0 H1 locs1 → W p l e R s m args below meth c H1 locs1 cells slots Q (F0 m (pc + 1) ls rest)) : W p l e R s m args below meth c H locs cells slots Q (F0 m pc ls (.ref v :: .int i :: .ref a :: rest)) := by
  have hlt : i.toNatClampNeg < n := Nat.not_le.mp fun q => hin (Or.inr q)
  have h0 : ¬ i < 0 := fun q => hin (Or.inl q)
  obtain ⟨r', hr', cellV, g1, g2, g3, -⟩ := hv
  have hrr : r' = r := Option.some.inj (hr'.symm.trans hc)
  subst hrr
  have hcls := (hK.1 ci r' hc).2
  obtain ⟨kA, comp, k1, k2, k3, -⟩ := (hK.2 t0 _ ht).2
  obtain ⟨kE, hkE, -⟩ := Vm.findClass_spec k3
  obtain ⟨kC, hkC, -⟩ := hcls.2
  refine W.aast hx hb he (fun q h => by cases h) (fun h => by cases h) k1 k2 rfl hkE ⟨h0, by show _ < (arrV _ _ _).slots.size; rw [arrV_size]; exact hlt⟩ g1 (fun q h => by rw [g3] at h; cases h) (by rw [g2]; exact hkC) (by rw [g2]; exact hca _ _ k3 hcls.1) rfl rfl hdg fun H1 e z oq => ?_
  refine kk H1 _ ?_ ⟨z, oq⟩ (hS.put z oq hAa)
  show H1[a]? = some (vp_cell _ _)
  rw [e]
  rw [vp_cell_q, vp_cell_q, arrV_store]
  congr 2
  funext q
  by_cases hq : q = i.toNatClampNeg
  · subst hq
    simp [updV, va_up, va_rf]
  · simp [updV, va_up, hq]
/-- contracts of what makes cells -/
def wV (l : Launch) (y : MethodName) (ws : List Cond) (rm : Room) (G : va_G) (ids : Nat → ClassId) (tS tE : Nat) (av : List Value) (Pic Pic1 : Heap → Prop) (A : Nat → Prop) (mc ms : Nat) : Prop :=
  Met l y ws rm (yPc av G ids tS tE A Pic) (va_Qv (fun _ : Unit => True) (fun _ t => Pic1 t.heap) A) mc ms A
def wR (l : Launch) (y : MethodName) (ws : List Cond) (rm : Room) (G : va_G) (ids : Nat → ClassId) (tS tE : Nat) (av : List Value) (Pic : Heap → Prop) (r : Nat) (Pic1 : Heap → Prop) (A : Nat → Prop) (mc ms : Nat) : Prop :=
  Met l y ws rm (yPc av G ids tS tE A Pic) (va_Qr (fun _ : Unit => True) (fun _ a t => a = r ∧ Pic1 t.heap) A) mc ms A
def wI (l : Launch) (y : MethodName) (ws : List Cond) (rm : Room) (G : va_G) (ids : Nat → ClassId) (tS tE : Nat) (av : List Value) (Pic : Heap → Prop) (r : Int32) (Pic1 : Heap → Prop) (A : Nat → Prop) (mc ms : Nat) : Prop :=
  Met l y ws rm (yPc av G ids tS tE A Pic) (va_Qi (fun (x : Int32) (_ : Unit) => x = r) (fun _ t => Pic1 t.heap) A) mc ms A
theorem w_vret {Pic1 : Heap → Prop} {mc ms : Nat} (hx : p.tables.exec = Jvm.exec) (hb : c.code = cc) (hr : meth.sig.returnType = none) (hlocks : meth.locks = false) (hc : cells ≤ mc) (hs : slots ≤ ms) (hP : Pic1 H) (hS : va_S A s.heap H locs) (d : decode cc pc = .ok (.return_, 1)) : W p l e R s m args below meth c H locs cells slots (MQ below (va_Qv (fun _ : Unit => True) (fun _ t => Pic1 t.heap) A) args s mc ms A) (F0 m pc ls []) :=
  W.widen hc hs (W.vret hx hb hr (fun t ht hW => ⟨⟨(), rfl, trivial, by show Pic1 t.heap; rw [ht]; exact hP⟩, hS.F ht⟩) hS.2.2 d hlocks)
theorem w_iret {Pic1 : Heap → Prop} {mc ms : Nat} {v r : Int32} (hx : p.tables.exec = Jvm.exec) (hb : c.code = cc) (hr : meth.sig.returnType = some .boolean) (hlocks : meth.locks = false) (hz : narrow .boolean (.int v) = .int v) (hc : cells ≤ mc) (hs : slots ≤ ms) (hP : Pic1 H) (hS : va_S A s.heap H locs) (d : decode cc pc = .ok (.ireturn, 1)) (hv : v = r) : W p l e R s m args below meth c H locs cells slots (MQ below (va_Qi (fun (x : Int32) (_ : Unit) => x = r) (fun _ t => Pic1 t.heap) A) args s mc ms A) (F0 m pc ls [.int v]) :=
  W.widen hc hs (W.zret hx hb hr hz (fun t ht hW => ⟨⟨v, (), rfl, hv, by show Pic1 t.heap; rw [ht]; exact hP⟩, hS.F ht⟩) hS.2.2 d hlocks)
theorem w_rret {Pic1 : Heap → Prop} {mc ms r : Nat} {t : FieldType} (hx : p.tables.exec = Jvm.exec) (hb : c.code = cc) (hr : meth.sig.returnType = some (.array t)) (hlocks : meth.locks = false) (hc : cells ≤ mc) (hs : slots ≤ ms) (hP : Pic1 H) (hS : va_S A s.heap H locs) (d : decode cc pc = .ok (.areturn, 1)) : W p l e R s m args below meth c H locs cells slots (MQ below (va_Qr (fun _ : Unit => True) (fun _ a t => a = r ∧ Pic1 t.heap) A) args s mc ms A) (F0 m pc ls [.ref r]) :=
  W.widen hc hs (W.aret hx hb hr (Or.inr ⟨_, rfl⟩) (Or.inr ⟨_, rfl⟩) (fun t ht hW => ⟨⟨(), r, rfl, trivial, rfl, by show Pic1 t.heap; rw [ht]; exact hP⟩, hS.F ht⟩) hS.2.2 d hlocks)
/-- a constructor is called -/
theorem w_init {y : MethodName} {ws : List Cond} {rm : Room} {b : Nat} {As : List Value} {Pic Pic1 : Heap → Prop} {A1 : Nat → Prop} {bytes : ByteArray} {maxL nL n index mc ms c1 s1 : Nat} {own : String} (hAA : ∀ q, A1 q → A q) (S : CallFix p m c cc nL s args Ts own) (hM : wV l y ws rm G ids tS tE (.ref b :: As) Pic Pic1 A1 mc ms) (cw : CallB R s args own index y bytes maxL none ws rm mc ms n ∧ y.name = "<init>" ∧ (Cond.instanceMethod y).before args s = true) (hK : va_K G vwCl (cTy ids) s) (hZ : cST tS tE A s s.heap) (hP : Pic H) (hS : va_S A s.heap H locs) (hn : As.length = n) (hsz : ls.size = nL) {st0 : List Value} (hst : st0 = As.reverse ++ .ref b :: rest) (hW : (rest.map fun v => v.category).sum ≤ 8) (hdg : decode cc pc = .ok (.invokespecial index, 3)) (hf : cells + mc ≤ R.cells ∧ slots + ms ≤ R.slots) (hc1 : cells + mc = c1) (hs1 : slots + ms = s1)
    (kk : ∀ (H1 : Heap) (locs1 : List Loc), Pic1 H1 → H.size ≤ H1.size → (∀ q : Nat, q < H.size → ¬ A1 q → H1[q]? = H[q]?) → va_S A s.heap H1 locs1 → W p l e R s m args below meth c H1 locs1 c1 s1 Q (F0 m (pc + 3) ls rest)) : W p l e R s m args below meth c H locs cells slots Q (F0 m pc ls st0) := by
  subst hc1; subst hs1
  refine va_callv (va_runI S hM cw ⟨yPc_blind, fun U hU hW => ⟨rfl, by rw [hU]; exact hP, va_K.moved hW.alike hK, (cST_at hZ hS hU hW.alike).narrow hAA⟩⟩ rfl hn hsz hst (lv_room hW) hdg hf) hS (fun q _ h => hAA q h) (fun q h => hAA q h) (fun u t H1 locs1 ht hvm hw hB hz hk hS1 => ?_)
  exact kk H1 locs1 (by rw [← ht]; exact hB) hz hk hS1
theorem w_callV {y : MethodName} {ws : List Cond} {rm : Room} {b : Nat} {As : List Value} {Pic Pic1 : Heap → Prop} {A1 : Nat → Prop} {bytes : ByteArray} {maxL nL n index ci mc ms c1 s1 : Nat} {ret : Option FieldType} {own C : String} {T : u_T} {N : Nat} {fs : List Value} (hAA : ∀ q, A1 q → A q) (S : CallFix p m c cc nL s args Ts own) (hM : wV l y ws rm G ids tS tE (.ref b :: As) Pic Pic1 A1 mc ms) (cw : CallW R s args own C index y bytes maxL ret ws rm mc ms n) (hK : va_K G vwCl (cTy ids) s) (hZ : cST tS tE A s s.heap) (he : va_at G vwCl (b, .inr (ci, fs)) H) (hc : vwCl[ci]? = some (C, T, N)) (hP : Pic H) (hS : va_S A s.heap H locs) (hn : As.length = n) (hsz : ls.size = nL) {st0 : List Value} (hst : st0 = As.reverse ++ .ref b :: rest) (hW : (rest.map fun v => v.category).sum ≤ 8) (hdg : decode cc pc = .ok (.invokevirtual index, 3)) (hf : cells + mc ≤ R.cells ∧ slots + ms ≤ R.slots) (hc1 : cells + mc = c1) (hs1 : slots + ms = s1)
    (kk : ∀ (H1 : Heap) (locs1 : List Loc), Pic1 H1 → H.size ≤ H1.size → (∀ q : Nat, q < H.size → ¬ A1 q → H1[q]? = H[q]?) → va_S A s.heap H1 locs1 → W p l e R s m args below meth c H1 locs1 c1 s1 Q (F0 m (pc + 3) ls rest)) : W p l e R s m args below meth c H locs cells slots Q (F0 m pc ls st0) := by
  subst hc1; subst hs1
  refine va_callv (va_runV S hM cw ⟨yPc_blind, va_recv hK (va_P.one he) (ci := ci) (q0 := 0) hc rfl, fun U hU hW => ⟨rfl, by rw [hU]; exact hP, va_K.moved hW.alike hK, (cST_at hZ hS hU hW.alike).narrow hAA⟩⟩ rfl hn hsz hst (lv_room hW) hdg hf) hS (fun q _ h => hAA q h) (fun q h => hAA q h) (fun u t H1 locs1 ht hvm hw hB hz hk hS1 => ?_)
  exact kk H1 locs1 (by rw [← ht]; exact hB) hz hk hS1
theorem w_callI {y : MethodName} {ws : List Cond} {rm : Room} {b : Nat} {As : List Value} {r : Int32} {Pic Pic1 : Heap → Prop} {A1 : Nat → Prop} {bytes : ByteArray} {maxL nL n index ci mc ms c1 s1 : Nat} {ret : Option FieldType} {own C : String} {T : u_T} {N : Nat} {fs : List Value} (hAA : ∀ q, A1 q → A q) (S : CallFix p m c cc nL s args Ts own) (hM : wI l y ws rm G ids tS tE (.ref b :: As) Pic r Pic1 A1 mc ms) (cw : CallW R s args own C index y bytes maxL ret ws rm mc ms n) (hK : va_K G vwCl (cTy ids) s) (hZ : cST tS tE A s s.heap) (he : va_at G vwCl (b, .inr (ci, fs)) H) (hc : vwCl[ci]? = some (C, T, N)) (hP : Pic H) (hS : va_S A s.heap H locs) (hn : As.length = n) (hsz : ls.size = nL) {st0 : List Value} (hst : st0 = As.reverse ++ .ref b :: rest) (hW : (rest.map fun v => v.category).sum ≤ 8) (hdg : decode cc pc = .ok (.invokevirtual index, 3)) (hf : cells + mc ≤ R.cells ∧ slots + ms ≤ R.slots) (hc1 : cells + mc = c1) (hs1 : slots + ms = s1)
    (kk : ∀ (H1 : Heap) (locs1 : List Loc), Pic1 H1 → H.size ≤ H1.size → (∀ q : Nat, q < H.size → ¬ A1 q → H1[q]? = H[q]?) → va_S A s.heap H1 locs1 → W p l e R s m args below meth c H1 locs1 c1 s1 Q (F0 m (pc + 3) ls (.int r :: rest))) : W p l e R s m args below meth c H locs cells slots Q (F0 m pc ls st0) := by
  subst hc1; subst hs1
  refine va_calli (va_runV S hM cw ⟨yPc_blind, va_recv hK (va_P.one he) (ci := ci) (q0 := 0) hc rfl, fun U hU hW => ⟨rfl, by rw [hU]; exact hP, va_K.moved hW.alike hK, (cST_at hZ hS hU hW.alike).narrow hAA⟩⟩ rfl hn hsz hst (lv_room hW) hdg hf) hS (fun q _ h => hAA q h) (fun q h => hAA q h) (fun r1 u t H1 locs1 ht hvm hw hB hz hk hS1 => ?_)
  subst hw
  exact kk H1 locs1 (by rw [← ht]; exact hB) hz hk hS1
theorem w_callR {y : MethodName} {ws : List Cond} {rm : Room} {b : Nat} {As : List Value} {r : Nat} {Pic Pic1 : Heap → Prop} {A1 : Nat → Prop} {bytes : ByteArray} {maxL nL n index ci mc ms c1 s1 : Nat} {ret : Option FieldType} {own C : String} {T : u_T} {N : Nat} {fs : List Value} (hAA : ∀ q, A1 q → A q) (S : CallFix p m c cc nL s args Ts own) (hM : wR l y ws rm G ids tS tE (.ref b :: As) Pic r Pic1 A1 mc ms) (cw : CallW R s args own C index y bytes maxL ret ws rm mc ms n) (hK : va_K G vwCl (cTy ids) s) (hZ : cST tS tE A s s.heap) (he : va_at G vwCl (b, .inr (ci, fs)) H) (hc : vwCl[ci]? = some (C, T, N)) (hP : Pic H) (hS : va_S A s.heap H locs) (hn : As.length = n) (hsz : ls.size = nL) {st0 : List Value} (hst : st0 = As.reverse ++ .ref b :: rest) (hW : (rest.map fun v => v.category).sum ≤ 8) (hdg : decode cc pc = .ok (.invokevirtual index, 3)) (hf : cells + mc ≤ R.cells ∧ slots + ms ≤ R.slots) (hc1 : cells + mc = c1) (hs1 : slots + ms = s1)
    (kk : ∀ (H1 : Heap) (locs1 : List Loc), Pic1 H1 → H.size ≤ H1.size → (∀ q : Nat, q < H.size → ¬ A1 q → H1[q]? = H[q]?) → va_S A s.heap H1 locs1 → W p l e R s m args below meth c H1 locs1 c1 s1 Q (F0 m (pc + 3) ls (.ref r :: rest))) : W p l e R s m args below meth c H locs cells slots Q (F0 m pc ls st0) := by
  subst hc1; subst hs1
  refine va_callr (va_runV S hM cw ⟨yPc_blind, va_recv hK (va_P.one he) (ci := ci) (q0 := 0) hc rfl, fun U hU hW => ⟨rfl, by rw [hU]; exact hP, va_K.moved hW.alike hK, (cST_at hZ hS hU hW.alike).narrow hAA⟩⟩ rfl hn hsz hst (lv_room hW) hdg hf) hS (fun q _ h => hAA q h) (fun q h => hAA q h) (fun u r1 t H1 locs1 ht hvm hw hB hz hk hS1 => ?_)
  obtain ⟨rfl, hB⟩ := hB
  exact kk H1 locs1 (by rw [← ht]; exact hB) hz hk hS1
/-- a static one -/
theorem w_callSR {y : MethodName} {ws : List Cond} {rm : Room} {As : List Value} {r : Nat} {Pic Pic1 : Heap → Prop} {A1 : Nat → Prop} {bytes : ByteArray} {maxL nL n index mc ms c1 s1 : Nat} {ret : Option FieldType} {own : String} (hAA : ∀ q, A1 q → A q) (S : CallFix p m c cc nL s args Ts own) (hM : wR l y ws rm G ids tS tE As Pic r Pic1 A1 mc ms) (cw : CallB R s args own index y bytes maxL ret ws rm mc ms n ∧ (Cond.static y).before args s = true) (hK : va_K G vwCl (cTy ids) s) (hZ : cST tS tE A s s.heap) (hP : Pic H) (hS : va_S A s.heap H locs) (hn : As.length = n) (hsz : ls.size = nL) {st0 : List Value} (hst : st0 = As.reverse ++ rest) (hW : (rest.map fun v => v.category).sum ≤ 8) (hdg : decode cc pc = .ok (.invokestatic index, 3)) (hf : cells + mc ≤ R.cells ∧ slots + ms ≤ R.slots) (hc1 : cells + mc = c1) (hs1 : slots + ms = s1)
    (kk : ∀ (H1 : Heap) (locs1 : List Loc), Pic1 H1 → H.size ≤ H1.size → (∀ q : Nat, q < H.size → ¬ A1 q → H1[q]? = H[q]?) → va_S A s.heap H1 locs1 → W p l e R s m args below meth c H1 locs1 c1 s1 Q (F0 m (pc + 3) ls (.ref r :: rest))) : W p l e R s m args below meth c H locs cells slots Q (F0 m pc ls st0) := by
  subst hc1; subst hs1
  refine va_callr (va_runS S hM cw ⟨yPc_blind, fun U hU hW => ⟨rfl, by rw [hU]; exact hP, va_K.moved hW.alike hK, (cST_at hZ hS hU hW.alike).narrow hAA⟩⟩ rfl hn hsz hst (lv_room hW) hdg hf) hS (fun q _ h => hAA q h) (fun q h => hAA q h) (fun u r1 t H1 locs1 ht hvm hw hB hz hk hS1 => ?_)
  obtain ⟨rfl, hB⟩ := hB
  exact kk H1 locs1 (by rw [← ht]; exact hB) hz hk hS1
theorem w_callSI {y : MethodName} {ws : List Cond} {rm : Room} {As : List Value} {r : Int32} {Pic Pic1 : Heap → Prop} {A1 : Nat → Prop} {bytes : ByteArray} {maxL nL n index mc ms c1 s1 : Nat} {ret : Option FieldType} {own : String} (hAA : ∀ q, A1 q → A q) (S : CallFix p m c cc nL s args Ts own) (hM : wI l y ws rm G ids tS tE As Pic r Pic1 A1 mc ms) (cw : CallB R s args own index y bytes maxL ret ws rm mc ms n ∧ (Cond.static y).before args s = true) (hK : va_K G vwCl (cTy ids) s) (hZ : cST tS tE A s s.heap) (hP : Pic H) (hS : va_S A s.heap H locs) (hn : As.length = n) (hsz : ls.size = nL) {st0 : List Value} (hst : st0 = As.reverse ++ rest) (hW : (rest.map fun v => v.category).sum ≤ 8) (hdg : decode cc pc = .ok (.invokestatic index, 3)) (hf : cells + mc ≤ R.cells ∧ slots + ms ≤ R.slots) (hc1 : cells + mc = c1) (hs1 : slots + ms = s1)
    (kk : ∀ (H1 : Heap) (locs1 : List Loc), Pic1 H1 → H.size ≤ H1.size → (∀ q : Nat, q < H.size → ¬ A1 q → H1[q]? = H[q]?) → va_S A s.heap H1 locs1 → W p l e R s m args below meth c H1 locs1 c1 s1 Q (F0 m (pc + 3) ls (.int r :: rest))) : W p l e R s m args below meth c H locs cells slots Q (F0 m pc ls st0) := by
  subst hc1; subst hs1
  refine va_calli (va_runS S hM cw ⟨yPc_blind, fun U hU hW => ⟨rfl, by rw [hU]; exact hP, va_K.moved hW.alike hK, (cST_at hZ hS hU hW.alike).narrow hAA⟩⟩ rfl hn hsz hst (lv_room hW) hdg hf) hS (fun q _ h => hAA q h) (fun q h => hAA q h) (fun r1 u t H1 locs1 ht hvm hw hB hz hk hS1 => ?_)
  subst hw
  exact kk H1 locs1 (by rw [← ht]; exact hB) hz hk hS1
theorem w_nret {Pic1 : Heap → Prop} {mc ms : Nat} {v r : Int32} (hx : p.tables.exec = Jvm.exec) (hb : c.code = cc) (hr : meth.sig.returnType = some .int) (hlocks : meth.locks = false) (hc : cells ≤ mc) (hs : slots ≤ ms) (hP : Pic1 H) (hS : va_S A s.heap H locs) (d : decode cc pc = .ok (.ireturn, 1)) (hv : v = r) : W p l e R s m args below meth c H locs cells slots (MQ below (va_Qi (fun (x : Int32) (_ : Unit) => x = r) (fun _ t => Pic1 t.heap) A) args s mc ms A) (F0 m pc ls [.int v]) :=
  W.widen hc hs (W.iret hx hb hr (fun t ht hW => ⟨⟨v, (), rfl, hv, by show Pic1 t.heap; rw [ht]; exact hP⟩, hS.F ht⟩) hS.2.2 d hlocks)
end NW
/-- the objects in a row are of one class -/
def EL (G : va_G) (cx n : Nat) (f : Nat → Option Nat) (H : Heap) : Prop := ∀ j, j < n → ∀ y, f j = some y → ∃ fs, va_at G vwCl (y, .inr (cx, fs)) H
theorem EL.kept {G : va_G} {cx n : Nat} {f : Nat → Option Nat} {H H1 : Heap} (h : EL G cx n f H) (hk : ∀ q : Nat, q < H.size → (∀ j, j < n → f j = some q → H1[q]? = H[q]?)) : EL G cx n f H1 := fun j hj y hy => by
  obtain ⟨fs, q⟩ := h j hj y hy
  exact ⟨fs, q.kept (hk y q.lt j hj hy)⟩
theorem EL.more {G : va_G} {cx n : Nat} {f : Nat → Option Nat} {H H1 : Heap} (h : EL G cx n f H) (hm : x_more H H1) : EL G cx n f H1 := h.kept (fun q hq _ _ _ => hm.2 q hq)
theorem EL.only {G : va_G} {cx n : Nat} {f : Nat → Option Nat} {H H1 : Heap} {a : Nat} (h : EL G cx n f H) (ho : x_only a H H1) (hn : ∀ j, j < n → f j ≠ some a) : EL G cx n f H1 := h.kept (fun q _ j hj hy => ho.2 q (fun e => hn j hj (by rw [← e]; exact hy)))
/-! a putfield and a getfield of a field that a class above declares -/
section NS
variable {p : Program} {l : Launch} {e : Env} {R : Room} {s : State} {m : MethodId} {args : Array Value} {below : List Frame} {meth : Method} {c : Code} {H : Heap} {locs : List Loc} {cells slots : Nat} {Q : State → Prop}
variable {cc : ByteArray} {pc : Nat} {ls : Array Slot} {rest : List Value} {G : va_G} {ids : Nat → ClassId} {A : Nat → Prop} {a : Nat} {H0 : Heap} {Ts : List Cond}
theorem x_mcget (hx : p.tables.exec = Jvm.exec) (hb : c.code = cc) {index : Nat} (hts : ∀ w ∈ Ts, w.before args s = true) (hin : ∀ w ∈ wsJx4a65c0, w ∈ Ts) (hown : s.vm.findClass RJx4a65c = some m.cls) (hK : va_K G vwCl (cTy ids) s) {mc : Int32} {v1 v2 : Value} (he : va_at G vwCl (a, .inr (0, [.int mc, v1, v2])) H) (hlink : Cond.fieldLink RJx4a65c index "java/util/ArrayList" "modCount" "I" ∈ Ts) (hsame : Cond.sameField "java/util/ArrayList" "java/util/AbstractList" "modCount" "I" ∈ Ts) (hdg : decode cc pc = .ok (.getfield index, 3))
    (kk : W p l e R s m args below meth c H locs cells slots Q (F0 m (pc + 3) ls (.int mc :: rest))) : W p l e R s m args below meth c H locs cells slots Q (F0 m pc ls (.ref a :: rest)) :=
  va_get (C := RJx4a65c) (T := TJx4a65c) (N := 3) hx hb hts hin hown hK (va_P.one he) 0 rfl rfl 0 (by decide) (hts _ hlink) (fun x9 h9 => u_same (hts _ hsame) x9 h9) rfl hdg kk
theorem x_mcput (hx : p.tables.exec = Jvm.exec) (hb : c.code = cc) {index : Nat} (hts : ∀ w ∈ Ts, w.before args s = true) (hin : ∀ w ∈ wsJx4a65c0, w ∈ Ts) (hown : s.vm.findClass RJx4a65c = some m.cls) (hK : va_K G vwCl (cTy ids) s) {mc v : Int32} {v1 v2 : Value} (he : va_at G vwCl (a, .inr (0, [.int mc, v1, v2])) H) (hAa : A a) (hS0 : va_S A H0 H locs) (hlink : Cond.fieldLink RJx4a65c index "java/util/ArrayList" "modCount" "I" ∈ Ts) (hsame : Cond.sameField "java/util/ArrayList" "java/util/AbstractList" "modCount" "I" ∈ Ts) (hdg : decode cc pc = .ok (.putfield index, 3))
    (kk : ∀ (H1 : Heap) (locs1 : List Loc), va_at G vwCl (a, .inr (0, [.int v, v1, v2])) H1 → x_only a H H1 → va_S A H0 H1 locs1 → W p l e R s m args below meth c H1 locs1 cells slots Q (F0 m (pc + 3) ls rest)) : W p l e R s m args below meth c H locs cells slots Q (F0 m pc ls (.int v :: .ref a :: rest)) := by
  have hc : vwCl[0]? = some (RJx4a65c, TJx4a65c, 3) := rfl
  have hap := va_apart (own := RJx4a65c) hts hin tyJx4a65c tyJx4a65c_ok nmJx4a65c hK hc
  obtain ⟨r, h1, cell, q1, q2, q3, q4⟩ := he
  have hr : r = (RJx4a65c, TJx4a65c, 3) := Option.some.inj (h1.symm.trans hc)
  subst hr
  obtain ⟨hS, hfc, kC, hkC, hkind⟩ := hK.1 0 _ hc
  obtain ⟨cf, kf, fi, f, hi, hsl⟩ := hS 0 (by decide)
  have hlay := hts _ (hin _ (u_in_lay (C := RJx4a65c) (T := TJx4a65c) (N := 3) (k := 0) (by decide)))
  unfold u_lay at hlay
  rw [if_neg (by decide)] at hlay
  have hst := (u_facts hfc hkC (u_lays (C := RJx4a65c) (T := TJx4a65c) (N := 3) hts hin (k := 0) (by decide)) hi).1
  have h6 := u_store hfc hkC hkind hlay hi (ty := .int) (v := .int v) (by decide +kernel) rfl rfl
  have hi2 := u_same (hts _ hsame) _ hi
  refine W.putK hx hb (f := f) ⟨hown, hts _ hlink, ⟨_, _, _, hi2⟩, hst⟩ (by rw [q2]; exact h6) q1 q3 (by rw [hsl]; exact k2_hasslot (q4 0 (by decide))) rfl rfl hdg fun H' e1 e2 e3 => ?_
  rw [hsl] at e1 ⊢
  exact kk H' _ ⟨_, hc, t_OB.to (V := updV (vp_V [.int mc, v1, v2]) 0 (.int v)) ⟨_, e1, q2, q3, t_set q4 hap (by decide) (.int v)⟩ (fun j _ => vp_updV_set (fs := [.int mc, v1, v2]) (Nat.le_of_ble_eq_true rfl) (.int v) j)⟩ ⟨e2, e3⟩ (hS0.put e2 e3 hAa)
end NS
