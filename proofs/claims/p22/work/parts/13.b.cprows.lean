/-! what the class's methods lean on beside the object: statics; their contracts; rows over the object's picture -/
def cpS : Nat → Int32
  | 0 => -5
  | 1 => -1
  | 2 => 1
  | _ => 5
/-- words that the tables alone decide, but that aren't good ones -/
def xNW : List Cond := [.castable "java/lang/IndexOutOfBoundsException" "java/lang/IndexOutOfBoundsException", .castable "java/lang/IllegalArgumentException" "java/lang/IllegalArgumentException", .castable "java/lang/IllegalStateException" "java/lang/IllegalStateException", .declares ⟨"java/lang/RuntimeException", "<init>", "()V"⟩, .declares ⟨"java/lang/Exception", "<init>", "()V"⟩, .declares ⟨"java/lang/Throwable", "<init>", "()V"⟩, .castable "Wakeground$House" "java/lang/Object", .castable "Wakeground$Borehole" "java/lang/Object", .castable "Wakeground$Claim" "java/lang/Object", .declares ⟨"java/lang/Object", "getClass", "()Ljava/lang/Class;"⟩]
theorem xNW_tab : ∀ w ∈ xNW, w.onTables = true := by decide +kernel
theorem xNW_c {C T : String} {u U : State} (hvm : u.vm.Alike U.vm) (h : va_Nw (.castable C T) u) : va_Nw (.castable C T) U := va_tabs rfl (rfl : (u.setVm U.vm).vm = U.vm) (by rw [Cond.castable_setVm hvm]; exact h)
theorem xNW_d {x : MethodName} {u U : State} (hvm : u.vm.Alike U.vm) (h : va_Nw (.declares x) u) : va_Nw (.declares x) U := va_tabs rfl (rfl : (u.setVm U.vm).vm = U.vm) (by rw [Cond.declares_setVm hvm]; exact h)
theorem xNW_moved {u U : State} (hvm : u.vm.Alike U.vm) (h : ∀ w ∈ xNW, va_Nw w u) : ∀ w ∈ xNW, va_Nw w U := by
  intro w hw
  have h1 := h w hw
  unfold xNW at hw
  simp only [List.mem_cons, List.not_mem_nil, or_false] at hw
  rcases hw with rfl | rfl | rfl | rfl | rfl | rfl | rfl | rfl | rfl | rfl
  · exact xNW_c hvm h1
  · exact xNW_c hvm h1
  · exact xNW_c hvm h1
  · exact xNW_d hvm h1
  · exact xNW_d hvm h1
  · exact xNW_d hvm h1
  · exact xNW_c hvm h1
  · exact xNW_c hvm h1
  · exact xNW_c hvm h1
  · exact xNW_d hvm h1
def cWD (U : State) : Prop := (∀ w ∈ xNW, va_Nw w U) ∧ (∃ mi : Nat, va_Mi "[Ljava/lang/Object;" mi U) ∧ va_AO "java/lang/Object" U ∧ va_AO "Wakeground$Cell" U ∧ va_AO "Wakeground$Layer" U
theorem cWD.moved {u U : State} (hvm : u.vm.Alike U.vm) (h : cWD u) : cWD U :=
  ⟨xNW_moved hvm h.1, h.2.1.elim (fun mi q => ⟨mi, va_Mi.moved hvm q⟩), va_AO.moved hvm h.2.2.1, va_AO.moved hvm h.2.2.2.1, va_AO.moved hvm h.2.2.2.2⟩
def cST (tS tE : Nat) (A : Nat → Prop) (U : State) (H : Heap) : Prop :=
  (va_Z RX5 "STEPS" "[I" (.ref tS) A U H ∧ va_T .int tS 4 (fun j => .int (cpS j)) A U H) ∧ (va_Z RJx4a65c "DEFAULTCAPACITY_EMPTY_ELEMENTDATA" "[Ljava/lang/Object;" (.ref tE) A U H ∧ va_T (.object "java/lang/Object") tE 0 (fun _ => .null) A U H) ∧ vx_Zq Bundle.tN "UNASSIGNED_STACK" Bundle.steD A U H ∧ vx_Zq Bundle.tN "SUPPRESSED_SENTINEL" Bundle.listD A U H ∧ cWD U
theorem cST.moved {tS tE : Nat} {A : Nat → Prop} {u U : State} {H : Heap} (hvm : u.vm.Alike U.vm) (h : cST tS tE A u H) : cST tS tE A U H :=
  ⟨⟨va_Z.moved hvm h.1.1, va_T.moved hvm h.1.2⟩, ⟨va_Z.moved hvm h.2.1.1, va_T.moved hvm h.2.1.2⟩, vx_Zq.moved hvm h.2.2.1, vx_Zq.moved hvm h.2.2.2.1, cWD.moved hvm h.2.2.2.2⟩
theorem cST.kept {tS tE : Nat} {A : Nat → Prop} {U : State} {H H1 : Heap} (h : cST tS tE A U H) (hq : ∀ a : Nat, a < H.size → ¬ A a → H1[a]? = H[a]?) : cST tS tE A U H1 :=
  ⟨⟨va_Z.kept h.1.1 hq, va_T.kept h.1.2 hq⟩, ⟨va_Z.kept h.2.1.1 hq, va_T.kept h.2.1.2 hq⟩, vx_Zq.kept h.2.2.1 hq, vx_Zq.kept h.2.2.2.1 hq, h.2.2.2.2⟩
/-- a method's start, over a picture that the heap alone decides, and the statics -/
def yPc (av : List Value) (G : va_G) (ids : Nat → ClassId) (tS tE : Nat) (A : Nat → Prop) (Pic : Heap → Prop) : Array Value → State → Prop := va_Pc av (fun U => Pic U.heap ∧ va_K G vwCl (cTy ids) U ∧ cST tS tE A U U.heap)
def yV (l : Launch) (y : MethodName) (ws : List Cond) (rm : Room) (G : va_G) (ids : Nat → ClassId) (tS tE : Nat) (av : List Value) (Pic : Heap → Prop) (Pic1 : Heap → Prop) (A : Nat → Prop) : Prop :=
  Met l y ws rm (yPc av G ids tS tE A Pic) (va_Qv (fun _ : Unit => True) (fun _ t => Pic1 t.heap) A) 0 0 A
def yI (l : Launch) (y : MethodName) (ws : List Cond) (rm : Room) (G : va_G) (ids : Nat → ClassId) (tS tE : Nat) (av : List Value) (Pic : Heap → Prop) (r : Int32) (Pic1 : Heap → Prop) (A : Nat → Prop) : Prop :=
  Met l y ws rm (yPc av G ids tS tE A Pic) (va_Qi (fun (x : Int32) (_ : Unit) => x = r) (fun _ t => Pic1 t.heap) A) 0 0 A
def yL (l : Launch) (y : MethodName) (ws : List Cond) (rm : Room) (G : va_G) (ids : Nat → ClassId) (tS tE : Nat) (av : List Value) (Pic : Heap → Prop) (r : Int64) (Pic1 : Heap → Prop) (A : Nat → Prop) : Prop :=
  Met l y ws rm (yPc av G ids tS tE A Pic) (va_Ql (fun (x : Int64) (_ : Unit) => x = r) (fun _ t => Pic1 t.heap) A) 0 0 A
theorem yPc_blind {G : va_G} {ids : Nat → ClassId} {tS tE : Nat} {A : Nat → Prop} {Pic : Heap → Prop} {av : List Value} : FrameBlind (yPc av G ids tS tE A Pic) := fun _ U g mk q => ⟨q.1, q.2.1, va_K.moved (u := U) (U := U.calling g mk _) (Vm.Alike.refl U.vm) q.2.2.1, cST.moved (u := U) (U := U.calling g mk _) (Vm.Alike.refl U.vm) q.2.2.2⟩
section YR
variable {p : Program} {l : Launch} {e : Env} {R : Room} {s : State} {m : MethodId} {args : Array Value} {below : List Frame} {meth : Method} {c : Code} {H : Heap} {locs : List Loc} {cells slots : Nat} {Q : State → Prop}
variable {cc : ByteArray} {pc : Nat} {ls : Array Slot} {rest : List Value} {G : va_G} {ids : Nat → ClassId} {A : Nat → Prop} {Ts : List Cond} {tS tE : Nat}
theorem cST_at (hZ : cST tS tE A s s.heap) (hS : va_S A s.heap H locs) {U : State} (hU : U.heap = H) (hW : s.vm.Alike U.vm) : cST tS tE A U U.heap := by
  rw [hU]
  exact cST.moved hW (cST.kept hZ hS.2.1)
theorem y_callV {y : MethodName} {ws : List Cond} {rm : Room} {b : Nat} {As : List Value} {Pic Pic1 : Heap → Prop} {bytes : ByteArray} {maxL nL n index ci : Nat} {ret : Option FieldType} {own C : String} {T : u_T} {N : Nat} {fs : List Value} (S : CallFix p m c cc nL s args Ts own) (hM : yV l y ws rm G ids tS tE (.ref b :: As) Pic Pic1 A) (cw : CallW R s args own C index y bytes maxL ret ws rm 0 0 n) (hK : va_K G vwCl (cTy ids) s) (hZ : cST tS tE A s s.heap) (he : va_at G vwCl (b, .inr (ci, fs)) H) (hc : vwCl[ci]? = some (C, T, N)) (hP : Pic H) (hS : va_S A s.heap H locs) (hn : As.length = n) (hsz : ls.size = nL) {st0 : List Value} (hst : st0 = As.reverse ++ .ref b :: rest) (hW : (rest.map fun v => v.category).sum ≤ 8) (hdg : decode cc pc = .ok (.invokevirtual index, 3)) (hf : cells ≤ R.cells ∧ slots ≤ R.slots)
    (kk : ∀ (H1 : Heap) (locs1 : List Loc), Pic1 H1 → va_S A s.heap H1 locs1 → W p l e R s m args below meth c H1 locs1 cells slots Q (F0 m (pc + 3) ls rest)) : W p l e R s m args below meth c H locs cells slots Q (F0 m pc ls st0) := by
  refine va_callv (va_runV S hM cw ⟨yPc_blind, va_recv hK (va_P.one he) (ci := ci) (q0 := 0) hc rfl, fun U hU hW => ⟨rfl, by rw [hU]; exact hP, va_K.moved hW.alike hK, cST_at hZ hS hU hW.alike⟩⟩ rfl hn hsz hst (lv_room hW) hdg hf) hS (fun q _ h => h) (fun q h => h) (fun u t H1 locs1 ht hvm hw hB hz hk hS1 => ?_)
  exact kk H1 locs1 (by rw [← ht]; exact hB) hS1
theorem y_callI {y : MethodName} {ws : List Cond} {rm : Room} {b : Nat} {As : List Value} {r : Int32} {Pic Pic1 : Heap → Prop} {bytes : ByteArray} {maxL nL n index ci : Nat} {ret : Option FieldType} {own C : String} {T : u_T} {N : Nat} {fs : List Value} (S : CallFix p m c cc nL s args Ts own) (hM : yI l y ws rm G ids tS tE (.ref b :: As) Pic r Pic1 A) (cw : CallW R s args own C index y bytes maxL ret ws rm 0 0 n) (hK : va_K G vwCl (cTy ids) s) (hZ : cST tS tE A s s.heap) (he : va_at G vwCl (b, .inr (ci, fs)) H) (hc : vwCl[ci]? = some (C, T, N)) (hP : Pic H) (hS : va_S A s.heap H locs) (hn : As.length = n) (hsz : ls.size = nL) {st0 : List Value} (hst : st0 = As.reverse ++ .ref b :: rest) (hW : (rest.map fun v => v.category).sum ≤ 8) (hdg : decode cc pc = .ok (.invokevirtual index, 3)) (hf : cells ≤ R.cells ∧ slots ≤ R.slots)
    (kk : ∀ (H1 : Heap) (locs1 : List Loc), Pic1 H1 → va_S A s.heap H1 locs1 → W p l e R s m args below meth c H1 locs1 cells slots Q (F0 m (pc + 3) ls (.int r :: rest))) : W p l e R s m args below meth c H locs cells slots Q (F0 m pc ls st0) := by
  refine va_calli (va_runV S hM cw ⟨yPc_blind, va_recv hK (va_P.one he) (ci := ci) (q0 := 0) hc rfl, fun U hU hW => ⟨rfl, by rw [hU]; exact hP, va_K.moved hW.alike hK, cST_at hZ hS hU hW.alike⟩⟩ rfl hn hsz hst (lv_room hW) hdg hf) hS (fun q _ h => h) (fun q h => h) (fun r1 u t H1 locs1 ht hvm hw hB hz hk hS1 => ?_)
  subst hw
  exact kk H1 locs1 (by rw [← ht]; exact hB) hS1
theorem y_callL {y : MethodName} {ws : List Cond} {rm : Room} {b : Nat} {As : List Value} {r : Int64} {Pic Pic1 : Heap → Prop} {bytes : ByteArray} {maxL nL n index ci : Nat} {ret : Option FieldType} {own C : String} {T : u_T} {N : Nat} {fs : List Value} (S : CallFix p m c cc nL s args Ts own) (hM : yL l y ws rm G ids tS tE (.ref b :: As) Pic r Pic1 A) (cw : CallW R s args own C index y bytes maxL ret ws rm 0 0 n) (hK : va_K G vwCl (cTy ids) s) (hZ : cST tS tE A s s.heap) (he : va_at G vwCl (b, .inr (ci, fs)) H) (hc : vwCl[ci]? = some (C, T, N)) (hP : Pic H) (hS : va_S A s.heap H locs) (hn : As.length = n) (hsz : ls.size = nL) {st0 : List Value} (hst : st0 = As.reverse ++ .ref b :: rest) (hW : (rest.map fun v => v.category).sum ≤ 8) (hdg : decode cc pc = .ok (.invokevirtual index, 3)) (hf : cells ≤ R.cells ∧ slots ≤ R.slots)
    (kk : ∀ (H1 : Heap) (locs1 : List Loc), Pic1 H1 → va_S A s.heap H1 locs1 → W p l e R s m args below meth c H1 locs1 cells slots Q (F0 m (pc + 3) ls (.long r :: rest))) : W p l e R s m args below meth c H locs cells slots Q (F0 m pc ls st0) := by
  refine va_calll (va_runV S hM cw ⟨yPc_blind, va_recv hK (va_P.one he) (ci := ci) (q0 := 0) hc rfl, fun U hU hW => ⟨rfl, by rw [hU]; exact hP, va_K.moved hW.alike hK, cST_at hZ hS hU hW.alike⟩⟩ rfl hn hsz hst (lv_room hW) hdg hf) hS (fun q _ h => h) (fun q h => h) (fun r1 u t H1 locs1 ht hvm hw hB hz hk hS1 => ?_)
  subst hw
  exact kk H1 locs1 (by rw [← ht]; exact hB) hS1
end YR
section PR
variable {p : Program} {l : Launch} {e : Env} {R : Room} {s : State} {m : MethodId} {args : Array Value} {below : List Frame} {meth : Method} {c : Code} {H : Heap} {locs : List Loc} {cells slots : Nat} {Q : State → Prop}
variable {cc : ByteArray} {pc : Nat} {ls : Array Slot} {rest : List Value} {G : va_G} {ids : Nat → ClassId} {Ts : List Cond} {o z tS tE : Nat} {d : Nat → Nat → Nat} {w : Nat → Nat} {σ σ' : Sg} {A : Nat → Prop} {H0 H1 : Heap}
theorem p_callS {y : MethodName} {ws : List Cond} {rm : Room} {As : List Value} {r : Int32} {bytes : ByteArray} {maxL nL n index : Nat} {ret : Option FieldType} {own : String} {A0 : Nat → Prop} (S : CallFix p m c cc nL s args Ts own) (hM : sI l y ws rm As r) (cw : CallB R s args own index y bytes maxL ret ws rm 0 0 n ∧ (Cond.static y).before args s = true) (hP : CPic G ids o z tE d w σ H) (hS : va_S A0 H0 H locs) (hn : As.length = n) (hsz : ls.size = nL) {st0 : List Value} (hst : st0 = As.reverse ++ rest) (hW : (rest.map fun v => v.category).sum ≤ 8) (hdg : decode cc pc = .ok (.invokestatic index, 3)) (hf : cells ≤ R.cells ∧ slots ≤ R.slots)
    (kk : ∀ (H1 : Heap) (locs1 : List Loc), CPic G ids o z tE d w σ H1 → va_S A0 H0 H1 locs1 → W p l e R s m args below meth c H1 locs1 cells slots Q (F0 m (pc + 3) ls (.int r :: rest))) : W p l e R s m args below meth c H locs cells slots Q (F0 m pc ls st0) :=
  s_call S hM cw hS hn hsz hst hW hdg hf (fun H1 locs1 hz hk hS1 => kk H1 locs1 (hP.keep (fun q hq _ => hk q hq)) hS1)
/-- the object's own fields -/
def cpOf (o : Nat) (σ : Sg) : List Value := [.ref (o + 1), .ref (o + 2), .ref (o + 3), .ref (o + 4), .int (σ.1 1 0), .ref (o + 5), .ref (o + 6), .long (σ.2 29), .ref (o + 7), .ref (o + 8)]
theorem CPic.main (hP : CPic G ids o z tE d w σ H) : va_at G vwCl (o, .inr (6, cpOf o σ)) H := by
  have h := hP.1 (5, 0) (cpU_5 (by decide))
  rw [cpC_50, cpA_5] at h
  exact h
theorem CPic.crow (hP : CPic G ids o z tE d w σ H) : va_at G vwCl (o + 1, .inl (ids 3, 25, .inr (.inr (.inr (.inr (fun i => some (o + 9 + 7 * i))))))) H := by
  have h := hP.1 (5, 1) (cpU_5 (by decide))
  rw [cpC_51, cpA_5] at h
  exact h
theorem CPic.came (hP : CPic G ids o z tE d w σ H) : va_at G vwCl (o + 5, .inl (ids 2, 3, .inr (.inl (cpK σ)))) H := by
  have h := hP.1 (5, 5) (cpU_5 (by decide))
  rw [cpC_55, cpA_5] at h
  exact h
theorem CPic.gas (hP : CPic G ids o z tE d w σ H) : va_at G vwCl (o + 6, .inl (ids 2, 2, .inr (.inl (cpJ σ)))) H := by
  have h := hP.1 (5, 6) (cpU_5 (by decide))
  rw [cpC_56, cpA_5] at h
  exact h
theorem CPic.lake (hP : CPic G ids o z tE d w σ H) : va_at G vwCl (o + 7, .inl (ids 0, 25, .inl (σ.1 32))) H := by
  have h := hP.1 (5, 7) (cpU_5 (by decide))
  rw [cpC_57, cpA_5] at h
  exact h
theorem CPic.gath (hP : CPic G ids o z tE d w σ H) : va_at G vwCl (o + 8, .inl (ids 1, 25, .inl (σ.1 33))) H := by
  have h := hP.1 (5, 8) (cpU_5 (by decide))
  rw [cpC_58, cpA_5] at h
  exact h
theorem CPic.cell (hP : CPic G ids o z tE d w σ H) {i : Nat} (hi : i < 25) : va_at G vwCl (o + 9 + 7 * i, .inr (2, cfs (o + 9 + 7 * i) i σ)) H := by
  have h := hP.1 (6, i) hi
  rw [cpC_6, cpA_6] at h
  exact h
theorem CPic.row (hP : CPic G ids o z tE d w σ H) {i : Nat} (hi : i < 25) : va_at G vwCl (o + 9 + 7 * i + 1, .inl (ids 4, 5, .inr (.inr (.inr (.inr (fun j => some (o + 9 + 7 * i + 2 + j))))))) H := by
  have h := hP.1 (7, i) hi
  rw [cpC_7, cpA_7] at h
  exact h
theorem CPic.lay (hP : CPic G ids o z tE d w σ H) {i j : Nat} (hi : i < 25) (hj : j < 5) : va_at G vwCl (o + 9 + 7 * i + 2 + j, .inr (5, lfs (5 * i + j) σ)) H := (hP.blk hi).2.2 j hj
/-- a cell's field is written -/
theorem p_cput {own : String} {index : Nat} (hx : p.tables.exec = Jvm.exec) (hb : c.code = cc) (hts : ∀ w ∈ Ts, w.before args s = true) (hin : ∀ w ∈ wsX10, w ∈ Ts) (hown : s.vm.findClass own = some m.cls) (hK : va_K G vwCl (cTy ids) s) (hP : CPic G ids o z tE d w σ H) {i : Nat} (hi : i < 25) (hS : va_S (cpG o z) H0 H locs) (f kf : Nat) (hf : (f = 1 ∧ kf = 2) ∨ (f = 2 ∧ kf = 3) ∨ (f = 3 ∧ kf = 4) ∨ (f = 4 ∧ kf = 5) ∨ (f = 5 ∧ kf = 6) ∨ (f = 6 ∧ kf = 36)) (hlink : Cond.fieldLink own index (TX1 f).1 (TX1 f).2.1 (TX1 f).2.2.1 ∈ Ts) {v : Int32} (hdg : decode cc pc = .ok (.putfield index, 3))
    (kk : ∀ (H1 : Heap) (locs1 : List Loc), CPic G ids o z tE d w (si σ kf i v) H1 → va_S (cpG o z) H0 H1 locs1 → W p l e R s m args below meth c H1 locs1 cells slots Q (F0 m (pc + 3) ls rest)) : W p l e R s m args below meth c H locs cells slots Q (F0 m pc ls (.int v :: .ref (o + 9 + 7 * i) :: rest)) :=
  b_put hx hb hts hin hown hK (hP.blk hi) (by unfold cpG; omega) hS f kf hf hlink hdg (fun H1 locs1 h1 h2 h3 => kk H1 locs1 (hP.join hi h1 (fun q _ hq => h2.2 q (by unfold bA at hq; omega)) (fun x y hxy => si_nj (by unfold cpR at hxy; omega)) rfl) h3)
/-- a layer's field is written -/
theorem p_lput {own : String} {index : Nat} (hx : p.tables.exec = Jvm.exec) (hb : c.code = cc) (hts : ∀ w ∈ Ts, w.before args s = true) (hin : ∀ w ∈ wsX40, w ∈ Ts) (hown : s.vm.findClass own = some m.cls) (hK : va_K G vwCl (cTy ids) s) (hP : CPic G ids o z tE d w σ H) {i j : Nat} (hi : i < 25) (hj : j < 5) (hS : va_S (cpG o z) H0 H locs) (f : Nat) (hf : f < 4) (hlink : Cond.fieldLink own index (TX4 f).1 (TX4 f).2.1 (TX4 f).2.2.1 ∈ Ts) {v : Int32} (hdg : decode cc pc = .ok (.putfield index, 3))
    (kk : ∀ (H1 : Heap) (locs1 : List Loc), CPic G ids o z tE d w (si σ (8 + f) (5 * i + j) v) H1 → va_S (cpG o z) H0 H1 locs1 → W p l e R s m args below meth c H1 locs1 cells slots Q (F0 m (pc + 3) ls rest)) : W p l e R s m args below meth c H locs cells slots Q (F0 m pc ls (.int v :: .ref (o + 9 + 7 * i + 2 + j) :: rest)) :=
  b_putL hx hb hts hin hown hK (hP.blk hi) hj (by unfold cpG; omega) hS f hf hlink hdg (fun H1 locs1 h1 h2 h3 => kk H1 locs1 (hP.join hi h1 (fun q _ hq => h2.2 q (by unfold bA at hq; omega)) (fun x y hxy => si_nj (by unfold cpR at hxy; omega)) rfl) h3)
/-- of the places made with the object one has changed -/
theorem CPic.set5 (hP : CPic G ids o z tE d w σ H) (n0 : Nat) (h9 : n0 < 9) (ho : x_only (o + n0) H H1) (hn : va_at G vwCl (o + n0, cpC ids o tE d w σ' (5, n0)) H1) (hf : ∀ x, x ≠ 1 → x ≠ 32 → x ≠ 33 → σ'.1 x = σ.1 x) (g0 : n0 ≠ 0 → σ'.1 1 0 = σ.1 1 0 ∧ σ'.2 29 = σ.2 29) (g5 : n0 ≠ 5 → cpK σ' = cpK σ) (g6 : n0 ≠ 6 → cpJ σ' = cpJ σ) (g7 : n0 ≠ 7 → σ'.1 32 = σ.1 32) (g8 : n0 ≠ 8 → σ'.1 33 = σ.1 33) : CPic G ids o z tE d w σ' H1 := by
  have hF : ∀ L, σ'.1 (cpF L) = σ.1 (cpF L) := fun L => by
    rcases cpF_3 L with e | e | e <;> rw [e, hf _ (by decide) (by decide) (by decide)]
  have hN : ∀ L, cpN σ' L = cpN σ L := fun L => by
    unfold cpN
    rw [hF]
  refine hP.set (5, n0) h9 (by rw [cpA_5]; exact ho) (by rw [cpA_5]; exact hn) hN (fun x hx hne => ?_)
  have hx9 := cpU_lt hx
  obtain ⟨k, n⟩ := x
  simp only at hx9
  rcases (show k < 5 ∨ k = 5 ∨ k = 6 ∨ k = 7 ∨ k = 8 by omega) with h | rfl | rfl | rfl | rfl
  · rcases (show k = 0 ∨ k = 1 ∨ k = 2 ∨ k = 3 ∨ k = 4 by omega) with rfl | rfl | rfl | rfl | rfl
    · simp only [cpC, hN]
    · simp only [cpC]; rw [hf 14 (by decide) (by decide) (by decide), hf 15 (by decide) (by decide) (by decide), hf 16 (by decide) (by decide) (by decide), hf 18 (by decide) (by decide) (by decide), hf 17 (by decide) (by decide) (by decide)]
    · simp only [cpC]; rw [hf 20 (by decide) (by decide) (by decide), hf 21 (by decide) (by decide) (by decide), hf 22 (by decide) (by decide) (by decide), hf 35 (by decide) (by decide) (by decide)]
    · simp only [cpC]; rw [hf 22 (by decide) (by decide) (by decide), hf (40 + n) (by omega) (by omega) (by omega)]
    · simp only [cpC]; rw [hf 37 (by decide) (by decide) (by decide), hf 38 (by decide) (by decide) (by decide), hf 39 (by decide) (by decide) (by decide), hf 25 (by decide) (by decide) (by decide)]
  · have hn9 : n < 9 := hx
    have hnn : n0 ≠ n := fun q => hne (by rw [q])
    have f34 := hf 34 (by decide) (by decide) (by decide)
    rcases (show n = 0 ∨ n = 1 ∨ n = 2 ∨ n = 3 ∨ n = 4 ∨ n = 5 ∨ n = 6 ∨ n = 7 ∨ n = 8 by omega) with rfl | rfl | rfl | rfl | rfl | rfl | rfl | rfl | rfl
    · rw [cpC_50, cpC_50]; exact cpO_same (g0 hnn).1 (g0 hnn).2
    · rw [cpC_51, cpC_51]
    · rw [cpC_52, cpC_52]; exact cpL_same (by rw [f34]) (hN _) (by rw [hF])
    · rw [cpC_53, cpC_53]; exact cpL_same (by rw [f34]) (hN _) (by rw [hF])
    · rw [cpC_54, cpC_54]; exact cpL_same (by rw [f34]) (hN _) (by rw [hF])
    · rw [cpC_55, cpC_55, g5 hnn]
    · rw [cpC_56, cpC_56, g6 hnn]
    · rw [cpC_57, cpC_57, g7 hnn]
    · rw [cpC_58, cpC_58, g8 hnn]
  · exact cpC_6s (fun x hx => by rw [hf x (by omega) (by omega) (by omega)])
  · rw [cpC_7, cpC_7]
  · exact cpC_8s (fun x h8 h11 => by rw [hf x (by omega) (by omega) (by omega)])
theorem cpK_sl {k : Nat} {v : Int64} (h : ¬ (26 ≤ k ∧ k < 29)) : cpK (sl σ k v) = cpK σ := by
  funext i
  unfold cpK sl
  by_cases hi : i < 3
  · rw [if_pos hi, if_pos hi]; exact if_neg (by omega)
  · rw [if_neg hi, if_neg hi]
theorem cpJ_sl {k : Nat} {v : Int64} (h : ¬ (30 ≤ k ∧ k < 32)) : cpJ (sl σ k v) = cpJ σ := by
  funext i
  unfold cpJ sl
  by_cases hi : i < 2
  · rw [if_pos hi, if_pos hi]; exact if_neg (by omega)
  · rw [if_neg hi, if_neg hi]
theorem cpK_put {i : Nat} {v : Int64} (h : i < 3) : vp_updL (cpK σ) i v = cpK (sl σ (26 + i) v) := by
  funext j
  show (if j = i then v else (if j < 3 then σ.2 (26 + j) else 0)) = (if j < 3 then (if 26 + j = 26 + i then v else σ.2 (26 + j)) else 0)
  by_cases hj : j = i
  · subst hj; rw [if_pos rfl, if_pos h, if_pos rfl]
  · rw [if_neg hj]
    by_cases h3 : j < 3
    · rw [if_pos h3, if_pos h3, if_neg (by omega)]
    · rw [if_neg h3, if_neg h3]
theorem cpJ_put {i : Nat} {v : Int64} (h : i < 2) : vp_updL (cpJ σ) i v = cpJ (sl σ (30 + i) v) := by
  funext j
  show (if j = i then v else (if j < 2 then σ.2 (30 + j) else 0)) = (if j < 2 then (if 30 + j = 30 + i then v else σ.2 (30 + j)) else 0)
  by_cases hj : j = i
  · subst hj; rw [if_pos rfl, if_pos h, if_pos rfl]
  · rw [if_neg hj]
    by_cases h3 : j < 2
    · rw [if_pos h3, if_pos h3, if_neg (by omega)]
    · rw [if_neg h3, if_neg h3]
theorem cpOf_month {v : Int32} : (.inr (6, (cpOf o σ).set 4 (.int v)) : va_E) = cpO o (si σ 1 0 v) := by
  simp [cpOf, cpO, si, upd]
theorem cpOf_drained {v : Int64} : (.inr (6, (cpOf o σ).set 7 (.long v)) : va_E) = cpO o (sl σ 29 v) := by
  simp [cpOf, cpO, sl]
theorem p_month {own : String} {index : Nat} (hx : p.tables.exec = Jvm.exec) (hb : c.code = cc) (hts : ∀ w ∈ Ts, w.before args s = true) (hin : ∀ w ∈ wsX50, w ∈ Ts) (hown : s.vm.findClass own = some m.cls) (hK : va_K G vwCl (cTy ids) s) (hP : CPic G ids o z tE d w σ H) (hS : va_S (cpG o z) H0 H locs) (hlink : Cond.fieldLink own index (TX5 4).1 (TX5 4).2.1 (TX5 4).2.2.1 ∈ Ts) {v : Int32} (hdg : decode cc pc = .ok (.putfield index, 3))
    (kk : ∀ (H1 : Heap) (locs1 : List Loc), CPic G ids o z tE d w (si σ 1 0 v) H1 → va_S (cpG o z) H0 H1 locs1 → W p l e R s m args below meth c H1 locs1 cells slots Q (F0 m (pc + 3) ls rest)) : W p l e R s m args below meth c H locs cells slots Q (F0 m pc ls (.int v :: .ref o :: rest)) :=
  x_put (C := RX5) (T := TX5) (N := 10) (ci := 6) (fs := cpOf o σ) (ty := .int) hx hb hts hin tyX5 tyX5_ok nmX5 hown hK hP.main (by unfold cpG; omega) hS rfl 4 (by decide) hlink rfl (by decide +kernel) rfl rfl (by show 4 < 10; decide) hdg (fun H1 locs1 h1 h2 h3 => kk H1 locs1 (hP.set5 0 (by decide) h2 (by rw [cpC_50, ← cpOf_month]; exact h1) (fun x h1 _ _ => si_ne h1) (fun h => absurd rfl h) (fun _ => rfl) (fun _ => rfl) (fun _ => si_ne (by decide)) (fun _ => si_ne (by decide))) h3)
theorem p_drained {own : String} {index : Nat} (hx : p.tables.exec = Jvm.exec) (hb : c.code = cc) (hts : ∀ w ∈ Ts, w.before args s = true) (hin : ∀ w ∈ wsX50, w ∈ Ts) (hown : s.vm.findClass own = some m.cls) (hK : va_K G vwCl (cTy ids) s) (hP : CPic G ids o z tE d w σ H) (hS : va_S (cpG o z) H0 H locs) (hlink : Cond.fieldLink own index (TX5 7).1 (TX5 7).2.1 (TX5 7).2.2.1 ∈ Ts) {v : Int64} (hdg : decode cc pc = .ok (.putfield index, 3))
    (kk : ∀ (H1 : Heap) (locs1 : List Loc), CPic G ids o z tE d w (sl σ 29 v) H1 → va_S (cpG o z) H0 H1 locs1 → W p l e R s m args below meth c H1 locs1 cells slots Q (F0 m (pc + 3) ls rest)) : W p l e R s m args below meth c H locs cells slots Q (F0 m pc ls (.long v :: .ref o :: rest)) :=
  x_put (C := RX5) (T := TX5) (N := 10) (ci := 6) (fs := cpOf o σ) (ty := .long) hx hb hts hin tyX5 tyX5_ok nmX5 hown hK hP.main (by unfold cpG; omega) hS rfl 7 (by decide) hlink rfl (by decide +kernel) rfl rfl (by show 7 < 10; decide) hdg (fun H1 locs1 h1 h2 h3 => kk H1 locs1 (hP.set5 0 (by decide) h2 (by rw [cpC_50, ← cpOf_drained]; exact h1) (fun x h1 _ _ => rfl) (fun h => absurd rfl h) (fun _ => cpK_sl (by decide)) (fun _ => cpJ_sl (by decide)) (fun _ => rfl) (fun _ => rfl)) h3)
theorem p_came (hx : p.tables.exec = Jvm.exec) (hb : c.code = cc) (hK : va_K G vwCl (cTy ids) s) (hP : CPic G ids o z tE d w σ H) (hS : va_S (cpG o z) H0 H locs) {i : Int32} {x : Int64} (hin : vp_in i 3) (hdg : decode cc pc = .ok (.lastore, 1))
    (kk : ∀ (H1 : Heap) (locs1 : List Loc), CPic G ids o z tE d w (sl σ (26 + i.toNatClampNeg) x) H1 → va_S (cpG o z) H0 H1 locs1 → W p l e R s m args below meth c H1 locs1 cells slots Q (F0 m (pc + 1) ls rest)) : W p l e R s m args below meth c H locs cells slots Q (F0 m pc ls (.long x :: .int i :: .ref (o + 5) :: rest)) :=
  x_last hx hb hK hP.came (by unfold cpG; omega) hS hin hdg (fun H1 locs1 h1 h2 h3 => kk H1 locs1 (hP.set5 5 (by decide) h2 (by rw [cpC_55, ← cpK_put (vp_lt hin)]; exact h1) (fun x h1 _ _ => rfl) (fun _ => ⟨rfl, if_neg (by have := vp_lt hin; omega)⟩) (fun h => absurd rfl h) (fun _ => cpJ_sl (by have := vp_lt hin; omega)) (fun _ => rfl) (fun _ => rfl)) h3)
theorem p_gas (hx : p.tables.exec = Jvm.exec) (hb : c.code = cc) (hK : va_K G vwCl (cTy ids) s) (hP : CPic G ids o z tE d w σ H) (hS : va_S (cpG o z) H0 H locs) {i : Int32} {x : Int64} (hin : vp_in i 2) (hdg : decode cc pc = .ok (.lastore, 1))
    (kk : ∀ (H1 : Heap) (locs1 : List Loc), CPic G ids o z tE d w (sl σ (30 + i.toNatClampNeg) x) H1 → va_S (cpG o z) H0 H1 locs1 → W p l e R s m args below meth c H1 locs1 cells slots Q (F0 m (pc + 1) ls rest)) : W p l e R s m args below meth c H locs cells slots Q (F0 m pc ls (.long x :: .int i :: .ref (o + 6) :: rest)) :=
  x_last hx hb hK hP.gas (by unfold cpG; omega) hS hin hdg (fun H1 locs1 h1 h2 h3 => kk H1 locs1 (hP.set5 6 (by decide) h2 (by rw [cpC_56, ← cpJ_put (vp_lt hin)]; exact h1) (fun x h1 _ _ => rfl) (fun _ => ⟨rfl, if_neg (by omega)⟩) (fun _ => cpK_sl (by omega)) (fun h => absurd rfl h) (fun _ => rfl) (fun _ => rfl)) h3)
theorem si_row {k j : Nat} {v : Int32} : (si σ k j v).1 k = upd (σ.1 k) j v := by simp [si]
theorem p_lake (hx : p.tables.exec = Jvm.exec) (hb : c.code = cc) (hK : va_K G vwCl (cTy ids) s) (hP : CPic G ids o z tE d w σ H) (hS : va_S (cpG o z) H0 H locs) {i x : Int32} (hin : vp_in i 25) (hdg : decode cc pc = .ok (.iastore, 1))
    (kk : ∀ (H1 : Heap) (locs1 : List Loc), CPic G ids o z tE d w (si σ 32 i.toNatClampNeg x) H1 → va_S (cpG o z) H0 H1 locs1 → W p l e R s m args below meth c H1 locs1 cells slots Q (F0 m (pc + 1) ls rest)) : W p l e R s m args below meth c H locs cells slots Q (F0 m pc ls (.int x :: .int i :: .ref (o + 7) :: rest)) :=
  x_iast hx hb hK hP.lake (by unfold cpG; omega) hS hin hdg (fun H1 locs1 h1 h2 h3 => kk H1 locs1 (hP.set5 7 (by decide) h2 (by rw [cpC_57, si_row]; exact h1) (fun x _ h1 _ => si_ne h1) (fun _ => ⟨by rw [si_ne (by decide)], rfl⟩) (fun _ => rfl) (fun _ => rfl) (fun h => absurd rfl h) (fun _ => si_ne (by decide))) h3)
theorem p_gath (hx : p.tables.exec = Jvm.exec) (hb : c.code = cc) (hK : va_K G vwCl (cTy ids) s) (hP : CPic G ids o z tE d w σ H) (hS : va_S (cpG o z) H0 H locs) {i x : Int32} (hin : vp_in i 25) (hdg : decode cc pc = .ok (.bastore, 1))
    (kk : ∀ (H1 : Heap) (locs1 : List Loc), CPic G ids o z tE d w (si σ 33 i.toNatClampNeg (vp_nar .boolean x)) H1 → va_S (cpG o z) H0 H1 locs1 → W p l e R s m args below meth c H1 locs1 cells slots Q (F0 m (pc + 1) ls rest)) : W p l e R s m args below meth c H locs cells slots Q (F0 m pc ls (.int x :: .int i :: .ref (o + 8) :: rest)) :=
  x_zast hx hb hK hP.gath (by unfold cpG; omega) hS hin hdg (fun H1 locs1 h1 h2 h3 => kk H1 locs1 (hP.set5 8 (by decide) h2 (by rw [cpC_58, si_row]; exact h1) (fun x _ _ h1 => si_ne h1) (fun _ => ⟨by rw [si_ne (by decide)], rfl⟩) (fun _ => rfl) (fun _ => rfl) (fun _ => si_ne (by decide)) (fun h => absurd rfl h)) h3)
end PR
