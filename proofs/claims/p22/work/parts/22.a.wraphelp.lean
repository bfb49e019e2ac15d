/-! the law's wrappers: each calls the object and tells what was thrown by a number -/
def lK : Nat → Int64
  | 1 => -9000000000000000001
  | 2 => -9000000000000000002
  | _ => -9000000000000000003
def lQ (av : List Value) (G : va_G) (ids : Nat → ClassId) (tS tE o z : Nat) (σ : Sg) : Array Value → State → Prop := va_Pc av (fun U => (lPic G ids o z tE σ U.heap ∧ z ≤ U.heap.size) ∧ va_K G vwCl (cTy ids) U ∧ cST tS tE (cpG o z) U U.heap ∧ lNc U)
theorem lQ_blind {av : List Value} {G : va_G} {ids : Nat → ClassId} {tS tE o z : Nat} {σ : Sg} : FrameBlind (lQ av G ids tS tE o z σ) := fun _ U g mk q => ⟨q.1, q.2.1, va_K.moved (u := U) (U := U.calling g mk _) (Vm.Alike.refl U.vm) q.2.2.1, cST.moved (u := U) (U := U.calling g mk _) (Vm.Alike.refl U.vm) q.2.2.2.1, lNc.moved (u := U) (U := U.calling g mk _) (Vm.Alike.refl U.vm) q.2.2.2.2⟩
def lU (l : Launch) (y : MethodName) (ws : List Cond) (rm : Room) (G : va_G) (ids : Nat → ClassId) (tS tE : Nat) (av : List Value) (o z : Nat) (σ : Sg) (X : Nat) (v : Int64) (τ : Sg) (mc ms : Nat) : Prop :=
  Met l y ws rm (lQ av G ids tS tE o z σ) (va_Ql (fun (x : Int64) (_ : Unit) => x = if X = 0 then v else lK X) (fun _ t => lPic G ids o z tE (if X = 0 then τ else σ) t.heap) (cpG o z)) mc ms (cpG o z)
section LRT
variable {p : Program} {l : Launch} {e : Env} {R : Room} {s : State} {m : MethodId} {args : Array Value} {below : List Frame} {meth : Method} {c : Code} {H : Heap} {locs : List Loc} {cells slots : Nat} {cc : ByteArray} {pc : Nat} {ls : Array Slot} {A : Nat → Prop}
theorem w_lret {Pic1 : Heap → Prop} {mc ms : Nat} {v r : Int64} (hx : p.tables.exec = Jvm.exec) (hb : c.code = cc) (hr : meth.sig.returnType = some .long) (hlocks : meth.locks = false) (hc : cells ≤ mc) (hs : slots ≤ ms) (hP : Pic1 H) (hS : va_S A s.heap H locs) (d : decode cc pc = .ok (.lreturn, 1)) (hv : v = r) : W p l e R s m args below meth c H locs cells slots (MQ below (va_Ql (fun (x : Int64) (_ : Unit) => x = r) (fun _ t => Pic1 t.heap) A) args s mc ms A) (F0 m pc ls [.long v]) :=
  W.widen hc hs (W.lret hx hb hr (fun t ht hW => ⟨⟨v, (), rfl, hv, by show Pic1 t.heap; rw [ht]; exact hP⟩, hS.F ht⟩) hS.2.2 d hlocks)
theorem w_zret {Pic1 : Heap → Prop} {mc ms : Nat} (hx : p.tables.exec = Jvm.exec) (hb : c.code = cc) (hr : meth.sig.returnType = some .boolean) (hlocks : meth.locks = false) (hc : cells ≤ mc) (hs : slots ≤ ms) (hP : Pic1 H) (hS : va_S A s.heap H locs) (d : decode cc pc = .ok (.ireturn, 1)) : W p l e R s m args below meth c H locs cells slots (MQ below (va_Qi (fun (x : Int32) (_ : Unit) => x = nI 1) (fun _ t => Pic1 t.heap) A) args s mc ms A) (F0 m pc ls [.int (nI 1)]) :=
  W.widen hc hs (W.zret hx hb hr (z_nar (Or.inr rfl)) (fun t ht hW => ⟨⟨nI 1, (), rfl, rfl, by show Pic1 t.heap; rw [ht]; exact hP⟩, hS.F ht⟩) hS.2.2 d hlocks)
end LRT
