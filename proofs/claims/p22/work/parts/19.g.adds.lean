/-! the three methods that make an object and put it into a list -/
def zJ (l : Launch) (y : MethodName) (ws : List Cond) (rm : Room) (G : va_G) (ids : Nat → ClassId) (tS tE : Nat) (av : List Value) (o z : Nat) (d : Nat → Nat → Nat) (w : Nat → Nat) (σ : Sg) (X : Nat) (r : Int32) (σ' : Sg) (mc ms : Nat) : Prop :=
  vx_Met l y ws rm (yPc av G ids tS tE (cpG o z) (fun H => CPic G ids o z tE d w σ H ∧ z ≤ H.size)) (va_Qi (fun (x : Int32) (u : (Nat → Nat → Nat) × (Nat → Nat)) => X = 0 ∧ x = r ∧ wOK σ' u.2) (fun u t => CPic G ids o z tE u.1 u.2 σ' t.heap) (cpG o z)) (zX X (CPic G ids o z tE d w σ) (cpG o z)) mc ms (cpG o z)
theorem z_jret {p : Program} {l : Launch} {e : Env} {R : Room} {s : State} {m : MethodId} {args : Array Value} {below : List Frame} {meth : Method} {c : Code} {H : Heap} {locs : List Loc} {cells slots : Nat} {cc : ByteArray} {pc : Nat} {ls : Array Slot} {G : va_G} {ids : Nat → ClassId} {o z tE : Nat} {d' : Nat → Nat → Nat} {w' : Nat → Nat} {σ' : Sg} {X mc ms : Nat} {XC : String → State → State → Prop} {v r : Int32} (hx : p.tables.exec = Jvm.exec) (hb : c.code = cc) (hr : meth.sig.returnType = some .int) (hlocks : meth.locks = false) (hX : X = 0) (hc : cells ≤ mc) (hs : slots ≤ ms) (hP : CPic G ids o z tE d' w' σ' H) (hW : wOK σ' w') (hS : va_S (cpG o z) s.heap H locs) (dd : decode cc pc = .ok (.ireturn, 1)) (hv : v = r) : W p l e R s m args below meth c H locs cells slots (vx_MQ below (va_Qi (fun (x : Int32) (u : (Nat → Nat → Nat) × (Nat → Nat)) => X = 0 ∧ x = r ∧ wOK σ' u.2) (fun u t => CPic G ids o z tE u.1 u.2 σ' t.heap) (cpG o z)) XC args s mc ms (cpG o z)) (F0 m pc ls [.int v]) :=
  W.widen hc hs (vx_ret (W.iret hx hb hr (fun t ht hW2 => ⟨⟨v, (d', w'), rfl, ⟨hX, hv, hW⟩, by show CPic G ids o z tE d' w' σ' t.heap; rw [ht]; exact hP⟩, hS.F ht⟩) hS.2.2 dd hlocks))
theorem wOK_grow {σ σ' : Sg} {w : Nat → Nat} {L k' : Nat} (hW : wOK σ w) (hM : ∀ M, M < 3 → M ≠ L → cpN σ' M = cpN σ M) (hk : 10 ≤ k') : wOK σ' (fun M => if M = L then k' else w M) := fun M hM3 h => by
  by_cases e : M = L
  · show 10 ≤ (if M = L then k' else w M)
    rw [if_pos e]
    exact hk
  · show 10 ≤ (if M = L then k' else w M)
    rw [if_neg e]
    rw [hM M hM3 e] at h
    exact hW M hM3 h
theorem lt40 {x v : Int32} (hx : x = if nI 40 ≤ v then nI 0 else nI 1) (hne : ¬ x = 0) (hv : vp_in v 41) : v.toNatClampNeg < 40 := by
  by_cases h : nI 40 ≤ v
  · rw [if_pos h] at hx
    exact absurd hx hne
  · have q := vp_lt hv
    rw [vp_self hv] at h
    have h2 : ¬ 40 ≤ v.toNatClampNeg := fun z => h ((nI_leI (a := 40) (b := v.toNatClampNeg) (by decide) (by omega)).mpr z)
    omega
