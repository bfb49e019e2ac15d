/-! the law's wrappers: each calls the object and tells the class of what was thrown by a number -/
theorem lw_ofWH {l : Launch} {y : MethodName} {ws ws' : List Cond} {rm : Room} {Pc : Array Value → State → Prop} {Qc : Array Value → State → Outcome → State → Prop} {mc ms : Nat} {free : Addr → Prop} {cc : ByteArray} {maxL : Nat} {ret : Option FieldType} {hh : List (Nat × Nat × Nat × Nat)}
    (hy : plainName y.cls = true) (hw : ws = Cond.codeWith y cc maxL ret hh :: ws')
    (body : ∀ p e s m args below meth c s₁, BodyLoose p l y (headSpec ws rm) cc maxL ret e s m args below meth c s₁ → c.maxLocals = maxL → Pc args s →
      W p l e (headSpec ws rm).room s m args below meth c s.heap [] 0 0 (MQ below Qc args s mc ms free) (entryFrame m args maxL)) : Met l y ws rm Pc Qc mc ms free := by
  refine MetFree.of_bodyS (code := cc) (maxLocals := maxL) (ret := ret) hy ?_ ?_
  · intro args s m h hn
    obtain ⟨m9, meth, c, hn9, h1, h2, h3, h4, -, h5, h6, -⟩ := Cond.codeWith_spec (atoms_spec (ws := ws) h _ (by rw [hw]; exact List.mem_cons_self))
    cases hn.symm.trans hn9
    exact ⟨meth, c, h1, h2, h3, h4, h5, h6⟩
  · intro p e s m args below meth c s₁ B hml hP _
    have hh0 : s₁.heap = s.heap := by rw [B.state]; rfl
    obtain ⟨t, a1, o, b1, b2, b3⟩ := body p e s m args below meth c s₁ B hml hP s₁ hh0 (Stand.of_body B)
    exact ⟨t, o, a1, b1, b2, ⟨b3.1, b3.2⟩⟩
def xK (S : List Nat) (x : Nat) : Prop := x = 0 ∨ x ∈ S
theorem xK_s {S : List Nat} {a b : Nat} (ha : xK S a) (hb : xK S b) : xK S (xs a b) := by
  unfold xs
  by_cases h : a = 0
  · rw [if_pos h]; exact hb
  · rw [if_neg h]; exact ha
theorem xK_if {S : List Nat} {P : Prop} [Decidable P] {a b : Nat} (ha : xK S a) (hb : xK S b) : xK S (if P then a else b) := by
  by_cases h : P
  · rw [if_pos h]; exact ha
  · rw [if_neg h]; exact hb
theorem xK_0 {S : List Nat} : xK S 0 := Or.inl rfl
theorem xK_Ix {S : List Nat} {i n : Int32} (h : 1 ∈ S) : xK S (xIx i n) := by
  unfold xIx
  by_cases h1 : i < 0
  · rw [if_pos h1]; exact Or.inr h
  · rw [if_neg h1]
    by_cases h2 : i < n
    · rw [if_pos h2]; exact Or.inl rfl
    · rw [if_neg h2]; exact Or.inr h
theorem xK_Rg {S : List Nat} {v a b : Int32} (h : 2 ∈ S) : xK S (xRg v a b) := by
  unfold xRg
  by_cases h1 : v < a
  · rw [if_pos h1]; exact Or.inr h
  · rw [if_neg h1]
    by_cases h2 : v ≤ b
    · rw [if_pos h2]; exact Or.inl rfl
    · rw [if_neg h2]; exact Or.inr h
theorem xK_St {S : List Nat} {x : Int32} (h : 3 ∈ S) : xK S (xSt x) := by
  unfold xSt
  by_cases h1 : x = 0
  · rw [if_pos h1]; exact Or.inr h
  · rw [if_neg h1]; exact Or.inl rfl
theorem xK_1 {a x : Nat} (h : xK [a] x) : x = 0 ∨ x = a := h.imp id (fun h => List.mem_singleton.mp h)
theorem xK_2 {a b x : Nat} (h : xK [a, b] x) : x = 0 ∨ x = a ∨ x = b := h.imp id (fun h => (List.mem_cons.mp h).imp id (fun h => List.mem_singleton.mp h))
theorem xK_3 {a b c x : Nat} (h : xK [a, b, c] x) : x = 0 ∨ x = a ∨ x = b ∨ x = c := h.imp id (fun h => (List.mem_cons.mp h).imp id (fun h => (List.mem_cons.mp h).imp id (fun h => List.mem_singleton.mp h)))
/-- the number that tells a thrown class: its place among the wrapper's rows -/
def lC : List Nat → Nat → Nat
  | [], _ => 0
  | a :: S, x => if x = 0 then 0 else if x = a then 1 else lC S x + 1
def lNc (U : State) : Prop := va_Nc (xE 2) (xE 1) U ∧ va_Nc (xE 3) (xE 1) U ∧ va_Nc (xE 3) (xE 2) U
theorem lNc.moved {u U : State} (hvm : u.vm.Alike U.vm) (h : lNc u) : lNc U := ⟨va_Nc.moved hvm h.1, va_Nc.moved hvm h.2.1, va_Nc.moved hvm h.2.2⟩
def wZ (w : Nat → Nat) : Prop := ∀ L, L < 3 → w L = 0 ∨ 10 ≤ w L
def lPic (G : va_G) (ids : Nat → ClassId) (o z tE : Nat) (σ : Sg) (H : Heap) : Prop := ∃ (d : Nat → Nat → Nat) (w : Nat → Nat), CPic G ids o z tE d w σ H ∧ wZ w
def lOut (G : va_G) (ids : Nat → ClassId) (qo : Nat) (v : Int64) (H : Heap) : Prop := ∃ f : Nat → Int64, va_at G vwCl (qo, .inl (ids 2, 1, .inr (.inl f))) H ∧ f 0 = v
def lG (o z qo : Nat) : Nat → Prop := fun q => cpG o z q ∨ q = qo
def lP (av : List Value) (G : va_G) (ids : Nat → ClassId) (tS tE o z qo : Nat) (σ : Sg) : Array Value → State → Prop := va_Pc av (fun U => (lPic G ids o z tE σ U.heap ∧ ∃ v, lOut G ids qo v U.heap) ∧ va_K G vwCl (cTy ids) U ∧ cST tS tE (lG o z qo) U U.heap ∧ lNc U)
theorem lP_blind {av : List Value} {G : va_G} {ids : Nat → ClassId} {tS tE o z qo : Nat} {σ : Sg} : FrameBlind (lP av G ids tS tE o z qo σ) := fun _ U g mk q => ⟨q.1, q.2.1, va_K.moved (u := U) (U := U.calling g mk _) (Vm.Alike.refl U.vm) q.2.2.1, cST.moved (u := U) (U := U.calling g mk _) (Vm.Alike.refl U.vm) q.2.2.2.1, lNc.moved (u := U) (U := U.calling g mk _) (Vm.Alike.refl U.vm) q.2.2.2.2⟩
/-- a wrapper's contract -/
def lW (l : Launch) (y : MethodName) (ws : List Cond) (rm : Room) (G : va_G) (ids : Nat → ClassId) (tS tE : Nat) (av : List Value) (o z qo : Nat) (σ : Sg) (S : List Nat) (X : Nat) (g : Int64 → Prop) (τ : Sg) (mc ms : Nat) : Prop :=
  Met l y ws rm (lP av G ids tS tE o z qo σ) (va_Qi (fun (x : Int32) (_ : Unit) => x = nI (lC S X)) (fun _ t => lPic G ids o z tE (if X = 0 then τ else σ) t.heap ∧ ∃ v, lOut G ids qo v t.heap ∧ (X = 0 → g v)) (lG o z qo)) mc ms (lG o z qo)
theorem lw_qo {G : va_G} {ids : Nat → ClassId} {o z tE qo : Nat} {d : Nat → Nat → Nat} {w : Nat → Nat} {σ : Sg} {H : Heap} (hP : CPic G ids o z tE d w σ H) {y : Nat × Nat} (hy : cpU σ y) (hqo : o + 184 ≤ qo) (hzq : z = qo + 1) (e : cpA o d y = qo) : False := by
  by_cases h5 : y.1 < 5
  · have q := hP.2.1 y hy h5
    omega
  · have q := cpA_fix (d := d) (o := o) hy (by omega)
    omega
theorem lw_f0 {f : Nat → Int64} {x : Int64} : vp_updL f (nI 0).toNatClampNeg x 0 = x := by
  rw [nI_clamp (by decide)]
  simp [vp_updL]
theorem wOK_z {G : va_G} {ids : Nat → ClassId} {o z tE : Nat} {d : Nat → Nat → Nat} {w : Nat → Nat} {σ : Sg} {H : Heap} (hP : CPic G ids o z tE d w σ H) (hz : wZ w) : wOK σ w := fun L hL hn => by
  have q := (hP.2.2.2.2 L hL).1
  rcases hz L hL with h | h
  · omega
  · exact h
theorem cpC_w {ids : Nat → ClassId} {o tE : Nat} {d : Nat → Nat → Nat} {w w' : Nat → Nat} {σ : Sg} {x : Nat × Nat} (h : x.1 = 0 → w' x.2 = w x.2) : cpC ids o tE d w' σ x = cpC ids o tE d w σ x := by
  obtain ⟨k, n⟩ := x
  match k, h with
  | 0, h =>
    have e : w' n = w n := h rfl
    unfold cpC
    simp only [e]
  | 1, _ => rfl
  | 2, _ => rfl
  | 3, _ => rfl
  | 4, _ => rfl
  | 5, _ => rfl
  | 6, _ => rfl
  | 7, _ => rfl
  | k + 8, _ => rfl
theorem lPic_of {G : va_G} {ids : Nat → ClassId} {o z tE : Nat} {d : Nat → Nat → Nat} {w : Nat → Nat} {σ : Sg} {H : Heap} (hP : CPic G ids o z tE d w σ H) (hW : wOK σ w) : lPic G ids o z tE σ H := by
  refine ⟨d, fun L => if cpN σ L = 0 then 0 else w L, ⟨fun x hx => ?_, hP.2.1, hP.2.2.1, hP.2.2.2.1, fun L hL => ?_⟩, fun L hL => ?_⟩
  · rw [cpC_w (w := w) (fun h0 => ?_)]
    · exact hP.1 x hx
    · obtain ⟨k, n⟩ := x
      have hk : k = 0 := h0
      subst hk
      exact if_neg hx.2
  · dsimp only
    by_cases h : cpN σ L = 0
    · rw [if_pos h, h]
      exact ⟨Nat.le_refl _, by decide⟩
    · rw [if_neg h]
      exact hP.2.2.2.2 L hL
  · dsimp only
    by_cases h : cpN σ L = 0
    · rw [if_pos h]
      exact Or.inl rfl
    · rw [if_neg h]
      exact Or.inr (hW L hL h)
