/-! what is asked shows the same whatever lake was gathered last; rows for the law's own methods -/
def VS (σ τ : Sg) : Prop := (∀ k, k ≠ 32 → k ≠ 33 → τ.1 k = σ.1 k) ∧ τ.2 = σ.2
theorem VS.rf {σ : Sg} : VS σ σ := ⟨fun _ _ _ => rfl, rfl⟩
theorem VS.tr {a b c : Sg} (h : VS a b) (g : VS b c) : VS a c := ⟨fun k u v => (g.1 k u v).trans (h.1 k u v), g.2.trans h.2⟩
theorem VS.rel {σ τ μ : Sg} (v : VS σ τ) (h : Rel σ μ) : Rel τ μ := Rel_lake h v ⟨fun _ _ => rfl, rfl⟩
theorem VS.iv {σ τ : Sg} (v : VS σ τ) (h : IV σ) : IV τ := by
  obtain ⟨⟨μ, hR⟩, ⟨D, S, M, hv, h1, h2⟩, ht⟩ := h
  have em : mon τ = mon σ := by
    unfold mon
    rw [v.1 1 (by decide) (by decide)]
  exact ⟨⟨μ, v.rel hR⟩, ⟨D, S, M, hv.of v.2 (fun k a b j _ => by rw [v.1 k (by omega) (by omega)]) (fun x _ => by rw [v.1 3 (by decide) (by decide)]), h1, by rw [em]; exact h2⟩, TLo_of (fun k hk => v.1 k (by omega) (by omega)) ht⟩
theorem VS.one {σ : Sg} {c : Nat} (hc : c < 25) : VS σ (k_gatherOneLake_s σ (nI c)) := by
  obtain ⟨n, -, hS, -⟩ := one_lake (σ := σ) hc
  exact hS.1
theorem VS.cn {σ τ : Sg} (v : VS σ τ) (L : Nat) : cpN τ L = cpN σ L := by
  unfold cpN
  rcases cpF_3 L with q | q | q <;> rw [q, v.1 _ (by decide) (by decide)]
def vP (G : va_G) (ids : Nat → ClassId) (o z tE : Nat) (σ : Sg) (H : Heap) : Prop := (∃ τ, VS σ τ ∧ lPic G ids o z tE τ H) ∧ z ≤ H.size
theorem vP.at {G : va_G} {ids : Nat → ClassId} {o z tE : Nat} {σ : Sg} {H : Heap} (h : lPic G ids o z tE σ H) (hz : z ≤ H.size) : vP G ids o z tE σ H := ⟨⟨σ, VS.rf, h⟩, hz⟩
theorem vP.move {G : va_G} {ids : Nat → ClassId} {o z tE : Nat} {σ τ : Sg} {H : Heap} (v : VS σ τ) (h : vP G ids o z tE τ H) : vP G ids o z tE σ H := by
  obtain ⟨⟨ρ, r, hP⟩, hz⟩ := h
  exact ⟨⟨ρ, v.tr r, hP⟩, hz⟩
/-- a call that only asks, or is refused: for every state that shows the same -/
def RQ (l : Launch) (y : MethodName) (ws : List Cond) (rm : Room) (G : va_G) (ids : Nat → ClassId) (tS tE o z : Nat) (As : List Value) (σ : Sg) (r : Int64) (mc ms : Nat) : Prop :=
  ∀ τ, VS σ τ → ∃ X v τ', lU l y ws rm G ids tS tE As o z τ X v τ' mc ms ∧ (if X = 0 then v else lK X) = r ∧ VS σ (if X = 0 then τ' else τ)
def hQ (av : List Value) (G : va_G) (ids : Nat → ClassId) (tS tE o z : Nat) (σ : Sg) : Array Value → State → Prop := va_Pc av (fun U => vP G ids o z tE σ U.heap ∧ va_K G vwCl (cTy ids) U ∧ cST tS tE (cpG o z) U U.heap ∧ lNc U)
theorem hQ_blind {av : List Value} {G : va_G} {ids : Nat → ClassId} {tS tE o z : Nat} {σ : Sg} : FrameBlind (hQ av G ids tS tE o z σ) := fun _ U g mk q => ⟨q.1, q.2.1, va_K.moved (u := U) (U := U.calling g mk _) (Vm.Alike.refl U.vm) q.2.2.1, cST.moved (u := U) (U := U.calling g mk _) (Vm.Alike.refl U.vm) q.2.2.2.1, lNc.moved (u := U) (U := U.calling g mk _) (Vm.Alike.refl U.vm) q.2.2.2.2⟩
/-- a method of the law that looks at the object and says yes -/
def HC (l : Launch) (y : MethodName) (ws : List Cond) (rm : Room) (G : va_G) (ids : Nat → ClassId) (tS tE o z : Nat) (As : List Value) (σ : Sg) (mc ms : Nat) : Prop :=
  Met l y ws rm (hQ As G ids tS tE o z σ) (va_Qi (fun (x : Int32) (_ : Unit) => x = nI 1) (fun _ t => vP G ids o z tE σ t.heap) (cpG o z)) mc ms (cpG o z)
theorem t64 (x : Int32) : x.toInt64.toInt = x.toInt := Int32.toInt_toInt64 x
section LR
variable {p : Program} {l : Launch} {e : Env} {R : Room} {s : State} {m : MethodId} {args : Array Value} {below : List Frame} {meth : Method} {c : Code} {H : Heap} {locs : List Loc} {cells slots : Nat} {Q : State → Prop}
variable {cc : ByteArray} {pc : Nat} {ls : Array Slot} {rest : List Value} {G : va_G} {ids : Nat → ClassId} {A : Nat → Prop} {Ts : List Cond} {o z tS tE : Nat} {σ : Sg}
theorem l_clt (hx : p.tables.exec = Jvm.exec) (hb : c.code = cc) {x y : Int64} {X Y : Int} (hX : x.toInt = X) (hY : y.toInt = Y) (d1 : decode cc pc = .ok (.lcmp, 1)) {off : Int} {tgt : Nat} (d2 : decode cc (pc + 1) = .ok (.ifCond .lt off, 3)) (ht : ((pc + 1 : Nat) : Int) + off = (tgt : Int))
    (kt : X < Y → W p l e R s m args below meth c H locs cells slots Q (F0 m tgt ls rest)) (kf : ¬ X < Y → W p l e R s m args below meth c H locs cells slots Q (F0 m (pc + 4) ls rest)) : W p l e R s m args below meth c H locs cells slots Q (F0 m pc ls (.long y :: .long x :: rest)) :=
  W.lcmp hx hb d1 (lv_if_lt hx hb d2 ht (fun h => kt (by rw [lg_cmp_lt, Int64.lt_iff_toInt_lt, hX, hY] at h; exact h)) (fun h => kf (by rw [lg_cmp_lt, Int64.lt_iff_toInt_lt, hX, hY] at h; exact h)))
theorem l_cge (hx : p.tables.exec = Jvm.exec) (hb : c.code = cc) {x y : Int64} {X Y : Int} (hX : x.toInt = X) (hY : y.toInt = Y) (d1 : decode cc pc = .ok (.lcmp, 1)) {off : Int} {tgt : Nat} (d2 : decode cc (pc + 1) = .ok (.ifCond .ge off, 3)) (ht : ((pc + 1 : Nat) : Int) + off = (tgt : Int))
    (kt : Y ≤ X → W p l e R s m args below meth c H locs cells slots Q (F0 m tgt ls rest)) (kf : ¬ Y ≤ X → W p l e R s m args below meth c H locs cells slots Q (F0 m (pc + 4) ls rest)) : W p l e R s m args below meth c H locs cells slots Q (F0 m pc ls (.long y :: .long x :: rest)) :=
  W.lcmp hx hb d1 (lv_if_ge hx hb d2 ht (fun h => kt (by rw [lg_cmp_ge, Int64.le_iff_toInt_le, hX, hY] at h; exact h)) (fun h => kf (by rw [lg_cmp_ge, Int64.le_iff_toInt_le, hX, hY] at h; exact h)))
theorem l_cgt (hx : p.tables.exec = Jvm.exec) (hb : c.code = cc) {x y : Int64} {X Y : Int} (hX : x.toInt = X) (hY : y.toInt = Y) (d1 : decode cc pc = .ok (.lcmp, 1)) {off : Int} {tgt : Nat} (d2 : decode cc (pc + 1) = .ok (.ifCond .gt off, 3)) (ht : ((pc + 1 : Nat) : Int) + off = (tgt : Int))
    (kt : Y < X → W p l e R s m args below meth c H locs cells slots Q (F0 m tgt ls rest)) (kf : ¬ Y < X → W p l e R s m args below meth c H locs cells slots Q (F0 m (pc + 4) ls rest)) : W p l e R s m args below meth c H locs cells slots Q (F0 m pc ls (.long y :: .long x :: rest)) :=
  W.lcmp hx hb d1 (lv_if_gt hx hb d2 ht (fun h => kt (by rw [lg_cmp_gt, Int64.lt_iff_toInt_lt, hX, hY] at h; exact h)) (fun h => kf (by rw [lg_cmp_gt, Int64.lt_iff_toInt_lt, hX, hY] at h; exact h)))
theorem l_cle (hx : p.tables.exec = Jvm.exec) (hb : c.code = cc) {x y : Int64} {X Y : Int} (hX : x.toInt = X) (hY : y.toInt = Y) (d1 : decode cc pc = .ok (.lcmp, 1)) {off : Int} {tgt : Nat} (d2 : decode cc (pc + 1) = .ok (.ifCond .le off, 3)) (ht : ((pc + 1 : Nat) : Int) + off = (tgt : Int))
    (kt : X ≤ Y → W p l e R s m args below meth c H locs cells slots Q (F0 m tgt ls rest)) (kf : ¬ X ≤ Y → W p l e R s m args below meth c H locs cells slots Q (F0 m (pc + 4) ls rest)) : W p l e R s m args below meth c H locs cells slots Q (F0 m pc ls (.long y :: .long x :: rest)) :=
  W.lcmp hx hb d1 (lv_if_le hx hb d2 ht (fun h => kt (by rw [lg_cmp_le, Int64.le_iff_toInt_le, hX, hY] at h; exact h)) (fun h => kf (by rw [lg_cmp_le, Int64.le_iff_toInt_le, hX, hY] at h; exact h)))
theorem l_ceq (hx : p.tables.exec = Jvm.exec) (hb : c.code = cc) {x y : Int64} (d1 : decode cc pc = .ok (.lcmp, 1)) {off : Int} {tgt : Nat} (d2 : decode cc (pc + 1) = .ok (.ifCond .eq off, 3)) (ht : ((pc + 1 : Nat) : Int) + off = (tgt : Int))
    (kt : x = y → W p l e R s m args below meth c H locs cells slots Q (F0 m tgt ls rest)) (kf : ¬ x = y → W p l e R s m args below meth c H locs cells slots Q (F0 m (pc + 4) ls rest)) : W p l e R s m args below meth c H locs cells slots Q (F0 m pc ls (.long y :: .long x :: rest)) :=
  W.lcmp hx hb d1 (lv_if_eq hx hb d2 ht (fun h => kt ((lg_cmp_eq x y).mp h)) (fun h => kf (fun q => h ((lg_cmp_eq x y).mpr q))))
theorem l_cne (hx : p.tables.exec = Jvm.exec) (hb : c.code = cc) {x y : Int64} (d1 : decode cc pc = .ok (.lcmp, 1)) {off : Int} {tgt : Nat} (d2 : decode cc (pc + 1) = .ok (.ifCond .ne off, 3)) (ht : ((pc + 1 : Nat) : Int) + off = (tgt : Int))
    (kt : ¬ x = y → W p l e R s m args below meth c H locs cells slots Q (F0 m tgt ls rest)) (kf : x = y → W p l e R s m args below meth c H locs cells slots Q (F0 m (pc + 4) ls rest)) : W p l e R s m args below meth c H locs cells slots Q (F0 m pc ls (.long y :: .long x :: rest)) :=
  W.lcmp hx hb d1 (lv_if_ne hx hb d2 ht (fun h => kt (fun q => h ((lg_cmp_eq x y).mpr q))) (fun h => kf ((lg_cmp_eq x y).mp h)))
/-- a value is told anew -/
theorem l_top {v w : Value} (h : v = w) (kk : W p l e R s m args below meth c H locs cells slots Q (F0 m pc ls (w :: rest))) : W p l e R s m args below meth c H locs cells slots Q (F0 m pc ls (v :: rest)) := by
  rw [h]
  exact kk
theorem l_read {y : MethodName} {ws : List Cond} {rm : Room} {r : Int64} {As : List Value} {bytes : ByteArray} {maxL nL n index mc ms c1 s1 : Nat} {ret : Option FieldType} {hh : List (Nat × Nat × Nat × Nat)} {own : String} (F : CallFix p m c cc nL s args Ts own) (hM : RQ l y ws rm G ids tS tE o z As σ r mc ms) (cw : vx_CSW R s args own index y bytes maxL ret hh ws rm mc ms n)
    (hK : va_K G vwCl (cTy ids) s) (hZ : cST tS tE A s s.heap) (hN : lNc s) (hA : ∀ q, cpG o z q → A q) (hP : vP G ids o z tE σ H) (hS : va_S A s.heap H locs) (hn : As.length = n) (hsz : ls.size = nL) {st0 : List Value} (hst : st0 = As.reverse ++ rest) (hWd : (rest.map fun v => v.category).sum ≤ 8) (hdg : decode cc pc = .ok (.invokestatic index, 3)) (hf : cells + mc ≤ R.cells ∧ slots + ms ≤ R.slots) (hc1 : cells + mc = c1) (hs1 : slots + ms = s1)
    (kk : ∀ (H1 : Heap) (locs1 : List Loc), vP G ids o z tE σ H1 → va_S A s.heap H1 locs1 → H.size ≤ H1.size → (∀ q : Nat, q < H.size → ¬ cpG o z q → H1[q]? = H[q]?) → W p l e R s m args below meth c H1 locs1 c1 s1 Q (F0 m (pc + 3) ls (.long r :: rest))) : W p l e R s m args below meth c H locs cells slots Q (F0 m pc ls st0) := by
  subst hc1
  subst hs1
  obtain ⟨⟨τ, v, hP⟩, hzs⟩ := hP
  obtain ⟨X, w, τ', hM, hr, hv⟩ := hM τ v
  refine va_calll (vx_runSW F hM cw ⟨lQ_blind, fun U hU hW2 => ⟨rfl, ⟨by rw [hU]; exact hP, by rw [hU]; exact hzs⟩, va_K.moved hW2.alike hK, (cST_at hZ hS hU hW2.alike).narrow hA, lNc.moved hW2.alike hN⟩⟩ rfl hn hsz hst (lv_room hWd) hdg hf) hS (fun q _ h => hA q h) (fun q h => hA q h) (fun r1 u t H1 locs1 ht hvm hw hB hz1 hk hS1 => ?_)
  have e1 : r1 = r := Eq.trans hw hr
  subst e1
  rw [ht] at hB
  exact kk H1 locs1 ⟨⟨_, hv, hB⟩, Nat.le_trans hzs hz1⟩ hS1 hz1 hk
/-- a call that tells the object -/
theorem l_tell {y : MethodName} {ws : List Cond} {rm : Room} {X : Nat} {w : Int64} {τ τ' : Sg} {As : List Value} {bytes : ByteArray} {maxL nL n index mc ms c1 s1 : Nat} {ret : Option FieldType} {hh : List (Nat × Nat × Nat × Nat)} {own : String} (F : CallFix p m c cc nL s args Ts own) (hM : lU l y ws rm G ids tS tE As o z τ X w τ' mc ms) (hX : X = 0) (cw : vx_CSW R s args own index y bytes maxL ret hh ws rm mc ms n)
    (hK : va_K G vwCl (cTy ids) s) (hZ : cST tS tE A s s.heap) (hN : lNc s) (hA : ∀ q, cpG o z q → A q) (hP : lPic G ids o z tE τ H) (hzs : z ≤ H.size) (hS : va_S A s.heap H locs) (hn : As.length = n) (hsz : ls.size = nL) {st0 : List Value} (hst : st0 = As.reverse ++ rest) (hWd : (rest.map fun v => v.category).sum ≤ 8) (hdg : decode cc pc = .ok (.invokestatic index, 3)) (hf : cells + mc ≤ R.cells ∧ slots + ms ≤ R.slots) (hc1 : cells + mc = c1) (hs1 : slots + ms = s1)
    (kk : ∀ (H1 : Heap) (locs1 : List Loc), vP G ids o z tE τ' H1 → va_S A s.heap H1 locs1 → H.size ≤ H1.size → (∀ q : Nat, q < H.size → ¬ cpG o z q → H1[q]? = H[q]?) → W p l e R s m args below meth c H1 locs1 c1 s1 Q (F0 m (pc + 3) ls (.long w :: rest))) : W p l e R s m args below meth c H locs cells slots Q (F0 m pc ls st0) := by
  subst hc1
  subst hs1
  subst hX
  refine va_calll (vx_runSW F hM cw ⟨lQ_blind, fun U hU hW2 => ⟨rfl, ⟨by rw [hU]; exact hP, by rw [hU]; exact hzs⟩, va_K.moved hW2.alike hK, (cST_at hZ hS hU hW2.alike).narrow hA, lNc.moved hW2.alike hN⟩⟩ rfl hn hsz hst (lv_room hWd) hdg hf) hS (fun q _ h => hA q h) (fun q h => hA q h) (fun r1 u t H1 locs1 ht hvm hw hB hz1 hk hS1 => ?_)
  have e1 : r1 = w := hw
  subst e1
  rw [ht] at hB
  exact kk H1 locs1 (vP.at hB (Nat.le_trans hzs hz1)) hS1 hz1 hk
/-- a method of the law's own that says yes -/
theorem l_help {y : MethodName} {ws : List Cond} {rm : Room} {As : List Value} {bytes : ByteArray} {maxL nL n index mc ms c1 s1 : Nat} {ret : Option FieldType} {own : String} (F : CallFix p m c cc nL s args Ts own) (hM : HC l y ws rm G ids tS tE o z As σ mc ms) (cw : CallB R s args own index y bytes maxL ret ws rm mc ms n ∧ (Cond.static y).before args s = true)
    (hK : va_K G vwCl (cTy ids) s) (hZ : cST tS tE A s s.heap) (hN : lNc s) (hA : ∀ q, cpG o z q → A q) (hP : vP G ids o z tE σ H) (hS : va_S A s.heap H locs) (hn : As.length = n) (hsz : ls.size = nL) {st0 : List Value} (hst : st0 = As.reverse ++ rest) (hWd : (rest.map fun v => v.category).sum ≤ 8) (hdg : decode cc pc = .ok (.invokestatic index, 3)) (hf : cells + mc ≤ R.cells ∧ slots + ms ≤ R.slots) (hc1 : cells + mc = c1) (hs1 : slots + ms = s1)
    (kk : ∀ (H1 : Heap) (locs1 : List Loc), vP G ids o z tE σ H1 → va_S A s.heap H1 locs1 → H.size ≤ H1.size → (∀ q : Nat, q < H.size → ¬ cpG o z q → H1[q]? = H[q]?) → W p l e R s m args below meth c H1 locs1 c1 s1 Q (F0 m (pc + 3) ls (.int (nI 1) :: rest))) : W p l e R s m args below meth c H locs cells slots Q (F0 m pc ls st0) := by
  subst hc1
  subst hs1
  refine va_calli (va_runS F hM cw ⟨hQ_blind, fun U hU hW2 => ⟨rfl, by rw [hU]; exact hP, va_K.moved hW2.alike hK, (cST_at hZ hS hU hW2.alike).narrow hA, lNc.moved hW2.alike hN⟩⟩ rfl hn hsz hst (lv_room hWd) hdg hf) hS (fun q _ h => hA q h) (fun q h => hA q h) (fun r1 u t H1 locs1 ht hvm hw hB hz1 hk hS1 => ?_)
  have e1 : r1 = nI 1 := hw
  subst e1
  rw [ht] at hB
  exact kk H1 locs1 hB hS1 hz1 hk
/-- the month is asked -/
theorem l_month {own : String} {nL index : Nat} {bytes : ByteArray} {maxL : Nat} {ret : Option FieldType} (F : CallFix p m c cc nL s args Ts own) (cw : CallW R s args own RX5 index yX5_month bytes maxL ret wsX5_month ({ frames := 0, cells := 0, slots := 0, locals := 0 } : Room) 0 0 0)
    (hK : va_K G vwCl (cTy ids) s) (hZ : cST tS tE A s s.heap) (hA : ∀ q, cpG o z q → A q) (hP : vP G ids o z tE σ H) (hS : va_S A s.heap H locs) (hsz : ls.size = nL) (hWd : (rest.map fun v => v.category).sum ≤ 8) (hdg : decode cc pc = .ok (.invokevirtual index, 3)) (hf : cells + 0 ≤ R.cells ∧ slots + 0 ≤ R.slots)
    (kk : ∀ (H1 : Heap) (locs1 : List Loc), vP G ids o z tE σ H1 → va_S A s.heap H1 locs1 → H.size ≤ H1.size → (∀ q : Nat, q < H.size → ¬ cpG o z q → H1[q]? = H[q]?) → W p l e R s m args below meth c H1 locs1 cells slots Q (F0 m (pc + 3) ls (.int (σ.1 1 0) :: rest))) : W p l e R s m args below meth c H locs cells slots Q (F0 m pc ls (.ref o :: rest)) := by
  obtain ⟨⟨τ, v, d, w, hP, hwz⟩, hzs⟩ := hP
  refine va_calli (va_runV (As := []) (rest := rest) F (ck_month l G ids o z tS tE d w τ) cw ⟨yPc_blind, va_recv hK (va_P.one hP.main) (ci := 6) (q0 := 0) rfl rfl, fun U hU hW2 => ⟨rfl, by rw [hU]; exact hP, va_K.moved hW2.alike hK, (cST_at hZ hS hU hW2.alike).narrow hA⟩⟩ rfl rfl hsz rfl (lv_room hWd) hdg hf) hS (fun q _ h => hA q h) (fun q h => hA q h) (fun r1 u t H1 locs1 ht hvm hw hB hz1 hk hS1 => ?_)
  have e1 : r1 = σ.1 1 0 := Eq.trans hw (show τ.1 1 0 = σ.1 1 0 by rw [v.1 1 (by decide) (by decide)])
  subst e1
  rw [ht] at hB
  exact kk H1 locs1 ⟨⟨τ, v, d, w, hB, hwz⟩, Nat.le_trans hzs hz1⟩ hS1 hz1 hk
/-- how many lakes there are -/
theorem l_lakes {own : String} {nL index : Nat} {bytes : ByteArray} {maxL : Nat} {ret : Option FieldType} (F : CallFix p m c cc nL s args Ts own) (cw : CallW R s args own RX5 index yX5_lakes bytes maxL ret wsX5_lakes ({ frames := 2, cells := 0, slots := 0, locals := 47 } : Room) 0 0 0)
    (hK : va_K G vwCl (cTy ids) s) (hZ : cST tS tE A s s.heap) (hA : ∀ q, cpG o z q → A q) (hP : vP G ids o z tE σ H) (hS : va_S A s.heap H locs) (hsz : ls.size = nL) (hWd : (rest.map fun v => v.category).sum ≤ 8) (hdg : decode cc pc = .ok (.invokevirtual index, 3)) (hf : cells + 0 ≤ R.cells ∧ slots + 0 ≤ R.slots) {Pr : Int32 → Prop} (hL : ∀ τ, VS σ τ → Pr (k_lakes τ) ∧ VS τ (k_lakes_s τ))
    (kk : ∀ (r : Int32) (H1 : Heap) (locs1 : List Loc), Pr r → vP G ids o z tE σ H1 → va_S A s.heap H1 locs1 → H.size ≤ H1.size → (∀ q : Nat, q < H.size → ¬ cpG o z q → H1[q]? = H[q]?) → W p l e R s m args below meth c H1 locs1 cells slots Q (F0 m (pc + 3) ls (.int r :: rest))) : W p l e R s m args below meth c H locs cells slots Q (F0 m pc ls (.ref o :: rest)) := by
  obtain ⟨⟨τ, v, d, w, hP, hwz⟩, hzs⟩ := hP
  obtain ⟨h1, h2⟩ := hL τ v
  refine va_calli (va_runV (As := []) (rest := rest) F (ck_lakes l G ids o z tS tE d w τ) cw ⟨yPc_blind, va_recv hK (va_P.one hP.main) (ci := 6) (q0 := 0) rfl rfl, fun U hU hW2 => ⟨rfl, by rw [hU]; exact hP, va_K.moved hW2.alike hK, (cST_at hZ hS hU hW2.alike).narrow hA⟩⟩ rfl rfl hsz rfl (lv_room hWd) hdg hf) hS (fun q _ h => hA q h) (fun q h => hA q h) (fun r1 u t H1 locs1 ht hvm hw hB hz1 hk hS1 => ?_)
  rw [ht] at hB
  exact kk r1 H1 locs1 (by rw [show r1 = k_lakes τ from hw]; exact h1) ⟨⟨_, v.tr h2, d, w, hB, hwz⟩, Nat.le_trans hzs hz1⟩ hS1 hz1 hk
end LR
