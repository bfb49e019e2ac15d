/-! lists, houses, boreholes and claims within the picture -/
section LP
variable {p : Program} {l : Launch} {e : Env} {R : Room} {s : State} {m : MethodId} {args : Array Value} {below : List Frame} {meth : Method} {c : Code} {H : Heap} {locs : List Loc} {cells slots : Nat} {Q : State → Prop}
variable {cc : ByteArray} {pc : Nat} {ls : Array Slot} {rest : List Value} {G : va_G} {ids : Nat → ClassId} {Ts : List Cond} {o z tE : Nat} {d : Nat → Nat → Nat} {w : Nat → Nat} {σ σ' : Sg} {A : Nat → Prop} {H0 H1 : Heap}
theorem x_cast (hx : p.tables.exec = Jvm.exec) (hb : c.code = cc) {own C : String} {T : u_T} {N ci index a : Nat} {fs : List Value} (hown : s.vm.findClass own = some m.cls) (hlink : (Cond.classLink own index C).before args s = true) (hK : va_K G vwCl (cTy ids) s) (he : va_at G vwCl (a, .inr (ci, fs)) H) (hc : vwCl[ci]? = some (C, T, N)) (hdg : decode cc pc = .ok (.checkcast index, 3))
    (kk : W p l e R s m args below meth c H locs cells slots Q (F0 m (pc + 3) ls (.ref a :: rest))) : W p l e R s m args below meth c H locs cells slots Q (F0 m pc ls (.ref a :: rest)) := by
  obtain ⟨r, h1, cell, q1, q2, q3, q4⟩ := he
  have hr : r = (C, T, N) := Option.some.inj (h1.symm.trans hc)
  subst hr
  have hcl := (hK.1 ci _ hc).2
  exact va_castS hx hb hown hlink hcl ⟨cell, q1, by rw [q3]; rfl, by rw [q2]; exact hcl.1⟩ hdg kk
def cpKd (L : Nat) : Nat := if L = 0 then 1 else if L = 1 then 2 else 4
theorem cpC_5L {L : Nat} (hL : L < 3) : cpC ids o tE d w σ (5, 2 + L) = cpL tE d σ L := by
  rcases (show L = 0 ∨ L = 1 ∨ L = 2 by omega) with rfl | rfl | rfl
  · exact cpC_52
  · exact cpC_53
  · exact cpC_54
theorem CPic.lst (hP : CPic G ids o z tE d w σ H) {L b : Nat} (hL : L < 3) (hb : b = o + (2 + L)) : va_at G vwCl (b, .inr (0, [.int (σ.1 34 L), .ref (if cpN σ L = 0 then tE else d 0 L), .int (σ.1 (cpF L) 0)])) H := by
  have h := hP.1 (5, 2 + L) (cpU_5 (by omega))
  rw [cpC_5L hL, cpA_5] at h
  subst hb
  exact h
theorem cpC_0 {L : Nat} : cpC ids o tE d w σ (0, L) = .inl (ids 5, w L, .inr (.inr (.inr (.inr (fun j => if j < cpN σ L then some (d (cpKd L) j) else none))))) := rfl
theorem cpC_1 {h : Nat} : cpC ids o tE d w σ (1, h) = .inr (4, [.int (σ.1 14 h), .int (σ.1 15 h), .int (σ.1 16 h), .int (σ.1 18 h), .int (σ.1 17 h)]) := rfl
theorem cpC_2 {b : Nat} : cpC ids o tE d w σ (2, b) = .inr (1, [.int (σ.1 20 b), .int (σ.1 21 b), .int (σ.1 22 b), .ref (d 3 b), .int (σ.1 35 b)]) := rfl
theorem cpC_3 {b : Nat} : cpC ids o tE d w σ (3, b) = .inl (ids 0, 5 * (600 - (σ.1 22 b).toNatClampNeg), .inl (σ.1 (40 + b))) := rfl
theorem cpC_4k {k : Nat} : cpC ids o tE d w σ (4, k) = .inr (3, [.ref (d 1 (σ.1 37 k).toNatClampNeg), .int (σ.1 38 k), .int (σ.1 39 k), .int (σ.1 25 k)]) := rfl
theorem cpU_1 {k : Nat} (h : k < cpN σ 0) : cpU σ (1, k) := h
theorem cpU_2 {k : Nat} (h : k < cpN σ 1) : cpU σ (2, k) := h
theorem cpU_3 {k : Nat} (h : k < cpN σ 1) : cpU σ (3, k) := h
theorem cpU_4 {k : Nat} (h : k < cpN σ 2) : cpU σ (4, k) := h
theorem cpU_0 {L : Nat} (h : L < 3) (hn : cpN σ L ≠ 0) : cpU σ (0, L) := ⟨h, hn⟩
theorem CPic.els (hP : CPic G ids o z tE d w σ H) {L : Nat} (hL : L < 3) (hn : cpN σ L ≠ 0) : va_at G vwCl (d 0 L, .inl (ids 5, w L, .inr (.inr (.inr (.inr (fun j => if j < cpN σ L then some (d (cpKd L) j) else none)))))) H := by
  have h := hP.1 (0, L) (cpU_0 hL hn)
  rw [cpC_0] at h
  exact h
theorem CPic.house (hP : CPic G ids o z tE d w σ H) {h : Nat} (hh : h < cpN σ 0) : va_at G vwCl (d 1 h, .inr (4, [.int (σ.1 14 h), .int (σ.1 15 h), .int (σ.1 16 h), .int (σ.1 18 h), .int (σ.1 17 h)])) H := by
  have h := hP.1 (1, h) (cpU_1 hh)
  rw [cpC_1] at h
  exact h
theorem CPic.hole (hP : CPic G ids o z tE d w σ H) {b : Nat} (hh : b < cpN σ 1) : va_at G vwCl (d 2 b, .inr (1, [.int (σ.1 20 b), .int (σ.1 21 b), .int (σ.1 22 b), .ref (d 3 b), .int (σ.1 35 b)])) H := by
  have h := hP.1 (2, b) (cpU_2 hh)
  rw [cpC_2] at h
  exact h
theorem CPic.rdg (hP : CPic G ids o z tE d w σ H) {b : Nat} (hh : b < cpN σ 1) : va_at G vwCl (d 3 b, .inl (ids 0, 5 * (600 - (σ.1 22 b).toNatClampNeg), .inl (σ.1 (40 + b)))) H := by
  have h := hP.1 (3, b) (cpU_3 hh)
  rw [cpC_3] at h
  exact h
theorem CPic.clm (hP : CPic G ids o z tE d w σ H) {k : Nat} (hh : k < cpN σ 2) : va_at G vwCl (d 4 k, .inr (3, [.ref (d 1 (σ.1 37 k).toNatClampNeg), .int (σ.1 38 k), .int (σ.1 39 k), .int (σ.1 25 k)])) H := by
  have h := hP.1 (4, k) (cpU_4 hh)
  rw [cpC_4k] at h
  exact h
theorem p_size {bytes : ByteArray} {maxL nL index L b : Nat} {ret : Option FieldType} {own : String} (hL : L < 3) (hbL : b = o + (2 + L)) (S : CallFix p m c cc nL s args Ts own) (cw : CallW R s args own RJx4a65c index yJx4a65c_size_8abf5 bytes maxL ret wsJx4a65c_size_8abf5 ({ frames := 0, cells := 0, slots := 0, locals := 0 } : Room) 0 0 0) (hK : va_K G vwCl (cTy ids) s) (hP : CPic G ids o z tE d w σ H) (hS : va_S A H0 H locs) (hsz : ls.size = nL) {v : Int32} (hv : σ.1 (cpF L) 0 = v) (hW : (rest.map fun v => v.category).sum ≤ 8) (hdg : decode cc pc = .ok (.invokevirtual index, 3)) (hf : cells ≤ R.cells ∧ slots ≤ R.slots)
    (kk : ∀ (H1 : Heap) (locs1 : List Loc), CPic G ids o z tE d w σ H1 → va_S A H0 H1 locs1 → W p l e R s m args below meth c H1 locs1 cells slots Q (F0 m (pc + 3) ls (.int v :: rest))) : W p l e R s m args below meth c H locs cells slots Q (F0 m pc ls (.ref b :: rest)) := by
  subst hv
  exact x_callI (As := []) (rest := rest) (fun _ h => h.elim) S (cj_size l G ids b _ _ _) cw hK (hP.lst hL hbL) rfl (hP.lst hL hbL) hS rfl hsz rfl hW hdg hf (fun H1 locs1 _ _ hk hS1 => kk H1 locs1 (hP.keep (fun q hq _ => hk q hq (fun h => h))) hS1)
theorem p_getL {bytes : ByteArray} {maxL nL index L b j kd : Nat} {ret : Option FieldType} {own : String} (hL : L < 3) (hbL : b = o + (2 + L)) (hkd : cpKd L = kd) (S : CallFix p m c cc nL s args Ts own) (cw : CallW R s args own RJx4a65c index yJx4a65c_get_915e3 bytes maxL ret wsJx4a65c_get_915e3 ({ frames := 2, cells := 0, slots := 0, locals := 43 } : Room) 0 0 1) (hK : va_K G vwCl (cTy ids) s) (hP : CPic G ids o z tE d w σ H) (hS : va_S A H0 H locs) (hn : σ.1 (cpF L) 0 = nI (cpN σ L)) (hj : j < cpN σ L) (hsz : ls.size = nL) (hW : (rest.map fun v => v.category).sum ≤ 8) (hdg : decode cc pc = .ok (.invokevirtual index, 3)) (hf : cells ≤ R.cells ∧ slots ≤ R.slots)
    (kk : ∀ (H1 : Heap) (locs1 : List Loc), CPic G ids o z tE d w σ H1 → va_S A H0 H1 locs1 → W p l e R s m args below meth c H1 locs1 cells slots Q (F0 m (pc + 3) ls (.ref (d kd j) :: rest))) : W p l e R s m args below meth c H locs cells slots Q (F0 m pc ls (.int (nI j) :: .ref b :: rest)) := by
  subst hkd
  have hl := hP.lst hL hbL
  have h0 : cpN σ L ≠ 0 := by omega
  rw [if_neg h0, hn] at hl
  have hw := hP.2.2.2.2 L hL
  exact x_callR (As := [.int (nI j)]) (rest := rest) (fun _ h => h.elim) S (cj_get l G ids b (d 0 L) (σ.1 34 L) (cpN σ L) (w L) j (d (cpKd L) j) _ hj hw.1 hw.2 (if_pos hj)) cw hK hl rfl ⟨hl, hP.els hL h0⟩ hS rfl hsz rfl hW hdg hf (fun H1 locs1 _ _ hk hS1 => kk H1 locs1 (hP.keep (fun q hq _ => hk q hq (fun h => h))) hS1)
theorem cpC_5h {n k0 : Nat} (hx : cpU σ (5, n)) (hf : ∀ x, x ≠ k0 → σ'.1 x = σ.1 x) (hN : ∀ L, cpN σ' L = cpN σ L) (hF : ∀ L, σ'.1 (cpF L) = σ.1 (cpF L)) (hl : σ'.2 = σ.2) (hk : k0 ≠ 1 ∧ k0 ≠ 32 ∧ k0 ≠ 33 ∧ k0 ≠ 34 := by decide) : cpC ids o tE d w σ' (5, n) = cpC ids o tE d w σ (5, n) := by
  have hn9 : n < 9 := hx
  have f1 := hf 1 (fun q => hk.1 q.symm)
  have f32 := hf 32 (fun q => hk.2.1 q.symm)
  have f33 := hf 33 (fun q => hk.2.2.1 q.symm)
  have f34 := hf 34 (fun q => hk.2.2.2 q.symm)
  rcases (show n = 0 ∨ n = 1 ∨ n = 2 ∨ n = 3 ∨ n = 4 ∨ n = 5 ∨ n = 6 ∨ n = 7 ∨ n = 8 by omega) with rfl | rfl | rfl | rfl | rfl | rfl | rfl | rfl | rfl
  · rw [cpC_50, cpC_50]; exact cpO_same (by rw [f1]) (by rw [hl])
  · rw [cpC_51, cpC_51]
  · rw [cpC_52, cpC_52]; exact cpL_same (by rw [f34]) (hN _) (by rw [hF])
  · rw [cpC_53, cpC_53]; exact cpL_same (by rw [f34]) (hN _) (by rw [hF])
  · rw [cpC_54, cpC_54]; exact cpL_same (by rw [f34]) (hN _) (by rw [hF])
  · rw [cpC_55, cpC_55, cpK_same hl]
  · rw [cpC_56, cpC_56, cpJ_same hl]
  · rw [cpC_57, cpC_57, f32]
  · rw [cpC_58, cpC_58, f33]
/-- a house's tilt is written -/
theorem p_tilt {own : String} {index : Nat} (hx : p.tables.exec = Jvm.exec) (hb : c.code = cc) (hts : ∀ w ∈ Ts, w.before args s = true) (hin : ∀ w ∈ wsX30, w ∈ Ts) (hown : s.vm.findClass own = some m.cls) (hK : va_K G vwCl (cTy ids) s) (hP : CPic G ids o z tE d w σ H) {h : Nat} (hh : h < cpN σ 0) (hS : va_S (cpG o z) H0 H locs) (hlink : Cond.fieldLink own index (TX3 4).1 (TX3 4).2.1 (TX3 4).2.2.1 ∈ Ts) {v : Int32} (hdg : decode cc pc = .ok (.putfield index, 3))
    (kk : ∀ (H1 : Heap) (locs1 : List Loc), CPic G ids o z tE d w (si σ 17 h v) H1 → va_S (cpG o z) H0 H1 locs1 → W p l e R s m args below meth c H1 locs1 cells slots Q (F0 m (pc + 3) ls rest)) : W p l e R s m args below meth c H locs cells slots Q (F0 m pc ls (.int v :: .ref (d 1 h) :: rest)) := by
  have hF : ∀ L, (si σ 17 h v).1 (cpF L) = σ.1 (cpF L) := fun L => by
    rcases cpF_3 L with e | e | e <;> rw [e, si_ne (by decide)]
  have hN : ∀ L, cpN (si σ 17 h v) L = cpN σ L := fun L => by
    unfold cpN
    rw [hF]
  refine x_put (C := RX3) (T := TX3) (N := 5) (ci := 4) (ty := .int) hx hb hts hin tyX3 tyX3_ok nmX3 hown hK (hP.house hh) (hP.fr (cpU_1 hh)) hS rfl 4 (by decide) hlink rfl (by decide +kernel) rfl rfl (by show 4 < 5; decide) hdg (fun H1 locs1 h1 h2 h3 => kk H1 locs1 (hP.set (1, h) (cpU_1 hh) h2 ?_ hN (fun x hx hne => ?_)) h3)
  · rw [cpC_1, si_ne (by decide), si_ne (by decide), si_ne (by decide), si_ne (by decide), si_eq]
    exact h1
  · have hx9 := cpU_lt hx
    obtain ⟨k, n⟩ := x
    simp only at hx9
    rcases (show k = 0 ∨ k = 1 ∨ k = 2 ∨ k = 3 ∨ k = 4 ∨ k = 5 ∨ k = 6 ∨ k = 7 ∨ k = 8 by omega) with rfl | rfl | rfl | rfl | rfl | rfl | rfl | rfl | rfl
    · rw [cpC_0, cpC_0, hN]
    · have hnh : ¬ n = h := fun q => hne (by rw [q])
      rw [cpC_1, cpC_1, si_ne (by decide), si_ne (by decide), si_ne (by decide), si_ne (by decide), si_nj (fun q => hnh q.2)]
    · rw [cpC_2, cpC_2, si_ne (by decide), si_ne (by decide), si_ne (by decide), si_ne (by decide)]
    · rw [cpC_3, cpC_3, si_ne (by decide), si_ne (by omega)]
    · rw [cpC_4k, cpC_4k, si_ne (by decide), si_ne (by decide), si_ne (by decide), si_ne (by decide)]
    · exact cpC_5h hx (fun x h1 => si_ne h1) hN hF rfl
    · exact cpC_6s (fun x hx => by rw [si_ne (by omega)])
    · rw [cpC_7, cpC_7]
    · exact cpC_8s (fun x h8 h11 => by rw [si_ne (by omega)])
theorem cpF_si {k0 j : Nat} {v : Int32} (h13 : 13 ≠ k0) (h19 : 19 ≠ k0) (h24 : 24 ≠ k0) : ∀ L, (si σ k0 j v).1 (cpF L) = σ.1 (cpF L) := fun L => by
  rcases cpF_3 L with e | e | e <;> rw [e]
  · exact si_ne h13
  · exact si_ne h19
  · exact si_ne h24
theorem cpN_si {k0 j : Nat} {v : Int32} (h13 : 13 ≠ k0) (h19 : 19 ≠ k0) (h24 : 24 ≠ k0) : ∀ L, cpN (si σ k0 j v) L = cpN σ L := fun L => by
  unfold cpN
  rw [cpF_si h13 h19 h24]
/-- how many months a borehole has read is written -/
theorem p_mread {own : String} {index : Nat} (hx : p.tables.exec = Jvm.exec) (hb : c.code = cc) (hts : ∀ w ∈ Ts, w.before args s = true) (hin : ∀ w ∈ wsX00, w ∈ Ts) (hown : s.vm.findClass own = some m.cls) (hK : va_K G vwCl (cTy ids) s) (hP : CPic G ids o z tE d w σ H) {b : Nat} (hh : b < cpN σ 1) (hS : va_S (cpG o z) H0 H locs) (hlink : Cond.fieldLink own index (TX0 4).1 (TX0 4).2.1 (TX0 4).2.2.1 ∈ Ts) {v : Int32} (hdg : decode cc pc = .ok (.putfield index, 3))
    (kk : ∀ (H1 : Heap) (locs1 : List Loc), CPic G ids o z tE d w (si σ 35 b v) H1 → va_S (cpG o z) H0 H1 locs1 → W p l e R s m args below meth c H1 locs1 cells slots Q (F0 m (pc + 3) ls rest)) : W p l e R s m args below meth c H locs cells slots Q (F0 m pc ls (.int v :: .ref (d 2 b) :: rest)) := by
  have hN := cpN_si (σ := σ) (k0 := 35) (j := b) (v := v) (by decide) (by decide) (by decide)
  refine x_put (C := RX0) (T := TX0) (N := 5) (ci := 1) (ty := .int) hx hb hts hin tyX0 tyX0_ok nmX0 hown hK (hP.hole hh) (hP.fr (cpU_2 hh)) hS rfl 4 (by decide) hlink rfl (by decide +kernel) rfl rfl (by show 4 < 5; decide) hdg (fun H1 locs1 h1 h2 h3 => kk H1 locs1 (hP.set (2, b) (cpU_2 hh) h2 ?_ hN (fun x hx hne => ?_)) h3)
  · rw [cpC_2, si_ne (by decide), si_ne (by decide), si_ne (by decide), si_eq]
    exact h1
  · have hx9 := cpU_lt hx
    obtain ⟨k, n⟩ := x
    simp only at hx9
    rcases (show k = 0 ∨ k = 1 ∨ k = 2 ∨ k = 3 ∨ k = 4 ∨ k = 5 ∨ k = 6 ∨ k = 7 ∨ k = 8 by omega) with rfl | rfl | rfl | rfl | rfl | rfl | rfl | rfl | rfl
    · rw [cpC_0, cpC_0, hN]
    · rw [cpC_1, cpC_1, si_ne (by decide), si_ne (by decide), si_ne (by decide), si_ne (by decide), si_ne (by decide)]
    · have hnh : ¬ n = b := fun q => hne (by rw [q])
      rw [cpC_2, cpC_2, si_ne (by decide), si_ne (by decide), si_ne (by decide), si_nj (fun q => hnh q.2)]
    · rw [cpC_3, cpC_3, si_ne (by decide), si_ne (by omega)]
    · rw [cpC_4k, cpC_4k, si_ne (by decide), si_ne (by decide), si_ne (by decide), si_ne (by decide)]
    · exact cpC_5h hx (fun x h1 => si_ne h1) hN (cpF_si (by decide) (by decide) (by decide)) rfl
    · exact cpC_6s (fun x hx => by rw [si_ne (by omega)])
    · rw [cpC_7, cpC_7]
    · exact cpC_8s (fun x h8 h11 => by rw [si_ne (by omega)])
/-- a reading is written -/
theorem p_rdg (hx : p.tables.exec = Jvm.exec) (hb : c.code = cc) (hK : va_K G vwCl (cTy ids) s) (hP : CPic G ids o z tE d w σ H) {b : Nat} (hh : b < cpN σ 1) (hS : va_S (cpG o z) H0 H locs) {i x : Int32} (hin : vp_in i (5 * (600 - (σ.1 22 b).toNatClampNeg))) (hdg : decode cc pc = .ok (.iastore, 1))
    (kk : ∀ (H1 : Heap) (locs1 : List Loc), CPic G ids o z tE d w (si σ (40 + b) i.toNatClampNeg x) H1 → va_S (cpG o z) H0 H1 locs1 → W p l e R s m args below meth c H1 locs1 cells slots Q (F0 m (pc + 1) ls rest)) : W p l e R s m args below meth c H locs cells slots Q (F0 m pc ls (.int x :: .int i :: .ref (d 3 b) :: rest)) := by
  have hN := cpN_si (σ := σ) (k0 := 40 + b) (j := i.toNatClampNeg) (v := x) (by omega) (by omega) (by omega)
  refine x_iast hx hb hK (hP.rdg hh) (hP.fr (cpU_3 hh)) hS hin hdg (fun H1 locs1 h1 h2 h3 => kk H1 locs1 (hP.set (3, b) (cpU_3 hh) h2 ?_ hN (fun x hx hne => ?_)) h3)
  · rw [cpC_3, si_ne (by omega), si_row]
    exact h1
  · have hx9 := cpU_lt hx
    obtain ⟨k, n⟩ := x
    simp only at hx9
    rcases (show k = 0 ∨ k = 1 ∨ k = 2 ∨ k = 3 ∨ k = 4 ∨ k = 5 ∨ k = 6 ∨ k = 7 ∨ k = 8 by omega) with rfl | rfl | rfl | rfl | rfl | rfl | rfl | rfl | rfl
    · rw [cpC_0, cpC_0, hN]
    · rw [cpC_1, cpC_1, si_ne (by omega), si_ne (by omega), si_ne (by omega), si_ne (by omega), si_ne (by omega)]
    · rw [cpC_2, cpC_2, si_ne (by omega), si_ne (by omega), si_ne (by omega), si_ne (by omega)]
    · have hnh : ¬ n = b := fun q => hne (by rw [q])
      rw [cpC_3, cpC_3, si_ne (by omega), si_ne (by omega)]
    · rw [cpC_4k, cpC_4k, si_ne (by omega), si_ne (by omega), si_ne (by omega), si_ne (by omega)]
    · exact cpC_5h hx (fun x h1 => si_ne h1) hN (cpF_si (by omega) (by omega) (by omega)) rfl (by omega)
    · exact cpC_6s (fun x hx => by rw [si_ne (by omega)])
    · rw [cpC_7, cpC_7]
    · exact cpC_8s (fun x h8 h11 => by rw [si_ne (by omega)])
end LP
