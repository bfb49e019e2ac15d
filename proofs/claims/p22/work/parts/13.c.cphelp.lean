theorem cpG_blk {o z i q : Nat} (hi : i < 25) (h : bA (o + 9 + 7 * i) q) : cpG o z q := by unfold bA at h; unfold cpG; omega
theorem cpG_lay {o z i j q : Nat} (hi : i < 25) (hj : j < 5) (h : q = o + 9 + 7 * i + 2 + j) : cpG o z q := by unfold cpG; omega
theorem CPic.joinL {G : va_G} {ids : Nat → ClassId} {o z tE : Nat} {d : Nat → Nat → Nat} {w : Nat → Nat} {σ : Sg} {H H1 : Heap} (hP : CPic G ids o z tE d w σ H) {i j : Nat} (hi : i < 25) (hj : j < 5) (h1 : XLP G (o + 9 + 7 * i + 2 + j) (5 * i + j) σ H1) (hk : ∀ q : Nat, q < H.size → ¬ q = o + 9 + 7 * i + 2 + j → H1[q]? = H[q]?) : CPic G ids o z tE d w σ H1 :=
  hP.join hi ((hP.blk hi).join hj h1 hk (fun _ _ _ => rfl)) (fun q hq hb => hk q hq (fun e => hb (by unfold bA; omega))) (fun _ _ _ => rfl) rfl
section PN
variable {p : Program} {l : Launch} {e : Env} {R : Room} {s : State} {m : MethodId} {args : Array Value} {below : List Frame} {meth : Method} {c : Code} {H : Heap} {locs : List Loc} {cells slots : Nat} {Q : State → Prop}
variable {cc : ByteArray} {pc : Nat} {ls : Array Slot} {rest : List Value} {G : va_G} {ids : Nat → ClassId} {o z tE : Nat} {d : Nat → Nat → Nat} {w : Nat → Nat} {σ : Sg} {H0 : Heap}
theorem p_cameN (hx : p.tables.exec = Jvm.exec) (hb : c.code = cc) (hK : va_K G vwCl (cTy ids) s) (hP : CPic G ids o z tE d w σ H) (hS : va_S (cpG o z) H0 H locs) {j : Nat} {x : Int64} (hj : j < 3) (hdg : decode cc pc = .ok (.lastore, 1))
    (kk : ∀ (H1 : Heap) (locs1 : List Loc), CPic G ids o z tE d w (sl σ (26 + j) x) H1 → va_S (cpG o z) H0 H1 locs1 → W p l e R s m args below meth c H1 locs1 cells slots Q (F0 m (pc + 1) ls rest)) : W p l e R s m args below meth c H locs cells slots Q (F0 m pc ls (.long x :: .int (nI j) :: .ref (o + 5) :: rest)) :=
  p_came hx hb hK hP hS (vp_in_nI hj (by decide)) hdg (fun H1 locs1 h1 h2 => kk H1 locs1 (by rw [nI_clamp (by omega)] at h1; exact h1) h2)
theorem p_gasN (hx : p.tables.exec = Jvm.exec) (hb : c.code = cc) (hK : va_K G vwCl (cTy ids) s) (hP : CPic G ids o z tE d w σ H) (hS : va_S (cpG o z) H0 H locs) {j : Nat} {x : Int64} (hj : j < 2) (hdg : decode cc pc = .ok (.lastore, 1))
    (kk : ∀ (H1 : Heap) (locs1 : List Loc), CPic G ids o z tE d w (sl σ (30 + j) x) H1 → va_S (cpG o z) H0 H1 locs1 → W p l e R s m args below meth c H1 locs1 cells slots Q (F0 m (pc + 1) ls rest)) : W p l e R s m args below meth c H locs cells slots Q (F0 m pc ls (.long x :: .int (nI j) :: .ref (o + 6) :: rest)) :=
  p_gas hx hb hK hP hS (vp_in_nI hj (by decide)) hdg (fun H1 locs1 h1 h2 => kk H1 locs1 (by rw [nI_clamp (by omega)] at h1; exact h1) h2)
theorem p_gathN (hx : p.tables.exec = Jvm.exec) (hb : c.code = cc) (hK : va_K G vwCl (cTy ids) s) (hP : CPic G ids o z tE d w σ H) (hS : va_S (cpG o z) H0 H locs) {j : Nat} {x : Int32} (hj : j < 25) (hdg : decode cc pc = .ok (.bastore, 1))
    (kk : ∀ (H1 : Heap) (locs1 : List Loc), CPic G ids o z tE d w (si σ 33 j (vp_nar .boolean x)) H1 → va_S (cpG o z) H0 H1 locs1 → W p l e R s m args below meth c H1 locs1 cells slots Q (F0 m (pc + 1) ls rest)) : W p l e R s m args below meth c H locs cells slots Q (F0 m pc ls (.int x :: .int (nI j) :: .ref (o + 8) :: rest)) :=
  p_gath hx hb hK hP hS (vp_in_nI hj (by decide)) hdg (fun H1 locs1 h1 h2 => kk H1 locs1 (by rw [nI_clamp (by omega)] at h1; exact h1) h2)
end PN
theorem lp_stop {α : Type} {f : Nat → α → α} {z0 z : α} {i N : Nat} (hz : z = lp f i z0) (hi : i ≤ N) (h : ∀ j, i ≤ j → j < N → f j z = z) : lp f N z0 = z := by
  induction N with
  | zero =>
    have e : i = 0 := by omega
    subst e; exact hz.symm
  | succ N ih =>
    by_cases e : i = N + 1
    · subst e; exact hz.symm
    · show f N (lp f N z0) = z
      rw [ih (by omega) (fun j h1 h2 => h j h1 (by omega))]
      exact h N (by omega) (by omega)
/-- the first answer that is not nought -/
def er (f : Nat → Int32) : Nat → Int32
  | 0 => nI 0
  | n + 1 => if er f n = nI 0 then f n else er f n
theorem er_next {f : Nat → Int32} {i : Nat} (h : er f i = nI 0) (q : nI 0 = f i) : er f (i + 1) = nI 0 := by
  show (if er f i = nI 0 then f i else er f i) = nI 0
  rw [if_pos h]; exact q.symm
theorem er_ret {f : Nat → Int32} {i N : Nat} {v : Int32} (h : er f i = nI 0) (q : v = f i) (hv : ¬ v = nI 0) (hi : i < N) : er f N = v := by
  induction N with
  | zero => omega
  | succ N ih =>
    show (if er f N = nI 0 then f N else er f N) = v
    by_cases e : i = N
    · subst e; rw [if_pos h]; exact q.symm
    · have hN := ih (by omega)
      rw [hN, if_neg hv]
theorem y_callIF {p : Program} {l : Launch} {e : Env} {R : Room} {s : State} {m : MethodId} {args : Array Value} {below : List Frame} {meth : Method} {c : Code} {H : Heap} {locs : List Loc} {cells slots : Nat} {Q : State → Prop} {cc : ByteArray} {pc : Nat} {ls : Array Slot} {rest : List Value} {G : va_G} {ids : Nat → ClassId} {A : Nat → Prop} {Ts : List Cond} {tS tE : Nat} {y : MethodName} {ws : List Cond} {rm : Room} {b : Nat} {As : List Value} {r : Int32} {Pic Pic1 : Heap → Prop} {bytes : ByteArray} {maxL nL n index ci : Nat} {ret : Option FieldType} {own C : String} {T : u_T} {N : Nat} {fs : List Value} (S : CallFix p m c cc nL s args Ts own) (hM : yI l y ws rm G ids tS tE (.ref b :: As) Pic r Pic1 (fun _ : Nat => False)) (cw : CallW R s args own C index y bytes maxL ret ws rm 0 0 n) (hK : va_K G vwCl (cTy ids) s) (hZ : cST tS tE A s s.heap) (he : va_at G vwCl (b, .inr (ci, fs)) H) (hc : vwCl[ci]? = some (C, T, N)) (hP : Pic H) (hS : va_S A s.heap H locs) (hn : As.length = n) (hsz : ls.size = nL) {st0 : List Value} (hst : st0 = As.reverse ++ .ref b :: rest) (hW : (rest.map fun v => v.category).sum ≤ 8) (hdg : decode cc pc = .ok (.invokevirtual index, 3)) (hf : cells ≤ R.cells ∧ slots ≤ R.slots)
    (kk : ∀ (H1 : Heap) (locs1 : List Loc), Pic1 H1 → H.size ≤ H1.size → (∀ q : Nat, q < H.size → H1[q]? = H[q]?) → va_S A s.heap H1 locs1 → W p l e R s m args below meth c H1 locs1 cells slots Q (F0 m (pc + 3) ls (.int r :: rest))) : W p l e R s m args below meth c H locs cells slots Q (F0 m pc ls st0) := by
  refine va_calli (va_runV S hM cw ⟨yPc_blind, va_recv hK (va_P.one he) (ci := ci) (q0 := 0) hc rfl, fun U hU hW => ⟨rfl, by rw [hU]; exact hP, va_K.moved hW.alike hK, by
    have q := cST_at hZ hS hU hW.alike
    exact ⟨⟨va_Z.narrow q.1.1 (fun _ h => h.elim), va_T.narrow q.1.2 (fun _ h => h.elim)⟩, ⟨va_Z.narrow q.2.1.1 (fun _ h => h.elim), va_T.narrow q.2.1.2 (fun _ h => h.elim)⟩, vx_Zq.narrow q.2.2.1 (fun _ h => h.elim), vx_Zq.narrow q.2.2.2.1 (fun _ h => h.elim), q.2.2.2.2⟩⟩⟩ rfl hn hsz hst (lv_room hW) hdg hf) hS (fun q _ h => h.elim) (fun q h => h.elim) (fun r1 u t H1 locs1 ht hvm hw hB hz hk hS1 => ?_)
  subst hw
  exact kk H1 locs1 (by rw [← ht]; exact hB) hz (fun q hq => hk q hq (fun h => h)) hS1
theorem nI_le_mono {x : Int32} {i j : Nat} (h : x ≤ nI i) (hij : i ≤ j) (hj : j < 2 ^ 31) : x ≤ nI j := by
  rw [i_le] at h ⊢
  rw [nI_toInt (by omega)] at h
  rw [nI_toInt hj]
  omega
theorem l_letMeltedExcessOut_2 {σ : Sg} {k : Nat} : (l_letMeltedExcessOut_s σ k).2 = σ.2 := by simp only [l_letMeltedExcessOut_k38, l_letMeltedExcessOut_k38_s, l_letMeltedExcessOut_k24, l_letMeltedExcessOut_k24_s, l_letMeltedExcessOut, l_letMeltedExcessOut_s, si]
theorem l_wakeCarbon_2 {σ : Sg} {k : Nat} : (l_wakeCarbon_s σ k).2 = σ.2 := by simp only [l_wakeCarbon_k37, l_wakeCarbon_k37_s, l_wakeCarbon, l_wakeCarbon_s, si]
theorem c_leadDown_same {σ : Sg} {i : Nat} {fa fb : Int32} : ∀ x y, ¬ cpR i x y → (c_leadDown_s σ i fa fb).1 x y = σ.1 x y := by
  intro x y h
  simp only [c_leadDown_x5_s, c_leadDown_k78, c_leadDown_j59, c_leadDown_s]
  refine lp_invB (f := c_leadDown_b5 i fb) (z := (fa, σ)) (P := fun _ z => z.2.1 x y = σ.1 x y) (N := 5) rfl (fun j z hj hz => ?_) 5 (Nat.le_refl _)
  simp only [c_leadDown_b5, c_leadDown_x5_s, c_leadDown_k78, c_leadDown_j59, c_leadDown_s]
  rw [si_nj (by unfold cpR at h; omega)]
  exact hz
theorem c_leadDown_2 {σ : Sg} {i : Nat} {fa fb : Int32} : (c_leadDown_s σ i fa fb).2 = σ.2 := by
  simp only [c_leadDown_x5_s, c_leadDown_k78, c_leadDown_j59, c_leadDown_s]
  exact lp_kpB (P := fun (z : Int32 × Sg) => z.2.2) (fun j z => by simp only [c_leadDown_b5, c_leadDown_x5_s, c_leadDown_k78, c_leadDown_j59, c_leadDown_s, si]) 5 (fa, σ)
theorem c_letMeltedExcessOut_same {σ : Sg} {i : Nat} : ∀ x y, ¬ cpR i x y → (c_letMeltedExcessOut_s σ i).1 x y = σ.1 x y := by
  intro x y h
  simp only [c_letMeltedExcessOut_x2_s, c_letMeltedExcessOut_k41, c_letMeltedExcessOut_k31, c_letMeltedExcessOut_k20, c_letMeltedExcessOut_s]
  refine lp_invB (f := c_letMeltedExcessOut_b2 i) (z := σ) (P := fun _ z => z.1 x y = σ.1 x y) (N := 5) rfl (fun j z hj hz => ?_) 5 (Nat.le_refl _)
  simp only [c_letMeltedExcessOut_b2, c_letMeltedExcessOut_x2_s, c_letMeltedExcessOut_k41, c_letMeltedExcessOut_k31, c_letMeltedExcessOut_k20, c_letMeltedExcessOut_s]
  rw [si_nj (by unfold cpR at h; omega), si_nj (by unfold cpR at h; omega), l_letMeltedExcessOut_same x y (by unfold cpR at h; omega)]
  exact hz
theorem c_letMeltedExcessOut_2 {σ : Sg} {i : Nat} : (c_letMeltedExcessOut_s σ i).2 = σ.2 := by
  simp only [c_letMeltedExcessOut_x2_s, c_letMeltedExcessOut_k41, c_letMeltedExcessOut_k31, c_letMeltedExcessOut_k20, c_letMeltedExcessOut_s]
  exact lp_kpB (P := fun (z : Sg) => z.2) (fun j z => by simp only [c_letMeltedExcessOut_b2, c_letMeltedExcessOut_x2_s, c_letMeltedExcessOut_k41, c_letMeltedExcessOut_k31, c_letMeltedExcessOut_k20, c_letMeltedExcessOut_s, si_2, l_letMeltedExcessOut_2]) 5 σ
theorem c_wakeCarbon_same {σ : Sg} {i : Nat} : ∀ x y, ¬ cpR i x y → (c_wakeCarbon_s σ i).1 x y = σ.1 x y := by
  intro x y h
  simp only [c_wakeCarbon_x4, c_wakeCarbon_x4_s, c_wakeCarbon_k23, c_wakeCarbon, c_wakeCarbon_s]
  refine lp_invB (f := c_wakeCarbon_b4 i) (z := (nI 0, σ)) (P := fun _ z => z.2.1 x y = σ.1 x y) (N := 5) rfl (fun j z hj hz => ?_) 5 (Nat.le_refl _)
  simp only [c_wakeCarbon_b4, c_wakeCarbon_x4, c_wakeCarbon_x4_s, c_wakeCarbon_k23, c_wakeCarbon, c_wakeCarbon_s]
  rw [l_wakeCarbon_same x y (by unfold cpR at h; omega)]
  exact hz
theorem c_wakeCarbon_2 {σ : Sg} {i : Nat} : (c_wakeCarbon_s σ i).2 = σ.2 := by
  simp only [c_wakeCarbon_x4, c_wakeCarbon_x4_s, c_wakeCarbon_k23, c_wakeCarbon, c_wakeCarbon_s]
  exact lp_kpB (P := fun (z : Int32 × Sg) => z.2.2) (fun j z => by simp only [c_wakeCarbon_b4, c_wakeCarbon_x4, c_wakeCarbon_x4_s, c_wakeCarbon_k23, c_wakeCarbon, c_wakeCarbon_s, l_wakeCarbon_2]) 5 (nI 0, σ)
theorem c_crack_same {σ : Sg} {i : Nat} : ∀ x y, ¬ cpR i x y → (c_crack_s σ i).1 x y = σ.1 x y := by
  intro x y h
  unfold cpR at h
  simp only [c_crack_j75_s, c_crack_k63, c_crack_k53, c_crack_k43, c_crack_t21n, c_crack_k10_s, c_crack_s]
  split
  · rw [si_nj (by omega)]
  · split
    · rw [si_nj (by omega)]
    · rw [si_nj (by omega), si_nj (by omega), si_nj (by omega), si_nj (by omega), si_nj (by omega)]
theorem c_crack_2 {σ : Sg} {i : Nat} : (c_crack_s σ i).2 = σ.2 := by
  simp only [c_crack_j75_s, c_crack_k63, c_crack_k53, c_crack_k43, c_crack_t21n, c_crack_k10_s, c_crack_s]
  split
  · rfl
  · split <;> rfl
