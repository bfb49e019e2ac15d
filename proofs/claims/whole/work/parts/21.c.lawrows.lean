/-! the law's own walk -/
theorem wm_at {b : Nat} {cI cZ : ClassId} {σ : Sg} {k : Nat} {q : Nat × va_E} (h : (wm cI cZ (aM b) σ)[k]? = some q) : q.1 = b + k ∧ k < 22 := by
  have hk : k < 22 := (List.getElem?_eq_some_iff.mp h).1
  refine ⟨?_, hk⟩
  rcases (show k = 0 ∨ k = 1 ∨ k = 2 ∨ k = 3 ∨ k = 4 ∨ k = 5 ∨ k = 6 ∨ k = 7 ∨ k = 8 ∨ k = 9 ∨ k = 10 ∨ k = 11 ∨ k = 12 ∨ k = 13 ∨ k = 14 ∨ k = 15 ∨ k = 16 ∨ k = 17 ∨ k = 18 ∨ k = 19 ∨ k = 20 ∨ k = 21 by omega) with rfl | rfl | rfl | rfl | rfl | rfl | rfl | rfl | rfl | rfl | rfl | rfl | rfl | rfl | rfl | rfl | rfl | rfl | rfl | rfl | rfl | rfl <;> (cases h; rfl)
theorem aL_lt {k : Nat} : (aL[k]?).getD 0 < 22 := by
  by_cases hk : k < 32
  · have h : ∀ k, k < 32 → (aL[k]?).getD 0 < 22 := by decide
    exact h k hk
  · have h : aL[k]? = none := List.getElem?_eq_none (by show 32 ≤ k; omega)
    rw [h]
    decide
theorem mA_in {b q : Nat} (h : mA (aM b) q) : b ≤ q ∧ q < b + 22 := by
  obtain ⟨k, -, rfl⟩ := h
  have h := aL_lt (k := k)
  unfold aM
  omega
theorem aM_j {k : Nat} (h : k < 22) : ∃ j, j < 32 ∧ (aL[j]?).getD 0 = k := by
  have h2 : ∀ k, k < 22 → ∃ j, j < 32 ∧ (aL[j]?).getD 0 = k := by decide
  exact h2 k h
theorem aM_DA (b : Nat) (cI cZ : ClassId) (σ : Sg) : va_D (mA (aM b)) (wm cI cZ (aM b) σ) := by
  refine ⟨fun i j x y hi hj he => ?_, fun k q hk => ?_⟩
  · have h1 := (wm_at hi).1
    have h2 := (wm_at hj).1
    omega
  · obtain ⟨h1, h2⟩ := wm_at hk
    obtain ⟨j, h3, h4⟩ := aM_j h2
    exact ⟨j, h3, by rw [h1]; unfold aM; rw [h4]⟩
theorem lPic.kept {G : va_G} {ids : Nat → ClassId} {o z tE r : Nat} {σ : Sg} {H H1 : Heap} (h : lPic G ids o z tE σ H) (hr : o + 184 ≤ r) (hz : r + 22 ≤ z) (hk : ∀ q : Nat, q < H.size → ¬ (r ≤ q ∧ q < r + 22) → H1[q]? = H[q]?) : lPic G ids o z tE σ H1 := by
  obtain ⟨d, w, hP, hW⟩ := h
  refine ⟨d, w, ⟨fun x hx => (hP.1 x hx).kept (hk _ (hP.lt hx) (fun hq => ?_)), hP.2⟩, hW⟩
  by_cases h5 : x.1 < 5
  · have q := hP.2.1 x hx h5
    omega
  · have q := cpA_fix (d := d) (o := o) hx (by omega)
    omega
theorem lOut.kept {G : va_G} {ids : Nat → ClassId} {qo : Nat} {v : Int64} {H H1 : Heap} (h : lOut G ids qo v H) (hk : ∀ q : Nat, q < H.size → q = qo → H1[q]? = H[q]?) : lOut G ids qo v H1 := by
  obtain ⟨f, h1, h2⟩ := h
  exact ⟨f, h1.kept (hk _ h1.lt rfl), h2⟩
theorem lC_0 {S : List Nat} {X : Nat} (hK : xK S X) (h : lC S X = 0) : X = 0 := by
  rcases hK with h0 | h0
  · exact h0
  · cases S with
    | nil => cases h0
    | cons a S =>
      by_cases hX : X = 0
      · exact hX
      · exfalso
        unfold lC at h
        rw [if_neg hX] at h
        by_cases ha : X = a
        · rw [if_pos ha] at h; exact absurd h (by decide)
        · rw [if_neg ha] at h; omega
theorem lC_le {S : List Nat} {X : Nat} : lC S X ≤ S.length := by
  induction S with
  | nil => exact Nat.le_refl _
  | cons a S ih =>
    unfold lC
    by_cases hX : X = 0
    · rw [if_pos hX]; omega
    · rw [if_neg hX]
      by_cases ha : X = a
      · rw [if_pos ha]; show 1 ≤ S.length + 1; omega
      · rw [if_neg ha]; show lC S X + 1 ≤ S.length + 1; omega
theorem lC_c {S : List Nat} {X : Nat} (hS : S.length ≤ 3) (hK : xK S X) (h : nI (lC S X) = 0) : X = 0 := by
  have q := lC_le (S := S) (X := X)
  exact lC_0 hK ((nI_eq (by omega) (by omega)).mp (h.trans nI_0.symm))
theorem lcmp_self (x : Int64) : lg_cmp x x = 0 := by
  unfold lg_cmp
  rw [if_neg (fun h => by rw [gt_iff_lt, Int64.lt_iff_toInt_lt] at h; omega), if_pos rfl]
/-- what stays the same in the law's run -/
def lX (p : Program) (l : Launch) (s : State) (m : MethodId) (meth : Method) (c : Code) (b L : Nat) (xs : Nat → Int32) (G : va_G) (ids : Nat → ClassId) (tS tE o r qo z : Nat) : Prop :=
  p.tables.exec = Jvm.exec ∧ c.code = cL_law ∧ c.maxLocals = 8 ∧ s.vm.findClass RL = some m.cls ∧ (∀ w ∈ wsL_law, w.before #[Value.ref b] s = true) ∧ va_X b L xs s s.heap ∧ b < s.heap.size ∧ l.stackTraces = false ∧ va_K G vwCl (cTy ids) s ∧ cST tS tE (fun q => s.heap.size ≤ q) s s.heap ∧ lNc s ∧ s.heap.size ≤ o ∧ o + 184 ≤ r ∧ r + 22 ≤ qo ∧ z = qo + 1 ∧ L ≤ 3584
section LLW
variable {p : Program} {l : Launch} {e : Env} {R : Room} {s : State} {m : MethodId} {args : Array Value} {below : List Frame} {meth : Method} {c : Code} {H : Heap} {locs : List Loc} {cells slots : Nat} {Q : State → Prop} {cc : ByteArray} {pc : Nat} {ls : Array Slot} {rest : List Value} {A : Nat → Prop} {H0 : Heap}
theorem l_sld (hx : p.tables.exec = Jvm.exec) (hb : c.code = cc) {b L : Nat} {xs : Nat → Int32} (hX : va_X b L xs s H0) (hbl : b < H0.size) (hbA : ¬ A b) (hS : va_S A H0 H locs) {j : Nat} (hj : j < L) (hL : L < 2 ^ 31) (hdg : decode cc pc = .ok (.iaload, 1))
    (kk : W p l e R s m args below meth c H locs cells slots Q (F0 m (pc + 1) ls (.int (xs j) :: rest))) : W p l e R s m args below meth c H locs cells slots Q (F0 m pc ls (.int (nI j) :: .ref b :: rest)) :=
  va_sld hx hb hX hbl hbA hS (vp_in_nI hj hL) hdg (by rw [nI_clamp (by omega)]; exact kk)
/-- a wrapper is called -/
theorem l_wrap {y : MethodName} {ws : List Cond} {rm : Room} {G : va_G} {ids : Nat → ClassId} {tS tE o z qo r : Nat} {σ τ μ : Sg} {S : List Nat} {X : Nat} {g : Int64 → Prop} {As : List Value} {bytes : ByteArray} {maxL nL n index mc ms : Nat} {ret : Option FieldType} {hh : List (Nat × Nat × Nat × Nat)} {own : String} {Ts : List Cond} (F : CallFix p m c cc nL s args Ts own) (hM : lW l y ws rm G ids tS tE As o z qo σ S X g τ mc ms) (cw : vx_CSW R s args own index y bytes maxL ret hh ws rm mc ms n)
    (hK : va_K G vwCl (cTy ids) s) (hZ : cST tS tE (fun q => s.heap.size ≤ q) s s.heap) (hN : lNc s) (ho : s.heap.size ≤ o) (hr : o + 184 ≤ r) (hq : r + 22 ≤ qo) (hz : z = qo + 1) (hP : lPic G ids o z tE σ H) (hO : ∃ v, lOut G ids qo v H) (hW : va_P G vwCl (wm (ids 0) (ids 1) (aM r) μ) H) (hS : va_S (fun q => s.heap.size ≤ q) s.heap H locs) (hn : As.length = n) (hsz : ls.size = nL) {st0 : List Value} (hst : st0 = As.reverse ++ rest) (hWd : (rest.map fun v => v.category).sum ≤ 8) (hdg : decode cc pc = .ok (.invokestatic index, 3)) (hf : cells + mc ≤ R.cells ∧ slots + ms ≤ R.slots)
    (kk : ∀ (H1 : Heap) (locs1 : List Loc), lPic G ids o z tE (if X = 0 then τ else σ) H1 → (∃ v, lOut G ids qo v H1 ∧ (X = 0 → g v)) → va_P G vwCl (wm (ids 0) (ids 1) (aM r) μ) H1 → va_S (fun q => s.heap.size ≤ q) s.heap H1 locs1 → W p l e R s m args below meth c H1 locs1 (cells + mc) (slots + ms) Q (F0 m (pc + 3) ls (.int (nI (lC S X)) :: rest))) : W p l e R s m args below meth c H locs cells slots Q (F0 m pc ls st0) := by
  have hA : ∀ q, lG o z qo q → s.heap.size ≤ q := fun q h => by
    rcases h with (h | h) | h
    · omega
    · omega
    · omega
  refine va_calli (vx_runSW F hM cw ⟨lP_blind, fun U hU hW2 => ⟨rfl, ⟨by rw [hU]; exact hP, by rw [hU]; exact hO⟩, va_K.moved hW2.alike hK, (cST_at hZ hS hU hW2.alike).narrow hA, lNc.moved hW2.alike hN⟩⟩ rfl hn hsz hst (lv_room hWd) hdg hf) hS (fun q _ h => hA q h) (fun q h => hA q h) (fun r1 u t H1 locs1 ht hvm hw hB hz1 hk hS1 => ?_)
  have q_ := hw.symm
  subst q_
  obtain ⟨hB1, hB2⟩ := hB
  rw [ht] at hB1
  refine kk H1 locs1 hB1 (by obtain ⟨v, h1, h2⟩ := hB2; rw [ht] at h1; exact ⟨v, h1, h2⟩) (fun k q hq0 => (hW k q hq0).kept (hk q.1 (hW k q hq0).lt (fun h => ?_))) hS1
  have hqa := wm_at hq0
  rcases h with (h | h) | h
  · omega
  · omega
  · omega
/-- what the reference's methods leave of the object -/
theorem l_keep {G : va_G} {ids : Nat → ClassId} {o z tE r qo : Nat} {σ : Sg} {H H1 : Heap} {g : Int64 → Prop} (hr : o + 184 ≤ r) (hq : r + 22 ≤ qo) (hz : z = qo + 1) (hP : lPic G ids o z tE σ H) (hO : ∃ v, lOut G ids qo v H ∧ g v) (hk : ∀ q : Nat, q < H.size → ¬ mA (aM r) q → H1[q]? = H[q]?) : lPic G ids o z tE σ H1 ∧ ∃ v, lOut G ids qo v H1 ∧ g v := by
  refine ⟨hP.kept hr (by omega) (fun q h1 h2 => hk q h1 (fun h => h2 (mA_in h))), ?_⟩
  obtain ⟨v, h1, h2⟩ := hO
  exact ⟨v, h1.kept (fun q hq1 e => hk q hq1 (fun h => by have := mA_in h; omega)), h2⟩
end LLW
