/-! a list grows within the picture -/
def cpX (L : Nat) : Nat := if L = 0 then 4 else if L = 1 then 1 else 3
def cpRx (L : Nat) : vw_C := if L = 0 then (RX3, TX3, 5) else if L = 1 then (RX0, TX0, 5) else (RX2, TX2, 4)
theorem cpRx_at {L : Nat} (hL : L < 3) : vwCl[cpX L]? = some (cpRx L) := by
  rcases (show L = 0 ∨ L = 1 ∨ L = 2 by omega) with rfl | rfl | rfl <;> rfl
theorem cpRx_cast {L : Nat} (hL : L < 3) : Cond.castable (cpRx L).1 "java/lang/Object" ∈ xNW := by
  rcases (show L = 0 ∨ L = 1 ∨ L = 2 by omega) with rfl | rfl | rfl
  · exact List.mem_of_getElem? (i := 6) rfl
  · exact List.mem_of_getElem? (i := 7) rfl
  · exact List.mem_of_getElem? (i := 8) rfl
section GR
variable {G : va_G} {ids : Nat → ClassId} {o z tE : Nat} {d d' : Nat → Nat → Nat} {w : Nat → Nat} {σ σ' : Sg} {H H1 : Heap}
theorem CPic.elm (hP : CPic G ids o z tE d w σ H) {L j : Nat} (hL : L < 3) (hj : j < cpN σ L) : ∃ fs, va_at G vwCl (d (cpKd L) j, .inr (cpX L, fs)) H := by
  rcases (show L = 0 ∨ L = 1 ∨ L = 2 by omega) with rfl | rfl | rfl
  · exact ⟨_, hP.house hj⟩
  · exact ⟨_, hP.hole hj⟩
  · exact ⟨_, hP.clm hj⟩
theorem cpKd_U {L j : Nat} (hL : L < 3) (hj : j < cpN σ L) : cpU σ (cpKd L, j) ∧ cpKd L < 5 ∧ cpKd L ≠ 0 ∧ cpA o d (cpKd L, j) = d (cpKd L) j := by
  rcases (show L = 0 ∨ L = 1 ∨ L = 2 by omega) with rfl | rfl | rfl
  · exact ⟨hj, by decide, by decide, rfl⟩
  · exact ⟨hj, by decide, by decide, rfl⟩
  · exact ⟨hj, by decide, by decide, rfl⟩
theorem CPic.elz (hP : CPic G ids o z tE d w σ H) {L j : Nat} (hL : L < 3) (hj : j < cpN σ L) : z ≤ d (cpKd L) j := by
  obtain ⟨h1, h2, -, h4⟩ := cpKd_U (o := o) (d := d) hL hj
  rw [← h4]
  exact hP.2.1 _ h1 h2
theorem CPic.rwz (hP : CPic G ids o z tE d w σ H) {L : Nat} (hL : L < 3) (hn : cpN σ L ≠ 0) : z ≤ d 0 L := hP.2.1 (0, L) (cpU_0 hL hn) (show (0 : Nat) < 5 by decide)
theorem CPic.elr (hP : CPic G ids o z tE d w σ H) {L j : Nat} (hL : L < 3) (hj : j < cpN σ L) : d (cpKd L) j ≠ d 0 L := fun e => by
  obtain ⟨h1, h2, h3, h4⟩ := cpKd_U (o := o) (d := d) hL hj
  have q := hP.2.2.1 (cpKd L, j) (0, L) h1 (cpU_0 hL (by omega)) h2 (show (0 : Nat) < 5 by decide) (by rw [h4]; exact e)
  exact h3 (congrArg Prod.fst q)
/-- one address that isn't the picture's may have changed -/
theorem CPic.keepx (hP : CPic G ids o z tE d w σ H) {n1 : Nat} (hfr : ∀ y, cpU σ y → cpA o d y ≠ n1) (hk : ∀ q : Nat, q < H.size → ¬ q = n1 → H1[q]? = H[q]?) : CPic G ids o z tE d w σ H1 :=
  ⟨fun x hx => (hP.1 x hx).kept (hk _ (hP.lt hx) (hfr x hx)), hP.2⟩
theorem CPic.grow (hP : CPic G ids o z tE d w σ H) {L r' k' n1 : Nat} (hL : L < 3) (hN : cpN σ' L = cpN σ L + 1) (hN' : ∀ M, M < 3 → M ≠ L → cpN σ' M = cpN σ M) (hd0 : d' 0 L = r')
    (hdo : ∀ x, cpU σ x → x ≠ (0, L) → cpA o d' x = cpA o d x) (hco : ∀ x, cpU σ x → x ≠ (0, L) → x ≠ (5, 2 + L) → cpC ids o tE d' (fun M => if M = L then k' else w M) σ' x = cpC ids o tE d w σ x)
    (hk : ∀ q : Nat, q < H.size → q ≠ o + (2 + L) → (cpN σ L ≠ 0 → q ≠ d 0 L) → H1[q]? = H[q]?) (hlst : va_at G vwCl (o + (2 + L), cpL tE d' σ' L) H1)
    (hrow : va_at G vwCl (r', cpC ids o tE d' (fun M => if M = L then k' else w M) σ' (0, L)) H1)
    (hnew : ∀ x, cpU σ' x → ¬ cpU σ x → x ≠ (0, L) → x.1 < 5 ∧ va_at G vwCl (cpA o d' x, cpC ids o tE d' (fun M => if M = L then k' else w M) σ' x) H1 ∧ n1 ≤ cpA o d' x ∧ cpA o d' x ≠ r')
    (hni : ∀ x y, cpU σ' x → ¬ cpU σ x → x ≠ (0, L) → cpU σ' y → ¬ cpU σ y → y ≠ (0, L) → cpA o d' x = cpA o d' y → x = y)
    (hlt : ∀ x, cpU σ x → cpA o d x < n1) (hzn : z ≤ n1) (hr : cpN σ L ≠ 0 ∧ r' = d 0 L ∨ n1 ≤ r') (hw : cpN σ L + 1 ≤ k' ∧ k' < 2 ^ 31) : CPic G ids o z tE d' (fun M => if M = L then k' else w M) σ' H1 := by
  have hA0 : cpA o d' (0, L) = r' := hd0
  have hold0 : ∀ x, cpU σ x → x ≠ (0, L) → cpA o d' x ≠ r' := fun x hx hne e => by
    rw [hdo x hx hne] at e
    rcases hr with ⟨h0, h1⟩ | h1
    · exact hne (hP.inj hx (cpU_0 hL h0) (e.trans h1))
    · have := hlt x hx
      omega
  refine ⟨fun x hx => ?_, fun x hx h5 => ?_, fun x y hx hy hx5 hy5 e => ?_, hP.2.2.2.1, fun M hM => ?_⟩
  · by_cases h0 : x = (0, L)
    · subst h0
      rw [hA0]
      exact hrow
    · by_cases h5 : x = (5, 2 + L)
      · subst h5
        rw [cpA_5, cpC_5L hL]
        exact hlst
      · by_cases hu : cpU σ x
        · rw [hdo x hu h0, hco x hu h0 h5]
          refine (hP.1 x hu).kept (hk _ (hP.lt hu) (fun e => h5 (hP.inj hu (cpU_5 (by omega)) (by rw [cpA_5]; exact e))) (fun hn e => h0 (hP.inj hu (cpU_0 hL hn) e)))
        · exact (hnew x hx hu h0).2.1
  · by_cases h0 : x = (0, L)
    · subst h0
      rw [hA0]
      rcases hr with ⟨q0, q1⟩ | q1
      · rw [q1]; exact hP.rwz hL q0
      · omega
    · by_cases hu : cpU σ x
      · rw [hdo x hu h0]
        exact hP.2.1 x hu h5
      · have := (hnew x hx hu h0).2.2.1
        omega
  · by_cases hx0 : x = (0, L)
    · by_cases hy0 : y = (0, L)
      · rw [hx0, hy0]
      · exfalso
        rw [hx0, hA0] at e
        by_cases hu : cpU σ y
        · exact hold0 y hu hy0 e.symm
        · exact (hnew y hy hu hy0).2.2.2 e.symm
    · by_cases hy0 : y = (0, L)
      · exfalso
        rw [hy0, hA0] at e
        by_cases hu : cpU σ x
        · exact hold0 x hu hx0 e
        · exact (hnew x hx hu hx0).2.2.2 e
      · by_cases hux : cpU σ x
        · by_cases huy : cpU σ y
          · rw [hdo x hux hx0, hdo y huy hy0] at e
            exact hP.inj hux huy e
          · exfalso
            have q1 := (hnew y hy huy hy0).2.2.1
            rw [← e, hdo x hux hx0] at q1
            have := hlt x hux
            omega
        · by_cases huy : cpU σ y
          · exfalso
            have q1 := (hnew x hx hux hx0).2.2.1
            rw [e, hdo y huy hy0] at q1
            have := hlt y huy
            omega
          · exact hni x y hx hux hx0 hy huy hy0 e
  · by_cases h : M = L
    · subst h
      dsimp only
      rw [if_pos rfl, hN]
      exact hw
    · dsimp only
      rw [if_neg h, hN' M hM h]
      exact hP.2.2.2.2 M hM
end GR
section PA
variable {p : Program} {l : Launch} {e : Env} {R : Room} {s : State} {m : MethodId} {args : Array Value} {below : List Frame} {meth : Method} {c : Code} {H : Heap} {locs : List Loc} {cells slots : Nat} {Q : State → Prop}
variable {cc : ByteArray} {pc : Nat} {ls : Array Slot} {rest : List Value} {G : va_G} {ids : Nat → ClassId} {Ts : List Cond} {o z tS tE : Nat} {d : Nat → Nat → Nat} {w : Nat → Nat} {σ : Sg}
theorem add_f1 {n x : Nat} {g : Nat → Nat} : va_up (fun j => if j < n then some (g j) else none) n (some x) = fun j => if j < n + 1 then some (if j = n then x else g j) else none := by
  funext j
  unfold va_up
  (try dsimp only)
  by_cases h : j = n
  · subst h; rw [if_pos rfl, if_pos (by omega), if_pos rfl]
  · rw [if_neg h, if_neg h]
    by_cases h2 : j < n
    · rw [if_pos h2, if_pos (by omega)]
    · rw [if_neg h2, if_neg (by omega)]
theorem add_f2 {n x : Nat} {g : Nat → Nat} : va_up (va_cpy (fun j => if j < n then some (g j) else none) (fun _ => none) 0 0 n) n (some x) = fun j => if j < n + 1 then some (if j = n then x else g j) else none := by
  have e : ∀ j, j ≠ n → va_cpy (fun j => if j < n then some (g j) else none) (fun _ => none) 0 0 n j = if j < n then some (g j) else none := fun j hj => by
    unfold va_cpy
    dsimp only
    by_cases h2 : j < n
    · have e0 : 0 + (j - 0) = j := by omega
      simp only [e0, h2, if_true, Nat.zero_le, Nat.zero_add, and_self]
    · have h3 : ¬ (0 ≤ j ∧ j < 0 + n) := by omega
      simp only [h2, if_false, Nat.zero_add, and_false]
  funext j
  unfold va_up
  (try dsimp only)
  by_cases h : j = n
  · subst h; rw [if_pos rfl, if_pos (by omega), if_pos rfl]
  · rw [if_neg h, if_neg h, e j h]
    by_cases h2 : j < n
    · rw [if_pos h2, if_pos (by omega)]
    · rw [if_neg h2, if_neg (by omega)]
theorem add_f0 {x : Nat} {g : Nat → Nat} : va_up (fun _ => none) 0 (some x) = fun j => if j < 0 + 1 then some (if j = 0 then x else g j) else none := by
  funext j
  unfold va_up
  (try dsimp only)
  by_cases h : j = 0
  · subst h; rw [if_pos rfl, if_pos (by omega), if_pos rfl]
  · rw [if_neg h, if_neg (by omega)]
theorem p_add {bytes : ByteArray} {maxL nL index L b x c1 s1 : Nat} {ret : Option FieldType} {own : String} {fx : List Value} (hL : L < 3) (hbL : b = o + (2 + L)) (S : CallFix p m c cc nL s args Ts own)
    (cwa : CallW R s args own RJx4a65c index yJx4a65c_add_9ea2d bytes maxL ret wsJx4a65c_add_9ea2d ({ frames := 4, cells := 1, slots := 10, locals := 87 } : Room) 1 10 1) (cwb : CallW R s args own RJx4a65c index yJx4a65c_add_9ea2d bytes maxL ret wsJx4a65c_add_9ea2d ({ frames := 7, cells := 1, slots := 60, locals := 140 } : Room) 1 60 1) (cwc : CallW R s args own RJx4a65c index yJx4a65c_add_9ea2d bytes maxL ret wsJx4a65c_add_9ea2d ({ frames := 1, cells := 0, slots := 0, locals := 23 } : Room) 0 0 1)
    (hK : va_K G vwCl (cTy ids) s) (hZ : cST tS tE (cpG o z) s s.heap) (hP : CPic G ids o z tE d w σ H) (hw10 : cpN σ L ≠ 0 → 10 ≤ w L) (hn40 : cpN σ L < 40) (hcnt : σ.1 (cpF L) 0 = nI (cpN σ L)) (hx_ : va_at G vwCl (x, .inr (cpX L, fx)) H) (hfr : ∀ y, cpU σ y → cpA o d y ≠ x) (hzH : z ≤ H.size)
    (hS : va_S (cpG o z) s.heap H locs) (hsz : ls.size = nL) (hW : (rest.map fun v => v.category).sum ≤ 8) (hdg : decode cc pc = .ok (.invokevirtual index, 3)) (hf : cells + 1 ≤ R.cells ∧ slots + 60 ≤ R.slots) (hc1 : cells + 1 = c1) (hs1 : slots + 60 = s1)
    (kk : ∀ (H1 : Heap) (locs1 : List Loc) (r' k' : Nat), va_at G vwCl (b, .inr (0, [.int (σ.1 34 L + nI 1), .ref r', .int (nI (cpN σ L + 1))])) H1 → va_at G vwCl (r', .inl (ids 5, k', .inr (.inr (.inr (.inr (fun j => if j < cpN σ L + 1 then some (if j = cpN σ L then x else d (cpKd L) j) else none)))))) H1 → (cpN σ L + 1 ≤ k' ∧ 10 ≤ k' ∧ k' < 2 ^ 31) → (cpN σ L ≠ 0 ∧ r' = d 0 L ∨ H.size ≤ r') → H.size ≤ H1.size → (∀ q : Nat, q < H.size → q ≠ b → (cpN σ L ≠ 0 → q ≠ d 0 L) → H1[q]? = H[q]?) → va_S (cpG o z) s.heap H1 locs1 →
      W p l e R s m args below meth c H1 locs1 c1 s1 Q (F0 m (pc + 3) ls (.int (nI 1) :: rest))) : W p l e R s m args below meth c H locs cells slots Q (F0 m pc ls (.ref x :: .ref b :: rest)) := by
  subst hc1; subst hs1
  have hlst := hP.lst hL hbL
  have hw := hP.2.2.2.2 L hL
  have ho := hP.2.2.2.1
  have hb5 : cpA o d (5, 2 + L) = b := by rw [cpA_5, hbL]
  have hxb : x ≠ b := fun q => hfr (5, 2 + L) (cpU_5 (by omega)) (hb5.trans q.symm)
  have hbG : cpG o z b := Or.inl (by omega)
  by_cases h0 : cpN σ L = 0
  · rw [if_pos h0, hcnt, h0] at hlst
    refine w_callI (As := [.ref x]) (rest := rest) (fun q h => Or.elim h (fun h => by rw [h]; exact hbG) (fun h => Or.inr (Nat.le_trans hzH h))) S (cn_add_a l G ids tS tE b x H.size (σ.1 34 L) (cpX L) (cpRx L) fx (cpRx_at hL) (cpRx_cast hL) hxb) cwa hK hZ hlst rfl ⟨rfl, hlst, hx_⟩ hS rfl hsz rfl hW hdg ⟨hf.1, by omega⟩ rfl rfl (fun H1 locs1 hP1 hz1 hk1 hS1 => ?_)
    obtain ⟨-, g1, g2⟩ := hP1
    rw [add_f0 (g := d (cpKd L))] at g2
    refine W.widen (k := cells + 1) (n := slots + 60) (Nat.le_refl _) (by omega) (kk H1 locs1 H.size 10 ?_ ?_ ?_ (Or.inr (Nat.le_refl _)) hz1 (fun q h1 h2 _ => hk1 q h1 (by show ¬ (q = b ∨ H.size ≤ q); omega)) hS1)
    · rw [h0]; exact g1
    · rw [h0]; exact g2
    · omega
  · rw [if_neg h0, hcnt] at hlst
    have hrow := hP.els hL h0
    have hrz := hP.rwz hL h0
    have hbr : b ≠ d 0 L := by omega
    have hxr : x ≠ d 0 L := fun q => hfr (0, L) (cpU_0 hL h0) q.symm
    by_cases hfull : cpN σ L = w L
    · have hk := hw10 h0
      have hEL : EL G (cpX L) (w L) (fun j => if j < w L then some (d (cpKd L) j) else none) H := fun j hj y hy => by
        dsimp only at hy
        rw [if_pos hj] at hy
        cases hy
        exact hP.elm hL (by omega)
      rw [hfull] at hlst hrow
      refine w_callI (As := [.ref x]) (rest := rest) (fun q h => Or.elim h (fun h => by rw [h]; exact hbG) (fun h => Or.elim h (fun h => by rw [h]; exact Or.inr hrz) (fun h => Or.inr (Nat.le_trans hzH h)))) S (cn_add_b l G ids tS tE b x (d 0 L) H.size (w L) (σ.1 34 L) (cpX L) (cpRx L) fx (fun j => if j < w L then some (d (cpKd L) j) else none) (by omega) (cpRx_at hL) (cpRx_cast hL) hbr (fun j hj q => by (try dsimp only at q); rw [if_pos hj] at q; have := hP.elz hL (j := j) (by omega); have := Option.some.inj q; omega) (fun j hj q => by (try dsimp only at q); rw [if_pos hj] at q; exact hP.elr hL (j := j) (by omega) (Option.some.inj q)) hxb hxr) cwb hK hZ hlst rfl ⟨rfl, hlst, hrow, hEL, hx_⟩ hS rfl hsz rfl hW hdg hf rfl rfl (fun H1 locs1 hP1 hz1 hk1 hS1 => ?_)
      obtain ⟨-, g1, g2⟩ := hP1
      rw [add_f2] at g2
      refine kk H1 locs1 H.size (w L + w L / 2) ?_ ?_ ?_ (Or.inr (Nat.le_refl _)) hz1 (fun q h1 h2 h3 => hk1 q h1 (by have := h3 h0; show ¬ (q = b ∨ q = d 0 L ∨ H.size ≤ q); omega)) hS1
      · rw [hfull]; exact g1
      · rw [hfull]; exact g2
      · omega
    · refine w_callI (As := [.ref x]) (rest := rest) (fun q h => Or.elim h (fun h => by rw [h]; exact hbG) (fun h => by rw [h]; exact Or.inr hrz)) S (cn_add_c l G ids tS tE b x (d 0 L) H.size (cpN σ L) (w L) (σ.1 34 L) (cpX L) (cpRx L) fx (fun j => if j < cpN σ L then some (d (cpKd L) j) else none) (by omega) hw.2 (cpRx_at hL) (cpRx_cast hL) hxb hxr hbr) cwc hK hZ hlst rfl ⟨rfl, hlst, hrow, hx_⟩ hS rfl hsz rfl hW hdg ⟨by omega, by omega⟩ rfl rfl (fun H1 locs1 hP1 hz1 hk1 hS1 => ?_)
      obtain ⟨-, g1, g2⟩ := hP1
      rw [add_f1] at g2
      refine W.widen (k := cells + 1) (n := slots + 60) (by omega) (by omega) (kk H1 locs1 (d 0 L) (w L) g1 g2 ?_ (Or.inl ⟨h0, rfl⟩) hz1 (fun q h1 h2 h3 => hk1 q h1 (by have := h3 h0; show ¬ (q = b ∨ q = d 0 L); omega)) hS1)
      have := hw10 h0
      omega
end PA
