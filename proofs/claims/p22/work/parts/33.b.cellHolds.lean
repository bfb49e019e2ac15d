/-! the law's own methods that look at the object: a cell -/
theorem tw_s {σ : Sg} {c y : Nat} : tw σ c (y + 1) = if tw σ c y = y ∧ ¬ (σ.1 10 (5 * c + y)).toInt < 0 then tw σ c y + 1 else tw σ c y := rfl
theorem tw_1 {σ : Sg} {c y : Nat} (h : tw σ c y = y) (he : ¬ (σ.1 10 (5 * c + y)).toInt < 0) : nI 1 = nI (tw σ c (y + 1) - tw σ c y) := by
  rw [tw_s, if_pos ⟨h, he⟩, Nat.add_sub_cancel_left]
theorem tw_0 {σ : Sg} {c y : Nat} (h : ¬ (tw σ c y = y ∧ ¬ (σ.1 10 (5 * c + y)).toInt < 0)) : nI 0 = nI (tw σ c (y + 1) - tw σ c y) := by
  rw [tw_s, if_neg h, Nat.sub_self]
theorem tw_a {σ : Sg} {c y : Nat} : nI (tw σ c y + (tw σ c (y + 1) - tw σ c y)) = nI (tw σ c (y + 1)) := by
  have q : tw σ c y ≤ tw σ c (y + 1) := by
    rw [tw_s]
    split <;> omega
  exact congrArg nI (by omega)
theorem nm_neg {c k : Nat} (h : (nb c k).toInt < 0) : nmany c (k + 1) = nmany c k + 0 := by
  show nmany c k + (if (nb c k).toInt < 0 then 0 else 1) = _
  rw [if_pos h]
theorem nm_pos {c k : Nat} (h : ¬ (nb c k).toInt < 0) : nmany c (k + 1) = nmany c k + 1 := by
  show nmany c k + (if (nb c k).toInt < 0 then 0 else 1) = _
  rw [if_neg h]
theorem nm_le {c : Nat} (k : Nat) : nmany c k ≤ k := by
  induction k with
  | zero => exact Nat.le_refl _
  | succ k ih =>
    show nmany c k + (if (nb c k).toInt < 0 then 0 else 1) ≤ k + 1
    split <;> omega
theorem nl_neg {c k : Nat} (h : (nb c k).toInt < 0) : Int64.ofInt (nlast c (k + 1)) = Int64.ofInt (nlast c k) := by
  show Int64.ofInt (if (nb c k).toInt < 0 then nlast c k else (nb c k).toInt) = _
  rw [if_pos h]
theorem nl_pos {c k : Nat} (h : ¬ (nb c k).toInt < 0) : Int64.ofInt (nlast c (k + 1)) = (nb c k).toInt64 := by
  show Int64.ofInt (if (nb c k).toInt < 0 then nlast c k else (nb c k).toInt) = _
  rw [if_neg h, oi_32]
theorem nl_b {c : Nat} (k : Nat) : -2147483648 ≤ nlast c k ∧ nlast c k < 2147483648 := by
  induction k with
  | zero => exact ⟨by show (-2147483648 : Int) ≤ -1; decide, by show (-1 : Int) < 2147483648; decide⟩
  | succ k ih =>
    have q1 := Int32.le_toInt (nb c k)
    have q2 := Int32.toInt_lt (nb c k)
    show -2147483648 ≤ (if (nb c k).toInt < 0 then nlast c k else (nb c k).toInt) ∧ (if (nb c k).toInt < 0 then nlast c k else (nb c k).toInt) < 2147483648
    split <;> omega
theorem nl_i {c : Nat} (k : Nat) : (Int64.ofInt (nlast c k)).toInt = nlast c k := by
  have q := nl_b (c := c) k
  exact Int64.toInt_ofInt_of_le (by omega) (by omega)
theorem nb_l {c k : Nat} (hc : c < 25) (hk : k < 4) (h : ¬ (nb c k).toInt < 0) : (nb c k).toNatClampNeg < 25 := by
  obtain ⟨-, q1, q2⟩ := nb_2 c hc k hk h
  have v : vp_in (nb c k) 25 := vp_in_iff.mpr ⟨by omega, by omega⟩
  exact vp_lt v
theorem n64 {x : Int32} (h : ¬ x.toInt64 = (0 : Int64)) : ¬ x.toInt = 0 := fun q => h (by
  rw [oi_32, q]
  rfl)
theorem mul100 {x : Int32} (h0 : 0 ≤ x.toInt) (h1 : x.toInt ≤ 600) : ((100 : Int64) * x.toInt64).toInt = 100 * x.toInt := by
  have o1 : (100 : Int64) = Int64.ofInt 100 := rfl
  rw [oi_32, o1, ← Int64.ofInt_mul, Int64.toInt_ofInt_of_le (by omega) (by omega)]
theorem sub64 {m : Nat} {x : Int32} (hm : m ≤ 600) (h0 : 0 ≤ x.toInt) (h1 : x.toInt ≤ 600) : ((nI m).toInt64 - x.toInt64).toInt = (m : Int) - x.toInt := by
  rw [oi_32, oi_32, nI_toInt (by omega), ← Int64.ofInt_sub, Int64.toInt_ofInt_of_le (by omega) (by omega)]
set_option maxHeartbeats 4000000 in
set_option maxRecDepth 100000 in
/-- temperatures by energies, what has melted, how many are thawed; lakes of neighbours are the same -/
theorem hc_cellHolds (l : Launch) (hl0 : l.stackTraces = false) (G : va_G) (ids : Nat → ClassId) (tS tE o z : Nat) {σ : Sg} (h : IV σ) {cel : Nat} (hc : cel < 25) : HC l yL_cellHolds wsL_cellHolds ({ frames := 9, cells := 300, slots := 1800, locals := 170 } : Room) G ids tS tE o z [.ref (o), .int (nI (cel))] σ 300 1800 := by
  unfold HC
  refine Met.ofW (cc := cL_cellHolds) (maxL := 13) (ret := (some .boolean)) (by decide) rfl ?_
  intro p e s m args below meth c s₁ B hml hv
  obtain ⟨rfl, hP, hK, hZ, hN⟩ := hv
  have hx := B.exec
  have hb := B.bytes
  have hr := B.returns
  have hts := atoms_spec (ws := wsL_cellHolds) B.pre
  have hown : s.vm.findClass RL = some m.cls := findClass_of_methodNamed B.named
  have hlocks := B.notSynchronized
  have hA : ∀ q, cpG o z q → cpG o z q := fun _ h => h
  have hS : va_S (cpG o z) s.heap s.heap [] := va_S.rf
  have hl := lv_entry ([.ref (o), .int (nI (cel))]) (n := 13) (Nat.le_of_ble_eq_true rfl)
  rw [lg_entry_eq]
  generalize (lg_sl ([.ref (o), .int (nI (cel))]) ++ List.replicate (13 - (lg_sl ([.ref (o), .int (nI (cel))])).length) Slot.unset).toArray = ls at hl ⊢
  have hl : lv_has ls 13 [(0, .ref (o)), (1, .int (nI (cel)))] := hl
  refine w_named (fun WW hWW => ?_)
  obtain ⟨H, hH⟩ : ∃ H : Heap, H = s.heap := ⟨_, rfl⟩
  obtain ⟨locs, hL9⟩ : ∃ L : List Loc, L = [] := ⟨_, rfl⟩
  rw [← hH] at hP
  have hS : va_S (cpG o z) s.heap H locs := by rw [hH, hL9]; exact hS
  refine w_at (H := H) (locs := locs) hH hL9 ?_
  refine lv_iconst (v := nI (1)) hx hb dL_cellHolds_0 (by decide) ?_
  refine lv_istore_n (lv' := [(2, .int (nI (1))), (0, .ref (o)), (1, .int (nI (cel)))]) hx hb dL_cellHolds_1 rfl hl (by decide) rfl (fun ls hl => ?_)
  refine lv_iconst (v := nI (0)) hx hb dL_cellHolds_2 (by decide) ?_
  refine lv_istore_n (lv' := [(3, .int (nI (0))), (2, .int (nI (1))), (0, .ref (o)), (1, .int (nI (cel)))]) hx hb dL_cellHolds_3 rfl hl (by decide) rfl (fun ls hl => ?_)
  refine lv_iconst (v := nI (0)) hx hb dL_cellHolds_4 (by decide) ?_
  refine lv_istore (lv' := [(4, .int (nI (0))), (3, .int (nI (0))), (2, .int (nI (1))), (0, .ref (o)), (1, .int (nI (cel)))]) hx hb dL_cellHolds_5 hl (by decide) rfl (fun ls hl => ?_)
  have L7 : ∀ (n7 y : Nat), y ≤ 5 → 5 + 1 ≤ y + n7 → ∀ (H : Heap) (locs : List Loc) (ls : Array Slot), vP G ids o z tE σ H → va_S (cpG o z) s.heap H locs → lv_has ls 13 [(4, .int (nI (y))), (3, .int (nI (tw σ cel y))), (2, .int (nI (1))), (0, .ref (o)), (1, .int (nI (cel)))] → WW H locs (0 + 24 * y) (0 + 144 * y) (F0 m 7 ls []) := by
    intro n7
    induction n7 with
    | zero => intro y h1 h2; exact absurd h2 (by omega)
    | succ n7 ih7 =>
      intro y hi7 hn7 H locs ls hP hS hl
      refine (hWW _ _ _ _ _).mpr ?_
      refine lv_iload hx hb dL_cellHolds_7 (lv_at hl 0 rfl) ?_
      refine lv_iconst (v := nI (5)) hx hb dL_cellHolds_9 (by decide) ?_
      refine n_icmp_ge (x := y) (y := 5) (tgt := 227) hx hb (by omega) (by decide) dL_cellHolds_10 (by decide) (fun c10 => ?_) (fun c10 => ?_)
      · have hq : y = 5 := by omega
        subst hq
        refine lv_iload_n hx hb dL_cellHolds_227 rfl (lv_at hl 2 rfl) ?_
        refine n_if_eq (x := 1) (tgt := 248) hx hb (by decide) dL_cellHolds_228 (by decide) (fun c9 => absurd c9 (by decide)) (fun _ => ?_)
        refine lv_aload_n hx hb dL_cellHolds_231 rfl (lv_at hl 3 rfl) ?_
        refine lv_iload_n hx hb dL_cellHolds_232 rfl (lv_at hl 4 rfl) ?_
        refine lv_bipush (v := nI (7)) hx hb dL_cellHolds_233 (by decide) ?_
        refine l_read (As := [.ref (o), .int (nI (cel)), .int (nI (7))]) (rest := []) ⟨hx, hb, hml, hown, hts⟩ (rdc7 hl0 hc) (vx_cwSW 3 hts gL_cellHolds_L_cellOf rfl rfl rfl (by decide +kernel) ⟨Nat.le_of_ble_eq_true rfl, Nat.le_of_ble_eq_true rfl⟩) hK hZ hN hA hP hS rfl hl.1 rfl (Nat.le_of_ble_eq_true rfl) dL_cellHolds_235 ⟨by show (0 + 24 * 5) + 2 ≤ 300; omega, by show (0 + 144 * 5) + 12 ≤ 1800; omega⟩ (c1 := 0 + 24 * 5 + 2) (s1 := 0 + 144 * 5 + 12) (by omega) (by omega) (fun H locs hP hS hz9 hk9 => ?_)
        clear hz9 hk9
        refine lv_iload_n hx hb dL_cellHolds_238 rfl (lv_at hl 1 rfl) ?_
        refine lv_i2l (v := (nI (tw σ cel 5)).toInt64) hx hb dL_cellHolds_239 rfl ?_
        refine l_cne (x := (c_thawedFromAbove σ (cel)).toInt64) (y := (nI (tw σ cel 5)).toInt64) (tgt := 248) hx hb dL_cellHolds_240 dL_cellHolds_241 (by decide) (fun c9 => absurd ((by rw [tw_eq])) c9) (fun _ => ?_)
        refine lv_iconst (v := nI (1)) hx hb dL_cellHolds_244 (by decide) ?_
        refine lv_goto (tgt := 249) hx hb dL_cellHolds_245 (by decide) ?_
        refine lv_istore_n (lv' := [(2, .int (nI (1))), (4, .int (nI (5))), (3, .int (nI (tw σ cel 5))), (0, .ref (o)), (1, .int (nI (cel)))]) hx hb dL_cellHolds_249 rfl hl (by decide) rfl (fun ls hl => ?_)
        refine lv_ldc2 (own := RL) (v := -1) hx hb hown (hts _ (List.mem_of_getElem? (i := 4) rfl)) dL_cellHolds_250 ?_
        refine lv_lstore (lv' := [(4, .long ((-1 : Int64))), (2, .int (nI (1))), (3, .int (nI (tw σ cel 5))), (0, .ref (o)), (1, .int (nI (cel)))]) hx hb dL_cellHolds_253 hl (by decide) rfl (fun ls hl => ?_)
        refine lv_iconst (v := nI (0)) hx hb dL_cellHolds_255 (by decide) ?_
        refine lv_istore (lv' := [(6, .int (nI (0))), (4, .long ((-1 : Int64))), (2, .int (nI (1))), (3, .int (nI (tw σ cel 5))), (0, .ref (o)), (1, .int (nI (cel)))]) hx hb dL_cellHolds_256 hl (by decide) rfl (fun ls hl => ?_)
        refine lv_iconst (v := nI (0)) hx hb dL_cellHolds_258 (by decide) ?_
        refine lv_istore (lv' := [(7, .int (nI (0))), (6, .int (nI (0))), (4, .long ((-1 : Int64))), (2, .int (nI (1))), (3, .int (nI (tw σ cel 5))), (0, .ref (o)), (1, .int (nI (cel)))]) hx hb dL_cellHolds_259 hl (by decide) rfl (fun ls hl => ?_)
        have L261 : ∀ (n261 k : Nat), k ≤ 4 → 4 + 1 ≤ k + n261 → ∀ (H : Heap) (locs : List Loc) (ls : Array Slot), vP G ids o z tE σ H → va_S (cpG o z) s.heap H locs → lv_has ls 13 [(7, .int (nI (k))), (6, .int (nI (nmany cel k))), (4, .long (Int64.ofInt (nlast cel k))), (2, .int (nI (1))), (3, .int (nI (tw σ cel 5))), (0, .ref (o)), (1, .int (nI (cel)))] → WW H locs (0 + 24 * 5 + 2 + 10 * k) (0 + 144 * 5 + 12 + 60 * k) (F0 m 261 ls []) := by
          intro n261
          induction n261 with
          | zero => intro k h1 h2; exact absurd h2 (by omega)
          | succ n261 ih261 =>
            intro k hi261 hn261 H locs ls hP hS hl
            refine (hWW _ _ _ _ _).mpr ?_
            refine lv_iload hx hb dL_cellHolds_261 (lv_at hl 0 rfl) ?_
            refine lv_iconst (v := nI (4)) hx hb dL_cellHolds_263 (by decide) ?_
            refine n_icmp_ge (x := k) (y := 4) (tgt := 398) hx hb (by omega) (by decide) dL_cellHolds_264 (by decide) (fun c264 => ?_) (fun c264 => ?_)
            · have hq : k = 4 := by omega
              subst hq
              have hm9 := nm_le (c := cel) 4
              refine lv_iload_n hx hb dL_cellHolds_398 rfl (lv_at hl 3 rfl) ?_
              refine n_if_eq (x := 1) (tgt := 425) hx hb (by decide) dL_cellHolds_399 (by decide) (fun c9 => absurd c9 (by decide)) (fun _ => ?_)
              refine lv_iload hx hb dL_cellHolds_402 (lv_at hl 1 rfl) ?_
              refine lv_iconst (v := nI (2)) hx hb dL_cellHolds_404 (by decide) ?_
              refine n_icmp_lt (x := nmany cel 4) (y := 2) (tgt := 425) hx hb (by omega) (by decide) dL_cellHolds_405 (by decide) (fun c9 => absurd c9 ((by have q := (nb_4 cel hc).1; omega))) (fun _ => ?_)
              refine lv_aload_n hx hb dL_cellHolds_408 rfl (lv_at hl 5 rfl) ?_
              refine lv_iload_n hx hb dL_cellHolds_409 rfl (lv_at hl 6 rfl) ?_
              refine lv_iconst (v := nI (4)) hx hb dL_cellHolds_410 (by decide) ?_
              refine l_read (As := [.ref (o), .int (nI (cel)), .int (nI (4))]) (rest := []) ⟨hx, hb, hml, hown, hts⟩ (rdn hl0 hc (by omega)) (vx_cwSW 3 hts gL_cellHolds_L_neighbour rfl rfl rfl (by decide +kernel) ⟨Nat.le_of_ble_eq_true rfl, Nat.le_of_ble_eq_true rfl⟩) hK hZ hN hA hP hS rfl hl.1 rfl (Nat.le_of_ble_eq_true rfl) dL_cellHolds_411 ⟨by show (0 + 24 * 5 + 2 + 10 * 4) + 2 ≤ 300; omega, by show (0 + 144 * 5 + 12 + 60 * 4) + 12 ≤ 1800; omega⟩ (c1 := 0 + 24 * 5 + 2 + 10 * 4 + 2) (s1 := 0 + 144 * 5 + 12 + 60 * 4 + 12) (by omega) (by omega) (fun H locs hP hS hz9 hk9 => ?_)
              clear hz9 hk9
              refine lv_ldc2 (own := RL) (v := -1) hx hb hown (hts _ (List.mem_of_getElem? (i := 4) rfl)) dL_cellHolds_414 ?_
              refine l_cne (x := (nb (cel) (4)).toInt64) (y := (-1 : Int64)) (tgt := 425) hx hb dL_cellHolds_417 dL_cellHolds_418 (by decide) (fun c9 => absurd ((by rw [(nb_4 cel hc).2]; rfl)) c9) (fun _ => ?_)
              refine lv_iconst (v := nI (1)) hx hb dL_cellHolds_421 (by decide) ?_
              refine lv_goto (tgt := 426) hx hb dL_cellHolds_422 (by decide) ?_
              exact w_zret (Pic1 := fun H : Heap => vP G ids o z tE σ H) hx hb hr hlocks (by omega) (by omega) hP hS dL_cellHolds_426
            · refine lv_iload_n hx hb dL_cellHolds_267 rfl (lv_at hl 3 rfl) ?_
              refine n_if_eq (x := 1) (tgt := 398) hx hb (by decide) dL_cellHolds_268 (by decide) (fun c9 => absurd c9 (by decide)) (fun _ => ?_)
              refine lv_aload_n hx hb dL_cellHolds_271 rfl (lv_at hl 5 rfl) ?_
              refine lv_iload_n hx hb dL_cellHolds_272 rfl (lv_at hl 6 rfl) ?_
              refine lv_iload hx hb dL_cellHolds_273 (lv_at hl 0 rfl) ?_
              refine l_read (As := [.ref (o), .int (nI (cel)), .int (nI (k))]) (rest := []) ⟨hx, hb, hml, hown, hts⟩ (rdn hl0 hc (by omega)) (vx_cwSW 3 hts gL_cellHolds_L_neighbour rfl rfl rfl (by decide +kernel) ⟨Nat.le_of_ble_eq_true rfl, Nat.le_of_ble_eq_true rfl⟩) hK hZ hN hA hP hS rfl hl.1 rfl (Nat.le_of_ble_eq_true rfl) dL_cellHolds_275 ⟨by show (0 + 24 * 5 + 2 + 10 * k) + 2 ≤ 300; omega, by show (0 + 144 * 5 + 12 + 60 * k) + 12 ≤ 1800; omega⟩ (c1 := 0 + 24 * 5 + 2 + 10 * k + 2) (s1 := 0 + 144 * 5 + 12 + 60 * k + 12) (by omega) (by omega) (fun H locs hP hS hz9 hk9 => ?_)
              clear hz9 hk9
              refine lv_lstore (lv' := [(8, .long ((nb (cel) (k)).toInt64)), (7, .int (nI (k))), (6, .int (nI (nmany cel k))), (4, .long (Int64.ofInt (nlast cel k))), (2, .int (nI (1))), (3, .int (nI (tw σ cel 5))), (0, .ref (o)), (1, .int (nI (cel)))]) hx hb dL_cellHolds_278 hl (by decide) rfl (fun ls hl => ?_)
              refine lv_iload hx hb dL_cellHolds_280 (lv_at hl 2 rfl) ?_
              refine lv_lload hx hb dL_cellHolds_282 (lv_at hl 0 rfl) ?_
              refine lv_lconst (v := 0) hx hb dL_cellHolds_284 (by decide) ?_
              refine l_clt (x := (nb (cel) (k)).toInt64) (y := (0 : Int64)) (X := (nb (cel) (k)).toInt) (Y := 0) (tgt := 293) hx hb (t64 _) (by decide) dL_cellHolds_285 dL_cellHolds_286 (by decide) (fun c285 => ?_) (fun c285 => ?_)
              · refine lv_iconst (v := nI (0)) hx hb dL_cellHolds_293 (by decide) ?_
                refine n_add (x := nmany cel k) (y := 0) hx hb dL_cellHolds_294 ?_
                refine lv_istore (lv' := [(6, .int (nI ((nmany cel k) + (0)))), (8, .long ((nb (cel) (k)).toInt64)), (7, .int (nI (k))), (4, .long (Int64.ofInt (nlast cel k))), (2, .int (nI (1))), (3, .int (nI (tw σ cel 5))), (0, .ref (o)), (1, .int (nI (cel)))]) hx hb dL_cellHolds_295 hl (by decide) rfl (fun ls hl => ?_)
                refine lv_lload hx hb dL_cellHolds_297 (lv_at hl 1 rfl) ?_
                refine lv_lconst (v := 0) hx hb dL_cellHolds_299 (by decide) ?_
                refine l_cge (x := (nb (cel) (k)).toInt64) (y := (0 : Int64)) (X := (nb (cel) (k)).toInt) (Y := 0) (tgt := 318) hx hb (t64 _) (by decide) dL_cellHolds_300 dL_cellHolds_301 (by decide) (fun c9 => absurd c9 ((by omega))) (fun _ => ?_)
                refine lv_iload hx hb dL_cellHolds_304 (lv_at hl 2 rfl) ?_
                refine lv_iconst (v := nI (1)) hx hb dL_cellHolds_306 (by decide) ?_
                refine n_icmp_le (x := k) (y := 1) (tgt := 314) hx hb (by omega) (by decide) dL_cellHolds_307 (by decide) (fun c9 => absurd c9 ((by have q := nb_1 cel hc k (by omega) c285; omega))) (fun _ => ?_)
                refine lv_iconst (v := nI (1)) hx hb dL_cellHolds_310 (by decide) ?_
                refine lv_goto (tgt := 375) hx hb dL_cellHolds_311 (by decide) ?_
                refine lv_istore_n (lv' := [(2, .int (nI (1))), (6, .int (nI ((nmany cel k) + (0)))), (8, .long ((nb (cel) (k)).toInt64)), (7, .int (nI (k))), (4, .long (Int64.ofInt (nlast cel k))), (3, .int (nI (tw σ cel 5))), (0, .ref (o)), (1, .int (nI (cel)))]) hx hb dL_cellHolds_375 rfl hl (by decide) rfl (fun ls hl => ?_)
                refine lv_lload hx hb dL_cellHolds_376 (lv_at hl 2 rfl) ?_
                refine lv_lconst (v := 0) hx hb dL_cellHolds_378 (by decide) ?_
                refine l_cge (x := (nb (cel) (k)).toInt64) (y := (0 : Int64)) (X := (nb (cel) (k)).toInt) (Y := 0) (tgt := 388) hx hb (t64 _) (by decide) dL_cellHolds_379 dL_cellHolds_380 (by decide) (fun c9 => absurd c9 ((by omega))) (fun _ => ?_)
                refine lv_lload hx hb dL_cellHolds_383 (lv_at hl 4 rfl) ?_
                refine lv_goto (tgt := 390) hx hb dL_cellHolds_385 (by decide) ?_
                refine lv_lstore (lv' := [(4, .long (Int64.ofInt (nlast cel k))), (2, .int (nI (1))), (6, .int (nI ((nmany cel k) + (0)))), (8, .long ((nb (cel) (k)).toInt64)), (7, .int (nI (k))), (3, .int (nI (tw σ cel 5))), (0, .ref (o)), (1, .int (nI (cel)))]) hx hb dL_cellHolds_390 hl (by decide) rfl (fun ls hl => ?_)
                refine n_iinc (x := k) (dN := 1) (k := 4) (lv' := [(7, .int (nI (k + 1))), (4, .long (Int64.ofInt (nlast cel k))), (2, .int (nI (1))), (6, .int (nI ((nmany cel k) + (0)))), (8, .long ((nb (cel) (k)).toInt64)), (3, .int (nI (tw σ cel 5))), (0, .ref (o)), (1, .int (nI (cel)))]) hx hb dL_cellHolds_392 hl rfl (by decide) rfl (fun ls hl => ?_)
                refine lv_goto (tgt := 261) hx hb dL_cellHolds_395 (by decide) ?_
                have hl : lv_has ls 13 [(7, .int (nI (k + 1))), (6, .int (nI (nmany cel (k + 1)))), (4, .long (Int64.ofInt (nlast cel (k + 1)))), (2, .int (nI (1))), (3, .int (nI (tw σ cel 5))), (0, .ref (o)), (1, .int (nI (cel)))] := by
                  rw [(show Value.int (nI (nmany cel (k + 1))) = Value.int (nI ((nmany cel k) + (0))) from congrArg Value.int (congrArg nI (nm_neg c285))), (show Value.long (Int64.ofInt (nlast cel (k + 1))) = Value.long (Int64.ofInt (nlast cel k)) from congrArg Value.long (nl_neg c285))]
                  exact lv_sub hl [0, 3, 1, 2, 5, 6, 7] rfl
                exact W.widen (by omega) (by omega) ((hWW _ _ _ _ _).mp (ih261 (k + 1) (by omega) (by omega) H locs ls hP hS hl))
              · refine lv_iconst (v := nI (1)) hx hb dL_cellHolds_289 (by decide) ?_
                refine lv_goto (tgt := 294) hx hb dL_cellHolds_290 (by decide) ?_
                refine n_add (x := nmany cel k) (y := 1) hx hb dL_cellHolds_294 ?_
                refine lv_istore (lv' := [(6, .int (nI ((nmany cel k) + (1)))), (8, .long ((nb (cel) (k)).toInt64)), (7, .int (nI (k))), (4, .long (Int64.ofInt (nlast cel k))), (2, .int (nI (1))), (3, .int (nI (tw σ cel 5))), (0, .ref (o)), (1, .int (nI (cel)))]) hx hb dL_cellHolds_295 hl (by decide) rfl (fun ls hl => ?_)
                refine lv_lload hx hb dL_cellHolds_297 (lv_at hl 1 rfl) ?_
                refine lv_lconst (v := 0) hx hb dL_cellHolds_299 (by decide) ?_
                refine l_cge (x := (nb (cel) (k)).toInt64) (y := (0 : Int64)) (X := (nb (cel) (k)).toInt) (Y := 0) (tgt := 318) hx hb (t64 _) (by decide) dL_cellHolds_300 dL_cellHolds_301 (by decide) (fun _ => ?_) (fun c9 => absurd ((by omega)) c9)
                refine lv_lload hx hb dL_cellHolds_318 (lv_at hl 1 rfl) ?_
                refine lv_lload hx hb dL_cellHolds_320 (lv_at hl 3 rfl) ?_
                refine l_cle (x := (nb (cel) (k)).toInt64) (y := Int64.ofInt (nlast cel k)) (X := (nb (cel) (k)).toInt) (Y := nlast cel k) (tgt := 374) hx hb (t64 _) (nl_i _) dL_cellHolds_322 dL_cellHolds_323 (by decide) (fun c9 => absurd c9 ((by have q := (nb_2 cel hc k (by omega) c285).1; omega))) (fun _ => ?_)
                refine lv_aload_n hx hb dL_cellHolds_326 rfl (lv_at hl 6 rfl) ?_
                refine lv_iload_n hx hb dL_cellHolds_327 rfl (lv_at hl 7 rfl) ?_
                refine lv_iconst (v := nI (1)) hx hb dL_cellHolds_328 (by decide) ?_
                refine l_read (As := [.ref (o), .int (nI (cel)), .int (nI (1))]) (rest := []) ⟨hx, hb, hml, hown, hts⟩ (rdc1 hl0 hc) (vx_cwSW 3 hts gL_cellHolds_L_cellOf rfl rfl rfl (by decide +kernel) ⟨Nat.le_of_ble_eq_true rfl, Nat.le_of_ble_eq_true rfl⟩) hK hZ hN hA hP hS rfl hl.1 rfl (Nat.le_of_ble_eq_true rfl) dL_cellHolds_329 ⟨by show (0 + 24 * 5 + 2 + 10 * k + 2) + 2 ≤ 300; omega, by show (0 + 144 * 5 + 12 + 60 * k + 12) + 12 ≤ 1800; omega⟩ (c1 := 0 + 24 * 5 + 2 + 10 * k + 4) (s1 := 0 + 144 * 5 + 12 + 60 * k + 24) (by omega) (by omega) (fun H locs hP hS hz9 hk9 => ?_)
                clear hz9 hk9
                refine lv_lconst (v := 0) hx hb dL_cellHolds_332 (by decide) ?_
                refine l_ceq (x := (σ.1 3 (cel)).toInt64) (y := (0 : Int64)) (tgt := 370) hx hb dL_cellHolds_333 dL_cellHolds_334 (by decide) (fun c333 => ?_) (fun c333 => ?_)
                · refine lv_iconst (v := nI (1)) hx hb dL_cellHolds_370 (by decide) ?_
                  refine lv_goto (tgt := 375) hx hb dL_cellHolds_371 (by decide) ?_
                  refine lv_istore_n (lv' := [(2, .int (nI (1))), (6, .int (nI ((nmany cel k) + (1)))), (8, .long ((nb (cel) (k)).toInt64)), (7, .int (nI (k))), (4, .long (Int64.ofInt (nlast cel k))), (3, .int (nI (tw σ cel 5))), (0, .ref (o)), (1, .int (nI (cel)))]) hx hb dL_cellHolds_375 rfl hl (by decide) rfl (fun ls hl => ?_)
                  refine lv_lload hx hb dL_cellHolds_376 (lv_at hl 2 rfl) ?_
                  refine lv_lconst (v := 0) hx hb dL_cellHolds_378 (by decide) ?_
                  refine l_cge (x := (nb (cel) (k)).toInt64) (y := (0 : Int64)) (X := (nb (cel) (k)).toInt) (Y := 0) (tgt := 388) hx hb (t64 _) (by decide) dL_cellHolds_379 dL_cellHolds_380 (by decide) (fun _ => ?_) (fun c9 => absurd ((by omega)) c9)
                  refine lv_lload hx hb dL_cellHolds_388 (lv_at hl 2 rfl) ?_
                  refine lv_lstore (lv' := [(4, .long ((nb (cel) (k)).toInt64)), (2, .int (nI (1))), (6, .int (nI ((nmany cel k) + (1)))), (8, .long ((nb (cel) (k)).toInt64)), (7, .int (nI (k))), (3, .int (nI (tw σ cel 5))), (0, .ref (o)), (1, .int (nI (cel)))]) hx hb dL_cellHolds_390 hl (by decide) rfl (fun ls hl => ?_)
                  refine n_iinc (x := k) (dN := 1) (k := 4) (lv' := [(7, .int (nI (k + 1))), (4, .long ((nb (cel) (k)).toInt64)), (2, .int (nI (1))), (6, .int (nI ((nmany cel k) + (1)))), (8, .long ((nb (cel) (k)).toInt64)), (3, .int (nI (tw σ cel 5))), (0, .ref (o)), (1, .int (nI (cel)))]) hx hb dL_cellHolds_392 hl rfl (by decide) rfl (fun ls hl => ?_)
                  refine lv_goto (tgt := 261) hx hb dL_cellHolds_395 (by decide) ?_
                  have hl : lv_has ls 13 [(7, .int (nI (k + 1))), (6, .int (nI (nmany cel (k + 1)))), (4, .long (Int64.ofInt (nlast cel (k + 1)))), (2, .int (nI (1))), (3, .int (nI (tw σ cel 5))), (0, .ref (o)), (1, .int (nI (cel)))] := by
                    rw [(show Value.int (nI (nmany cel (k + 1))) = Value.int (nI ((nmany cel k) + (1))) from congrArg Value.int (congrArg nI (nm_pos c285))), (show Value.long (Int64.ofInt (nlast cel (k + 1))) = Value.long ((nb (cel) (k)).toInt64) from congrArg Value.long (nl_pos c285))]
                    exact lv_sub hl [0, 3, 1, 2, 5, 6, 7] rfl
                  exact W.widen (by omega) (by omega) ((hWW _ _ _ _ _).mp (ih261 (k + 1) (by omega) (by omega) H locs ls hP hS hl))
                · refine lv_aload_n hx hb dL_cellHolds_337 rfl (lv_at hl 6 rfl) ?_
                  refine lv_lload hx hb dL_cellHolds_338 (lv_at hl 1 rfl) ?_
                  refine lv_l2i (v := ((nb (cel) (k)).toInt64).toInt32) hx hb dL_cellHolds_340 rfl ?_
                  refine l_top (show Value.int (((nb (cel) (k)).toInt64).toInt32) = Value.int (nI ((nb cel k).toNatClampNeg)) from congrArg Value.int ((Int32.toInt32_toInt64 _).trans (nb_2 cel hc k (by omega) c285).2.2)) ?_
                  refine lv_iconst (v := nI (1)) hx hb dL_cellHolds_341 (by decide) ?_
                  refine l_read (As := [.ref (o), .int (nI ((nb cel k).toNatClampNeg)), .int (nI (1))]) (rest := []) ⟨hx, hb, hml, hown, hts⟩ (rdc1 hl0 (nb_l hc (by omega) c285)) (vx_cwSW 3 hts gL_cellHolds_L_cellOf rfl rfl rfl (by decide +kernel) ⟨Nat.le_of_ble_eq_true rfl, Nat.le_of_ble_eq_true rfl⟩) hK hZ hN hA hP hS rfl hl.1 rfl (Nat.le_of_ble_eq_true rfl) dL_cellHolds_342 ⟨by show (0 + 24 * 5 + 2 + 10 * k + 4) + 2 ≤ 300; omega, by show (0 + 144 * 5 + 12 + 60 * k + 24) + 12 ≤ 1800; omega⟩ (c1 := 0 + 24 * 5 + 2 + 10 * k + 6) (s1 := 0 + 144 * 5 + 12 + 60 * k + 36) (by omega) (by omega) (fun H locs hP hS hz9 hk9 => ?_)
                  clear hz9 hk9
                  refine lv_lconst (v := 0) hx hb dL_cellHolds_345 (by decide) ?_
                  refine l_ceq (x := (σ.1 3 ((nb cel k).toNatClampNeg)).toInt64) (y := (0 : Int64)) (tgt := 370) hx hb dL_cellHolds_346 dL_cellHolds_347 (by decide) (fun c346 => ?_) (fun c346 => ?_)
                  · refine lv_iconst (v := nI (1)) hx hb dL_cellHolds_370 (by decide) ?_
                    refine lv_goto (tgt := 375) hx hb dL_cellHolds_371 (by decide) ?_
                    refine lv_istore_n (lv' := [(2, .int (nI (1))), (6, .int (nI ((nmany cel k) + (1)))), (8, .long ((nb (cel) (k)).toInt64)), (7, .int (nI (k))), (4, .long (Int64.ofInt (nlast cel k))), (3, .int (nI (tw σ cel 5))), (0, .ref (o)), (1, .int (nI (cel)))]) hx hb dL_cellHolds_375 rfl hl (by decide) rfl (fun ls hl => ?_)
                    refine lv_lload hx hb dL_cellHolds_376 (lv_at hl 2 rfl) ?_
                    refine lv_lconst (v := 0) hx hb dL_cellHolds_378 (by decide) ?_
                    refine l_cge (x := (nb (cel) (k)).toInt64) (y := (0 : Int64)) (X := (nb (cel) (k)).toInt) (Y := 0) (tgt := 388) hx hb (t64 _) (by decide) dL_cellHolds_379 dL_cellHolds_380 (by decide) (fun _ => ?_) (fun c9 => absurd ((by omega)) c9)
                    refine lv_lload hx hb dL_cellHolds_388 (lv_at hl 2 rfl) ?_
                    refine lv_lstore (lv' := [(4, .long ((nb (cel) (k)).toInt64)), (2, .int (nI (1))), (6, .int (nI ((nmany cel k) + (1)))), (8, .long ((nb (cel) (k)).toInt64)), (7, .int (nI (k))), (3, .int (nI (tw σ cel 5))), (0, .ref (o)), (1, .int (nI (cel)))]) hx hb dL_cellHolds_390 hl (by decide) rfl (fun ls hl => ?_)
                    refine n_iinc (x := k) (dN := 1) (k := 4) (lv' := [(7, .int (nI (k + 1))), (4, .long ((nb (cel) (k)).toInt64)), (2, .int (nI (1))), (6, .int (nI ((nmany cel k) + (1)))), (8, .long ((nb (cel) (k)).toInt64)), (3, .int (nI (tw σ cel 5))), (0, .ref (o)), (1, .int (nI (cel)))]) hx hb dL_cellHolds_392 hl rfl (by decide) rfl (fun ls hl => ?_)
                    refine lv_goto (tgt := 261) hx hb dL_cellHolds_395 (by decide) ?_
                    have hl : lv_has ls 13 [(7, .int (nI (k + 1))), (6, .int (nI (nmany cel (k + 1)))), (4, .long (Int64.ofInt (nlast cel (k + 1)))), (2, .int (nI (1))), (3, .int (nI (tw σ cel 5))), (0, .ref (o)), (1, .int (nI (cel)))] := by
                      rw [(show Value.int (nI (nmany cel (k + 1))) = Value.int (nI ((nmany cel k) + (1))) from congrArg Value.int (congrArg nI (nm_pos c285))), (show Value.long (Int64.ofInt (nlast cel (k + 1))) = Value.long ((nb (cel) (k)).toInt64) from congrArg Value.long (nl_pos c285))]
                      exact lv_sub hl [0, 3, 1, 2, 5, 6, 7] rfl
                    exact W.widen (by omega) (by omega) ((hWW _ _ _ _ _).mp (ih261 (k + 1) (by omega) (by omega) H locs ls hP hS hl))
                  · refine lv_aload_n hx hb dL_cellHolds_350 rfl (lv_at hl 6 rfl) ?_
                    refine lv_iload_n hx hb dL_cellHolds_351 rfl (lv_at hl 7 rfl) ?_
                    refine lv_bipush (v := nI (6)) hx hb dL_cellHolds_352 (by decide) ?_
                    refine l_read (As := [.ref (o), .int (nI (cel)), .int (nI (6))]) (rest := []) ⟨hx, hb, hml, hown, hts⟩ (rdc6 hl0 h hc) (vx_cwSW 3 hts gL_cellHolds_L_cellOf rfl rfl rfl (by decide +kernel) ⟨Nat.le_of_ble_eq_true rfl, Nat.le_of_ble_eq_true rfl⟩) hK hZ hN hA hP hS rfl hl.1 rfl (Nat.le_of_ble_eq_true rfl) dL_cellHolds_354 ⟨by show (0 + 24 * 5 + 2 + 10 * k + 6) + 2 ≤ 300; omega, by show (0 + 144 * 5 + 12 + 60 * k + 36) + 12 ≤ 1800; omega⟩ (c1 := 0 + 24 * 5 + 2 + 10 * k + 8) (s1 := 0 + 144 * 5 + 12 + 60 * k + 48) (by omega) (by omega) (fun H locs hP hS hz9 hk9 => ?_)
                    clear hz9 hk9
                    refine lv_aload_n hx hb dL_cellHolds_357 rfl (lv_at hl 6 rfl) ?_
                    refine lv_lload hx hb dL_cellHolds_358 (lv_at hl 1 rfl) ?_
                    refine lv_l2i (v := ((nb (cel) (k)).toInt64).toInt32) hx hb dL_cellHolds_360 rfl ?_
                    refine l_top (show Value.int (((nb (cel) (k)).toInt64).toInt32) = Value.int (nI ((nb cel k).toNatClampNeg)) from congrArg Value.int ((Int32.toInt32_toInt64 _).trans (nb_2 cel hc k (by omega) c285).2.2)) ?_
                    refine lv_bipush (v := nI (6)) hx hb dL_cellHolds_361 (by decide) ?_
                    refine l_read (As := [.ref (o), .int (nI ((nb cel k).toNatClampNeg)), .int (nI (6))]) (rest := [.long ((lz σ (cel)).toInt64)]) ⟨hx, hb, hml, hown, hts⟩ (rdc6 hl0 h (nb_l hc (by omega) c285)) (vx_cwSW 3 hts gL_cellHolds_L_cellOf rfl rfl rfl (by decide +kernel) ⟨Nat.le_of_ble_eq_true rfl, Nat.le_of_ble_eq_true rfl⟩) hK hZ hN hA hP hS rfl hl.1 rfl (Nat.le_of_ble_eq_true rfl) dL_cellHolds_363 ⟨by show (0 + 24 * 5 + 2 + 10 * k + 8) + 2 ≤ 300; omega, by show (0 + 144 * 5 + 12 + 60 * k + 48) + 12 ≤ 1800; omega⟩ (c1 := 0 + 24 * 5 + 2 + 10 * k + 10) (s1 := 0 + 144 * 5 + 12 + 60 * k + 60) (by omega) (by omega) (fun H locs hP hS hz9 hk9 => ?_)
                    clear hz9 hk9
                    refine l_cne (x := (lz σ (cel)).toInt64) (y := (lz σ ((nb cel k).toNatClampNeg)).toInt64) (tgt := 374) hx hb dL_cellHolds_366 dL_cellHolds_367 (by decide) (fun c9 => absurd (congrArg Int32.toInt64 (lz_n h hc (nb_l hc (by omega) c285) (nb_3 cel hc k (by omega) c285) (n64 c333) (n64 c346))) c9) (fun _ => ?_)
                    refine lv_iconst (v := nI (1)) hx hb dL_cellHolds_370 (by decide) ?_
                    refine lv_goto (tgt := 375) hx hb dL_cellHolds_371 (by decide) ?_
                    refine lv_istore_n (lv' := [(2, .int (nI (1))), (6, .int (nI ((nmany cel k) + (1)))), (8, .long ((nb (cel) (k)).toInt64)), (7, .int (nI (k))), (4, .long (Int64.ofInt (nlast cel k))), (3, .int (nI (tw σ cel 5))), (0, .ref (o)), (1, .int (nI (cel)))]) hx hb dL_cellHolds_375 rfl hl (by decide) rfl (fun ls hl => ?_)
                    refine lv_lload hx hb dL_cellHolds_376 (lv_at hl 2 rfl) ?_
                    refine lv_lconst (v := 0) hx hb dL_cellHolds_378 (by decide) ?_
                    refine l_cge (x := (nb (cel) (k)).toInt64) (y := (0 : Int64)) (X := (nb (cel) (k)).toInt) (Y := 0) (tgt := 388) hx hb (t64 _) (by decide) dL_cellHolds_379 dL_cellHolds_380 (by decide) (fun _ => ?_) (fun c9 => absurd ((by omega)) c9)
                    refine lv_lload hx hb dL_cellHolds_388 (lv_at hl 2 rfl) ?_
                    refine lv_lstore (lv' := [(4, .long ((nb (cel) (k)).toInt64)), (2, .int (nI (1))), (6, .int (nI ((nmany cel k) + (1)))), (8, .long ((nb (cel) (k)).toInt64)), (7, .int (nI (k))), (3, .int (nI (tw σ cel 5))), (0, .ref (o)), (1, .int (nI (cel)))]) hx hb dL_cellHolds_390 hl (by decide) rfl (fun ls hl => ?_)
                    refine n_iinc (x := k) (dN := 1) (k := 4) (lv' := [(7, .int (nI (k + 1))), (4, .long ((nb (cel) (k)).toInt64)), (2, .int (nI (1))), (6, .int (nI ((nmany cel k) + (1)))), (8, .long ((nb (cel) (k)).toInt64)), (3, .int (nI (tw σ cel 5))), (0, .ref (o)), (1, .int (nI (cel)))]) hx hb dL_cellHolds_392 hl rfl (by decide) rfl (fun ls hl => ?_)
                    refine lv_goto (tgt := 261) hx hb dL_cellHolds_395 (by decide) ?_
                    have hl : lv_has ls 13 [(7, .int (nI (k + 1))), (6, .int (nI (nmany cel (k + 1)))), (4, .long (Int64.ofInt (nlast cel (k + 1)))), (2, .int (nI (1))), (3, .int (nI (tw σ cel 5))), (0, .ref (o)), (1, .int (nI (cel)))] := by
                      rw [(show Value.int (nI (nmany cel (k + 1))) = Value.int (nI ((nmany cel k) + (1))) from congrArg Value.int (congrArg nI (nm_pos c285))), (show Value.long (Int64.ofInt (nlast cel (k + 1))) = Value.long ((nb (cel) (k)).toInt64) from congrArg Value.long (nl_pos c285))]
                      exact lv_sub hl [0, 3, 1, 2, 5, 6, 7] rfl
                    exact W.widen (by omega) (by omega) ((hWW _ _ _ _ _).mp (ih261 (k + 1) (by omega) (by omega) H locs ls hP hS hl))
        have hl : lv_has ls 13 [(7, .int (nI (0))), (6, .int (nI (nmany cel 0))), (4, .long (Int64.ofInt (nlast cel 0))), (2, .int (nI (1))), (3, .int (nI (tw σ cel 5))), (0, .ref (o)), (1, .int (nI (cel)))] := by
          rw [(show Value.int (nI (nmany cel 0)) = Value.int (nI (0)) from congrArg Value.int (rfl)), (show Value.long (Int64.ofInt (nlast cel 0)) = Value.long ((-1 : Int64)) from congrArg Value.long (rfl))]
          exact lv_sub hl [0, 1, 2, 3, 4, 5, 6] rfl
        exact W.widen (by omega) (by omega) ((hWW _ _ _ _ _).mp (L261 (4 + 1) 0 (Nat.zero_le _) (by omega) H locs ls hP hS hl))
      · refine lv_iload_n hx hb dL_cellHolds_13 rfl (lv_at hl 2 rfl) ?_
        refine n_if_eq (x := 1) (tgt := 227) hx hb (by decide) dL_cellHolds_14 (by decide) (fun c9 => absurd c9 (by decide)) (fun _ => ?_)
        have hj : 5 * cel + y < 125 := by omega
        have ht9 := tw_le (σ := σ) (c := cel) y
        refine lv_aload_n hx hb dL_cellHolds_17 rfl (lv_at hl 3 rfl) ?_
        refine lv_iload_n hx hb dL_cellHolds_18 rfl (lv_at hl 4 rfl) ?_
        refine lv_iload hx hb dL_cellHolds_19 (lv_at hl 0 rfl) ?_
        refine lv_iconst (v := nI (1)) hx hb dL_cellHolds_21 (by decide) ?_
        refine l_read (As := [.ref (o), .int (nI (cel)), .int (nI (y)), .int (nI (1))]) (rest := []) ⟨hx, hb, hml, hown, hts⟩ (rdl1 hl0 hc (by omega)) (vx_cwSW 4 hts gL_cellHolds_L_layerOf rfl rfl rfl (by decide +kernel) ⟨Nat.le_of_ble_eq_true rfl, Nat.le_of_ble_eq_true rfl⟩) hK hZ hN hA hP hS rfl hl.1 rfl (Nat.le_of_ble_eq_true rfl) dL_cellHolds_22 ⟨by show (0 + 24 * y) + 3 ≤ 300; omega, by show (0 + 144 * y) + 18 ≤ 1800; omega⟩ (c1 := 0 + 24 * y + 3) (s1 := 0 + 144 * y + 18) (by omega) (by omega) (fun H locs hP hS hz9 hk9 => ?_)
        clear hz9 hk9
        refine lv_lstore (lv' := [(5, .long ((σ.1 10 (5 * (cel) + (y))).toInt64)), (4, .int (nI (y))), (3, .int (nI (tw σ cel y))), (2, .int (nI (1))), (0, .ref (o)), (1, .int (nI (cel)))]) hx hb dL_cellHolds_25 hl (by decide) rfl (fun ls hl => ?_)
        refine lv_aload_n hx hb dL_cellHolds_27 rfl (lv_at hl 4 rfl) ?_
        refine lv_iload_n hx hb dL_cellHolds_28 rfl (lv_at hl 5 rfl) ?_
        refine lv_iload hx hb dL_cellHolds_29 (lv_at hl 1 rfl) ?_
        refine lv_iconst (v := nI (2)) hx hb dL_cellHolds_31 (by decide) ?_
        refine l_read (As := [.ref (o), .int (nI (cel)), .int (nI (y)), .int (nI (2))]) (rest := []) ⟨hx, hb, hml, hown, hts⟩ (rdl2 hl0 hc (by omega)) (vx_cwSW 4 hts gL_cellHolds_L_layerOf rfl rfl rfl (by decide +kernel) ⟨Nat.le_of_ble_eq_true rfl, Nat.le_of_ble_eq_true rfl⟩) hK hZ hN hA hP hS rfl hl.1 rfl (Nat.le_of_ble_eq_true rfl) dL_cellHolds_32 ⟨by show (0 + 24 * y + 3) + 3 ≤ 300; omega, by show (0 + 144 * y + 18) + 18 ≤ 1800; omega⟩ (c1 := 0 + 24 * y + 6) (s1 := 0 + 144 * y + 36) (by omega) (by omega) (fun H locs hP hS hz9 hk9 => ?_)
        clear hz9 hk9
        refine lv_aload_n hx hb dL_cellHolds_35 rfl (lv_at hl 4 rfl) ?_
        refine lv_iload_n hx hb dL_cellHolds_36 rfl (lv_at hl 5 rfl) ?_
        refine lv_iload hx hb dL_cellHolds_37 (lv_at hl 1 rfl) ?_
        refine lv_iconst (v := nI (3)) hx hb dL_cellHolds_39 (by decide) ?_
        refine l_read (As := [.ref (o), .int (nI (cel)), .int (nI (y)), .int (nI (3))]) (rest := [.long ((σ.1 8 (5 * (cel) + (y))).toInt64)]) ⟨hx, hb, hml, hown, hts⟩ (rdl3 hl0 hc (by omega)) (vx_cwSW 4 hts gL_cellHolds_L_layerOf rfl rfl rfl (by decide +kernel) ⟨Nat.le_of_ble_eq_true rfl, Nat.le_of_ble_eq_true rfl⟩) hK hZ hN hA hP hS rfl hl.1 rfl (Nat.le_of_ble_eq_true rfl) dL_cellHolds_40 ⟨by show (0 + 24 * y + 6) + 3 ≤ 300; omega, by show (0 + 144 * y + 36) + 18 ≤ 1800; omega⟩ (c1 := 0 + 24 * y + 9) (s1 := 0 + 144 * y + 54) (by omega) (by omega) (fun H locs hP hS hz9 hk9 => ?_)
        clear hz9 hk9
        refine lv_ladd hx hb dL_cellHolds_43 ?_
        refine lv_lstore (lv' := [(7, .long (((σ.1 8 (5 * (cel) + (y))).toInt64) + ((σ.1 9 (5 * (cel) + (y))).toInt64))), (5, .long ((σ.1 10 (5 * (cel) + (y))).toInt64)), (4, .int (nI (y))), (3, .int (nI (tw σ cel y))), (2, .int (nI (1))), (0, .ref (o)), (1, .int (nI (cel)))]) hx hb dL_cellHolds_44 hl (by decide) rfl (fun ls hl => ?_)
        refine lv_lload hx hb dL_cellHolds_46 (lv_at hl 1 rfl) ?_
        refine lv_lconst (v := 0) hx hb dL_cellHolds_48 (by decide) ?_
        have J91 : WW H locs (0 + 24 * y + 9) (0 + 144 * y + 54) (F0 m 91 ls [.long ((l_temperature σ (5 * cel + y)).toInt64)]) := by
          refine (hWW _ _ _ _ _).mpr ?_
          refine lv_lstore (lv' := [(9, .long ((l_temperature σ (5 * cel + y)).toInt64)), (7, .long (((σ.1 8 (5 * (cel) + (y))).toInt64) + ((σ.1 9 (5 * (cel) + (y))).toInt64))), (5, .long ((σ.1 10 (5 * (cel) + (y))).toInt64)), (4, .int (nI (y))), (3, .int (nI (tw σ cel y))), (2, .int (nI (1))), (0, .ref (o)), (1, .int (nI (cel)))]) hx hb dL_cellHolds_91 hl (by decide) rfl (fun ls hl => ?_)
          refine lv_lload hx hb dL_cellHolds_93 (lv_at hl 2 rfl) ?_
          refine lv_lconst (v := 0) hx hb dL_cellHolds_95 (by decide) ?_
          have J110 : WW H locs (0 + 24 * y + 9) (0 + 144 * y + 54) (F0 m 110 ls [.long (Int64.ofInt (ml σ (5 * cel + y)))]) := by
            refine (hWW _ _ _ _ _).mpr ?_
            refine lv_lstore (lv' := [(11, .long (Int64.ofInt (ml σ (5 * cel + y)))), (9, .long ((l_temperature σ (5 * cel + y)).toInt64)), (7, .long (((σ.1 8 (5 * (cel) + (y))).toInt64) + ((σ.1 9 (5 * (cel) + (y))).toInt64))), (5, .long ((σ.1 10 (5 * (cel) + (y))).toInt64)), (4, .int (nI (y))), (3, .int (nI (tw σ cel y))), (2, .int (nI (1))), (0, .ref (o)), (1, .int (nI (cel)))]) hx hb dL_cellHolds_110 hl (by decide) rfl (fun ls hl => ?_)
            refine lv_iload_n hx hb dL_cellHolds_112 rfl (lv_at hl 5 rfl) ?_
            refine lv_iload_n hx hb dL_cellHolds_113 rfl (lv_at hl 5 rfl) ?_
            refine lv_iload hx hb dL_cellHolds_114 (lv_at hl 4 rfl) ?_
            have J131 : WW H locs (0 + 24 * y + 9) (0 + 144 * y + 54) (F0 m 131 ls [.int (nI (tw σ cel (y + 1) - tw σ cel y)), .int (nI (tw σ cel y))]) := by
              refine (hWW _ _ _ _ _).mpr ?_
              refine n_add (x := tw σ cel y) (y := tw σ cel (y + 1) - tw σ cel y) hx hb dL_cellHolds_131 ?_
              refine l_top (show Value.int (nI ((tw σ cel y) + (tw σ cel (y + 1) - tw σ cel y))) = Value.int (nI (tw σ cel (y + 1))) from congrArg Value.int (tw_a)) ?_
              refine lv_istore_n (lv' := [(3, .int (nI (tw σ cel (y + 1)))), (11, .long (Int64.ofInt (ml σ (5 * cel + y)))), (9, .long ((l_temperature σ (5 * cel + y)).toInt64)), (7, .long (((σ.1 8 (5 * (cel) + (y))).toInt64) + ((σ.1 9 (5 * (cel) + (y))).toInt64))), (5, .long ((σ.1 10 (5 * (cel) + (y))).toInt64)), (4, .int (nI (y))), (2, .int (nI (1))), (0, .ref (o)), (1, .int (nI (cel)))]) hx hb dL_cellHolds_132 rfl hl (by decide) rfl (fun ls hl => ?_)
              refine lv_aload_n hx hb dL_cellHolds_133 rfl (lv_at hl 7 rfl) ?_
              refine lv_iload_n hx hb dL_cellHolds_134 rfl (lv_at hl 8 rfl) ?_
              refine lv_iload hx hb dL_cellHolds_135 (lv_at hl 5 rfl) ?_
              refine lv_iconst (v := nI (0)) hx hb dL_cellHolds_137 (by decide) ?_
              refine l_read (As := [.ref (o), .int (nI (cel)), .int (nI (y)), .int (nI (0))]) (rest := []) ⟨hx, hb, hml, hown, hts⟩ (rdl0 hl0 hc (by omega)) (vx_cwSW 4 hts gL_cellHolds_L_layerOf rfl rfl rfl (by decide +kernel) ⟨Nat.le_of_ble_eq_true rfl, Nat.le_of_ble_eq_true rfl⟩) hK hZ hN hA hP hS rfl hl.1 rfl (Nat.le_of_ble_eq_true rfl) dL_cellHolds_138 ⟨by show (0 + 24 * y + 9) + 3 ≤ 300; omega, by show (0 + 144 * y + 54) + 18 ≤ 1800; omega⟩ (c1 := 0 + 24 * y + 12) (s1 := 0 + 144 * y + 72) (by omega) (by omega) (fun H locs hP hS hz9 hk9 => ?_)
              clear hz9 hk9
              refine lv_lload hx hb dL_cellHolds_141 (lv_at hl 2 rfl) ?_
              refine l_cne (x := (l_temperature σ (5 * (cel) + (y))).toInt64) (y := (l_temperature σ (5 * cel + y)).toInt64) (tgt := 219) hx hb dL_cellHolds_143 dL_cellHolds_144 (by decide) (fun c9 => absurd (rfl) c9) (fun _ => ?_)
              refine lv_aload_n hx hb dL_cellHolds_147 rfl (lv_at hl 7 rfl) ?_
              refine lv_iload_n hx hb dL_cellHolds_148 rfl (lv_at hl 8 rfl) ?_
              refine lv_iload hx hb dL_cellHolds_149 (lv_at hl 5 rfl) ?_
              refine lv_iconst (v := nI (5)) hx hb dL_cellHolds_151 (by decide) ?_
              refine l_read (As := [.ref (o), .int (nI (cel)), .int (nI (y)), .int (nI (5))]) (rest := []) ⟨hx, hb, hml, hown, hts⟩ (rdl5 hl0 hc (by omega)) (vx_cwSW 4 hts gL_cellHolds_L_layerOf rfl rfl rfl (by decide +kernel) ⟨Nat.le_of_ble_eq_true rfl, Nat.le_of_ble_eq_true rfl⟩) hK hZ hN hA hP hS rfl hl.1 rfl (Nat.le_of_ble_eq_true rfl) dL_cellHolds_152 ⟨by show (0 + 24 * y + 12) + 3 ≤ 300; omega, by show (0 + 144 * y + 72) + 18 ≤ 1800; omega⟩ (c1 := 0 + 24 * y + 15) (s1 := 0 + 144 * y + 90) (by omega) (by omega) (fun H locs hP hS hz9 hk9 => ?_)
              clear hz9 hk9
              refine lv_lload hx hb dL_cellHolds_155 (lv_at hl 1 rfl) ?_
              refine lv_lload hx hb dL_cellHolds_157 (lv_at hl 3 rfl) ?_
              have J170 : WW H locs (0 + 24 * y + 15) (0 + 144 * y + 90) (F0 m 170 ls [.long ((l_melted σ (5 * cel + y)).toInt64), .long ((l_melted σ (5 * (cel) + (y))).toInt64)]) := by
                refine (hWW _ _ _ _ _).mpr ?_
                refine l_cne (x := (l_melted σ (5 * (cel) + (y))).toInt64) (y := (l_melted σ (5 * cel + y)).toInt64) (tgt := 219) hx hb dL_cellHolds_170 dL_cellHolds_171 (by decide) (fun c9 => absurd (rfl) c9) (fun _ => ?_)
                refine lv_aload_n hx hb dL_cellHolds_174 rfl (lv_at hl 7 rfl) ?_
                refine lv_iload_n hx hb dL_cellHolds_175 rfl (lv_at hl 8 rfl) ?_
                refine lv_iload hx hb dL_cellHolds_176 (lv_at hl 5 rfl) ?_
                refine lv_iconst (v := nI (4)) hx hb dL_cellHolds_178 (by decide) ?_
                refine l_read (As := [.ref (o), .int (nI (cel)), .int (nI (y)), .int (nI (4))]) (rest := []) ⟨hx, hb, hml, hown, hts⟩ (rdl4 hl0 hc (by omega)) (vx_cwSW 4 hts gL_cellHolds_L_layerOf rfl rfl rfl (by decide +kernel) ⟨Nat.le_of_ble_eq_true rfl, Nat.le_of_ble_eq_true rfl⟩) hK hZ hN hA hP hS rfl hl.1 rfl (Nat.le_of_ble_eq_true rfl) dL_cellHolds_179 ⟨by show (0 + 24 * y + 15) + 3 ≤ 300; omega, by show (0 + 144 * y + 90) + 18 ≤ 1800; omega⟩ (c1 := 0 + 24 * y + 18) (s1 := 0 + 144 * y + 108) (by omega) (by omega) (fun H locs hP hS hz9 hk9 => ?_)
                clear hz9 hk9
                refine lv_lconst (v := 0) hx hb dL_cellHolds_182 (by decide) ?_
                refine l_clt (x := (σ.1 11 (5 * (cel) + (y))).toInt64) (y := (0 : Int64)) (X := (σ.1 11 (5 * (cel) + (y))).toInt) (Y := 0) (tgt := 219) hx hb (t64 _) (by decide) dL_cellHolds_183 dL_cellHolds_184 (by decide) (fun c9 => absurd c9 ((by have q := h.bl _ hj; omega))) (fun _ => ?_)
                refine lv_aload_n hx hb dL_cellHolds_187 rfl (lv_at hl 7 rfl) ?_
                refine lv_iload_n hx hb dL_cellHolds_188 rfl (lv_at hl 8 rfl) ?_
                refine lv_iload hx hb dL_cellHolds_189 (lv_at hl 5 rfl) ?_
                refine lv_iconst (v := nI (3)) hx hb dL_cellHolds_191 (by decide) ?_
                refine l_read (As := [.ref (o), .int (nI (cel)), .int (nI (y)), .int (nI (3))]) (rest := []) ⟨hx, hb, hml, hown, hts⟩ (rdl3 hl0 hc (by omega)) (vx_cwSW 4 hts gL_cellHolds_L_layerOf rfl rfl rfl (by decide +kernel) ⟨Nat.le_of_ble_eq_true rfl, Nat.le_of_ble_eq_true rfl⟩) hK hZ hN hA hP hS rfl hl.1 rfl (Nat.le_of_ble_eq_true rfl) dL_cellHolds_192 ⟨by show (0 + 24 * y + 18) + 3 ≤ 300; omega, by show (0 + 144 * y + 108) + 18 ≤ 1800; omega⟩ (c1 := 0 + 24 * y + 21) (s1 := 0 + 144 * y + 126) (by omega) (by omega) (fun H locs hP hS hz9 hk9 => ?_)
                clear hz9 hk9
                refine lv_lconst (v := 0) hx hb dL_cellHolds_195 (by decide) ?_
                refine l_clt (x := (σ.1 9 (5 * (cel) + (y))).toInt64) (y := (0 : Int64)) (X := (σ.1 9 (5 * (cel) + (y))).toInt) (Y := 0) (tgt := 219) hx hb (t64 _) (by decide) dL_cellHolds_196 dL_cellHolds_197 (by decide) (fun c9 => absurd c9 ((by have q := h.bl _ hj; omega))) (fun _ => ?_)
                refine lv_aload_n hx hb dL_cellHolds_200 rfl (lv_at hl 7 rfl) ?_
                refine lv_iload_n hx hb dL_cellHolds_201 rfl (lv_at hl 8 rfl) ?_
                refine lv_iload hx hb dL_cellHolds_202 (lv_at hl 5 rfl) ?_
                refine lv_iconst (v := nI (3)) hx hb dL_cellHolds_204 (by decide) ?_
                refine l_read (As := [.ref (o), .int (nI (cel)), .int (nI (y)), .int (nI (3))]) (rest := []) ⟨hx, hb, hml, hown, hts⟩ (rdl3 hl0 hc (by omega)) (vx_cwSW 4 hts gL_cellHolds_L_layerOf rfl rfl rfl (by decide +kernel) ⟨Nat.le_of_ble_eq_true rfl, Nat.le_of_ble_eq_true rfl⟩) hK hZ hN hA hP hS rfl hl.1 rfl (Nat.le_of_ble_eq_true rfl) dL_cellHolds_205 ⟨by show (0 + 24 * y + 21) + 3 ≤ 300; omega, by show (0 + 144 * y + 126) + 18 ≤ 1800; omega⟩ (c1 := 0 + 24 * y + 24) (s1 := 0 + 144 * y + 144) (by omega) (by omega) (fun H locs hP hS hz9 hk9 => ?_)
                clear hz9 hk9
                refine lv_ldc2 (own := RL) (v := 9) hx hb hown (hts _ (List.mem_of_getElem? (i := 3) rfl)) dL_cellHolds_208 ?_
                refine l_cgt (x := (σ.1 9 (5 * (cel) + (y))).toInt64) (y := (9 : Int64)) (X := (σ.1 9 (5 * (cel) + (y))).toInt) (Y := 9) (tgt := 219) hx hb (t64 _) (by decide) dL_cellHolds_211 dL_cellHolds_212 (by decide) (fun c9 => absurd c9 ((by have q := h.bl _ hj; omega))) (fun _ => ?_)
                refine lv_iconst (v := nI (1)) hx hb dL_cellHolds_215 (by decide) ?_
                refine lv_goto (tgt := 220) hx hb dL_cellHolds_216 (by decide) ?_
                refine lv_istore_n (lv' := [(2, .int (nI (1))), (3, .int (nI (tw σ cel (y + 1)))), (11, .long (Int64.ofInt (ml σ (5 * cel + y)))), (9, .long ((l_temperature σ (5 * cel + y)).toInt64)), (7, .long (((σ.1 8 (5 * (cel) + (y))).toInt64) + ((σ.1 9 (5 * (cel) + (y))).toInt64))), (5, .long ((σ.1 10 (5 * (cel) + (y))).toInt64)), (4, .int (nI (y))), (0, .ref (o)), (1, .int (nI (cel)))]) hx hb dL_cellHolds_220 rfl hl (by decide) rfl (fun ls hl => ?_)
                refine n_iinc (x := y) (dN := 1) (k := 6) (lv' := [(4, .int (nI (y + 1))), (2, .int (nI (1))), (3, .int (nI (tw σ cel (y + 1)))), (11, .long (Int64.ofInt (ml σ (5 * cel + y)))), (9, .long ((l_temperature σ (5 * cel + y)).toInt64)), (7, .long (((σ.1 8 (5 * (cel) + (y))).toInt64) + ((σ.1 9 (5 * (cel) + (y))).toInt64))), (5, .long ((σ.1 10 (5 * (cel) + (y))).toInt64)), (0, .ref (o)), (1, .int (nI (cel)))]) hx hb dL_cellHolds_221 hl rfl (by decide) rfl (fun ls hl => ?_)
                refine lv_goto (tgt := 7) hx hb dL_cellHolds_224 (by decide) ?_
                have hl : lv_has ls 13 [(4, .int (nI (y + 1))), (3, .int (nI (tw σ cel (y + 1)))), (2, .int (nI (1))), (0, .ref (o)), (1, .int (nI (cel)))] := lv_sub hl [0, 2, 1, 7, 8] rfl
                exact W.widen (by omega) (by omega) ((hWW _ _ _ _ _).mp (ih7 (y + 1) (by omega) (by omega) H locs ls hP hS hl))
              refine l_cle (x := Int64.ofInt (ml σ (5 * cel + y))) (y := ((σ.1 8 (5 * (cel) + (y))).toInt64) + ((σ.1 9 (5 * (cel) + (y))).toInt64)) (X := ml σ (5 * cel + y)) (Y := (σ.1 8 (5 * cel + y)).toInt + (σ.1 9 (5 * cel + y)).toInt) (tgt := 168) hx hb (ml_i h hj) (u64 h hj) dL_cellHolds_159 dL_cellHolds_160 (by decide) (fun c159 => ?_) (fun c159 => ?_)
              · refine lv_lload hx hb dL_cellHolds_168 (lv_at hl 1 rfl) ?_
                exact l_top (show Value.long (Int64.ofInt (ml σ (5 * cel + y))) = Value.long ((l_melted σ (5 * cel + y)).toInt64) from congrArg Value.long ((ml_le h hj (by omega)).symm)) ((hWW _ _ _ _ _).mp J170)
              · refine lv_lload hx hb dL_cellHolds_163 (lv_at hl 3 rfl) ?_
                refine lv_goto (tgt := 170) hx hb dL_cellHolds_165 (by decide) ?_
                exact l_top (show Value.long (((σ.1 8 (5 * (cel) + (y))).toInt64) + ((σ.1 9 (5 * (cel) + (y))).toInt64)) = Value.long ((l_melted σ (5 * cel + y)).toInt64) from congrArg Value.long ((ml_gt h hj (by omega)).symm)) ((hWW _ _ _ _ _).mp J170)
            refine n_icmp_ne (x := tw σ cel y) (y := y) (tgt := 130) hx hb (by omega) (by omega) dL_cellHolds_116 (by decide) (fun c116 => ?_) (fun c116 => ?_)
            · refine lv_iconst (v := nI (0)) hx hb dL_cellHolds_130 (by decide) ?_
              exact l_top (show Value.int (nI (0)) = Value.int (nI (tw σ cel (y + 1) - tw σ cel y)) from congrArg Value.int (tw_0 (fun q => c116 q.1))) ((hWW _ _ _ _ _).mp J131)
            · refine lv_lload hx hb dL_cellHolds_119 (lv_at hl 3 rfl) ?_
              refine lv_lconst (v := 0) hx hb dL_cellHolds_121 (by decide) ?_
              refine l_clt (x := (σ.1 10 (5 * (cel) + (y))).toInt64) (y := (0 : Int64)) (X := (σ.1 10 (5 * (cel) + (y))).toInt) (Y := 0) (tgt := 130) hx hb (t64 _) (by decide) dL_cellHolds_122 dL_cellHolds_123 (by decide) (fun c122 => ?_) (fun c122 => ?_)
              · refine lv_iconst (v := nI (0)) hx hb dL_cellHolds_130 (by decide) ?_
                exact l_top (show Value.int (nI (0)) = Value.int (nI (tw σ cel (y + 1) - tw σ cel y)) from congrArg Value.int (tw_0 (fun q => q.2 c122))) ((hWW _ _ _ _ _).mp J131)
              · refine lv_iconst (v := nI (1)) hx hb dL_cellHolds_126 (by decide) ?_
                refine lv_goto (tgt := 131) hx hb dL_cellHolds_127 (by decide) ?_
                exact l_top (show Value.int (nI (1)) = Value.int (nI (tw σ cel (y + 1) - tw σ cel y)) from congrArg Value.int (tw_1 c116 c122)) ((hWW _ _ _ _ _).mp J131)
          refine l_cge (x := (σ.1 10 (5 * (cel) + (y))).toInt64) (y := (0 : Int64)) (X := (σ.1 10 (5 * (cel) + (y))).toInt) (Y := 0) (tgt := 104) hx hb (t64 _) (by decide) dL_cellHolds_96 dL_cellHolds_97 (by decide) (fun c96 => ?_) (fun c96 => ?_)
          · refine lv_lload hx hb dL_cellHolds_104 (lv_at hl 2 rfl) ?_
            refine lv_ldc2 (own := RL) (v := 1000) hx hb hown (hts _ (List.mem_of_getElem? (i := 2) rfl)) dL_cellHolds_106 ?_
            refine lv_ldiv hx hb dL_cellHolds_109 (by decide) ?_
            exact l_top (show Value.long (((σ.1 10 (5 * (cel) + (y))).toInt64) / ((1000 : Int64))) = Value.long (Int64.ofInt (ml σ (5 * cel + y))) from congrArg Value.long (ml_pos h hj (by omega))) ((hWW _ _ _ _ _).mp J110)
          · refine lv_lconst (v := 0) hx hb dL_cellHolds_100 (by decide) ?_
            refine lv_goto (tgt := 110) hx hb dL_cellHolds_101 (by decide) ?_
            exact l_top (show Value.long ((0 : Int64)) = Value.long (Int64.ofInt (ml σ (5 * cel + y))) from congrArg Value.long (ml_neg (by omega))) ((hWW _ _ _ _ _).mp J110)
        refine l_cge (x := (σ.1 10 (5 * (cel) + (y))).toInt64) (y := (0 : Int64)) (X := (σ.1 10 (5 * (cel) + (y))).toInt) (Y := 0) (tgt := 62) hx hb (t64 _) (by decide) dL_cellHolds_49 dL_cellHolds_50 (by decide) (fun c49 => ?_) (fun c49 => ?_)
        · refine lv_lload hx hb dL_cellHolds_62 (lv_at hl 1 rfl) ?_
          refine lv_ldc2 (own := RL) (v := 1000) hx hb hown (hts _ (List.mem_of_getElem? (i := 2) rfl)) dL_cellHolds_64 ?_
          refine lv_lload hx hb dL_cellHolds_67 (lv_at hl 0 rfl) ?_
          refine lv_lmul hx hb dL_cellHolds_69 ?_
          refine l_cle (x := (σ.1 10 (5 * (cel) + (y))).toInt64) (y := ((1000 : Int64)) * (((σ.1 8 (5 * (cel) + (y))).toInt64) + ((σ.1 9 (5 * (cel) + (y))).toInt64))) (X := (σ.1 10 (5 * (cel) + (y))).toInt) (Y := 1000 * ((σ.1 8 (5 * cel + y)).toInt + (σ.1 9 (5 * cel + y)).toInt)) (tgt := 90) hx hb (t64 _) (m64 h hj) dL_cellHolds_70 dL_cellHolds_71 (by decide) (fun c70 => ?_) (fun c70 => ?_)
          · refine lv_lconst (v := 0) hx hb dL_cellHolds_90 (by decide) ?_
            exact l_top (show Value.long ((0 : Int64)) = Value.long ((l_temperature σ (5 * cel + y)).toInt64) from congrArg Value.long (dg_mid h hj (by omega) (by omega))) ((hWW _ _ _ _ _).mp J91)
          · refine lv_lload hx hb dL_cellHolds_74 (lv_at hl 1 rfl) ?_
            refine lv_ldc2 (own := RL) (v := 1000) hx hb hown (hts _ (List.mem_of_getElem? (i := 2) rfl)) dL_cellHolds_76 ?_
            refine lv_lload hx hb dL_cellHolds_79 (lv_at hl 0 rfl) ?_
            refine lv_lmul hx hb dL_cellHolds_81 ?_
            refine lv_lsub hx hb dL_cellHolds_82 ?_
            refine lv_ldc2 (own := RL) (v := 100) hx hb hown (hts _ (List.mem_of_getElem? (i := 1) rfl)) dL_cellHolds_83 ?_
            refine lv_ldiv hx hb dL_cellHolds_86 (by decide) ?_
            refine lv_goto (tgt := 91) hx hb dL_cellHolds_87 (by decide) ?_
            exact l_top (show Value.long ((((σ.1 10 (5 * (cel) + (y))).toInt64) - (((1000 : Int64)) * (((σ.1 8 (5 * (cel) + (y))).toInt64) + ((σ.1 9 (5 * (cel) + (y))).toInt64)))) / ((100 : Int64))) = Value.long ((l_temperature σ (5 * cel + y)).toInt64) from congrArg Value.long (dg_hi h hj (by omega))) ((hWW _ _ _ _ _).mp J91)
        · refine lv_lload hx hb dL_cellHolds_53 (lv_at hl 1 rfl) ?_
          refine lv_ldc2 (own := RL) (v := 100) hx hb hown (hts _ (List.mem_of_getElem? (i := 1) rfl)) dL_cellHolds_55 ?_
          refine lv_ldiv hx hb dL_cellHolds_58 (by decide) ?_
          refine lv_goto (tgt := 91) hx hb dL_cellHolds_59 (by decide) ?_
          exact l_top (show Value.long (((σ.1 10 (5 * (cel) + (y))).toInt64) / ((100 : Int64))) = Value.long ((l_temperature σ (5 * cel + y)).toInt64) from congrArg Value.long (dg_neg h hj (by omega))) ((hWW _ _ _ _ _).mp J91)
  have hl : lv_has ls 13 [(4, .int (nI (0))), (3, .int (nI (tw σ cel 0))), (2, .int (nI (1))), (0, .ref (o)), (1, .int (nI (cel)))] := by
    rw [(show Value.int (nI (tw σ cel 0)) = Value.int (nI (0)) from congrArg Value.int (rfl))]
    exact lv_sub hl [0, 1, 2, 3, 4] rfl
  exact W.widen (by omega) (by omega) ((hWW _ _ _ _ _).mp (L7 (5 + 1) 0 (Nat.zero_le _) (by omega) H locs ls hP hS hl))
