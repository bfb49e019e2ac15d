set_option maxHeartbeats 4000000 in
set_option maxRecDepth 100000 in
theorem law_fire {p : Program} {l : Launch} {e : Env} {s : State} {m : MethodId} {below : List Frame} {meth : Method} {c : Code} {b L : Nat} {xs : Nat → Int32} {G : va_G} {ids : Nat → ClassId} {tS tE o qo z : Nat} (C0 : LX p l s m c b L xs G ids tS tE o qo z) {Q : State → Prop} {cells slots : Nat} (hcell : cells + 5000 ≤ 600074) (hslot : slots + 40000 ≤ 7301550) {σ : Sg} {f : Nat → Int32} {H : Heap} {locs : List Loc} {ls : Array Slot} (hI : IV σ) (hP : vP G ids o z tE σ H) (hq : sP G ids qo f H) (hf : ∀ x, x < cpN σ 1 → f x = σ.1 22 x) (hS : va_S (fun q => s.heap.size ≤ q) s.heap H locs) {k cel Y : Nat} (hc : cel < 25) (hY : Y < 2 ^ 31) {M9 : Nat} (hM9 : mon σ + 4 ≤ M9) (hl : lv_has ls 19 [(11, .int (nI (cel))), (9, .int (nI (Y))), (7, .int (nI (k))), (2, .int (nI (1))), (3, .int (nI (cpN σ 0))), (4, .int (nI (cpN σ 1))), (5, .int (nI (cpN σ 2))), (6, .ref (qo)), (1, .ref (o)), (0, .ref (b))])
    (kk : ∀ (σ : Sg) (f : Nat → Int32) (H : Heap) (locs : List Loc) (ls : Array Slot), IV σ → mon σ ≤ M9 → vP G ids o z tE σ H → sP G ids qo f H → (∀ x, x < cpN σ 1 → f x = σ.1 22 x) → va_S (fun q => s.heap.size ≤ q) s.heap H locs → lv_has ls 19 [(11, .int (nI (cel))), (9, .int (nI (Y))), (7, .int (nI (k))), (2, .int (nI (1))), (3, .int (nI (cpN σ 0))), (4, .int (nI (cpN σ 1))), (5, .int (nI (cpN σ 2))), (6, .ref (qo)), (1, .ref (o)), (0, .ref (b))] → W p l e room_1 s m #[Value.ref b] below meth c H locs (cells + 60) (slots + 4000) Q (F0 m 843 ls [])) : W p l e room_1 s m #[Value.ref b] below meth c H locs cells slots Q (F0 m 264 ls []) := by
  obtain ⟨hx, hb, hml, hown, hts, hX, hbl, hl0, hK, hZ, hN, ho1, ho2, ho3, hL⟩ := id C0
  have hA : ∀ q, cpG o z q → (fun q : Nat => s.heap.size ≤ q) q := fun q h => by
    show s.heap.size ≤ q
    rcases h with h | h
    · omega
    · omega
  have hqn : ¬ cpG o z qo := by
    unfold cpG
    omega
  have hmo := hI.mo.2
  have hn0 := hI.n0.2
  have hn1 := hI.n1.2
  have hn2 := hI.n2.2
  refine w_named (fun WW hWW => ?_)
  refine lv_aload_n hx hb dL_law_264 rfl (lv_at hl 8 rfl) ?_
  refine lv_iload hx hb dL_law_265 (lv_at hl 0 rfl) ?_
  refine lv_iconst (v := nI (0)) hx hb dL_law_267 (by decide) ?_
  refine lv_iconst (v := nI (4)) hx hb dL_law_268 (by decide) ?_
  refine l_read (As := [.ref (o), .int (nI (cel)), .int (nI (0)), .int (nI (4))]) (rest := []) ⟨hx, hb, hml, hown, hts⟩ (rdl4 hl0 hc (by omega)) (vx_cwSW 4 hts gL_law_L_layerOf rfl rfl rfl (by decide +kernel) ⟨Nat.le_of_ble_eq_true rfl, Nat.le_of_ble_eq_true rfl⟩) hK hZ hN hA hP hS rfl hl.1 rfl (Nat.le_of_ble_eq_true rfl) dL_law_269 ⟨by show (cells) + 3 ≤ 600074; omega, by show (slots) + 18 ≤ 7301550; omega⟩ (c1 := cells + 3) (s1 := slots + 18) (by omega) (by omega) (fun H locs hP hS hz9 hk9 => ?_)
  replace hq := hq.kept (hk9 _ hq.lt hqn)
  clear hz9 hk9
  refine lv_lstore (lv' := [(12, .long ((σ.1 11 (5 * (cel) + (0))).toInt64)), (11, .int (nI (cel))), (9, .int (nI (Y))), (7, .int (nI (k))), (2, .int (nI (1))), (3, .int (nI (cpN σ 0))), (4, .int (nI (cpN σ 1))), (5, .int (nI (cpN σ 2))), (6, .ref (qo)), (1, .ref (o)), (0, .ref (b))]) hx hb dL_law_272 hl (by decide) rfl (fun ls hl => ?_)
  refine lv_aload_n hx hb dL_law_274 rfl (lv_at hl 9 rfl) ?_
  refine lv_iload hx hb dL_law_275 (lv_at hl 1 rfl) ?_
  refine lv_iconst (v := nI (1)) hx hb dL_law_277 (by decide) ?_
  refine l_read (As := [.ref (o), .int (nI (cel)), .int (nI (1))]) (rest := []) ⟨hx, hb, hml, hown, hts⟩ (rdc1 hl0 hc) (vx_cwSW 3 hts gL_law_L_cellOf rfl rfl rfl (by decide +kernel) ⟨Nat.le_of_ble_eq_true rfl, Nat.le_of_ble_eq_true rfl⟩) hK hZ hN hA hP hS rfl hl.1 rfl (Nat.le_of_ble_eq_true rfl) dL_law_278 ⟨by show (cells + 3) + 2 ≤ 600074; omega, by show (slots + 18) + 12 ≤ 7301550; omega⟩ (c1 := cells + 5) (s1 := slots + 30) (by omega) (by omega) (fun H locs hP hS hz9 hk9 => ?_)
  replace hq := hq.kept (hk9 _ hq.lt hqn)
  clear hz9 hk9
  refine lv_ldc2 (own := RL) (v := 3) hx hb hown (hts _ (List.mem_of_getElem? (i := 5) rfl)) dL_law_281 ?_
  refine l_cge (x := (σ.1 3 (cel)).toInt64) (y := (3 : Int64)) (X := (σ.1 3 (cel)).toInt) (Y := 3) (tgt := 304) hx hb (t64 _) (by decide) dL_law_284 dL_law_285 (by decide) (fun c284 => ?_) (fun c284 => ?_)
  · refine lv_iconst (v := nI (0)) hx hb dL_law_304 (by decide) ?_
    refine lv_istore (lv' := [(14, .int (nI (0))), (12, .long ((σ.1 11 (5 * (cel) + (0))).toInt64)), (11, .int (nI (cel))), (9, .int (nI (Y))), (7, .int (nI (k))), (2, .int (nI (1))), (3, .int (nI (cpN σ 0))), (4, .int (nI (cpN σ 1))), (5, .int (nI (cpN σ 2))), (6, .ref (qo)), (1, .ref (o)), (0, .ref (b))]) hx hb dL_law_305 hl (by decide) rfl (fun ls hl => ?_)
    refine lv_aload_n hx hb dL_law_307 rfl (lv_at hl 10 rfl) ?_
    refine lv_iconst (v := nI (0)) hx hb dL_law_308 (by decide) ?_
    refine l_read (As := [.ref (o), .int (nI (0))]) (rest := []) ⟨hx, hb, hml, hown, hts⟩ (rdg hl0 (g := 0) (by omega)) (vx_cwSW 2 hts gL_law_L_air rfl rfl rfl (by decide +kernel) ⟨Nat.le_of_ble_eq_true rfl, Nat.le_of_ble_eq_true rfl⟩) hK hZ hN hA hP hS rfl hl.1 rfl (Nat.le_of_ble_eq_true rfl) dL_law_309 ⟨by show (cells + 5) + 1 ≤ 600074; omega, by show (slots + 30) + 6 ≤ 7301550; omega⟩ (c1 := cells + 6) (s1 := slots + 36) (by omega) (by omega) (fun H locs hP hS hz9 hk9 => ?_)
    replace hq := hq.kept (hk9 _ hq.lt hqn)
    clear hz9 hk9
    refine lv_lstore (lv' := [(15, .long (σ.2 (30 + (0)))), (14, .int (nI (0))), (12, .long ((σ.1 11 (5 * (cel) + (0))).toInt64)), (11, .int (nI (cel))), (9, .int (nI (Y))), (7, .int (nI (k))), (2, .int (nI (1))), (3, .int (nI (cpN σ 0))), (4, .int (nI (cpN σ 1))), (5, .int (nI (cpN σ 2))), (6, .ref (qo)), (1, .ref (o)), (0, .ref (b))]) hx hb dL_law_312 hl (by decide) rfl (fun ls hl => ?_)
    refine lv_aload_n hx hb dL_law_314 rfl (lv_at hl 11 rfl) ?_
    refine lv_iload hx hb dL_law_315 (lv_at hl 3 rfl) ?_
    refine l_read (As := [.ref (o), .int (nI (cel))]) (rest := []) ⟨hx, hb, hml, hown, hts⟩ (RQ.no (x := 3) (fun τ v => lc_fire l hl0 G ids tS tE o z τ (nI cel)) (fun τ v => fire_no hc (fun q => by rw [v.1 3 (by decide) (by decide)] at q; omega)) (by decide)) (vx_cwSW 2 hts gL_law_L_fire rfl rfl rfl (by decide +kernel) ⟨Nat.le_of_ble_eq_true rfl, Nat.le_of_ble_eq_true rfl⟩) hK hZ hN hA hP hS rfl hl.1 rfl (Nat.le_of_ble_eq_true rfl) dL_law_317 ⟨by show (cells + 6) + 2 ≤ 600074; omega, by show (slots + 36) + 12 ≤ 7301550; omega⟩ (c1 := cells + 8) (s1 := slots + 48) (by omega) (by omega) (fun H locs hP hS hz9 hk9 => ?_)
    replace hq := hq.kept (hk9 _ hq.lt hqn)
    clear hz9 hk9
    refine lv_lstore (lv' := [(17, .long (lK 3)), (15, .long (σ.2 (30 + (0)))), (14, .int (nI (0))), (12, .long ((σ.1 11 (5 * (cel) + (0))).toInt64)), (11, .int (nI (cel))), (9, .int (nI (Y))), (7, .int (nI (k))), (2, .int (nI (1))), (3, .int (nI (cpN σ 0))), (4, .int (nI (cpN σ 1))), (5, .int (nI (cpN σ 2))), (6, .ref (qo)), (1, .ref (o)), (0, .ref (b))]) hx hb dL_law_320 hl (by decide) rfl (fun ls hl => ?_)
    refine lv_iload hx hb dL_law_322 (lv_at hl 2 rfl) ?_
    refine n_if_eq (x := 0) (tgt := 390) hx hb (by decide) dL_law_324 (by decide) (fun _ => ?_) (fun c9 => absurd (by decide) c9)
    refine lv_lload hx hb dL_law_390 (lv_at hl 0 rfl) ?_
    refine lv_ldc2 (own := RL) (v := -9000000000000000003) hx hb hown (hts _ (List.mem_of_getElem? (i := 7) rfl)) dL_law_392 ?_
    refine l_cne (x := lK 3) (y := (-9000000000000000003 : Int64)) (tgt := 403) hx hb dL_law_395 dL_law_396 (by decide) (fun c9 => absurd (rfl) c9) (fun _ => ?_)
    refine lv_iconst (v := nI (1)) hx hb dL_law_399 (by decide) ?_
    refine lv_goto (tgt := 404) hx hb dL_law_400 (by decide) ?_
    refine lv_istore_n (lv' := [(2, .int (nI (1))), (17, .long (lK 3)), (15, .long (σ.2 (30 + (0)))), (14, .int (nI (0))), (12, .long ((σ.1 11 (5 * (cel) + (0))).toInt64)), (11, .int (nI (cel))), (9, .int (nI (Y))), (7, .int (nI (k))), (3, .int (nI (cpN σ 0))), (4, .int (nI (cpN σ 1))), (5, .int (nI (cpN σ 2))), (6, .ref (qo)), (1, .ref (o)), (0, .ref (b))]) hx hb dL_law_404 rfl hl (by decide) rfl (fun ls hl => ?_)
    refine lv_iload_n hx hb dL_law_405 rfl (lv_at hl 0 rfl) ?_
    refine n_if_eq (x := 1) (tgt := 435) hx hb (by decide) dL_law_406 (by decide) (fun c9 => absurd c9 (by decide)) (fun _ => ?_)
    refine lv_aload_n hx hb dL_law_409 rfl (lv_at hl 12 rfl) ?_
    refine lv_iload hx hb dL_law_410 (lv_at hl 5 rfl) ?_
    refine lv_iconst (v := nI (1)) hx hb dL_law_412 (by decide) ?_
    refine n_add (x := cel) (y := 1) hx hb dL_law_413 ?_
    refine lv_bipush (v := nI (25)) hx hb dL_law_414 (by decide) ?_
    refine n_rem (x := (cel) + (1)) (y := 25) hx hb (by omega) (by omega) (by omega) dL_law_416 ?_
    refine lv_iload hx hb dL_law_417 (lv_at hl 6 rfl) ?_
    refine lv_iconst (v := nI (4)) hx hb dL_law_419 (by decide) ?_
    refine n_rem (x := Y) (y := 4) hx hb (by omega) (by omega) (by omega) dL_law_420 ?_
    obtain ⟨⟨τ, v, hPt⟩, hzt⟩ := hP
    have hIt := v.iv hI
    have hmt := v.mon
    have hcn := v.cn
    obtain ⟨ex, hI1, hsm, hm3⟩ := IV_moss hIt (c := (cel + 1) % 25) (v := Y % 4) (by omega) (by omega)
    refine l_tell (As := [.ref (o), .int (nI (((cel) + (1)) % (25))), .int (nI ((Y) % (4)))]) (rest := []) ⟨hx, hb, hml, hown, hts⟩ (lc_moss l hl0 G ids tS tE o z τ (nI ((cel + 1) % 25)) (nI (Y % 4))) (ex) (vx_cwSW 3 hts gL_law_L_moss rfl rfl rfl (by decide +kernel) ⟨Nat.le_of_ble_eq_true rfl, Nat.le_of_ble_eq_true rfl⟩) hK hZ hN hA hPt hzt hS rfl hl.1 rfl (Nat.le_of_ble_eq_true rfl) dL_law_421 ⟨by show (cells + 8) + 2 ≤ 600074; omega, by show (slots + 48) + 12 ≤ 7301550; omega⟩ (c1 := cells + 10) (s1 := slots + 60) (by omega) (by omega) (fun H locs hP hS hz9 hk9 => ?_)
    replace hq := hq.kept (hk9 _ hq.lt hqn)
    clear hz9 hk9
    clear hPt hzt hI
    have hI := hI1
    refine lv_ldc2 (own := RL) (v := 3) hx hb hown (hts _ (List.mem_of_getElem? (i := 5) rfl)) dL_law_424 ?_
    refine l_cgt (x := (k_moss τ (nI ((cel + 1) % 25)) (nI (Y % 4))).toInt64) (y := (3 : Int64)) (X := (k_moss τ (nI ((cel + 1) % 25)) (nI (Y % 4))).toInt) (Y := 3) (tgt := 435) hx hb (t64 _) (by decide) dL_law_427 dL_law_428 (by decide) (fun c9 => absurd c9 ((by omega))) (fun _ => ?_)
    refine lv_iconst (v := nI (1)) hx hb dL_law_431 (by decide) ?_
    refine lv_goto (tgt := 436) hx hb dL_law_432 (by decide) ?_
    refine lv_istore_n (lv' := [(2, .int (nI (1))), (17, .long (lK 3)), (15, .long (σ.2 (30 + (0)))), (14, .int (nI (0))), (12, .long ((σ.1 11 (5 * (cel) + (0))).toInt64)), (11, .int (nI (cel))), (9, .int (nI (Y))), (7, .int (nI (k))), (3, .int (nI (cpN σ 0))), (4, .int (nI (cpN σ 1))), (5, .int (nI (cpN σ 2))), (6, .ref (qo)), (1, .ref (o)), (0, .ref (b))]) hx hb dL_law_436 rfl hl (by decide) rfl (fun ls hl => ?_)
    refine lv_goto (tgt := 843) hx hb dL_law_437 (by decide) ?_
    have hl : lv_has ls 19 [(11, .int (nI (cel))), (9, .int (nI (Y))), (7, .int (nI (k))), (2, .int (nI (1))), (3, .int (nI (cpN (k_moss_s τ (nI ((cel + 1) % 25)) (nI (Y % 4))) 0))), (4, .int (nI (cpN (k_moss_s τ (nI ((cel + 1) % 25)) (nI (Y % 4))) 1))), (5, .int (nI (cpN (k_moss_s τ (nI ((cel + 1) % 25)) (nI (Y % 4))) 2))), (6, .ref (qo)), (1, .ref (o)), (0, .ref (b))] := by
      rw [(hsm.2.1 0).trans (hcn 0), (hsm.2.1 1).trans (hcn 1), (hsm.2.1 2).trans (hcn 2)]
      exact lv_sub hl [5, 6, 7, 0, 8, 9, 10, 11, 12, 13] rfl
    exact W.widen (by omega) (by omega) (kk (k_moss_s τ (nI ((cel + 1) % 25)) (nI (Y % 4))) _ _ _ ls hI (by rw [hsm.1, hmt]; omega) hP hq (fun x hx => by rw [hsm.2.1, hcn] at hx; rw [hsm.2.2, v.1 22 (by decide) (by decide)]; exact hf x hx) hS hl)
  · refine lv_aload_n hx hb dL_law_288 rfl (lv_at hl 9 rfl) ?_
    refine lv_iload hx hb dL_law_289 (lv_at hl 1 rfl) ?_
    refine lv_iconst (v := nI (2)) hx hb dL_law_291 (by decide) ?_
    refine l_read (As := [.ref (o), .int (nI (cel)), .int (nI (2))]) (rest := []) ⟨hx, hb, hml, hown, hts⟩ (rdc2 hl0 hc) (vx_cwSW 3 hts gL_law_L_cellOf rfl rfl rfl (by decide +kernel) ⟨Nat.le_of_ble_eq_true rfl, Nat.le_of_ble_eq_true rfl⟩) hK hZ hN hA hP hS rfl hl.1 rfl (Nat.le_of_ble_eq_true rfl) dL_law_292 ⟨by show (cells + 5) + 2 ≤ 600074; omega, by show (slots + 30) + 12 ≤ 7301550; omega⟩ (c1 := cells + 7) (s1 := slots + 42) (by omega) (by omega) (fun H locs hP hS hz9 hk9 => ?_)
    replace hq := hq.kept (hk9 _ hq.lt hqn)
    clear hz9 hk9
    refine lv_lconst (v := 0) hx hb dL_law_295 (by decide) ?_
    refine l_cne (x := (σ.1 4 (cel)).toInt64) (y := (0 : Int64)) (tgt := 304) hx hb dL_law_296 dL_law_297 (by decide) (fun c296 => ?_) (fun c296 => ?_)
    · refine lv_iconst (v := nI (0)) hx hb dL_law_304 (by decide) ?_
      refine lv_istore (lv' := [(14, .int (nI (0))), (12, .long ((σ.1 11 (5 * (cel) + (0))).toInt64)), (11, .int (nI (cel))), (9, .int (nI (Y))), (7, .int (nI (k))), (2, .int (nI (1))), (3, .int (nI (cpN σ 0))), (4, .int (nI (cpN σ 1))), (5, .int (nI (cpN σ 2))), (6, .ref (qo)), (1, .ref (o)), (0, .ref (b))]) hx hb dL_law_305 hl (by decide) rfl (fun ls hl => ?_)
      refine lv_aload_n hx hb dL_law_307 rfl (lv_at hl 10 rfl) ?_
      refine lv_iconst (v := nI (0)) hx hb dL_law_308 (by decide) ?_
      refine l_read (As := [.ref (o), .int (nI (0))]) (rest := []) ⟨hx, hb, hml, hown, hts⟩ (rdg hl0 (g := 0) (by omega)) (vx_cwSW 2 hts gL_law_L_air rfl rfl rfl (by decide +kernel) ⟨Nat.le_of_ble_eq_true rfl, Nat.le_of_ble_eq_true rfl⟩) hK hZ hN hA hP hS rfl hl.1 rfl (Nat.le_of_ble_eq_true rfl) dL_law_309 ⟨by show (cells + 7) + 1 ≤ 600074; omega, by show (slots + 42) + 6 ≤ 7301550; omega⟩ (c1 := cells + 8) (s1 := slots + 48) (by omega) (by omega) (fun H locs hP hS hz9 hk9 => ?_)
      replace hq := hq.kept (hk9 _ hq.lt hqn)
      clear hz9 hk9
      refine lv_lstore (lv' := [(15, .long (σ.2 (30 + (0)))), (14, .int (nI (0))), (12, .long ((σ.1 11 (5 * (cel) + (0))).toInt64)), (11, .int (nI (cel))), (9, .int (nI (Y))), (7, .int (nI (k))), (2, .int (nI (1))), (3, .int (nI (cpN σ 0))), (4, .int (nI (cpN σ 1))), (5, .int (nI (cpN σ 2))), (6, .ref (qo)), (1, .ref (o)), (0, .ref (b))]) hx hb dL_law_312 hl (by decide) rfl (fun ls hl => ?_)
      refine lv_aload_n hx hb dL_law_314 rfl (lv_at hl 11 rfl) ?_
      refine lv_iload hx hb dL_law_315 (lv_at hl 3 rfl) ?_
      refine l_read (As := [.ref (o), .int (nI (cel))]) (rest := []) ⟨hx, hb, hml, hown, hts⟩ (RQ.no (x := 3) (fun τ v => lc_fire l hl0 G ids tS tE o z τ (nI cel)) (fun τ v => fire_no hc (fun q => by rw [v.1 4 (by decide) (by decide)] at q; exact c296 (z64 q.2))) (by decide)) (vx_cwSW 2 hts gL_law_L_fire rfl rfl rfl (by decide +kernel) ⟨Nat.le_of_ble_eq_true rfl, Nat.le_of_ble_eq_true rfl⟩) hK hZ hN hA hP hS rfl hl.1 rfl (Nat.le_of_ble_eq_true rfl) dL_law_317 ⟨by show (cells + 8) + 2 ≤ 600074; omega, by show (slots + 48) + 12 ≤ 7301550; omega⟩ (c1 := cells + 10) (s1 := slots + 60) (by omega) (by omega) (fun H locs hP hS hz9 hk9 => ?_)
      replace hq := hq.kept (hk9 _ hq.lt hqn)
      clear hz9 hk9
      refine lv_lstore (lv' := [(17, .long (lK 3)), (15, .long (σ.2 (30 + (0)))), (14, .int (nI (0))), (12, .long ((σ.1 11 (5 * (cel) + (0))).toInt64)), (11, .int (nI (cel))), (9, .int (nI (Y))), (7, .int (nI (k))), (2, .int (nI (1))), (3, .int (nI (cpN σ 0))), (4, .int (nI (cpN σ 1))), (5, .int (nI (cpN σ 2))), (6, .ref (qo)), (1, .ref (o)), (0, .ref (b))]) hx hb dL_law_320 hl (by decide) rfl (fun ls hl => ?_)
      refine lv_iload hx hb dL_law_322 (lv_at hl 2 rfl) ?_
      refine n_if_eq (x := 0) (tgt := 390) hx hb (by decide) dL_law_324 (by decide) (fun _ => ?_) (fun c9 => absurd (by decide) c9)
      refine lv_lload hx hb dL_law_390 (lv_at hl 0 rfl) ?_
      refine lv_ldc2 (own := RL) (v := -9000000000000000003) hx hb hown (hts _ (List.mem_of_getElem? (i := 7) rfl)) dL_law_392 ?_
      refine l_cne (x := lK 3) (y := (-9000000000000000003 : Int64)) (tgt := 403) hx hb dL_law_395 dL_law_396 (by decide) (fun c9 => absurd (rfl) c9) (fun _ => ?_)
      refine lv_iconst (v := nI (1)) hx hb dL_law_399 (by decide) ?_
      refine lv_goto (tgt := 404) hx hb dL_law_400 (by decide) ?_
      refine lv_istore_n (lv' := [(2, .int (nI (1))), (17, .long (lK 3)), (15, .long (σ.2 (30 + (0)))), (14, .int (nI (0))), (12, .long ((σ.1 11 (5 * (cel) + (0))).toInt64)), (11, .int (nI (cel))), (9, .int (nI (Y))), (7, .int (nI (k))), (3, .int (nI (cpN σ 0))), (4, .int (nI (cpN σ 1))), (5, .int (nI (cpN σ 2))), (6, .ref (qo)), (1, .ref (o)), (0, .ref (b))]) hx hb dL_law_404 rfl hl (by decide) rfl (fun ls hl => ?_)
      refine lv_iload_n hx hb dL_law_405 rfl (lv_at hl 0 rfl) ?_
      refine n_if_eq (x := 1) (tgt := 435) hx hb (by decide) dL_law_406 (by decide) (fun c9 => absurd c9 (by decide)) (fun _ => ?_)
      refine lv_aload_n hx hb dL_law_409 rfl (lv_at hl 12 rfl) ?_
      refine lv_iload hx hb dL_law_410 (lv_at hl 5 rfl) ?_
      refine lv_iconst (v := nI (1)) hx hb dL_law_412 (by decide) ?_
      refine n_add (x := cel) (y := 1) hx hb dL_law_413 ?_
      refine lv_bipush (v := nI (25)) hx hb dL_law_414 (by decide) ?_
      refine n_rem (x := (cel) + (1)) (y := 25) hx hb (by omega) (by omega) (by omega) dL_law_416 ?_
      refine lv_iload hx hb dL_law_417 (lv_at hl 6 rfl) ?_
      refine lv_iconst (v := nI (4)) hx hb dL_law_419 (by decide) ?_
      refine n_rem (x := Y) (y := 4) hx hb (by omega) (by omega) (by omega) dL_law_420 ?_
      obtain ⟨⟨τ, v, hPt⟩, hzt⟩ := hP
      have hIt := v.iv hI
      have hmt := v.mon
      have hcn := v.cn
      obtain ⟨ex, hI1, hsm, hm3⟩ := IV_moss hIt (c := (cel + 1) % 25) (v := Y % 4) (by omega) (by omega)
      refine l_tell (As := [.ref (o), .int (nI (((cel) + (1)) % (25))), .int (nI ((Y) % (4)))]) (rest := []) ⟨hx, hb, hml, hown, hts⟩ (lc_moss l hl0 G ids tS tE o z τ (nI ((cel + 1) % 25)) (nI (Y % 4))) (ex) (vx_cwSW 3 hts gL_law_L_moss rfl rfl rfl (by decide +kernel) ⟨Nat.le_of_ble_eq_true rfl, Nat.le_of_ble_eq_true rfl⟩) hK hZ hN hA hPt hzt hS rfl hl.1 rfl (Nat.le_of_ble_eq_true rfl) dL_law_421 ⟨by show (cells + 10) + 2 ≤ 600074; omega, by show (slots + 60) + 12 ≤ 7301550; omega⟩ (c1 := cells + 12) (s1 := slots + 72) (by omega) (by omega) (fun H locs hP hS hz9 hk9 => ?_)
      replace hq := hq.kept (hk9 _ hq.lt hqn)
      clear hz9 hk9
      clear hPt hzt hI
      have hI := hI1
      refine lv_ldc2 (own := RL) (v := 3) hx hb hown (hts _ (List.mem_of_getElem? (i := 5) rfl)) dL_law_424 ?_
      refine l_cgt (x := (k_moss τ (nI ((cel + 1) % 25)) (nI (Y % 4))).toInt64) (y := (3 : Int64)) (X := (k_moss τ (nI ((cel + 1) % 25)) (nI (Y % 4))).toInt) (Y := 3) (tgt := 435) hx hb (t64 _) (by decide) dL_law_427 dL_law_428 (by decide) (fun c9 => absurd c9 ((by omega))) (fun _ => ?_)
      refine lv_iconst (v := nI (1)) hx hb dL_law_431 (by decide) ?_
      refine lv_goto (tgt := 436) hx hb dL_law_432 (by decide) ?_
      refine lv_istore_n (lv' := [(2, .int (nI (1))), (17, .long (lK 3)), (15, .long (σ.2 (30 + (0)))), (14, .int (nI (0))), (12, .long ((σ.1 11 (5 * (cel) + (0))).toInt64)), (11, .int (nI (cel))), (9, .int (nI (Y))), (7, .int (nI (k))), (3, .int (nI (cpN σ 0))), (4, .int (nI (cpN σ 1))), (5, .int (nI (cpN σ 2))), (6, .ref (qo)), (1, .ref (o)), (0, .ref (b))]) hx hb dL_law_436 rfl hl (by decide) rfl (fun ls hl => ?_)
      refine lv_goto (tgt := 843) hx hb dL_law_437 (by decide) ?_
      have hl : lv_has ls 19 [(11, .int (nI (cel))), (9, .int (nI (Y))), (7, .int (nI (k))), (2, .int (nI (1))), (3, .int (nI (cpN (k_moss_s τ (nI ((cel + 1) % 25)) (nI (Y % 4))) 0))), (4, .int (nI (cpN (k_moss_s τ (nI ((cel + 1) % 25)) (nI (Y % 4))) 1))), (5, .int (nI (cpN (k_moss_s τ (nI ((cel + 1) % 25)) (nI (Y % 4))) 2))), (6, .ref (qo)), (1, .ref (o)), (0, .ref (b))] := by
        rw [(hsm.2.1 0).trans (hcn 0), (hsm.2.1 1).trans (hcn 1), (hsm.2.1 2).trans (hcn 2)]
        exact lv_sub hl [5, 6, 7, 0, 8, 9, 10, 11, 12, 13] rfl
      exact W.widen (by omega) (by omega) (kk (k_moss_s τ (nI ((cel + 1) % 25)) (nI (Y % 4))) _ _ _ ls hI (by rw [hsm.1, hmt]; omega) hP hq (fun x hx => by rw [hsm.2.1, hcn] at hx; rw [hsm.2.2, v.1 22 (by decide) (by decide)]; exact hf x hx) hS hl)
    · refine lv_iconst (v := nI (1)) hx hb dL_law_300 (by decide) ?_
      refine lv_goto (tgt := 305) hx hb dL_law_301 (by decide) ?_
      refine lv_istore (lv' := [(14, .int (nI (1))), (12, .long ((σ.1 11 (5 * (cel) + (0))).toInt64)), (11, .int (nI (cel))), (9, .int (nI (Y))), (7, .int (nI (k))), (2, .int (nI (1))), (3, .int (nI (cpN σ 0))), (4, .int (nI (cpN σ 1))), (5, .int (nI (cpN σ 2))), (6, .ref (qo)), (1, .ref (o)), (0, .ref (b))]) hx hb dL_law_305 hl (by decide) rfl (fun ls hl => ?_)
      refine lv_aload_n hx hb dL_law_307 rfl (lv_at hl 10 rfl) ?_
      refine lv_iconst (v := nI (0)) hx hb dL_law_308 (by decide) ?_
      refine l_read (As := [.ref (o), .int (nI (0))]) (rest := []) ⟨hx, hb, hml, hown, hts⟩ (rdg hl0 (g := 0) (by omega)) (vx_cwSW 2 hts gL_law_L_air rfl rfl rfl (by decide +kernel) ⟨Nat.le_of_ble_eq_true rfl, Nat.le_of_ble_eq_true rfl⟩) hK hZ hN hA hP hS rfl hl.1 rfl (Nat.le_of_ble_eq_true rfl) dL_law_309 ⟨by show (cells + 7) + 1 ≤ 600074; omega, by show (slots + 42) + 6 ≤ 7301550; omega⟩ (c1 := cells + 8) (s1 := slots + 48) (by omega) (by omega) (fun H locs hP hS hz9 hk9 => ?_)
      replace hq := hq.kept (hk9 _ hq.lt hqn)
      clear hz9 hk9
      refine lv_lstore (lv' := [(15, .long (σ.2 (30 + (0)))), (14, .int (nI (1))), (12, .long ((σ.1 11 (5 * (cel) + (0))).toInt64)), (11, .int (nI (cel))), (9, .int (nI (Y))), (7, .int (nI (k))), (2, .int (nI (1))), (3, .int (nI (cpN σ 0))), (4, .int (nI (cpN σ 1))), (5, .int (nI (cpN σ 2))), (6, .ref (qo)), (1, .ref (o)), (0, .ref (b))]) hx hb dL_law_312 hl (by decide) rfl (fun ls hl => ?_)
      refine lv_aload_n hx hb dL_law_314 rfl (lv_at hl 11 rfl) ?_
      refine lv_iload hx hb dL_law_315 (lv_at hl 3 rfl) ?_
      obtain ⟨⟨τ, v, hPt⟩, hzt⟩ := hP
      have hIt := v.iv hI
      have hmt := v.mon
      have hcn := v.cn
      have hI0 := hI
      obtain ⟨ex, hI1, hsm, hkv, h11, h30, h5⟩ := IV_fire hIt (c := cel) hc (by rw [v.1 3 (by decide) (by decide)]; omega) (by rw [v.1 4 (by decide) (by decide)]; exact y64 c296)
      refine l_tell (As := [.ref (o), .int (nI (cel))]) (rest := []) ⟨hx, hb, hml, hown, hts⟩ (lc_fire l hl0 G ids tS tE o z τ (nI cel)) (ex) (vx_cwSW 2 hts gL_law_L_fire rfl rfl rfl (by decide +kernel) ⟨Nat.le_of_ble_eq_true rfl, Nat.le_of_ble_eq_true rfl⟩) hK hZ hN hA hPt hzt hS rfl hl.1 rfl (Nat.le_of_ble_eq_true rfl) dL_law_317 ⟨by show (cells + 8) + 2 ≤ 600074; omega, by show (slots + 48) + 12 ≤ 7301550; omega⟩ (c1 := cells + 10) (s1 := slots + 60) (by omega) (by omega) (fun H locs hP hS hz9 hk9 => ?_)
      replace hq := hq.kept (hk9 _ hq.lt hqn)
      clear hz9 hk9
      clear hPt hzt hI
      have hI := hI1
      refine lv_lstore (lv' := [(17, .long ((k_fire τ (nI cel)).toInt64)), (15, .long (σ.2 (30 + (0)))), (14, .int (nI (1))), (12, .long ((σ.1 11 (5 * (cel) + (0))).toInt64)), (11, .int (nI (cel))), (9, .int (nI (Y))), (7, .int (nI (k))), (2, .int (nI (1))), (3, .int (nI (cpN σ 0))), (4, .int (nI (cpN σ 1))), (5, .int (nI (cpN σ 2))), (6, .ref (qo)), (1, .ref (o)), (0, .ref (b))]) hx hb dL_law_320 hl (by decide) rfl (fun ls hl => ?_)
      refine lv_iload hx hb dL_law_322 (lv_at hl 2 rfl) ?_
      refine n_if_eq (x := 1) (tgt := 390) hx hb (by decide) dL_law_324 (by decide) (fun c9 => absurd c9 (by decide)) (fun _ => ?_)
      refine lv_lload hx hb dL_law_327 (lv_at hl 0 rfl) ?_
      refine lv_lload hx hb dL_law_329 (lv_at hl 3 rfl) ?_
      refine lv_ldc2 (own := RL) (v := 2) hx hb hown (hts _ (List.mem_of_getElem? (i := 6) rfl)) dL_law_331 ?_
      refine lv_ldiv hx hb dL_law_334 (by decide) ?_
      refine l_cne (x := (k_fire τ (nI cel)).toInt64) (y := ((σ.1 11 (5 * (cel) + (0))).toInt64) / ((2 : Int64))) (tgt := 386) hx hb dL_law_335 dL_law_336 (by decide) (fun c9 => absurd ((by rw [hkv, v.1 11 (by decide) (by decide)]; exact half64 (hI0.bl _ (by omega)).2.2.2.1)) c9) (fun _ => ?_)
      refine lv_aload_n hx hb dL_law_339 rfl (lv_at hl 12 rfl) ?_
      refine lv_iload hx hb dL_law_340 (lv_at hl 4 rfl) ?_
      refine lv_iconst (v := nI (0)) hx hb dL_law_342 (by decide) ?_
      refine lv_iconst (v := nI (4)) hx hb dL_law_343 (by decide) ?_
      refine l_read (As := [.ref (o), .int (nI (cel)), .int (nI (0)), .int (nI (4))]) (rest := []) ⟨hx, hb, hml, hown, hts⟩ (rdl4 hl0 hc (by omega)) (vx_cwSW 4 hts gL_law_L_layerOf rfl rfl rfl (by decide +kernel) ⟨Nat.le_of_ble_eq_true rfl, Nat.le_of_ble_eq_true rfl⟩) hK hZ hN hA hP hS rfl hl.1 rfl (Nat.le_of_ble_eq_true rfl) dL_law_344 ⟨by show (cells + 10) + 3 ≤ 600074; omega, by show (slots + 60) + 18 ≤ 7301550; omega⟩ (c1 := cells + 13) (s1 := slots + 78) (by omega) (by omega) (fun H locs hP hS hz9 hk9 => ?_)
      replace hq := hq.kept (hk9 _ hq.lt hqn)
      clear hz9 hk9
      refine lv_lload hx hb dL_law_347 (lv_at hl 3 rfl) ?_
      refine lv_lload hx hb dL_law_349 (lv_at hl 0 rfl) ?_
      refine lv_lsub hx hb dL_law_351 ?_
      refine l_cne (x := ((k_fire_s τ (nI cel)).1 11 (5 * (cel) + (0))).toInt64) (y := ((σ.1 11 (5 * (cel) + (0))).toInt64) - ((k_fire τ (nI cel)).toInt64)) (tgt := 386) hx hb dL_law_352 dL_law_353 (by decide) (fun c9 => absurd ((by rw [show 5 * cel + 0 = 5 * cel from rfl, h11, hkv, v.1 11 (by decide) (by decide)]; exact left64 (hI0.bl _ (by omega)).2.2.2.1)) c9) (fun _ => ?_)
      refine lv_aload_n hx hb dL_law_356 rfl (lv_at hl 12 rfl) ?_
      refine lv_iconst (v := nI (0)) hx hb dL_law_357 (by decide) ?_
      refine l_read (As := [.ref (o), .int (nI (0))]) (rest := []) ⟨hx, hb, hml, hown, hts⟩ (rdg hl0 (g := 0) (by omega)) (vx_cwSW 2 hts gL_law_L_air rfl rfl rfl (by decide +kernel) ⟨Nat.le_of_ble_eq_true rfl, Nat.le_of_ble_eq_true rfl⟩) hK hZ hN hA hP hS rfl hl.1 rfl (Nat.le_of_ble_eq_true rfl) dL_law_358 ⟨by show (cells + 13) + 1 ≤ 600074; omega, by show (slots + 78) + 6 ≤ 7301550; omega⟩ (c1 := cells + 14) (s1 := slots + 84) (by omega) (by omega) (fun H locs hP hS hz9 hk9 => ?_)
      replace hq := hq.kept (hk9 _ hq.lt hqn)
      clear hz9 hk9
      refine lv_lload hx hb dL_law_361 (lv_at hl 1 rfl) ?_
      refine lv_lload hx hb dL_law_363 (lv_at hl 0 rfl) ?_
      refine lv_ladd hx hb dL_law_365 ?_
      refine l_cne (x := (k_fire_s τ (nI cel)).2 (30 + (0))) (y := (σ.2 (30 + (0))) + ((k_fire τ (nI cel)).toInt64)) (tgt := 386) hx hb dL_law_366 dL_law_367 (by decide) (fun c9 => absurd ((by rw [show 30 + 0 = 30 from rfl, h30, hkv, v.2])) c9) (fun _ => ?_)
      refine lv_aload_n hx hb dL_law_370 rfl (lv_at hl 12 rfl) ?_
      refine lv_iload hx hb dL_law_371 (lv_at hl 4 rfl) ?_
      refine lv_iconst (v := nI (3)) hx hb dL_law_373 (by decide) ?_
      refine l_read (As := [.ref (o), .int (nI (cel)), .int (nI (3))]) (rest := []) ⟨hx, hb, hml, hown, hts⟩ (rdc3 hl0 hc) (vx_cwSW 3 hts gL_law_L_cellOf rfl rfl rfl (by decide +kernel) ⟨Nat.le_of_ble_eq_true rfl, Nat.le_of_ble_eq_true rfl⟩) hK hZ hN hA hP hS rfl hl.1 rfl (Nat.le_of_ble_eq_true rfl) dL_law_374 ⟨by show (cells + 14) + 2 ≤ 600074; omega, by show (slots + 84) + 12 ≤ 7301550; omega⟩ (c1 := cells + 16) (s1 := slots + 96) (by omega) (by omega) (fun H locs hP hS hz9 hk9 => ?_)
      replace hq := hq.kept (hk9 _ hq.lt hqn)
      clear hz9 hk9
      refine lv_lconst (v := 0) hx hb dL_law_377 (by decide) ?_
      refine l_cne (x := ((k_fire_s τ (nI cel)).1 5 (cel)).toInt64) (y := (0 : Int64)) (tgt := 386) hx hb dL_law_378 dL_law_379 (by decide) (fun c9 => absurd ((by rw [h5]; decide)) c9) (fun _ => ?_)
      refine lv_iconst (v := nI (1)) hx hb dL_law_382 (by decide) ?_
      refine lv_goto (tgt := 404) hx hb dL_law_383 (by decide) ?_
      refine lv_istore_n (lv' := [(2, .int (nI (1))), (17, .long ((k_fire τ (nI cel)).toInt64)), (15, .long (σ.2 (30 + (0)))), (14, .int (nI (1))), (12, .long ((σ.1 11 (5 * (cel) + (0))).toInt64)), (11, .int (nI (cel))), (9, .int (nI (Y))), (7, .int (nI (k))), (3, .int (nI (cpN σ 0))), (4, .int (nI (cpN σ 1))), (5, .int (nI (cpN σ 2))), (6, .ref (qo)), (1, .ref (o)), (0, .ref (b))]) hx hb dL_law_404 rfl hl (by decide) rfl (fun ls hl => ?_)
      refine lv_iload_n hx hb dL_law_405 rfl (lv_at hl 0 rfl) ?_
      refine n_if_eq (x := 1) (tgt := 435) hx hb (by decide) dL_law_406 (by decide) (fun c9 => absurd c9 (by decide)) (fun _ => ?_)
      refine lv_aload_n hx hb dL_law_409 rfl (lv_at hl 12 rfl) ?_
      refine lv_iload hx hb dL_law_410 (lv_at hl 5 rfl) ?_
      refine lv_iconst (v := nI (1)) hx hb dL_law_412 (by decide) ?_
      refine n_add (x := cel) (y := 1) hx hb dL_law_413 ?_
      refine lv_bipush (v := nI (25)) hx hb dL_law_414 (by decide) ?_
      refine n_rem (x := (cel) + (1)) (y := 25) hx hb (by omega) (by omega) (by omega) dL_law_416 ?_
      refine lv_iload hx hb dL_law_417 (lv_at hl 6 rfl) ?_
      refine lv_iconst (v := nI (4)) hx hb dL_law_419 (by decide) ?_
      refine n_rem (x := Y) (y := 4) hx hb (by omega) (by omega) (by omega) dL_law_420 ?_
      have hE0 : cpN (k_fire_s τ (nI cel)) 0 = cpN σ 0 := (hsm.2.1 0).trans (hcn 0)
      have hE1 : cpN (k_fire_s τ (nI cel)) 1 = cpN σ 1 := (hsm.2.1 1).trans (hcn 1)
      have hE2 : cpN (k_fire_s τ (nI cel)) 2 = cpN σ 2 := (hsm.2.1 2).trans (hcn 2)
      have hM0 : mon (k_fire_s τ (nI cel)) ≤ mon σ + 4 := by rw [hsm.1, hmt]; omega
      have hF0 : ∀ x, x < cpN (k_fire_s τ (nI cel)) 1 → f x = (k_fire_s τ (nI cel)).1 22 x := fun x hx => by rw [hsm.2.1, hcn] at hx; rw [hsm.2.2, v.1 22 (by decide) (by decide)]; exact hf x hx
      clear ex hsm hcn hmt hIt hkv h11 h30 h5
      generalize (k_fire_s τ (nI cel)) = σ9 at hP hI hE0 hE1 hE2 hM0 hF0
      clear v
      obtain ⟨⟨τ2, v2, hPt⟩, hzt⟩ := hP
      have hIt := v2.iv hI
      have hmt := v2.mon
      have hcn := v2.cn
      obtain ⟨ex, hI1, hsm, hm3⟩ := IV_moss hIt (c := (cel + 1) % 25) (v := Y % 4) (by omega) (by omega)
      refine l_tell (As := [.ref (o), .int (nI (((cel) + (1)) % (25))), .int (nI ((Y) % (4)))]) (rest := []) ⟨hx, hb, hml, hown, hts⟩ (lc_moss l hl0 G ids tS tE o z τ2 (nI ((cel + 1) % 25)) (nI (Y % 4))) (ex) (vx_cwSW 3 hts gL_law_L_moss rfl rfl rfl (by decide +kernel) ⟨Nat.le_of_ble_eq_true rfl, Nat.le_of_ble_eq_true rfl⟩) hK hZ hN hA hPt hzt hS rfl hl.1 rfl (Nat.le_of_ble_eq_true rfl) dL_law_421 ⟨by show (cells + 16) + 2 ≤ 600074; omega, by show (slots + 96) + 12 ≤ 7301550; omega⟩ (c1 := cells + 18) (s1 := slots + 108) (by omega) (by omega) (fun H locs hP hS hz9 hk9 => ?_)
      replace hq := hq.kept (hk9 _ hq.lt hqn)
      clear hz9 hk9
      clear hPt hzt hI
      have hI := hI1
      refine lv_ldc2 (own := RL) (v := 3) hx hb hown (hts _ (List.mem_of_getElem? (i := 5) rfl)) dL_law_424 ?_
      refine l_cgt (x := (k_moss τ2 (nI ((cel + 1) % 25)) (nI (Y % 4))).toInt64) (y := (3 : Int64)) (X := (k_moss τ2 (nI ((cel + 1) % 25)) (nI (Y % 4))).toInt) (Y := 3) (tgt := 435) hx hb (t64 _) (by decide) dL_law_427 dL_law_428 (by decide) (fun c9 => absurd c9 ((by omega))) (fun _ => ?_)
      refine lv_iconst (v := nI (1)) hx hb dL_law_431 (by decide) ?_
      refine lv_goto (tgt := 436) hx hb dL_law_432 (by decide) ?_
      refine lv_istore_n (lv' := [(2, .int (nI (1))), (17, .long ((k_fire τ (nI cel)).toInt64)), (15, .long (σ.2 (30 + (0)))), (14, .int (nI (1))), (12, .long ((σ.1 11 (5 * (cel) + (0))).toInt64)), (11, .int (nI (cel))), (9, .int (nI (Y))), (7, .int (nI (k))), (3, .int (nI (cpN σ 0))), (4, .int (nI (cpN σ 1))), (5, .int (nI (cpN σ 2))), (6, .ref (qo)), (1, .ref (o)), (0, .ref (b))]) hx hb dL_law_436 rfl hl (by decide) rfl (fun ls hl => ?_)
      refine lv_goto (tgt := 843) hx hb dL_law_437 (by decide) ?_
      have hl : lv_has ls 19 [(11, .int (nI (cel))), (9, .int (nI (Y))), (7, .int (nI (k))), (2, .int (nI (1))), (3, .int (nI (cpN (k_moss_s τ2 (nI ((cel + 1) % 25)) (nI (Y % 4))) 0))), (4, .int (nI (cpN (k_moss_s τ2 (nI ((cel + 1) % 25)) (nI (Y % 4))) 1))), (5, .int (nI (cpN (k_moss_s τ2 (nI ((cel + 1) % 25)) (nI (Y % 4))) 2))), (6, .ref (qo)), (1, .ref (o)), (0, .ref (b))] := by
        rw [((hsm.2.1 0).trans (hcn 0)).trans (hE0), ((hsm.2.1 1).trans (hcn 1)).trans (hE1), ((hsm.2.1 2).trans (hcn 2)).trans (hE2)]
        exact lv_sub hl [5, 6, 7, 0, 8, 9, 10, 11, 12, 13] rfl
      exact W.widen (by omega) (by omega) (kk (k_moss_s τ2 (nI ((cel + 1) % 25)) (nI (Y % 4))) _ _ _ ls hI (by rw [hsm.1, hmt]; omega) hP hq (fun x hx => by rw [hsm.2.1, hcn] at hx; rw [hsm.2.2, v2.1 22 (by decide) (by decide)]; exact hF0 x hx) hS hl)
set_option maxHeartbeats 4000000 in
set_option maxRecDepth 100000 in
theorem law_breach {p : Program} {l : Launch} {e : Env} {s : State} {m : MethodId} {below : List Frame} {meth : Method} {c : Code} {b L : Nat} {xs : Nat → Int32} {G : va_G} {ids : Nat → ClassId} {tS tE o qo z : Nat} (C0 : LX p l s m c b L xs G ids tS tE o qo z) {Q : State → Prop} {cells slots : Nat} (hcell : cells + 5000 ≤ 600074) (hslot : slots + 40000 ≤ 7301550) {σ : Sg} {f : Nat → Int32} {H : Heap} {locs : List Loc} {ls : Array Slot} (hI : IV σ) (hP : vP G ids o z tE σ H) (hq : sP G ids qo f H) (hf : ∀ x, x < cpN σ 1 → f x = σ.1 22 x) (hS : va_S (fun q => s.heap.size ≤ q) s.heap H locs) {k cel Y : Nat} (hc : cel < 25) (hY : Y < 2 ^ 31) {M9 : Nat} (hM9 : mon σ + 4 ≤ M9) (hl : lv_has ls 19 [(11, .int (nI (cel))), (9, .int (nI (Y))), (7, .int (nI (k))), (2, .int (nI (1))), (3, .int (nI (cpN σ 0))), (4, .int (nI (cpN σ 1))), (5, .int (nI (cpN σ 2))), (6, .ref (qo)), (1, .ref (o)), (0, .ref (b))])
    (kk : ∀ (σ : Sg) (f : Nat → Int32) (H : Heap) (locs : List Loc) (ls : Array Slot), IV σ → mon σ ≤ M9 → vP G ids o z tE σ H → sP G ids qo f H → (∀ x, x < cpN σ 1 → f x = σ.1 22 x) → va_S (fun q => s.heap.size ≤ q) s.heap H locs → lv_has ls 19 [(11, .int (nI (cel))), (9, .int (nI (Y))), (7, .int (nI (k))), (2, .int (nI (1))), (3, .int (nI (cpN σ 0))), (4, .int (nI (cpN σ 1))), (5, .int (nI (cpN σ 2))), (6, .ref (qo)), (1, .ref (o)), (0, .ref (b))] → W p l e room_1 s m #[Value.ref b] below meth c H locs (cells + 60) (slots + 4000) Q (F0 m 843 ls [])) : W p l e room_1 s m #[Value.ref b] below meth c H locs cells slots Q (F0 m 447 ls []) := by
  obtain ⟨hx, hb, hml, hown, hts, hX, hbl, hl0, hK, hZ, hN, ho1, ho2, ho3, hL⟩ := id C0
  have hA : ∀ q, cpG o z q → (fun q : Nat => s.heap.size ≤ q) q := fun q h => by
    show s.heap.size ≤ q
    rcases h with h | h
    · omega
    · omega
  have hqn : ¬ cpG o z qo := by
    unfold cpG
    omega
  have hmo := hI.mo.2
  have hn0 := hI.n0.2
  have hn1 := hI.n1.2
  have hn2 := hI.n2.2
  refine w_named (fun WW hWW => ?_)
  refine lv_aload_n hx hb dL_law_447 rfl (lv_at hl 8 rfl) ?_
  refine lv_iload hx hb dL_law_448 (lv_at hl 0 rfl) ?_
  refine lv_iconst (v := nI (1)) hx hb dL_law_450 (by decide) ?_
  refine l_read (As := [.ref (o), .int (nI (cel)), .int (nI (1))]) (rest := []) ⟨hx, hb, hml, hown, hts⟩ (rdc1 hl0 hc) (vx_cwSW 3 hts gL_law_L_cellOf rfl rfl rfl (by decide +kernel) ⟨Nat.le_of_ble_eq_true rfl, Nat.le_of_ble_eq_true rfl⟩) hK hZ hN hA hP hS rfl hl.1 rfl (Nat.le_of_ble_eq_true rfl) dL_law_451 ⟨by show (cells) + 2 ≤ 600074; omega, by show (slots) + 12 ≤ 7301550; omega⟩ (c1 := cells + 2) (s1 := slots + 12) (by omega) (by omega) (fun H locs hP hS hz9 hk9 => ?_)
  replace hq := hq.kept (hk9 _ hq.lt hqn)
  clear hz9 hk9
  refine lv_lstore (lv' := [(12, .long ((σ.1 3 (cel)).toInt64)), (11, .int (nI (cel))), (9, .int (nI (Y))), (7, .int (nI (k))), (2, .int (nI (1))), (3, .int (nI (cpN σ 0))), (4, .int (nI (cpN σ 1))), (5, .int (nI (cpN σ 2))), (6, .ref (qo)), (1, .ref (o)), (0, .ref (b))]) hx hb dL_law_454 hl (by decide) rfl (fun ls hl => ?_)
  refine lv_aload_n hx hb dL_law_456 rfl (lv_at hl 9 rfl) ?_
  refine lv_iconst (v := nI (1)) hx hb dL_law_457 (by decide) ?_
  refine lv_iconst (v := nI (2)) hx hb dL_law_458 (by decide) ?_
  refine l_read (As := [.ref (o), .int (nI (1)), .int (nI (2))]) (rest := []) ⟨hx, hb, hml, hown, hts⟩ (rdb2 hl0 hI (k := 1) (by omega)) (vx_cwSW 3 hts gL_law_L_balance rfl rfl rfl (by decide +kernel) ⟨Nat.le_of_ble_eq_true rfl, Nat.le_of_ble_eq_true rfl⟩) hK hZ hN hA hP hS rfl hl.1 rfl (Nat.le_of_ble_eq_true rfl) dL_law_459 ⟨by show (cells + 2) + 2 ≤ 600074; omega, by show (slots + 12) + 12 ≤ 7301550; omega⟩ (c1 := cells + 4) (s1 := slots + 24) (by omega) (by omega) (fun H locs hP hS hz9 hk9 => ?_)
  replace hq := hq.kept (hk9 _ hq.lt hqn)
  clear hz9 hk9
  refine lv_lstore (lv' := [(14, .long (bG σ (1))), (12, .long ((σ.1 3 (cel)).toInt64)), (11, .int (nI (cel))), (9, .int (nI (Y))), (7, .int (nI (k))), (2, .int (nI (1))), (3, .int (nI (cpN σ 0))), (4, .int (nI (cpN σ 1))), (5, .int (nI (cpN σ 2))), (6, .ref (qo)), (1, .ref (o)), (0, .ref (b))]) hx hb dL_law_462 hl (by decide) rfl (fun ls hl => ?_)
  by_cases c464 : (σ.1 3 cel).toInt ≤ 0
  · refine lv_aload_n hx hb dL_law_464 rfl (lv_at hl 10 rfl) ?_
    refine lv_iload hx hb dL_law_465 (lv_at hl 2 rfl) ?_
    refine l_read (As := [.ref (o), .int (nI (cel))]) (rest := []) ⟨hx, hb, hml, hown, hts⟩ (RQ.no (x := 3) (fun τ v => lc_breach l hl0 G ids tS tE o z τ (nI cel)) (fun τ v => breach_no hc (by rw [v.1 3 (by decide) (by decide)]; exact c464)) (by decide)) (vx_cwSW 2 hts gL_law_L_breach rfl rfl rfl (by decide +kernel) ⟨Nat.le_of_ble_eq_true rfl, Nat.le_of_ble_eq_true rfl⟩) hK hZ hN hA hP hS rfl hl.1 rfl (Nat.le_of_ble_eq_true rfl) dL_law_467 ⟨by show (cells + 4) + 2 ≤ 600074; omega, by show (slots + 24) + 12 ≤ 7301550; omega⟩ (c1 := cells + 6) (s1 := slots + 36) (by omega) (by omega) (fun H locs hP hS hz9 hk9 => ?_)
    replace hq := hq.kept (hk9 _ hq.lt hqn)
    clear hz9 hk9
    refine lv_lstore (lv' := [(16, .long (lK 3)), (14, .long (bG σ (1))), (12, .long ((σ.1 3 (cel)).toInt64)), (11, .int (nI (cel))), (9, .int (nI (Y))), (7, .int (nI (k))), (2, .int (nI (1))), (3, .int (nI (cpN σ 0))), (4, .int (nI (cpN σ 1))), (5, .int (nI (cpN σ 2))), (6, .ref (qo)), (1, .ref (o)), (0, .ref (b))]) hx hb dL_law_470 hl (by decide) rfl (fun ls hl => ?_)
    refine lv_lload hx hb dL_law_472 (lv_at hl 2 rfl) ?_
    refine lv_lconst (v := 0) hx hb dL_law_474 (by decide) ?_
    refine l_cne (x := (σ.1 3 (cel)).toInt64) (y := (0 : Int64)) (tgt := 496) hx hb dL_law_475 dL_law_476 (by decide) (fun c9 => absurd (z64 (by have q := hI.bw cel hc; omega)) c9) (fun _ => ?_)
    refine lv_lload hx hb dL_law_479 (lv_at hl 0 rfl) ?_
    refine lv_ldc2 (own := RL) (v := -9000000000000000003) hx hb hown (hts _ (List.mem_of_getElem? (i := 7) rfl)) dL_law_481 ?_
    refine l_cne (x := lK 3) (y := (-9000000000000000003 : Int64)) (tgt := 492) hx hb dL_law_484 dL_law_485 (by decide) (fun c9 => absurd (rfl) c9) (fun _ => ?_)
    refine lv_iconst (v := nI (1)) hx hb dL_law_488 (by decide) ?_
    refine lv_goto (tgt := 536) hx hb dL_law_489 (by decide) ?_
    refine lv_istore_n (lv' := [(2, .int (nI (1))), (16, .long (lK 3)), (14, .long (bG σ (1))), (12, .long ((σ.1 3 (cel)).toInt64)), (11, .int (nI (cel))), (9, .int (nI (Y))), (7, .int (nI (k))), (3, .int (nI (cpN σ 0))), (4, .int (nI (cpN σ 1))), (5, .int (nI (cpN σ 2))), (6, .ref (qo)), (1, .ref (o)), (0, .ref (b))]) hx hb dL_law_536 rfl hl (by decide) rfl (fun ls hl => ?_)
    refine lv_goto (tgt := 843) hx hb dL_law_537 (by decide) ?_
    have hl : lv_has ls 19 [(11, .int (nI (cel))), (9, .int (nI (Y))), (7, .int (nI (k))), (2, .int (nI (1))), (3, .int (nI (cpN σ 0))), (4, .int (nI (cpN σ 1))), (5, .int (nI (cpN σ 2))), (6, .ref (qo)), (1, .ref (o)), (0, .ref (b))] := by
      exact lv_sub hl [4, 5, 6, 0, 7, 8, 9, 10, 11, 12] rfl
    exact W.widen (by omega) (by omega) (kk σ _ _ _ ls hI (by omega) hP hq hf hS hl)
  · refine lv_aload_n hx hb dL_law_464 rfl (lv_at hl 10 rfl) ?_
    refine lv_iload hx hb dL_law_465 (lv_at hl 2 rfl) ?_
    obtain ⟨⟨τ, v, hPt⟩, hzt⟩ := hP
    have hIt := v.iv hI
    have hmt := v.mon
    have hcn := v.cn
    have hI0 := hI
    obtain ⟨ex, hI1, hsm, hle, h3, h29⟩ := IV_breach hIt (c := cel) hc (by rw [v.1 3 (by decide) (by decide)]; exact c464)
    rw [v.1 3 (by decide) (by decide)] at hle
    refine l_tell (As := [.ref (o), .int (nI (cel))]) (rest := []) ⟨hx, hb, hml, hown, hts⟩ (lc_breach l hl0 G ids tS tE o z τ (nI cel)) (ex) (vx_cwSW 2 hts gL_law_L_breach rfl rfl rfl (by decide +kernel) ⟨Nat.le_of_ble_eq_true rfl, Nat.le_of_ble_eq_true rfl⟩) hK hZ hN hA hPt hzt hS rfl hl.1 rfl (Nat.le_of_ble_eq_true rfl) dL_law_467 ⟨by show (cells + 4) + 2 ≤ 600074; omega, by show (slots + 24) + 12 ≤ 7301550; omega⟩ (c1 := cells + 6) (s1 := slots + 36) (by omega) (by omega) (fun H locs hP hS hz9 hk9 => ?_)
    replace hq := hq.kept (hk9 _ hq.lt hqn)
    clear hz9 hk9
    clear hPt hzt hI
    have hI := hI1
    refine lv_lstore (lv' := [(16, .long ((k_breach τ (nI cel)).toInt64)), (14, .long (bG σ (1))), (12, .long ((σ.1 3 (cel)).toInt64)), (11, .int (nI (cel))), (9, .int (nI (Y))), (7, .int (nI (k))), (2, .int (nI (1))), (3, .int (nI (cpN σ 0))), (4, .int (nI (cpN σ 1))), (5, .int (nI (cpN σ 2))), (6, .ref (qo)), (1, .ref (o)), (0, .ref (b))]) hx hb dL_law_470 hl (by decide) rfl (fun ls hl => ?_)
    refine lv_lload hx hb dL_law_472 (lv_at hl 2 rfl) ?_
    refine lv_lconst (v := 0) hx hb dL_law_474 (by decide) ?_
    refine l_cne (x := (σ.1 3 (cel)).toInt64) (y := (0 : Int64)) (tgt := 496) hx hb dL_law_475 dL_law_476 (by decide) (fun _ => ?_) (fun c9 => absurd c9 ((fun q => c464 (by have q2 := y64 q; omega))))
    refine lv_lload hx hb dL_law_496 (lv_at hl 0 rfl) ?_
    refine lv_lload hx hb dL_law_498 (lv_at hl 2 rfl) ?_
    refine l_clt (x := (k_breach τ (nI cel)).toInt64) (y := (σ.1 3 (cel)).toInt64) (X := (k_breach τ (nI cel)).toInt) (Y := (σ.1 3 (cel)).toInt) (tgt := 535) hx hb (t64 _) (t64 _) dL_law_500 dL_law_501 (by decide) (fun c9 => absurd c9 ((by omega))) (fun _ => ?_)
    refine lv_aload_n hx hb dL_law_504 rfl (lv_at hl 11 rfl) ?_
    refine lv_iload hx hb dL_law_505 (lv_at hl 3 rfl) ?_
    refine lv_iconst (v := nI (1)) hx hb dL_law_507 (by decide) ?_
    refine l_read (As := [.ref (o), .int (nI (cel)), .int (nI (1))]) (rest := []) ⟨hx, hb, hml, hown, hts⟩ (rdc1 hl0 hc) (vx_cwSW 3 hts gL_law_L_cellOf rfl rfl rfl (by decide +kernel) ⟨Nat.le_of_ble_eq_true rfl, Nat.le_of_ble_eq_true rfl⟩) hK hZ hN hA hP hS rfl hl.1 rfl (Nat.le_of_ble_eq_true rfl) dL_law_508 ⟨by show (cells + 6) + 2 ≤ 600074; omega, by show (slots + 36) + 12 ≤ 7301550; omega⟩ (c1 := cells + 8) (s1 := slots + 48) (by omega) (by omega) (fun H locs hP hS hz9 hk9 => ?_)
    replace hq := hq.kept (hk9 _ hq.lt hqn)
    clear hz9 hk9
    refine lv_lconst (v := 0) hx hb dL_law_511 (by decide) ?_
    refine l_cne (x := ((k_breach_s τ (nI cel)).1 3 (cel)).toInt64) (y := (0 : Int64)) (tgt := 535) hx hb dL_law_512 dL_law_513 (by decide) (fun c9 => absurd (z64 h3) c9) (fun _ => ?_)
    refine lv_aload_n hx hb dL_law_516 rfl (lv_at hl 11 rfl) ?_
    refine lv_iconst (v := nI (1)) hx hb dL_law_517 (by decide) ?_
    refine lv_iconst (v := nI (2)) hx hb dL_law_518 (by decide) ?_
    refine l_read (As := [.ref (o), .int (nI (1)), .int (nI (2))]) (rest := []) ⟨hx, hb, hml, hown, hts⟩ (rdb2 hl0 hI (k := 1) (by omega)) (vx_cwSW 3 hts gL_law_L_balance rfl rfl rfl (by decide +kernel) ⟨Nat.le_of_ble_eq_true rfl, Nat.le_of_ble_eq_true rfl⟩) hK hZ hN hA hP hS rfl hl.1 rfl (Nat.le_of_ble_eq_true rfl) dL_law_519 ⟨by show (cells + 8) + 2 ≤ 600074; omega, by show (slots + 48) + 12 ≤ 7301550; omega⟩ (c1 := cells + 10) (s1 := slots + 60) (by omega) (by omega) (fun H locs hP hS hz9 hk9 => ?_)
    replace hq := hq.kept (hk9 _ hq.lt hqn)
    clear hz9 hk9
    refine lv_lload hx hb dL_law_522 (lv_at hl 1 rfl) ?_
    refine lv_lload hx hb dL_law_524 (lv_at hl 0 rfl) ?_
    refine lv_ladd hx hb dL_law_526 ?_
    refine l_cne (x := bG (k_breach_s τ (nI cel)) (1)) (y := (bG σ (1)) + ((k_breach τ (nI cel)).toInt64)) (tgt := 535) hx hb dL_law_527 dL_law_528 (by decide) (fun c9 => absurd ((by show (k_breach_s τ (nI cel)).2 29 = σ.2 29 + _; rw [h29, v.2])) c9) (fun _ => ?_)
    refine lv_iconst (v := nI (1)) hx hb dL_law_531 (by decide) ?_
    refine lv_goto (tgt := 536) hx hb dL_law_532 (by decide) ?_
    refine lv_istore_n (lv' := [(2, .int (nI (1))), (16, .long ((k_breach τ (nI cel)).toInt64)), (14, .long (bG σ (1))), (12, .long ((σ.1 3 (cel)).toInt64)), (11, .int (nI (cel))), (9, .int (nI (Y))), (7, .int (nI (k))), (3, .int (nI (cpN σ 0))), (4, .int (nI (cpN σ 1))), (5, .int (nI (cpN σ 2))), (6, .ref (qo)), (1, .ref (o)), (0, .ref (b))]) hx hb dL_law_536 rfl hl (by decide) rfl (fun ls hl => ?_)
    refine lv_goto (tgt := 843) hx hb dL_law_537 (by decide) ?_
    have hl : lv_has ls 19 [(11, .int (nI (cel))), (9, .int (nI (Y))), (7, .int (nI (k))), (2, .int (nI (1))), (3, .int (nI (cpN (k_breach_s τ (nI cel)) 0))), (4, .int (nI (cpN (k_breach_s τ (nI cel)) 1))), (5, .int (nI (cpN (k_breach_s τ (nI cel)) 2))), (6, .ref (qo)), (1, .ref (o)), (0, .ref (b))] := by
      rw [(hsm.2.1 0).trans (hcn 0), (hsm.2.1 1).trans (hcn 1), (hsm.2.1 2).trans (hcn 2)]
      exact lv_sub hl [4, 5, 6, 0, 7, 8, 9, 10, 11, 12] rfl
    exact W.widen (by omega) (by omega) (kk (k_breach_s τ (nI cel)) _ _ _ ls hI (by rw [hsm.1, hmt]; omega) hP hq (fun x hx => by rw [hsm.2.1, hcn] at hx; rw [hsm.2.2, v.1 22 (by decide) (by decide)]; exact hf x hx) hS hl)
