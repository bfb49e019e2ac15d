set_option maxHeartbeats 4000000 in
set_option maxRecDepth 100000 in
theorem law_breach {p : Program} {l : Launch} {e : Env} {s : State} {m : MethodId} {below : List Frame} {meth : Method} {c : Code} {b L : Nat} {xs : Nat → Int32} {G : va_G} {ids : Nat → ClassId} {tS tE o r qo z : Nat} (C0 : lX p l s m meth c b L xs G ids tS tE o r qo z) {cells slots i : Nat} {H : Heap} {locs : List Loc} {ls : Array Slot} {Q : State → Prop} {σ μ : Sg} (hi : i + 7 ≤ L) (hc : cells + 10 ≤ 601024) (hs : slots + 4000 ≤ 7293034)
    (hP : lPic G ids o z tE σ H) (hO : ∃ v, lOut G ids qo v H) (hW : va_P G vwCl (wm (ids 0) (ids 1) (aM r) μ) H) (hS : va_S (fun q => s.heap.size ≤ q) s.heap H locs) (hl : lv_has ls 8 [(4, .int (nI (i))), (3, .ref (qo)), (2, .ref (r)), (1, .ref (o)), (0, .ref (b))])
    (hMO : mOK μ) (hp1 : (m_breach_s μ (xs (i + 1))).1 0 0 = nI (lC [1, 3] (kx_breach σ (xs (i + 1))))) (hp2 : (kx_breach σ (xs (i + 1))) = 0 → (k_breach σ (xs (i + 1))) = (m_breach μ (xs (i + 1))))
    (kk : ∀ (H1 : Heap) (locs1 : List Loc) (ls1 : Array Slot), lPic G ids o z tE (if (kx_breach σ (xs (i + 1))) = 0 then (k_breach_s σ (xs (i + 1))) else σ) H1 → (∃ v, lOut G ids qo v H1) → va_P G vwCl (wm (ids 0) (ids 1) (aM r) (m_breach_s μ (xs (i + 1)))) H1 → va_S (fun q => s.heap.size ≤ q) s.heap H1 locs1 → lv_has ls1 8 [(4, .int (nI (i))), (3, .ref (qo)), (2, .ref (r)), (1, .ref (o)), (0, .ref (b))] → W p l e room_1 s m #[Value.ref b] below meth c H1 locs1 (cells + 10) (slots + 4000) Q (F0 m 1334 ls1 [])) : W p l e room_1 s m #[Value.ref b] below meth c H locs cells slots Q (F0 m 434 ls []) := by
  obtain ⟨hx, hb, hml, hown, hts, hX, hbl, hl0, hK, hZ, hN, ho1, ho2, ho3, ho4, hL⟩ := C0
  have hbA : ¬ (fun q : Nat => s.heap.size ≤ q) b := Nat.not_le.mpr hbl
  have hL31 : L < 2 ^ 31 := by omega
  have hKm : va_K G vwCl (mTy (ids 0) (ids 1)) s := hK.sub [0, 1] rfl
  have hA0 : ∀ q, mA (aM r) q → (fun q : Nat => s.heap.size ≤ q) q := fun q h => by have h1 := mA_in h; show s.heap.size ≤ q; omega
  refine lv_aload_n hx hb dL_law_434 rfl (lv_at hl 3 rfl) ?_
  refine lv_aload_n hx hb dL_law_435 rfl (lv_at hl 4 rfl) ?_
  refine lv_iload hx hb dL_law_436 (lv_at hl 0 rfl) ?_
  refine lv_iconst (v := nI (1)) hx hb dL_law_438 (by decide) ?_
  refine n_add (x := i) (y := 1) hx hb dL_law_439 ?_
  refine l_sld hx hb hX hbl hbA hS (j := i + 1) (by omega) hL31 dL_law_440 ?_
  refine lv_aload_n hx hb dL_law_441 rfl (lv_at hl 1 rfl) ?_
  refine l_wrap (As := [.ref (o), .int (xs (i + 1)), .ref (qo)]) (rest := []) ⟨hx, hb, hml, hown, hts⟩ (lc_breach l hl0 G ids tS tE o z qo (by omega) ho4 σ (xs (i + 1))) (vx_cwSW 3 hts gL_law_L_breach rfl rfl rfl (by decide +kernel) ⟨Nat.le_of_ble_eq_true rfl, Nat.le_of_ble_eq_true rfl⟩) hK hZ hN ho1 ho2 ho3 ho4 hP hO hW hS rfl hl.1 rfl (Nat.le_of_ble_eq_true rfl) dL_law_442 ⟨by show cells + 2 ≤ 601024; omega, by show slots + 12 ≤ 7293034; omega⟩ (fun H locs hP hO hW hS => ?_)
  refine lv_istore (lv' := [(5, .int (nI (lC [1, 3] (kx_breach σ (xs (i + 1)))))), (4, .int (nI (i))), (3, .ref (qo)), (2, .ref (r)), (1, .ref (o)), (0, .ref (b))]) hx hb dL_law_445 hl (by decide) rfl (fun ls hl => ?_)
  refine lv_aload_n hx hb dL_law_447 rfl (lv_at hl 3 rfl) ?_
  refine lv_aload_n hx hb dL_law_448 rfl (lv_at hl 5 rfl) ?_
  refine lv_iload hx hb dL_law_449 (lv_at hl 1 rfl) ?_
  refine lv_iconst (v := nI (1)) hx hb dL_law_451 (by decide) ?_
  refine n_add (x := i) (y := 1) hx hb dL_law_452 ?_
  refine l_sld hx hb hX hbl hbA hS (j := i + 1) (by omega) hL31 dL_law_453 ?_
  refine m_callI (As := [.int (xs (i + 1))]) (rest := []) hA0 ⟨hx, hb, hml, hown, hts⟩ (cm_breach l G (ids 0) (ids 1) (aM r) μ (xs (i + 1))) (cwV 1 hts gL_law_X6_breach rfl rfl rfl (by decide +kernel) ⟨Nat.le_of_ble_eq_true rfl, Nat.le_of_ble_eq_true rfl⟩) hKm hW (aM_DA r (ids 0) (ids 1) μ) hS rfl hl.1 rfl (Nat.le_of_ble_eq_true rfl) dL_law_454 ⟨by show (cells + 2) ≤ 601024; omega, by show (slots + 12) ≤ 7293034; omega⟩ (fun H1 locs1 hW1 _ _ hk hS1 => ?_)
  obtain ⟨hP1, hO1⟩ := l_keep ho2 ho3 ho4 hP hO hk
  clear hk
  refine lv_istore (lv' := [(6, .int (m_breach μ (xs (i + 1)))), (5, .int (nI (lC [1, 3] (kx_breach σ (xs (i + 1)))))), (4, .int (nI (i))), (3, .ref (qo)), (2, .ref (r)), (1, .ref (o)), (0, .ref (b))]) hx hb dL_law_457 hl (by decide) rfl (fun ls hl => ?_)
  refine lv_aload_n hx hb dL_law_459 rfl (lv_at hl 4 rfl) ?_
  refine m_callI (As := []) (rest := []) hA0 ⟨hx, hb, hml, hown, hts⟩ (cm_thrown l G (ids 0) (ids 1) (aM r) (m_breach_s μ (xs (i + 1)))) (cwV 0 hts gL_law_X6_thrown rfl rfl rfl (by decide +kernel) ⟨Nat.le_of_ble_eq_true rfl, Nat.le_of_ble_eq_true rfl⟩) hKm hW1 (aM_DA r (ids 0) (ids 1) (m_breach_s μ (xs (i + 1)))) hS1 rfl hl.1 rfl (Nat.le_of_ble_eq_true rfl) dL_law_460 ⟨by show (cells + 2) ≤ 601024; omega, by show (slots + 12) ≤ 7293034; omega⟩ (fun H2 locs2 hW2 _ _ hk hS2 => ?_)
  obtain ⟨hP2, hO2⟩ := l_keep ho2 ho3 ho4 hP1 hO1 hk
  clear hk
  refine lv_iload hx hb dL_law_463 (lv_at hl 1 rfl) ?_
  refine lv_icmp_eq (x := (m_thrown (m_breach_s μ (xs (i + 1))))) (y := (nI (lC [1, 3] (kx_breach σ (xs (i + 1)))))) (tgt := 470) hx hb dL_law_465 (by decide) (fun _ => ?_) (fun c9 => absurd hp1 c9)
  refine lv_iload hx hb dL_law_470 (lv_at hl 1 rfl) ?_
  refine lv_if_ne (x := (nI (lC [1, 3] (kx_breach σ (xs (i + 1)))))) (tgt := 487) hx hb dL_law_472 (by decide) (fun _ => ?_) (fun c9 => ?_)
  · refine lv_goto (tgt := 1334) hx hb dL_law_487 (by decide) ?_
    exact W.widen (by omega) (by omega) (kk _ _ _ hP2 (hO2.imp (fun v h => h.1)) hW2 hS2 (lv_sub hl [2, 3, 4, 5, 6] rfl))
  · have hX0 : (kx_breach σ (xs (i + 1))) = 0 := lC_c (S := [1, 3]) (by decide) (kxK_breach σ (xs (i + 1))) c9
    obtain ⟨v9, hv9, hg9⟩ := hO2
    have hg := hg9 hX0
    (try dsimp only at hg)
    rw [hp2 hX0] at hg
    have q_ := hg.symm
    subst q_
    obtain ⟨f9, hf9, hf0⟩ := hv9
    refine lv_aload_n hx hb dL_law_475 rfl (lv_at hl 3 rfl) ?_
    refine lv_iconst (v := nI (0)) hx hb dL_law_476 (by decide) ?_
    refine x_lald (v := (m_breach μ (xs (i + 1))).toInt64) hx hb hK hf9 (j := nI 0) (vp_in_nI (by decide) (by decide)) (by rw [nI_clamp (by decide)]; exact hf0) dL_law_477 ?_
    refine lv_iload hx hb dL_law_478 (lv_at hl 0 rfl) ?_
    refine lv_i2l (v := (m_breach μ (xs (i + 1))).toInt64) hx hb dL_law_480 rfl ?_
    refine W.lcmp hx hb dL_law_481 ?_
    refine lv_if_eq (tgt := 487) hx hb dL_law_482 (by decide) (fun _ => ?_) (fun c9 => absurd (lcmp_self _) c9)
    refine lv_goto (tgt := 1334) hx hb dL_law_487 (by decide) ?_
    exact W.widen (by omega) (by omega) (kk _ _ _ hP2 ⟨_, f9, hf9, hf0⟩ hW2 hS2 (lv_sub hl [2, 3, 4, 5, 6] rfl))
set_option maxHeartbeats 4000000 in
set_option maxRecDepth 100000 in
theorem law_house {p : Program} {l : Launch} {e : Env} {s : State} {m : MethodId} {below : List Frame} {meth : Method} {c : Code} {b L : Nat} {xs : Nat → Int32} {G : va_G} {ids : Nat → ClassId} {tS tE o r qo z : Nat} (C0 : lX p l s m meth c b L xs G ids tS tE o r qo z) {cells slots i : Nat} {H : Heap} {locs : List Loc} {ls : Array Slot} {Q : State → Prop} {σ μ : Sg} {ic : Int32} (hi : i + 7 ≤ L) (hc : cells + 10 ≤ 601024) (hs : slots + 4000 ≤ 7293034)
    (hP : lPic G ids o z tE σ H) (hO : ∃ v, lOut G ids qo v H) (hW : va_P G vwCl (wm (ids 0) (ids 1) (aM r) μ) H) (hS : va_S (fun q => s.heap.size ≤ q) s.heap H locs) (hl : lv_has ls 8 [(4, .int (nI (i))), (3, .ref (qo)), (2, .ref (r)), (1, .ref (o)), (0, .ref (b))])
    (hMO : mOK μ) (hcO : cOK σ) (hcC : cCl σ) (hp1 : (m_house_s μ (xs (i + 1)) (xs (i + 2)) ic).1 0 0 = nI (lC [1, 3] (kx_house σ (xs (i + 1)) (xs (i + 2)) ic))) (hp2 : (kx_house σ (xs (i + 1)) (xs (i + 2)) ic) = 0 → (k_house σ (xs (i + 1)) (xs (i + 2)) ic) = (m_house μ (xs (i + 1)) (xs (i + 2)) ic)) (hic0 : xs (i + 3) = 0 → ic = nI 0) (hic1 : ¬ xs (i + 3) = 0 → ic = nI 1)
    (kk : ∀ (H1 : Heap) (locs1 : List Loc) (ls1 : Array Slot), lPic G ids o z tE (if (kx_house σ (xs (i + 1)) (xs (i + 2)) ic) = 0 then (k_house_s σ (xs (i + 1)) (xs (i + 2)) ic) else σ) H1 → (∃ v, lOut G ids qo v H1) → va_P G vwCl (wm (ids 0) (ids 1) (aM r) (m_house_s μ (xs (i + 1)) (xs (i + 2)) ic)) H1 → va_S (fun q => s.heap.size ≤ q) s.heap H1 locs1 → lv_has ls1 8 [(4, .int (nI (i))), (3, .ref (qo)), (2, .ref (r)), (1, .ref (o)), (0, .ref (b))] → W p l e room_1 s m #[Value.ref b] below meth c H1 locs1 (cells + 10) (slots + 4000) Q (F0 m 1334 ls1 [])) : W p l e room_1 s m #[Value.ref b] below meth c H locs cells slots Q (F0 m 490 ls []) := by
  obtain ⟨hx, hb, hml, hown, hts, hX, hbl, hl0, hK, hZ, hN, ho1, ho2, ho3, ho4, hL⟩ := C0
  have hbA : ¬ (fun q : Nat => s.heap.size ≤ q) b := Nat.not_le.mpr hbl
  have hL31 : L < 2 ^ 31 := by omega
  have hKm : va_K G vwCl (mTy (ids 0) (ids 1)) s := hK.sub [0, 1] rfl
  have hA0 : ∀ q, mA (aM r) q → (fun q : Nat => s.heap.size ≤ q) q := fun q h => by have h1 := mA_in h; show s.heap.size ≤ q; omega
  have hz : ic = 0 ∨ ic = 1 := by
    by_cases q : xs (i + 3) = 0
    · exact Or.inl (hic0 q)
    · exact Or.inr (hic1 q)
  refine lv_aload_n hx hb dL_law_490 rfl (lv_at hl 3 rfl) ?_
  refine lv_aload_n hx hb dL_law_491 rfl (lv_at hl 4 rfl) ?_
  refine lv_iload hx hb dL_law_492 (lv_at hl 0 rfl) ?_
  refine lv_iconst (v := nI (1)) hx hb dL_law_494 (by decide) ?_
  refine n_add (x := i) (y := 1) hx hb dL_law_495 ?_
  refine l_sld hx hb hX hbl hbA hS (j := i + 1) (by omega) hL31 dL_law_496 ?_
  refine lv_aload_n hx hb dL_law_497 rfl (lv_at hl 4 rfl) ?_
  refine lv_iload hx hb dL_law_498 (lv_at hl 0 rfl) ?_
  refine lv_iconst (v := nI (2)) hx hb dL_law_500 (by decide) ?_
  refine n_add (x := i) (y := 2) hx hb dL_law_501 ?_
  refine l_sld hx hb hX hbl hbA hS (j := i + 2) (by omega) hL31 dL_law_502 ?_
  refine lv_aload_n hx hb dL_law_503 rfl (lv_at hl 4 rfl) ?_
  refine lv_iload hx hb dL_law_504 (lv_at hl 0 rfl) ?_
  refine lv_iconst (v := nI (3)) hx hb dL_law_506 (by decide) ?_
  refine n_add (x := i) (y := 3) hx hb dL_law_507 ?_
  refine l_sld hx hb hX hbl hbA hS (j := i + 3) (by omega) hL31 dL_law_508 ?_
  have J517 : W p l e room_1 s m #[Value.ref b] below meth c H locs cells slots Q (F0 m 517 ls [.int (ic), .int (xs (i + 2)), .int (xs (i + 1)), .ref (o)]) := by
    refine lv_aload_n hx hb dL_law_517 rfl (lv_at hl 1 rfl) ?_
    refine l_wrap (As := [.ref (o), .int (xs (i + 1)), .int (xs (i + 2)), .int (ic), .ref (qo)]) (rest := []) ⟨hx, hb, hml, hown, hts⟩ (lc_house l hl0 G ids tS tE o z qo (by omega) ho4 σ (xs (i + 1)) (xs (i + 2)) ic hcO hcC hz) (vx_cwSW 5 hts gL_law_L_house rfl rfl rfl (by decide +kernel) ⟨Nat.le_of_ble_eq_true rfl, Nat.le_of_ble_eq_true rfl⟩) hK hZ hN ho1 ho2 ho3 ho4 hP hO hW hS rfl hl.1 rfl (Nat.le_of_ble_eq_true rfl) dL_law_518 ⟨by show cells + 5 ≤ 601024; omega, by show slots + 83 ≤ 7293034; omega⟩ (fun H locs hP hO hW hS => ?_)
    refine lv_istore (lv' := [(5, .int (nI (lC [1, 3] (kx_house σ (xs (i + 1)) (xs (i + 2)) ic)))), (4, .int (nI (i))), (3, .ref (qo)), (2, .ref (r)), (1, .ref (o)), (0, .ref (b))]) hx hb dL_law_521 hl (by decide) rfl (fun ls hl => ?_)
    refine lv_aload_n hx hb dL_law_523 rfl (lv_at hl 3 rfl) ?_
    refine lv_aload_n hx hb dL_law_524 rfl (lv_at hl 5 rfl) ?_
    refine lv_iload hx hb dL_law_525 (lv_at hl 1 rfl) ?_
    refine lv_iconst (v := nI (1)) hx hb dL_law_527 (by decide) ?_
    refine n_add (x := i) (y := 1) hx hb dL_law_528 ?_
    refine l_sld hx hb hX hbl hbA hS (j := i + 1) (by omega) hL31 dL_law_529 ?_
    refine lv_aload_n hx hb dL_law_530 rfl (lv_at hl 5 rfl) ?_
    refine lv_iload hx hb dL_law_531 (lv_at hl 1 rfl) ?_
    refine lv_iconst (v := nI (2)) hx hb dL_law_533 (by decide) ?_
    refine n_add (x := i) (y := 2) hx hb dL_law_534 ?_
    refine l_sld hx hb hX hbl hbA hS (j := i + 2) (by omega) hL31 dL_law_535 ?_
    refine lv_aload_n hx hb dL_law_536 rfl (lv_at hl 5 rfl) ?_
    refine lv_iload hx hb dL_law_537 (lv_at hl 1 rfl) ?_
    refine lv_iconst (v := nI (3)) hx hb dL_law_539 (by decide) ?_
    refine n_add (x := i) (y := 3) hx hb dL_law_540 ?_
    refine l_sld hx hb hX hbl hbA hS (j := i + 3) (by omega) hL31 dL_law_541 ?_
    have J550 : W p l e room_1 s m #[Value.ref b] below meth c H locs (cells + 5) (slots + 83) Q (F0 m 550 ls [.int (ic), .int (xs (i + 2)), .int (xs (i + 1)), .ref (r)]) := by
      refine m_callI (As := [.int (xs (i + 1)), .int (xs (i + 2)), .int (ic)]) (rest := []) hA0 ⟨hx, hb, hml, hown, hts⟩ (cm_house l G (ids 0) (ids 1) (aM r) μ (xs (i + 1)) (xs (i + 2)) ic hMO) (cwV 3 hts gL_law_X6_house rfl rfl rfl (by decide +kernel) ⟨Nat.le_of_ble_eq_true rfl, Nat.le_of_ble_eq_true rfl⟩) hKm hW (aM_DA r (ids 0) (ids 1) μ) hS rfl hl.1 rfl (Nat.le_of_ble_eq_true rfl) dL_law_550 ⟨by show (cells + 5) ≤ 601024; omega, by show (slots + 83) ≤ 7293034; omega⟩ (fun H1 locs1 hW1 _ _ hk hS1 => ?_)
      obtain ⟨hP1, hO1⟩ := l_keep ho2 ho3 ho4 hP hO hk
      clear hk
      refine lv_istore (lv' := [(6, .int (m_house μ (xs (i + 1)) (xs (i + 2)) ic)), (5, .int (nI (lC [1, 3] (kx_house σ (xs (i + 1)) (xs (i + 2)) ic)))), (4, .int (nI (i))), (3, .ref (qo)), (2, .ref (r)), (1, .ref (o)), (0, .ref (b))]) hx hb dL_law_553 hl (by decide) rfl (fun ls hl => ?_)
      refine lv_aload_n hx hb dL_law_555 rfl (lv_at hl 4 rfl) ?_
      refine m_callI (As := []) (rest := []) hA0 ⟨hx, hb, hml, hown, hts⟩ (cm_thrown l G (ids 0) (ids 1) (aM r) (m_house_s μ (xs (i + 1)) (xs (i + 2)) ic)) (cwV 0 hts gL_law_X6_thrown rfl rfl rfl (by decide +kernel) ⟨Nat.le_of_ble_eq_true rfl, Nat.le_of_ble_eq_true rfl⟩) hKm hW1 (aM_DA r (ids 0) (ids 1) (m_house_s μ (xs (i + 1)) (xs (i + 2)) ic)) hS1 rfl hl.1 rfl (Nat.le_of_ble_eq_true rfl) dL_law_556 ⟨by show (cells + 5) ≤ 601024; omega, by show (slots + 83) ≤ 7293034; omega⟩ (fun H2 locs2 hW2 _ _ hk hS2 => ?_)
      obtain ⟨hP2, hO2⟩ := l_keep ho2 ho3 ho4 hP1 hO1 hk
      clear hk
      refine lv_iload hx hb dL_law_559 (lv_at hl 1 rfl) ?_
      refine lv_icmp_eq (x := (m_thrown (m_house_s μ (xs (i + 1)) (xs (i + 2)) ic))) (y := (nI (lC [1, 3] (kx_house σ (xs (i + 1)) (xs (i + 2)) ic)))) (tgt := 566) hx hb dL_law_561 (by decide) (fun _ => ?_) (fun c9 => absurd hp1 c9)
      refine lv_iload hx hb dL_law_566 (lv_at hl 1 rfl) ?_
      refine lv_if_ne (x := (nI (lC [1, 3] (kx_house σ (xs (i + 1)) (xs (i + 2)) ic)))) (tgt := 583) hx hb dL_law_568 (by decide) (fun _ => ?_) (fun c9 => ?_)
      · refine lv_goto (tgt := 1334) hx hb dL_law_583 (by decide) ?_
        exact W.widen (by omega) (by omega) (kk _ _ _ hP2 (hO2.imp (fun v h => h.1)) hW2 hS2 (lv_sub hl [2, 3, 4, 5, 6] rfl))
      · have hX0 : (kx_house σ (xs (i + 1)) (xs (i + 2)) ic) = 0 := lC_c (S := [1, 3]) (by decide) (kxK_house σ (xs (i + 1)) (xs (i + 2)) ic) c9
        obtain ⟨v9, hv9, hg9⟩ := hO2
        have hg := hg9 hX0
        (try dsimp only at hg)
        rw [hp2 hX0] at hg
        have q_ := hg.symm
        subst q_
        obtain ⟨f9, hf9, hf0⟩ := hv9
        refine lv_aload_n hx hb dL_law_571 rfl (lv_at hl 3 rfl) ?_
        refine lv_iconst (v := nI (0)) hx hb dL_law_572 (by decide) ?_
        refine x_lald (v := (m_house μ (xs (i + 1)) (xs (i + 2)) ic).toInt64) hx hb hK hf9 (j := nI 0) (vp_in_nI (by decide) (by decide)) (by rw [nI_clamp (by decide)]; exact hf0) dL_law_573 ?_
        refine lv_iload hx hb dL_law_574 (lv_at hl 0 rfl) ?_
        refine lv_i2l (v := (m_house μ (xs (i + 1)) (xs (i + 2)) ic).toInt64) hx hb dL_law_576 rfl ?_
        refine W.lcmp hx hb dL_law_577 ?_
        refine lv_if_eq (tgt := 583) hx hb dL_law_578 (by decide) (fun _ => ?_) (fun c9 => absurd (lcmp_self _) c9)
        refine lv_goto (tgt := 1334) hx hb dL_law_583 (by decide) ?_
        exact W.widen (by omega) (by omega) (kk _ _ _ hP2 ⟨_, f9, hf9, hf0⟩ hW2 hS2 (lv_sub hl [2, 3, 4, 5, 6] rfl))
    refine lv_if_eq (x := xs (i + 3)) (tgt := 549) hx hb dL_law_542 (by decide) (fun c9 => ?_) (fun c9 => ?_)
    · refine lv_iconst (v := nI 0) hx hb dL_law_549 (by decide) ?_
      exact W.eq (g2 := F0 m 550 ls (.int ic :: .int (xs (i + 2)) :: .int (xs (i + 1)) :: .ref (r) :: [])) (by rw [hic0 c9]) J550
    · refine lv_iconst (v := nI 1) hx hb dL_law_545 (by decide) ?_
      refine lv_goto (tgt := 550) hx hb dL_law_546 (by decide) ?_
      exact W.eq (g2 := F0 m 550 ls (.int ic :: .int (xs (i + 2)) :: .int (xs (i + 1)) :: .ref (r) :: [])) (by rw [hic1 c9]) J550
  refine lv_if_eq (x := xs (i + 3)) (tgt := 516) hx hb dL_law_509 (by decide) (fun c9 => ?_) (fun c9 => ?_)
  · refine lv_iconst (v := nI 0) hx hb dL_law_516 (by decide) ?_
    exact W.eq (g2 := F0 m 517 ls (.int ic :: .int (xs (i + 2)) :: .int (xs (i + 1)) :: .ref (o) :: [])) (by rw [hic0 c9]) J517
  · refine lv_iconst (v := nI 1) hx hb dL_law_512 (by decide) ?_
    refine lv_goto (tgt := 517) hx hb dL_law_513 (by decide) ?_
    exact W.eq (g2 := F0 m 517 ls (.int ic :: .int (xs (i + 2)) :: .int (xs (i + 1)) :: .ref (o) :: [])) (by rw [hic1 c9]) J517
set_option maxHeartbeats 4000000 in
set_option maxRecDepth 100000 in
theorem law_borehole {p : Program} {l : Launch} {e : Env} {s : State} {m : MethodId} {below : List Frame} {meth : Method} {c : Code} {b L : Nat} {xs : Nat → Int32} {G : va_G} {ids : Nat → ClassId} {tS tE o r qo z : Nat} (C0 : lX p l s m meth c b L xs G ids tS tE o r qo z) {cells slots i : Nat} {H : Heap} {locs : List Loc} {ls : Array Slot} {Q : State → Prop} {σ μ : Sg} (hi : i + 7 ≤ L) (hc : cells + 10 ≤ 601024) (hs : slots + 4000 ≤ 7293034)
    (hP : lPic G ids o z tE σ H) (hO : ∃ v, lOut G ids qo v H) (hW : va_P G vwCl (wm (ids 0) (ids 1) (aM r) μ) H) (hS : va_S (fun q => s.heap.size ≤ q) s.heap H locs) (hl : lv_has ls 8 [(4, .int (nI (i))), (3, .ref (qo)), (2, .ref (r)), (1, .ref (o)), (0, .ref (b))])
    (hMO : mOK μ) (hcO : cOK σ) (hp1 : (m_borehole_s μ (xs (i + 1)) (xs (i + 2))).1 0 0 = nI (lC [1, 2, 3] (kx_borehole σ (xs (i + 1)) (xs (i + 2))))) (hp2 : (kx_borehole σ (xs (i + 1)) (xs (i + 2))) = 0 → (k_borehole σ (xs (i + 1)) (xs (i + 2))) = (m_borehole μ (xs (i + 1)) (xs (i + 2))))
    (kk : ∀ (H1 : Heap) (locs1 : List Loc) (ls1 : Array Slot), lPic G ids o z tE (if (kx_borehole σ (xs (i + 1)) (xs (i + 2))) = 0 then (k_borehole_s σ (xs (i + 1)) (xs (i + 2))) else σ) H1 → (∃ v, lOut G ids qo v H1) → va_P G vwCl (wm (ids 0) (ids 1) (aM r) (m_borehole_s μ (xs (i + 1)) (xs (i + 2)))) H1 → va_S (fun q => s.heap.size ≤ q) s.heap H1 locs1 → lv_has ls1 8 [(4, .int (nI (i))), (3, .ref (qo)), (2, .ref (r)), (1, .ref (o)), (0, .ref (b))] → W p l e room_1 s m #[Value.ref b] below meth c H1 locs1 (cells + 10) (slots + 4000) Q (F0 m 1334 ls1 [])) : W p l e room_1 s m #[Value.ref b] below meth c H locs cells slots Q (F0 m 586 ls []) := by
  obtain ⟨hx, hb, hml, hown, hts, hX, hbl, hl0, hK, hZ, hN, ho1, ho2, ho3, ho4, hL⟩ := C0
  have hbA : ¬ (fun q : Nat => s.heap.size ≤ q) b := Nat.not_le.mpr hbl
  have hL31 : L < 2 ^ 31 := by omega
  have hKm : va_K G vwCl (mTy (ids 0) (ids 1)) s := hK.sub [0, 1] rfl
  have hA0 : ∀ q, mA (aM r) q → (fun q : Nat => s.heap.size ≤ q) q := fun q h => by have h1 := mA_in h; show s.heap.size ≤ q; omega
  refine lv_aload_n hx hb dL_law_586 rfl (lv_at hl 3 rfl) ?_
  refine lv_aload_n hx hb dL_law_587 rfl (lv_at hl 4 rfl) ?_
  refine lv_iload hx hb dL_law_588 (lv_at hl 0 rfl) ?_
  refine lv_iconst (v := nI (1)) hx hb dL_law_590 (by decide) ?_
  refine n_add (x := i) (y := 1) hx hb dL_law_591 ?_
  refine l_sld hx hb hX hbl hbA hS (j := i + 1) (by omega) hL31 dL_law_592 ?_
  refine lv_aload_n hx hb dL_law_593 rfl (lv_at hl 4 rfl) ?_
  refine lv_iload hx hb dL_law_594 (lv_at hl 0 rfl) ?_
  refine lv_iconst (v := nI (2)) hx hb dL_law_596 (by decide) ?_
  refine n_add (x := i) (y := 2) hx hb dL_law_597 ?_
  refine l_sld hx hb hX hbl hbA hS (j := i + 2) (by omega) hL31 dL_law_598 ?_
  refine lv_aload_n hx hb dL_law_599 rfl (lv_at hl 1 rfl) ?_
  refine l_wrap (As := [.ref (o), .int (xs (i + 1)), .int (xs (i + 2)), .ref (qo)]) (rest := []) ⟨hx, hb, hml, hown, hts⟩ (lc_borehole l hl0 G ids tS tE o z qo (by omega) ho4 σ (xs (i + 1)) (xs (i + 2)) hcO) (vx_cwSW 4 hts gL_law_L_borehole rfl rfl rfl (by decide +kernel) ⟨Nat.le_of_ble_eq_true rfl, Nat.le_of_ble_eq_true rfl⟩) hK hZ hN ho1 ho2 ho3 ho4 hP hO hW hS rfl hl.1 rfl (Nat.le_of_ble_eq_true rfl) dL_law_600 ⟨by show cells + 6 ≤ 601024; omega, by show slots + 3083 ≤ 7293034; omega⟩ (fun H locs hP hO hW hS => ?_)
  refine lv_istore (lv' := [(5, .int (nI (lC [1, 2, 3] (kx_borehole σ (xs (i + 1)) (xs (i + 2)))))), (4, .int (nI (i))), (3, .ref (qo)), (2, .ref (r)), (1, .ref (o)), (0, .ref (b))]) hx hb dL_law_603 hl (by decide) rfl (fun ls hl => ?_)
  refine lv_aload_n hx hb dL_law_605 rfl (lv_at hl 3 rfl) ?_
  refine lv_aload_n hx hb dL_law_606 rfl (lv_at hl 5 rfl) ?_
  refine lv_iload hx hb dL_law_607 (lv_at hl 1 rfl) ?_
  refine lv_iconst (v := nI (1)) hx hb dL_law_609 (by decide) ?_
  refine n_add (x := i) (y := 1) hx hb dL_law_610 ?_
  refine l_sld hx hb hX hbl hbA hS (j := i + 1) (by omega) hL31 dL_law_611 ?_
  refine lv_aload_n hx hb dL_law_612 rfl (lv_at hl 5 rfl) ?_
  refine lv_iload hx hb dL_law_613 (lv_at hl 1 rfl) ?_
  refine lv_iconst (v := nI (2)) hx hb dL_law_615 (by decide) ?_
  refine n_add (x := i) (y := 2) hx hb dL_law_616 ?_
  refine l_sld hx hb hX hbl hbA hS (j := i + 2) (by omega) hL31 dL_law_617 ?_
  refine m_callI (As := [.int (xs (i + 1)), .int (xs (i + 2))]) (rest := []) hA0 ⟨hx, hb, hml, hown, hts⟩ (cm_borehole l G (ids 0) (ids 1) (aM r) μ (xs (i + 1)) (xs (i + 2)) hMO) (cwV 2 hts gL_law_X6_borehole rfl rfl rfl (by decide +kernel) ⟨Nat.le_of_ble_eq_true rfl, Nat.le_of_ble_eq_true rfl⟩) hKm hW (aM_DA r (ids 0) (ids 1) μ) hS rfl hl.1 rfl (Nat.le_of_ble_eq_true rfl) dL_law_618 ⟨by show (cells + 6) ≤ 601024; omega, by show (slots + 3083) ≤ 7293034; omega⟩ (fun H1 locs1 hW1 _ _ hk hS1 => ?_)
  obtain ⟨hP1, hO1⟩ := l_keep ho2 ho3 ho4 hP hO hk
  clear hk
  refine lv_istore (lv' := [(6, .int (m_borehole μ (xs (i + 1)) (xs (i + 2)))), (5, .int (nI (lC [1, 2, 3] (kx_borehole σ (xs (i + 1)) (xs (i + 2)))))), (4, .int (nI (i))), (3, .ref (qo)), (2, .ref (r)), (1, .ref (o)), (0, .ref (b))]) hx hb dL_law_621 hl (by decide) rfl (fun ls hl => ?_)
  refine lv_aload_n hx hb dL_law_623 rfl (lv_at hl 4 rfl) ?_
  refine m_callI (As := []) (rest := []) hA0 ⟨hx, hb, hml, hown, hts⟩ (cm_thrown l G (ids 0) (ids 1) (aM r) (m_borehole_s μ (xs (i + 1)) (xs (i + 2)))) (cwV 0 hts gL_law_X6_thrown rfl rfl rfl (by decide +kernel) ⟨Nat.le_of_ble_eq_true rfl, Nat.le_of_ble_eq_true rfl⟩) hKm hW1 (aM_DA r (ids 0) (ids 1) (m_borehole_s μ (xs (i + 1)) (xs (i + 2)))) hS1 rfl hl.1 rfl (Nat.le_of_ble_eq_true rfl) dL_law_624 ⟨by show (cells + 6) ≤ 601024; omega, by show (slots + 3083) ≤ 7293034; omega⟩ (fun H2 locs2 hW2 _ _ hk hS2 => ?_)
  obtain ⟨hP2, hO2⟩ := l_keep ho2 ho3 ho4 hP1 hO1 hk
  clear hk
  refine lv_iload hx hb dL_law_627 (lv_at hl 1 rfl) ?_
  refine lv_icmp_eq (x := (m_thrown (m_borehole_s μ (xs (i + 1)) (xs (i + 2))))) (y := (nI (lC [1, 2, 3] (kx_borehole σ (xs (i + 1)) (xs (i + 2)))))) (tgt := 634) hx hb dL_law_629 (by decide) (fun _ => ?_) (fun c9 => absurd hp1 c9)
  refine lv_iload hx hb dL_law_634 (lv_at hl 1 rfl) ?_
  refine lv_if_ne (x := (nI (lC [1, 2, 3] (kx_borehole σ (xs (i + 1)) (xs (i + 2)))))) (tgt := 651) hx hb dL_law_636 (by decide) (fun _ => ?_) (fun c9 => ?_)
  · refine lv_goto (tgt := 1334) hx hb dL_law_651 (by decide) ?_
    exact W.widen (by omega) (by omega) (kk _ _ _ hP2 (hO2.imp (fun v h => h.1)) hW2 hS2 (lv_sub hl [2, 3, 4, 5, 6] rfl))
  · have hX0 : (kx_borehole σ (xs (i + 1)) (xs (i + 2))) = 0 := lC_c (S := [1, 2, 3]) (by decide) (kxK_borehole σ (xs (i + 1)) (xs (i + 2))) c9
    obtain ⟨v9, hv9, hg9⟩ := hO2
    have hg := hg9 hX0
    (try dsimp only at hg)
    rw [hp2 hX0] at hg
    have q_ := hg.symm
    subst q_
    obtain ⟨f9, hf9, hf0⟩ := hv9
    refine lv_aload_n hx hb dL_law_639 rfl (lv_at hl 3 rfl) ?_
    refine lv_iconst (v := nI (0)) hx hb dL_law_640 (by decide) ?_
    refine x_lald (v := (m_borehole μ (xs (i + 1)) (xs (i + 2))).toInt64) hx hb hK hf9 (j := nI 0) (vp_in_nI (by decide) (by decide)) (by rw [nI_clamp (by decide)]; exact hf0) dL_law_641 ?_
    refine lv_iload hx hb dL_law_642 (lv_at hl 0 rfl) ?_
    refine lv_i2l (v := (m_borehole μ (xs (i + 1)) (xs (i + 2))).toInt64) hx hb dL_law_644 rfl ?_
    refine W.lcmp hx hb dL_law_645 ?_
    refine lv_if_eq (tgt := 651) hx hb dL_law_646 (by decide) (fun _ => ?_) (fun c9 => absurd (lcmp_self _) c9)
    refine lv_goto (tgt := 1334) hx hb dL_law_651 (by decide) ?_
    exact W.widen (by omega) (by omega) (kk _ _ _ hP2 ⟨_, f9, hf9, hf0⟩ hW2 hS2 (lv_sub hl [2, 3, 4, 5, 6] rfl))
set_option maxHeartbeats 4000000 in
set_option maxRecDepth 100000 in
theorem law_claim {p : Program} {l : Launch} {e : Env} {s : State} {m : MethodId} {below : List Frame} {meth : Method} {c : Code} {b L : Nat} {xs : Nat → Int32} {G : va_G} {ids : Nat → ClassId} {tS tE o r qo z : Nat} (C0 : lX p l s m meth c b L xs G ids tS tE o r qo z) {cells slots i : Nat} {H : Heap} {locs : List Loc} {ls : Array Slot} {Q : State → Prop} {σ μ : Sg} (hi : i + 7 ≤ L) (hc : cells + 10 ≤ 601024) (hs : slots + 4000 ≤ 7293034)
    (hP : lPic G ids o z tE σ H) (hO : ∃ v, lOut G ids qo v H) (hW : va_P G vwCl (wm (ids 0) (ids 1) (aM r) μ) H) (hS : va_S (fun q => s.heap.size ≤ q) s.heap H locs) (hl : lv_has ls 8 [(4, .int (nI (i))), (3, .ref (qo)), (2, .ref (r)), (1, .ref (o)), (0, .ref (b))])
    (hMO : mOK μ) (hcO : cOK σ) (hp1 : (m_claim_s μ (xs (i + 1))).1 0 0 = nI (lC [1, 3] (kx_claim σ (xs (i + 1))))) (hp2 : (kx_claim σ (xs (i + 1))) = 0 → (k_claim σ (xs (i + 1))) = (m_claim μ (xs (i + 1))))
    (kk : ∀ (H1 : Heap) (locs1 : List Loc) (ls1 : Array Slot), lPic G ids o z tE (if (kx_claim σ (xs (i + 1))) = 0 then (k_claim_s σ (xs (i + 1))) else σ) H1 → (∃ v, lOut G ids qo v H1) → va_P G vwCl (wm (ids 0) (ids 1) (aM r) (m_claim_s μ (xs (i + 1)))) H1 → va_S (fun q => s.heap.size ≤ q) s.heap H1 locs1 → lv_has ls1 8 [(4, .int (nI (i))), (3, .ref (qo)), (2, .ref (r)), (1, .ref (o)), (0, .ref (b))] → W p l e room_1 s m #[Value.ref b] below meth c H1 locs1 (cells + 10) (slots + 4000) Q (F0 m 1334 ls1 [])) : W p l e room_1 s m #[Value.ref b] below meth c H locs cells slots Q (F0 m 654 ls []) := by
  obtain ⟨hx, hb, hml, hown, hts, hX, hbl, hl0, hK, hZ, hN, ho1, ho2, ho3, ho4, hL⟩ := C0
  have hbA : ¬ (fun q : Nat => s.heap.size ≤ q) b := Nat.not_le.mpr hbl
  have hL31 : L < 2 ^ 31 := by omega
  have hKm : va_K G vwCl (mTy (ids 0) (ids 1)) s := hK.sub [0, 1] rfl
  have hA0 : ∀ q, mA (aM r) q → (fun q : Nat => s.heap.size ≤ q) q := fun q h => by have h1 := mA_in h; show s.heap.size ≤ q; omega
  refine lv_aload_n hx hb dL_law_654 rfl (lv_at hl 3 rfl) ?_
  refine lv_aload_n hx hb dL_law_655 rfl (lv_at hl 4 rfl) ?_
  refine lv_iload hx hb dL_law_656 (lv_at hl 0 rfl) ?_
  refine lv_iconst (v := nI (1)) hx hb dL_law_658 (by decide) ?_
  refine n_add (x := i) (y := 1) hx hb dL_law_659 ?_
  refine l_sld hx hb hX hbl hbA hS (j := i + 1) (by omega) hL31 dL_law_660 ?_
  refine lv_aload_n hx hb dL_law_661 rfl (lv_at hl 1 rfl) ?_
  refine l_wrap (As := [.ref (o), .int (xs (i + 1)), .ref (qo)]) (rest := []) ⟨hx, hb, hml, hown, hts⟩ (lc_claim l hl0 G ids tS tE o z qo (by omega) ho4 σ (xs (i + 1)) hcO) (vx_cwSW 3 hts gL_law_L_claim rfl rfl rfl (by decide +kernel) ⟨Nat.le_of_ble_eq_true rfl, Nat.le_of_ble_eq_true rfl⟩) hK hZ hN ho1 ho2 ho3 ho4 hP hO hW hS rfl hl.1 rfl (Nat.le_of_ble_eq_true rfl) dL_law_662 ⟨by show cells + 4 ≤ 601024; omega, by show slots + 76 ≤ 7293034; omega⟩ (fun H locs hP hO hW hS => ?_)
  refine lv_istore (lv' := [(5, .int (nI (lC [1, 3] (kx_claim σ (xs (i + 1)))))), (4, .int (nI (i))), (3, .ref (qo)), (2, .ref (r)), (1, .ref (o)), (0, .ref (b))]) hx hb dL_law_665 hl (by decide) rfl (fun ls hl => ?_)
  refine lv_aload_n hx hb dL_law_667 rfl (lv_at hl 3 rfl) ?_
  refine lv_aload_n hx hb dL_law_668 rfl (lv_at hl 5 rfl) ?_
  refine lv_iload hx hb dL_law_669 (lv_at hl 1 rfl) ?_
  refine lv_iconst (v := nI (1)) hx hb dL_law_671 (by decide) ?_
  refine n_add (x := i) (y := 1) hx hb dL_law_672 ?_
  refine l_sld hx hb hX hbl hbA hS (j := i + 1) (by omega) hL31 dL_law_673 ?_
  refine m_callI (As := [.int (xs (i + 1))]) (rest := []) hA0 ⟨hx, hb, hml, hown, hts⟩ (cm_claim l G (ids 0) (ids 1) (aM r) μ (xs (i + 1)) hMO) (cwV 1 hts gL_law_X6_claim rfl rfl rfl (by decide +kernel) ⟨Nat.le_of_ble_eq_true rfl, Nat.le_of_ble_eq_true rfl⟩) hKm hW (aM_DA r (ids 0) (ids 1) μ) hS rfl hl.1 rfl (Nat.le_of_ble_eq_true rfl) dL_law_674 ⟨by show (cells + 4) ≤ 601024; omega, by show (slots + 76) ≤ 7293034; omega⟩ (fun H1 locs1 hW1 _ _ hk hS1 => ?_)
  obtain ⟨hP1, hO1⟩ := l_keep ho2 ho3 ho4 hP hO hk
  clear hk
  refine lv_istore (lv' := [(6, .int (m_claim μ (xs (i + 1)))), (5, .int (nI (lC [1, 3] (kx_claim σ (xs (i + 1)))))), (4, .int (nI (i))), (3, .ref (qo)), (2, .ref (r)), (1, .ref (o)), (0, .ref (b))]) hx hb dL_law_677 hl (by decide) rfl (fun ls hl => ?_)
  refine lv_aload_n hx hb dL_law_679 rfl (lv_at hl 4 rfl) ?_
  refine m_callI (As := []) (rest := []) hA0 ⟨hx, hb, hml, hown, hts⟩ (cm_thrown l G (ids 0) (ids 1) (aM r) (m_claim_s μ (xs (i + 1)))) (cwV 0 hts gL_law_X6_thrown rfl rfl rfl (by decide +kernel) ⟨Nat.le_of_ble_eq_true rfl, Nat.le_of_ble_eq_true rfl⟩) hKm hW1 (aM_DA r (ids 0) (ids 1) (m_claim_s μ (xs (i + 1)))) hS1 rfl hl.1 rfl (Nat.le_of_ble_eq_true rfl) dL_law_680 ⟨by show (cells + 4) ≤ 601024; omega, by show (slots + 76) ≤ 7293034; omega⟩ (fun H2 locs2 hW2 _ _ hk hS2 => ?_)
  obtain ⟨hP2, hO2⟩ := l_keep ho2 ho3 ho4 hP1 hO1 hk
  clear hk
  refine lv_iload hx hb dL_law_683 (lv_at hl 1 rfl) ?_
  refine lv_icmp_eq (x := (m_thrown (m_claim_s μ (xs (i + 1))))) (y := (nI (lC [1, 3] (kx_claim σ (xs (i + 1)))))) (tgt := 690) hx hb dL_law_685 (by decide) (fun _ => ?_) (fun c9 => absurd hp1 c9)
  refine lv_iload hx hb dL_law_690 (lv_at hl 1 rfl) ?_
  refine lv_if_ne (x := (nI (lC [1, 3] (kx_claim σ (xs (i + 1)))))) (tgt := 707) hx hb dL_law_692 (by decide) (fun _ => ?_) (fun c9 => ?_)
  · refine lv_goto (tgt := 1334) hx hb dL_law_707 (by decide) ?_
    exact W.widen (by omega) (by omega) (kk _ _ _ hP2 (hO2.imp (fun v h => h.1)) hW2 hS2 (lv_sub hl [2, 3, 4, 5, 6] rfl))
  · have hX0 : (kx_claim σ (xs (i + 1))) = 0 := lC_c (S := [1, 3]) (by decide) (kxK_claim σ (xs (i + 1))) c9
    obtain ⟨v9, hv9, hg9⟩ := hO2
    have hg := hg9 hX0
    (try dsimp only at hg)
    rw [hp2 hX0] at hg
    have q_ := hg.symm
    subst q_
    obtain ⟨f9, hf9, hf0⟩ := hv9
    refine lv_aload_n hx hb dL_law_695 rfl (lv_at hl 3 rfl) ?_
    refine lv_iconst (v := nI (0)) hx hb dL_law_696 (by decide) ?_
    refine x_lald (v := (m_claim μ (xs (i + 1))).toInt64) hx hb hK hf9 (j := nI 0) (vp_in_nI (by decide) (by decide)) (by rw [nI_clamp (by decide)]; exact hf0) dL_law_697 ?_
    refine lv_iload hx hb dL_law_698 (lv_at hl 0 rfl) ?_
    refine lv_i2l (v := (m_claim μ (xs (i + 1))).toInt64) hx hb dL_law_700 rfl ?_
    refine W.lcmp hx hb dL_law_701 ?_
    refine lv_if_eq (tgt := 707) hx hb dL_law_702 (by decide) (fun _ => ?_) (fun c9 => absurd (lcmp_self _) c9)
    refine lv_goto (tgt := 1334) hx hb dL_law_707 (by decide) ?_
    exact W.widen (by omega) (by omega) (kk _ _ _ hP2 ⟨_, f9, hf9, hf0⟩ hW2 hS2 (lv_sub hl [2, 3, 4, 5, 6] rfl))
