set_option maxHeartbeats 4000000 in
set_option maxRecDepth 100000 in
theorem law_lakes {p : Program} {l : Launch} {e : Env} {s : State} {m : MethodId} {below : List Frame} {meth : Method} {c : Code} {b L : Nat} {xs : Nat → Int32} {G : va_G} {ids : Nat → ClassId} {tS tE o r qo z : Nat} (C0 : lX p l s m meth c b L xs G ids tS tE o r qo z) {cells slots i : Nat} {H : Heap} {locs : List Loc} {ls : Array Slot} {Q : State → Prop} {σ μ : Sg} (hi : i + 7 ≤ L) (hc : cells + 10 ≤ 601024) (hs : slots + 4000 ≤ 7293034)
    (hP : lPic G ids o z tE σ H) (hO : ∃ v, lOut G ids qo v H) (hW : va_P G vwCl (wm (ids 0) (ids 1) (aM r) μ) H) (hS : va_S (fun q => s.heap.size ≤ q) s.heap H locs) (hl : lv_has ls 8 [(4, .int (nI (i))), (3, .ref (qo)), (2, .ref (r)), (1, .ref (o)), (0, .ref (b))])
    (hMO : mOK μ) (hp2 : (k_lakes σ) = (m_lakes μ))
    (kk : ∀ (H1 : Heap) (locs1 : List Loc) (ls1 : Array Slot), lPic G ids o z tE ((k_lakes_s σ)) H1 → (∃ v, lOut G ids qo v H1) → va_P G vwCl (wm (ids 0) (ids 1) (aM r) (m_lakes_s μ)) H1 → va_S (fun q => s.heap.size ≤ q) s.heap H1 locs1 → lv_has ls1 8 [(4, .int (nI (i))), (3, .ref (qo)), (2, .ref (r)), (1, .ref (o)), (0, .ref (b))] → W p l e room_1 s m #[Value.ref b] below meth c H1 locs1 (cells + 10) (slots + 4000) Q (F0 m 1334 ls1 [])) : W p l e room_1 s m #[Value.ref b] below meth c H locs cells slots Q (F0 m 939 ls []) := by
  obtain ⟨hx, hb, hml, hown, hts, hX, hbl, hl0, hK, hZ, hN, ho1, ho2, ho3, ho4, hL⟩ := C0
  have hbA : ¬ (fun q : Nat => s.heap.size ≤ q) b := Nat.not_le.mpr hbl
  have hL31 : L < 2 ^ 31 := by omega
  have hKm : va_K G vwCl (mTy (ids 0) (ids 1)) s := hK.sub [0, 1] rfl
  have hA0 : ∀ q, mA (aM r) q → (fun q : Nat => s.heap.size ≤ q) q := fun q h => by have h1 := mA_in h; show s.heap.size ≤ q; omega
  have hAc : ∀ q, cpG o z q → s.heap.size ≤ q := fun q h => by rcases h with h | h <;> omega
  refine lv_aload_n hx hb dL_law_939 rfl (lv_at hl 3 rfl) ?_
  obtain ⟨d9, w9, hP, hwz⟩ := hP
  refine va_calli (va_runV (As := []) (rest := []) ⟨hx, hb, hml, hown, hts⟩ (ck_lakes l G ids o z tS tE d9 w9 σ) (cwV 0 hts gL_law_X5_lakes rfl rfl rfl (by decide +kernel) ⟨Nat.le_of_ble_eq_true rfl, Nat.le_of_ble_eq_true rfl⟩) ⟨yPc_blind, va_recv hK (va_P.one hP.main) (ci := 6) (q0 := 0) rfl rfl, fun U hU hW2 => ⟨rfl, by rw [hU]; exact hP, va_K.moved hW2.alike hK, (cST_at hZ hS hU hW2.alike).narrow hAc⟩⟩ rfl rfl hl.1 rfl (lv_room (Nat.le_of_ble_eq_true rfl)) dL_law_940 ⟨by show cells + 0 ≤ 601024; omega, by show slots + 0 ≤ 7293034; omega⟩) hS (fun q _ h => hAc q h) (fun q h => hAc q h) (fun r1 u t H locs ht hvm hw hB hz1 hk hS => ?_)
  have q_ := hw.symm
  subst q_
  rw [ht] at hB
  have hP : lPic G ids o z tE (k_lakes_s σ) H := ⟨d9, w9, hB, hwz⟩
  obtain ⟨v9, hO⟩ := hO
  replace hO : ∃ v, lOut G ids qo v H := ⟨v9, hO.kept (fun q h1 h2 => hk q h1 (fun h => by rcases h with h | h <;> omega))⟩
  replace hW : va_P G vwCl (wm (ids 0) (ids 1) (aM r) μ) H := fun k q hq0 => (hW k q hq0).kept (hk q.1 (hW k q hq0).lt (fun h => by have hqa := wm_at hq0; rcases h with h | h <;> omega))
  refine lv_aload_n hx hb dL_law_943 rfl (lv_at hl 2 rfl) ?_
  refine m_callI (As := []) (rest := [.int (k_lakes σ)]) hA0 ⟨hx, hb, hml, hown, hts⟩ (cm_lakes l G (ids 0) (ids 1) (aM r) μ ) (cwV 0 hts gL_law_X6_lakes rfl rfl rfl (by decide +kernel) ⟨Nat.le_of_ble_eq_true rfl, Nat.le_of_ble_eq_true rfl⟩) hKm hW (aM_DA r (ids 0) (ids 1) μ) hS rfl hl.1 rfl (Nat.le_of_ble_eq_true rfl) dL_law_944 ⟨by show (cells + 0) ≤ 601024; omega, by show (slots + 0) ≤ 7293034; omega⟩ (fun H1 locs1 hW1 _ _ hk hS1 => ?_)
  replace hO : ∃ v, lOut G ids qo v H ∧ True := hO.imp (fun v h => ⟨h, trivial⟩)
  obtain ⟨hP1, hO1⟩ := l_keep ho2 ho3 ho4 hP hO hk
  clear hk
  refine lv_icmp_eq (x := (k_lakes σ)) (y := (m_lakes μ)) (tgt := 1334) hx hb dL_law_947 (by decide) (fun _ => ?_) (fun c9 => absurd hp2 c9)
  exact W.widen (by omega) (by omega) (kk _ _ _ hP1 (hO1.imp (fun v h => h.1)) hW1 hS1 (lv_sub hl [0, 1, 2, 3, 4] rfl))
set_option maxHeartbeats 4000000 in
set_option maxRecDepth 100000 in
theorem law_houseOf {p : Program} {l : Launch} {e : Env} {s : State} {m : MethodId} {below : List Frame} {meth : Method} {c : Code} {b L : Nat} {xs : Nat → Int32} {G : va_G} {ids : Nat → ClassId} {tS tE o r qo z : Nat} (C0 : lX p l s m meth c b L xs G ids tS tE o r qo z) {cells slots i : Nat} {H : Heap} {locs : List Loc} {ls : Array Slot} {Q : State → Prop} {σ μ : Sg} (hi : i + 7 ≤ L) (hc : cells + 10 ≤ 601024) (hs : slots + 4000 ≤ 7293034)
    (hP : lPic G ids o z tE σ H) (hO : ∃ v, lOut G ids qo v H) (hW : va_P G vwCl (wm (ids 0) (ids 1) (aM r) μ) H) (hS : va_S (fun q => s.heap.size ≤ q) s.heap H locs) (hl : lv_has ls 8 [(4, .int (nI (i))), (3, .ref (qo)), (2, .ref (r)), (1, .ref (o)), (0, .ref (b))])
    (hMO : mOK μ) (hcO : cOK σ) (hp1 : (m_houseOf_s μ (xs (i + 1)) (xs (i + 2))).1 0 0 = nI (lC [1, 2] (kx_houseOf σ (xs (i + 1)) (xs (i + 2))))) (hp2 : (kx_houseOf σ (xs (i + 1)) (xs (i + 2))) = 0 → (k_houseOf σ (xs (i + 1)) (xs (i + 2))) = (m_houseOf μ (xs (i + 1)) (xs (i + 2))))
    (kk : ∀ (H1 : Heap) (locs1 : List Loc) (ls1 : Array Slot), lPic G ids o z tE (if (kx_houseOf σ (xs (i + 1)) (xs (i + 2))) = 0 then σ else σ) H1 → (∃ v, lOut G ids qo v H1) → va_P G vwCl (wm (ids 0) (ids 1) (aM r) (m_houseOf_s μ (xs (i + 1)) (xs (i + 2)))) H1 → va_S (fun q => s.heap.size ≤ q) s.heap H1 locs1 → lv_has ls1 8 [(4, .int (nI (i))), (3, .ref (qo)), (2, .ref (r)), (1, .ref (o)), (0, .ref (b))] → W p l e room_1 s m #[Value.ref b] below meth c H1 locs1 (cells + 10) (slots + 4000) Q (F0 m 1334 ls1 [])) : W p l e room_1 s m #[Value.ref b] below meth c H locs cells slots Q (F0 m 952 ls []) := by
  obtain ⟨hx, hb, hml, hown, hts, hX, hbl, hl0, hK, hZ, hN, ho1, ho2, ho3, ho4, hL⟩ := C0
  have hbA : ¬ (fun q : Nat => s.heap.size ≤ q) b := Nat.not_le.mpr hbl
  have hL31 : L < 2 ^ 31 := by omega
  have hKm : va_K G vwCl (mTy (ids 0) (ids 1)) s := hK.sub [0, 1] rfl
  have hA0 : ∀ q, mA (aM r) q → (fun q : Nat => s.heap.size ≤ q) q := fun q h => by have h1 := mA_in h; show s.heap.size ≤ q; omega
  refine lv_aload_n hx hb dL_law_952 rfl (lv_at hl 3 rfl) ?_
  refine lv_aload_n hx hb dL_law_953 rfl (lv_at hl 4 rfl) ?_
  refine lv_iload hx hb dL_law_954 (lv_at hl 0 rfl) ?_
  refine lv_iconst (v := nI (1)) hx hb dL_law_956 (by decide) ?_
  refine n_add (x := i) (y := 1) hx hb dL_law_957 ?_
  refine l_sld hx hb hX hbl hbA hS (j := i + 1) (by omega) hL31 dL_law_958 ?_
  refine lv_aload_n hx hb dL_law_959 rfl (lv_at hl 4 rfl) ?_
  refine lv_iload hx hb dL_law_960 (lv_at hl 0 rfl) ?_
  refine lv_iconst (v := nI (2)) hx hb dL_law_962 (by decide) ?_
  refine n_add (x := i) (y := 2) hx hb dL_law_963 ?_
  refine l_sld hx hb hX hbl hbA hS (j := i + 2) (by omega) hL31 dL_law_964 ?_
  refine lv_aload_n hx hb dL_law_965 rfl (lv_at hl 1 rfl) ?_
  refine l_wrap (As := [.ref (o), .int (xs (i + 1)), .int (xs (i + 2)), .ref (qo)]) (rest := []) ⟨hx, hb, hml, hown, hts⟩ (lc_houseOf l hl0 G ids tS tE o z qo (by omega) ho4 σ (xs (i + 1)) (xs (i + 2)) hcO) (vx_cwSW 4 hts gL_law_L_houseOf rfl rfl rfl (by decide +kernel) ⟨Nat.le_of_ble_eq_true rfl, Nat.le_of_ble_eq_true rfl⟩) hK hZ hN ho1 ho2 ho3 ho4 hP hO hW hS rfl hl.1 rfl (Nat.le_of_ble_eq_true rfl) dL_law_966 ⟨by show cells + 2 ≤ 601024; omega, by show slots + 12 ≤ 7293034; omega⟩ (fun H locs hP hO hW hS => ?_)
  refine lv_istore (lv' := [(5, .int (nI (lC [1, 2] (kx_houseOf σ (xs (i + 1)) (xs (i + 2)))))), (4, .int (nI (i))), (3, .ref (qo)), (2, .ref (r)), (1, .ref (o)), (0, .ref (b))]) hx hb dL_law_969 hl (by decide) rfl (fun ls hl => ?_)
  refine lv_aload_n hx hb dL_law_971 rfl (lv_at hl 3 rfl) ?_
  refine lv_aload_n hx hb dL_law_972 rfl (lv_at hl 5 rfl) ?_
  refine lv_iload hx hb dL_law_973 (lv_at hl 1 rfl) ?_
  refine lv_iconst (v := nI (1)) hx hb dL_law_975 (by decide) ?_
  refine n_add (x := i) (y := 1) hx hb dL_law_976 ?_
  refine l_sld hx hb hX hbl hbA hS (j := i + 1) (by omega) hL31 dL_law_977 ?_
  refine lv_aload_n hx hb dL_law_978 rfl (lv_at hl 5 rfl) ?_
  refine lv_iload hx hb dL_law_979 (lv_at hl 1 rfl) ?_
  refine lv_iconst (v := nI (2)) hx hb dL_law_981 (by decide) ?_
  refine n_add (x := i) (y := 2) hx hb dL_law_982 ?_
  refine l_sld hx hb hX hbl hbA hS (j := i + 2) (by omega) hL31 dL_law_983 ?_
  refine m_callI (As := [.int (xs (i + 1)), .int (xs (i + 2))]) (rest := []) hA0 ⟨hx, hb, hml, hown, hts⟩ (cm_houseOf l G (ids 0) (ids 1) (aM r) μ (xs (i + 1)) (xs (i + 2)) hMO) (cwV 2 hts gL_law_X6_houseOf rfl rfl rfl (by decide +kernel) ⟨Nat.le_of_ble_eq_true rfl, Nat.le_of_ble_eq_true rfl⟩) hKm hW (aM_DA r (ids 0) (ids 1) μ) hS rfl hl.1 rfl (Nat.le_of_ble_eq_true rfl) dL_law_984 ⟨by show (cells + 2) ≤ 601024; omega, by show (slots + 12) ≤ 7293034; omega⟩ (fun H1 locs1 hW1 _ _ hk hS1 => ?_)
  obtain ⟨hP1, hO1⟩ := l_keep ho2 ho3 ho4 hP hO hk
  clear hk
  refine lv_istore (lv' := [(6, .int (m_houseOf μ (xs (i + 1)) (xs (i + 2)))), (5, .int (nI (lC [1, 2] (kx_houseOf σ (xs (i + 1)) (xs (i + 2)))))), (4, .int (nI (i))), (3, .ref (qo)), (2, .ref (r)), (1, .ref (o)), (0, .ref (b))]) hx hb dL_law_987 hl (by decide) rfl (fun ls hl => ?_)
  refine lv_aload_n hx hb dL_law_989 rfl (lv_at hl 4 rfl) ?_
  refine m_callI (As := []) (rest := []) hA0 ⟨hx, hb, hml, hown, hts⟩ (cm_thrown l G (ids 0) (ids 1) (aM r) (m_houseOf_s μ (xs (i + 1)) (xs (i + 2)))) (cwV 0 hts gL_law_X6_thrown rfl rfl rfl (by decide +kernel) ⟨Nat.le_of_ble_eq_true rfl, Nat.le_of_ble_eq_true rfl⟩) hKm hW1 (aM_DA r (ids 0) (ids 1) (m_houseOf_s μ (xs (i + 1)) (xs (i + 2)))) hS1 rfl hl.1 rfl (Nat.le_of_ble_eq_true rfl) dL_law_990 ⟨by show (cells + 2) ≤ 601024; omega, by show (slots + 12) ≤ 7293034; omega⟩ (fun H2 locs2 hW2 _ _ hk hS2 => ?_)
  obtain ⟨hP2, hO2⟩ := l_keep ho2 ho3 ho4 hP1 hO1 hk
  clear hk
  refine lv_iload hx hb dL_law_993 (lv_at hl 1 rfl) ?_
  refine lv_icmp_eq (x := (m_thrown (m_houseOf_s μ (xs (i + 1)) (xs (i + 2))))) (y := (nI (lC [1, 2] (kx_houseOf σ (xs (i + 1)) (xs (i + 2)))))) (tgt := 1000) hx hb dL_law_995 (by decide) (fun _ => ?_) (fun c9 => absurd hp1 c9)
  refine lv_iload hx hb dL_law_1000 (lv_at hl 1 rfl) ?_
  refine lv_if_ne (x := (nI (lC [1, 2] (kx_houseOf σ (xs (i + 1)) (xs (i + 2)))))) (tgt := 1017) hx hb dL_law_1002 (by decide) (fun _ => ?_) (fun c9 => ?_)
  · refine lv_goto (tgt := 1334) hx hb dL_law_1017 (by decide) ?_
    exact W.widen (by omega) (by omega) (kk _ _ _ hP2 (hO2.imp (fun v h => h.1)) hW2 hS2 (lv_sub hl [2, 3, 4, 5, 6] rfl))
  · have hX0 : (kx_houseOf σ (xs (i + 1)) (xs (i + 2))) = 0 := lC_c (S := [1, 2]) (by decide) (kxK_houseOf σ (xs (i + 1)) (xs (i + 2))) c9
    obtain ⟨v9, hv9, hg9⟩ := hO2
    have hg := hg9 hX0
    (try dsimp only at hg)
    rw [hp2 hX0] at hg
    have q_ := hg.symm
    subst q_
    obtain ⟨f9, hf9, hf0⟩ := hv9
    refine lv_aload_n hx hb dL_law_1005 rfl (lv_at hl 3 rfl) ?_
    refine lv_iconst (v := nI (0)) hx hb dL_law_1006 (by decide) ?_
    refine x_lald (v := (m_houseOf μ (xs (i + 1)) (xs (i + 2))).toInt64) hx hb hK hf9 (j := nI 0) (vp_in_nI (by decide) (by decide)) (by rw [nI_clamp (by decide)]; exact hf0) dL_law_1007 ?_
    refine lv_iload hx hb dL_law_1008 (lv_at hl 0 rfl) ?_
    refine lv_i2l (v := (m_houseOf μ (xs (i + 1)) (xs (i + 2))).toInt64) hx hb dL_law_1010 rfl ?_
    refine W.lcmp hx hb dL_law_1011 ?_
    refine lv_if_eq (tgt := 1017) hx hb dL_law_1012 (by decide) (fun _ => ?_) (fun c9 => absurd (lcmp_self _) c9)
    refine lv_goto (tgt := 1334) hx hb dL_law_1017 (by decide) ?_
    exact W.widen (by omega) (by omega) (kk _ _ _ hP2 ⟨_, f9, hf9, hf0⟩ hW2 hS2 (lv_sub hl [2, 3, 4, 5, 6] rfl))
set_option maxHeartbeats 4000000 in
set_option maxRecDepth 100000 in
theorem law_reading {p : Program} {l : Launch} {e : Env} {s : State} {m : MethodId} {below : List Frame} {meth : Method} {c : Code} {b L : Nat} {xs : Nat → Int32} {G : va_G} {ids : Nat → ClassId} {tS tE o r qo z : Nat} (C0 : lX p l s m meth c b L xs G ids tS tE o r qo z) {cells slots i : Nat} {H : Heap} {locs : List Loc} {ls : Array Slot} {Q : State → Prop} {σ μ : Sg} (hi : i + 7 ≤ L) (hc : cells + 10 ≤ 601024) (hs : slots + 4000 ≤ 7293034)
    (hP : lPic G ids o z tE σ H) (hO : ∃ v, lOut G ids qo v H) (hW : va_P G vwCl (wm (ids 0) (ids 1) (aM r) μ) H) (hS : va_S (fun q => s.heap.size ≤ q) s.heap H locs) (hl : lv_has ls 8 [(4, .int (nI (i))), (3, .ref (qo)), (2, .ref (r)), (1, .ref (o)), (0, .ref (b))])
    (hMO : mOK μ) (hMB : ∀ j, j < (μ.1 19 0).toNatClampNeg → vp_in (μ.1 22 j) 601) (hcO : cOK σ) (hp1 : (m_reading_s μ (xs (i + 1)) (xs (i + 2)) (xs (i + 3))).1 0 0 = nI (lC [1] (kx_reading σ (xs (i + 1)) (xs (i + 2)) (xs (i + 3))))) (hp2 : (kx_reading σ (xs (i + 1)) (xs (i + 2)) (xs (i + 3))) = 0 → (k_reading σ (xs (i + 1)) (xs (i + 2)) (xs (i + 3))) = (m_reading μ (xs (i + 1)) (xs (i + 2)) (xs (i + 3))))
    (kk : ∀ (H1 : Heap) (locs1 : List Loc) (ls1 : Array Slot), lPic G ids o z tE (if (kx_reading σ (xs (i + 1)) (xs (i + 2)) (xs (i + 3))) = 0 then σ else σ) H1 → (∃ v, lOut G ids qo v H1) → va_P G vwCl (wm (ids 0) (ids 1) (aM r) (m_reading_s μ (xs (i + 1)) (xs (i + 2)) (xs (i + 3)))) H1 → va_S (fun q => s.heap.size ≤ q) s.heap H1 locs1 → lv_has ls1 8 [(4, .int (nI (i))), (3, .ref (qo)), (2, .ref (r)), (1, .ref (o)), (0, .ref (b))] → W p l e room_1 s m #[Value.ref b] below meth c H1 locs1 (cells + 10) (slots + 4000) Q (F0 m 1334 ls1 [])) : W p l e room_1 s m #[Value.ref b] below meth c H locs cells slots Q (F0 m 1020 ls []) := by
  obtain ⟨hx, hb, hml, hown, hts, hX, hbl, hl0, hK, hZ, hN, ho1, ho2, ho3, ho4, hL⟩ := C0
  have hbA : ¬ (fun q : Nat => s.heap.size ≤ q) b := Nat.not_le.mpr hbl
  have hL31 : L < 2 ^ 31 := by omega
  have hKm : va_K G vwCl (mTy (ids 0) (ids 1)) s := hK.sub [0, 1] rfl
  have hA0 : ∀ q, mA (aM r) q → (fun q : Nat => s.heap.size ≤ q) q := fun q h => by have h1 := mA_in h; show s.heap.size ≤ q; omega
  refine lv_aload_n hx hb dL_law_1020 rfl (lv_at hl 3 rfl) ?_
  refine lv_aload_n hx hb dL_law_1021 rfl (lv_at hl 4 rfl) ?_
  refine lv_iload hx hb dL_law_1022 (lv_at hl 0 rfl) ?_
  refine lv_iconst (v := nI (1)) hx hb dL_law_1024 (by decide) ?_
  refine n_add (x := i) (y := 1) hx hb dL_law_1025 ?_
  refine l_sld hx hb hX hbl hbA hS (j := i + 1) (by omega) hL31 dL_law_1026 ?_
  refine lv_aload_n hx hb dL_law_1027 rfl (lv_at hl 4 rfl) ?_
  refine lv_iload hx hb dL_law_1028 (lv_at hl 0 rfl) ?_
  refine lv_iconst (v := nI (2)) hx hb dL_law_1030 (by decide) ?_
  refine n_add (x := i) (y := 2) hx hb dL_law_1031 ?_
  refine l_sld hx hb hX hbl hbA hS (j := i + 2) (by omega) hL31 dL_law_1032 ?_
  refine lv_aload_n hx hb dL_law_1033 rfl (lv_at hl 4 rfl) ?_
  refine lv_iload hx hb dL_law_1034 (lv_at hl 0 rfl) ?_
  refine lv_iconst (v := nI (3)) hx hb dL_law_1036 (by decide) ?_
  refine n_add (x := i) (y := 3) hx hb dL_law_1037 ?_
  refine l_sld hx hb hX hbl hbA hS (j := i + 3) (by omega) hL31 dL_law_1038 ?_
  refine lv_aload_n hx hb dL_law_1039 rfl (lv_at hl 1 rfl) ?_
  refine l_wrap (As := [.ref (o), .int (xs (i + 1)), .int (xs (i + 2)), .int (xs (i + 3)), .ref (qo)]) (rest := []) ⟨hx, hb, hml, hown, hts⟩ (lc_reading l hl0 G ids tS tE o z qo (by omega) ho4 σ (xs (i + 1)) (xs (i + 2)) (xs (i + 3)) hcO) (vx_cwSW 5 hts gL_law_L_reading rfl rfl rfl (by decide +kernel) ⟨Nat.le_of_ble_eq_true rfl, Nat.le_of_ble_eq_true rfl⟩) hK hZ hN ho1 ho2 ho3 ho4 hP hO hW hS rfl hl.1 rfl (Nat.le_of_ble_eq_true rfl) dL_law_1040 ⟨by show cells + 3 ≤ 601024; omega, by show slots + 18 ≤ 7293034; omega⟩ (fun H locs hP hO hW hS => ?_)
  refine lv_istore (lv' := [(5, .int (nI (lC [1] (kx_reading σ (xs (i + 1)) (xs (i + 2)) (xs (i + 3)))))), (4, .int (nI (i))), (3, .ref (qo)), (2, .ref (r)), (1, .ref (o)), (0, .ref (b))]) hx hb dL_law_1043 hl (by decide) rfl (fun ls hl => ?_)
  refine lv_aload_n hx hb dL_law_1045 rfl (lv_at hl 3 rfl) ?_
  refine lv_aload_n hx hb dL_law_1046 rfl (lv_at hl 5 rfl) ?_
  refine lv_iload hx hb dL_law_1047 (lv_at hl 1 rfl) ?_
  refine lv_iconst (v := nI (1)) hx hb dL_law_1049 (by decide) ?_
  refine n_add (x := i) (y := 1) hx hb dL_law_1050 ?_
  refine l_sld hx hb hX hbl hbA hS (j := i + 1) (by omega) hL31 dL_law_1051 ?_
  refine lv_aload_n hx hb dL_law_1052 rfl (lv_at hl 5 rfl) ?_
  refine lv_iload hx hb dL_law_1053 (lv_at hl 1 rfl) ?_
  refine lv_iconst (v := nI (2)) hx hb dL_law_1055 (by decide) ?_
  refine n_add (x := i) (y := 2) hx hb dL_law_1056 ?_
  refine l_sld hx hb hX hbl hbA hS (j := i + 2) (by omega) hL31 dL_law_1057 ?_
  refine lv_aload_n hx hb dL_law_1058 rfl (lv_at hl 5 rfl) ?_
  refine lv_iload hx hb dL_law_1059 (lv_at hl 1 rfl) ?_
  refine lv_iconst (v := nI (3)) hx hb dL_law_1061 (by decide) ?_
  refine n_add (x := i) (y := 3) hx hb dL_law_1062 ?_
  refine l_sld hx hb hX hbl hbA hS (j := i + 3) (by omega) hL31 dL_law_1063 ?_
  refine m_callI (As := [.int (xs (i + 1)), .int (xs (i + 2)), .int (xs (i + 3))]) (rest := []) hA0 ⟨hx, hb, hml, hown, hts⟩ (cm_reading l G (ids 0) (ids 1) (aM r) μ (xs (i + 1)) (xs (i + 2)) (xs (i + 3)) hMO hMB) (cwV 3 hts gL_law_X6_reading rfl rfl rfl (by decide +kernel) ⟨Nat.le_of_ble_eq_true rfl, Nat.le_of_ble_eq_true rfl⟩) hKm hW (aM_DA r (ids 0) (ids 1) μ) hS rfl hl.1 rfl (Nat.le_of_ble_eq_true rfl) dL_law_1064 ⟨by show (cells + 3) ≤ 601024; omega, by show (slots + 18) ≤ 7293034; omega⟩ (fun H1 locs1 hW1 _ _ hk hS1 => ?_)
  obtain ⟨hP1, hO1⟩ := l_keep ho2 ho3 ho4 hP hO hk
  clear hk
  refine lv_istore (lv' := [(6, .int (m_reading μ (xs (i + 1)) (xs (i + 2)) (xs (i + 3)))), (5, .int (nI (lC [1] (kx_reading σ (xs (i + 1)) (xs (i + 2)) (xs (i + 3)))))), (4, .int (nI (i))), (3, .ref (qo)), (2, .ref (r)), (1, .ref (o)), (0, .ref (b))]) hx hb dL_law_1067 hl (by decide) rfl (fun ls hl => ?_)
  refine lv_aload_n hx hb dL_law_1069 rfl (lv_at hl 4 rfl) ?_
  refine m_callI (As := []) (rest := []) hA0 ⟨hx, hb, hml, hown, hts⟩ (cm_thrown l G (ids 0) (ids 1) (aM r) (m_reading_s μ (xs (i + 1)) (xs (i + 2)) (xs (i + 3)))) (cwV 0 hts gL_law_X6_thrown rfl rfl rfl (by decide +kernel) ⟨Nat.le_of_ble_eq_true rfl, Nat.le_of_ble_eq_true rfl⟩) hKm hW1 (aM_DA r (ids 0) (ids 1) (m_reading_s μ (xs (i + 1)) (xs (i + 2)) (xs (i + 3)))) hS1 rfl hl.1 rfl (Nat.le_of_ble_eq_true rfl) dL_law_1070 ⟨by show (cells + 3) ≤ 601024; omega, by show (slots + 18) ≤ 7293034; omega⟩ (fun H2 locs2 hW2 _ _ hk hS2 => ?_)
  obtain ⟨hP2, hO2⟩ := l_keep ho2 ho3 ho4 hP1 hO1 hk
  clear hk
  refine lv_iload hx hb dL_law_1073 (lv_at hl 1 rfl) ?_
  refine lv_icmp_eq (x := (m_thrown (m_reading_s μ (xs (i + 1)) (xs (i + 2)) (xs (i + 3))))) (y := (nI (lC [1] (kx_reading σ (xs (i + 1)) (xs (i + 2)) (xs (i + 3)))))) (tgt := 1080) hx hb dL_law_1075 (by decide) (fun _ => ?_) (fun c9 => absurd hp1 c9)
  refine lv_iload hx hb dL_law_1080 (lv_at hl 1 rfl) ?_
  refine lv_if_ne (x := (nI (lC [1] (kx_reading σ (xs (i + 1)) (xs (i + 2)) (xs (i + 3)))))) (tgt := 1097) hx hb dL_law_1082 (by decide) (fun _ => ?_) (fun c9 => ?_)
  · refine lv_goto (tgt := 1334) hx hb dL_law_1097 (by decide) ?_
    exact W.widen (by omega) (by omega) (kk _ _ _ hP2 (hO2.imp (fun v h => h.1)) hW2 hS2 (lv_sub hl [2, 3, 4, 5, 6] rfl))
  · have hX0 : (kx_reading σ (xs (i + 1)) (xs (i + 2)) (xs (i + 3))) = 0 := lC_c (S := [1]) (by decide) (kxK_reading σ (xs (i + 1)) (xs (i + 2)) (xs (i + 3))) c9
    obtain ⟨v9, hv9, hg9⟩ := hO2
    have hg := hg9 hX0
    (try dsimp only at hg)
    rw [hp2 hX0] at hg
    have q_ := hg.symm
    subst q_
    obtain ⟨f9, hf9, hf0⟩ := hv9
    refine lv_aload_n hx hb dL_law_1085 rfl (lv_at hl 3 rfl) ?_
    refine lv_iconst (v := nI (0)) hx hb dL_law_1086 (by decide) ?_
    refine x_lald (v := (m_reading μ (xs (i + 1)) (xs (i + 2)) (xs (i + 3))).toInt64) hx hb hK hf9 (j := nI 0) (vp_in_nI (by decide) (by decide)) (by rw [nI_clamp (by decide)]; exact hf0) dL_law_1087 ?_
    refine lv_iload hx hb dL_law_1088 (lv_at hl 0 rfl) ?_
    refine lv_i2l (v := (m_reading μ (xs (i + 1)) (xs (i + 2)) (xs (i + 3))).toInt64) hx hb dL_law_1090 rfl ?_
    refine W.lcmp hx hb dL_law_1091 ?_
    refine lv_if_eq (tgt := 1097) hx hb dL_law_1092 (by decide) (fun _ => ?_) (fun c9 => absurd (lcmp_self _) c9)
    refine lv_goto (tgt := 1334) hx hb dL_law_1097 (by decide) ?_
    exact W.widen (by omega) (by omega) (kk _ _ _ hP2 ⟨_, f9, hf9, hf0⟩ hW2 hS2 (lv_sub hl [2, 3, 4, 5, 6] rfl))
set_option maxHeartbeats 4000000 in
set_option maxRecDepth 100000 in
theorem law_claimOf {p : Program} {l : Launch} {e : Env} {s : State} {m : MethodId} {below : List Frame} {meth : Method} {c : Code} {b L : Nat} {xs : Nat → Int32} {G : va_G} {ids : Nat → ClassId} {tS tE o r qo z : Nat} (C0 : lX p l s m meth c b L xs G ids tS tE o r qo z) {cells slots i : Nat} {H : Heap} {locs : List Loc} {ls : Array Slot} {Q : State → Prop} {σ μ : Sg} (hi : i + 7 ≤ L) (hc : cells + 10 ≤ 601024) (hs : slots + 4000 ≤ 7293034)
    (hP : lPic G ids o z tE σ H) (hO : ∃ v, lOut G ids qo v H) (hW : va_P G vwCl (wm (ids 0) (ids 1) (aM r) μ) H) (hS : va_S (fun q => s.heap.size ≤ q) s.heap H locs) (hl : lv_has ls 8 [(4, .int (nI (i))), (3, .ref (qo)), (2, .ref (r)), (1, .ref (o)), (0, .ref (b))])
    (hMO : mOK μ) (hcO : cOK σ) (hp1 : (m_claimOf_s μ (xs (i + 1))).1 0 0 = nI (lC [1] (kx_claimOf σ (xs (i + 1))))) (hp2 : (kx_claimOf σ (xs (i + 1))) = 0 → (k_claimOf σ (xs (i + 1))) = (m_claimOf μ (xs (i + 1))))
    (kk : ∀ (H1 : Heap) (locs1 : List Loc) (ls1 : Array Slot), lPic G ids o z tE (if (kx_claimOf σ (xs (i + 1))) = 0 then σ else σ) H1 → (∃ v, lOut G ids qo v H1) → va_P G vwCl (wm (ids 0) (ids 1) (aM r) (m_claimOf_s μ (xs (i + 1)))) H1 → va_S (fun q => s.heap.size ≤ q) s.heap H1 locs1 → lv_has ls1 8 [(4, .int (nI (i))), (3, .ref (qo)), (2, .ref (r)), (1, .ref (o)), (0, .ref (b))] → W p l e room_1 s m #[Value.ref b] below meth c H1 locs1 (cells + 10) (slots + 4000) Q (F0 m 1334 ls1 [])) : W p l e room_1 s m #[Value.ref b] below meth c H locs cells slots Q (F0 m 1100 ls []) := by
  obtain ⟨hx, hb, hml, hown, hts, hX, hbl, hl0, hK, hZ, hN, ho1, ho2, ho3, ho4, hL⟩ := C0
  have hbA : ¬ (fun q : Nat => s.heap.size ≤ q) b := Nat.not_le.mpr hbl
  have hL31 : L < 2 ^ 31 := by omega
  have hKm : va_K G vwCl (mTy (ids 0) (ids 1)) s := hK.sub [0, 1] rfl
  have hA0 : ∀ q, mA (aM r) q → (fun q : Nat => s.heap.size ≤ q) q := fun q h => by have h1 := mA_in h; show s.heap.size ≤ q; omega
  refine lv_aload_n hx hb dL_law_1100 rfl (lv_at hl 3 rfl) ?_
  refine lv_aload_n hx hb dL_law_1101 rfl (lv_at hl 4 rfl) ?_
  refine lv_iload hx hb dL_law_1102 (lv_at hl 0 rfl) ?_
  refine lv_iconst (v := nI (1)) hx hb dL_law_1104 (by decide) ?_
  refine n_add (x := i) (y := 1) hx hb dL_law_1105 ?_
  refine l_sld hx hb hX hbl hbA hS (j := i + 1) (by omega) hL31 dL_law_1106 ?_
  refine lv_aload_n hx hb dL_law_1107 rfl (lv_at hl 1 rfl) ?_
  refine l_wrap (As := [.ref (o), .int (xs (i + 1)), .ref (qo)]) (rest := []) ⟨hx, hb, hml, hown, hts⟩ (lc_claimOf l hl0 G ids tS tE o z qo (by omega) ho4 σ (xs (i + 1)) hcO) (vx_cwSW 3 hts gL_law_L_claimOf rfl rfl rfl (by decide +kernel) ⟨Nat.le_of_ble_eq_true rfl, Nat.le_of_ble_eq_true rfl⟩) hK hZ hN ho1 ho2 ho3 ho4 hP hO hW hS rfl hl.1 rfl (Nat.le_of_ble_eq_true rfl) dL_law_1108 ⟨by show cells + 1 ≤ 601024; omega, by show slots + 6 ≤ 7293034; omega⟩ (fun H locs hP hO hW hS => ?_)
  refine lv_istore (lv' := [(5, .int (nI (lC [1] (kx_claimOf σ (xs (i + 1)))))), (4, .int (nI (i))), (3, .ref (qo)), (2, .ref (r)), (1, .ref (o)), (0, .ref (b))]) hx hb dL_law_1111 hl (by decide) rfl (fun ls hl => ?_)
  refine lv_aload_n hx hb dL_law_1113 rfl (lv_at hl 3 rfl) ?_
  refine lv_aload_n hx hb dL_law_1114 rfl (lv_at hl 5 rfl) ?_
  refine lv_iload hx hb dL_law_1115 (lv_at hl 1 rfl) ?_
  refine lv_iconst (v := nI (1)) hx hb dL_law_1117 (by decide) ?_
  refine n_add (x := i) (y := 1) hx hb dL_law_1118 ?_
  refine l_sld hx hb hX hbl hbA hS (j := i + 1) (by omega) hL31 dL_law_1119 ?_
  refine m_callI (As := [.int (xs (i + 1))]) (rest := []) hA0 ⟨hx, hb, hml, hown, hts⟩ (cm_claimOf l G (ids 0) (ids 1) (aM r) μ (xs (i + 1)) hMO) (cwV 1 hts gL_law_X6_claimOf rfl rfl rfl (by decide +kernel) ⟨Nat.le_of_ble_eq_true rfl, Nat.le_of_ble_eq_true rfl⟩) hKm hW (aM_DA r (ids 0) (ids 1) μ) hS rfl hl.1 rfl (Nat.le_of_ble_eq_true rfl) dL_law_1120 ⟨by show (cells + 1) ≤ 601024; omega, by show (slots + 6) ≤ 7293034; omega⟩ (fun H1 locs1 hW1 _ _ hk hS1 => ?_)
  obtain ⟨hP1, hO1⟩ := l_keep ho2 ho3 ho4 hP hO hk
  clear hk
  refine lv_istore (lv' := [(6, .int (m_claimOf μ (xs (i + 1)))), (5, .int (nI (lC [1] (kx_claimOf σ (xs (i + 1)))))), (4, .int (nI (i))), (3, .ref (qo)), (2, .ref (r)), (1, .ref (o)), (0, .ref (b))]) hx hb dL_law_1123 hl (by decide) rfl (fun ls hl => ?_)
  refine lv_aload_n hx hb dL_law_1125 rfl (lv_at hl 4 rfl) ?_
  refine m_callI (As := []) (rest := []) hA0 ⟨hx, hb, hml, hown, hts⟩ (cm_thrown l G (ids 0) (ids 1) (aM r) (m_claimOf_s μ (xs (i + 1)))) (cwV 0 hts gL_law_X6_thrown rfl rfl rfl (by decide +kernel) ⟨Nat.le_of_ble_eq_true rfl, Nat.le_of_ble_eq_true rfl⟩) hKm hW1 (aM_DA r (ids 0) (ids 1) (m_claimOf_s μ (xs (i + 1)))) hS1 rfl hl.1 rfl (Nat.le_of_ble_eq_true rfl) dL_law_1126 ⟨by show (cells + 1) ≤ 601024; omega, by show (slots + 6) ≤ 7293034; omega⟩ (fun H2 locs2 hW2 _ _ hk hS2 => ?_)
  obtain ⟨hP2, hO2⟩ := l_keep ho2 ho3 ho4 hP1 hO1 hk
  clear hk
  refine lv_iload hx hb dL_law_1129 (lv_at hl 1 rfl) ?_
  refine lv_icmp_eq (x := (m_thrown (m_claimOf_s μ (xs (i + 1))))) (y := (nI (lC [1] (kx_claimOf σ (xs (i + 1)))))) (tgt := 1136) hx hb dL_law_1131 (by decide) (fun _ => ?_) (fun c9 => absurd hp1 c9)
  refine lv_iload hx hb dL_law_1136 (lv_at hl 1 rfl) ?_
  refine lv_if_ne (x := (nI (lC [1] (kx_claimOf σ (xs (i + 1)))))) (tgt := 1153) hx hb dL_law_1138 (by decide) (fun _ => ?_) (fun c9 => ?_)
  · refine lv_goto (tgt := 1334) hx hb dL_law_1153 (by decide) ?_
    exact W.widen (by omega) (by omega) (kk _ _ _ hP2 (hO2.imp (fun v h => h.1)) hW2 hS2 (lv_sub hl [2, 3, 4, 5, 6] rfl))
  · have hX0 : (kx_claimOf σ (xs (i + 1))) = 0 := lC_c (S := [1]) (by decide) (kxK_claimOf σ (xs (i + 1))) c9
    obtain ⟨v9, hv9, hg9⟩ := hO2
    have hg := hg9 hX0
    (try dsimp only at hg)
    rw [hp2 hX0] at hg
    have q_ := hg.symm
    subst q_
    obtain ⟨f9, hf9, hf0⟩ := hv9
    refine lv_aload_n hx hb dL_law_1141 rfl (lv_at hl 3 rfl) ?_
    refine lv_iconst (v := nI (0)) hx hb dL_law_1142 (by decide) ?_
    refine x_lald (v := (m_claimOf μ (xs (i + 1))).toInt64) hx hb hK hf9 (j := nI 0) (vp_in_nI (by decide) (by decide)) (by rw [nI_clamp (by decide)]; exact hf0) dL_law_1143 ?_
    refine lv_iload hx hb dL_law_1144 (lv_at hl 0 rfl) ?_
    refine lv_i2l (v := (m_claimOf μ (xs (i + 1))).toInt64) hx hb dL_law_1146 rfl ?_
    refine W.lcmp hx hb dL_law_1147 ?_
    refine lv_if_eq (tgt := 1153) hx hb dL_law_1148 (by decide) (fun _ => ?_) (fun c9 => absurd (lcmp_self _) c9)
    refine lv_goto (tgt := 1334) hx hb dL_law_1153 (by decide) ?_
    exact W.widen (by omega) (by omega) (kk _ _ _ hP2 ⟨_, f9, hf9, hf0⟩ hW2 hS2 (lv_sub hl [2, 3, 4, 5, 6] rfl))
