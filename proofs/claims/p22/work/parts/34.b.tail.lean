set_option maxHeartbeats 4000000 in
set_option maxRecDepth 100000 in
theorem law_tail {p : Program} {l : Launch} {e : Env} {s : State} {m : MethodId} {below : List Frame} {meth : Method} {c : Code} {b L : Nat} {xs : Nat → Int32} {G : va_G} {ids : Nat → ClassId} {tS tE o qo z : Nat} (C0 : LX p l s m c b L xs G ids tS tE o qo z) {Q : State → Prop} {cells slots : Nat} (hcell : cells + 5000 ≤ 600074) (hslot : slots + 40000 ≤ 7301550) {σ : Sg} {f : Nat → Int32} {H : Heap} {locs : List Loc} {ls : Array Slot} (hI : IV σ) (hP : vP G ids o z tE σ H) (hq : sP G ids qo f H) (hf : ∀ x, x < cpN σ 1 → f x = σ.1 22 x) (hS : va_S (fun q => s.heap.size ≤ q) s.heap H locs) {k cel Y : Nat} (hc : cel < 25) (hY : Y < 2 ^ 31) (hk : k < 40) {M9 : Nat} (hl : lv_has ls 19 [(11, .int (nI (cel))), (9, .int (nI (Y))), (7, .int (nI (k))), (2, .int (nI (1))), (3, .int (nI (cpN σ 0))), (4, .int (nI (cpN σ 1))), (5, .int (nI (cpN σ 2))), (6, .ref (qo)), (1, .ref (o)), (0, .ref (b))])
    (kk : ∀ (σ : Sg) (f : Nat → Int32) (H : Heap) (locs : List Loc) (ls : Array Slot), IV σ → mon σ ≤ M9 → vP G ids o z tE σ H → sP G ids qo f H → (∀ x, x < cpN σ 1 → f x = σ.1 22 x) → va_S (fun q => s.heap.size ≤ q) s.heap H locs → lv_has ls 19 [(7, .int (nI (k + 1))), (2, .int (nI (1))), (3, .int (nI (cpN σ 0))), (4, .int (nI (cpN σ 1))), (5, .int (nI (cpN σ 2))), (6, .ref (qo)), (1, .ref (o)), (0, .ref (b))] → W p l e room_1 s m #[Value.ref b] below meth c H locs (cells + 4600) (slots + 36000) Q (F0 m 27 ls [])) (hM9 : mon σ ≤ M9) : W p l e room_1 s m #[Value.ref b] below meth c H locs cells slots Q (F0 m 843 ls []) := by
  obtain ⟨hx, hb, hml, hown, hts, hX, hbl, hl0, hK, hZ, hN, ho1, ho2, ho3, hL⟩ := id C0
  have hA : ∀ q, cpG o z q → (fun q : Nat => s.heap.size ≤ q) q := fun q h => by
    show s.heap.size ≤ q
    rcases h with h | h
    · omega
    · omega
  have hqn : ¬ cpG o z qo := by
    unfold cpG
    omega
  have hmo := hI.mo.2
  have hn0 := hI.n0.2
  have hn1 := hI.n1.2
  have hn2 := hI.n2.2
  refine w_named (fun WW hWW => ?_)
  refine lv_iconst (v := nI (0)) hx hb dL_law_843 (by decide) ?_
  refine lv_istore (lv' := [(12, .int (nI (0))), (11, .int (nI (cel))), (9, .int (nI (Y))), (7, .int (nI (k))), (2, .int (nI (1))), (3, .int (nI (cpN σ 0))), (4, .int (nI (cpN σ 1))), (5, .int (nI (cpN σ 2))), (6, .ref (qo)), (1, .ref (o)), (0, .ref (b))]) hx hb dL_law_844 hl (by decide) rfl (fun ls hl => ?_)
  have L846 : ∀ (n846 bb : Nat), bb ≤ cpN σ 1 → cpN σ 1 + 1 ≤ bb + n846 → ∀ (H : Heap) (locs : List Loc) (ls : Array Slot), vP G ids o z tE σ H → sP G ids qo f H → va_S (fun q => s.heap.size ≤ q) s.heap H locs → lv_has ls 19 [(12, .int (nI (bb))), (11, .int (nI (cel))), (9, .int (nI (Y))), (7, .int (nI (k))), (2, .int (nI (1))), (3, .int (nI (cpN σ 0))), (4, .int (nI (cpN σ 1))), (5, .int (nI (cpN σ 2))), (6, .ref (qo)), (1, .ref (o)), (0, .ref (b))] → WW H locs (cells + 9 * bb) (slots + 54 * bb) (F0 m 846 ls []) := by
    intro n846
    induction n846 with
    | zero => intro bb h1 h2; exact absurd h2 (by omega)
    | succ n846 ih846 =>
      intro bb hi846 hn846 H locs ls hP hq hS hl
      refine (hWW _ _ _ _ _).mpr ?_
      refine lv_iload hx hb dL_law_846 (lv_at hl 0 rfl) ?_
      refine lv_iload hx hb dL_law_848 (lv_at hl 6 rfl) ?_
      refine n_icmp_ge (x := bb) (y := cpN σ 1) (tgt := 944) hx hb (by omega) (by omega) dL_law_850 (by decide) (fun c850 => ?_) (fun c850 => ?_)
      · have hq : bb = cpN σ 1 := by omega
        subst hq
        refine lv_iload hx hb dL_law_944 (lv_at hl 3 rfl) ?_
        refine lv_bipush (v := nI (8)) hx hb dL_law_946 (by decide) ?_
        refine n_rem (x := k) (y := 8) hx hb (by omega) (by omega) (by omega) dL_law_948 ?_
        refine lv_bipush (v := nI (7)) hx hb dL_law_949 (by decide) ?_
        refine n_icmp_ne (x := (k) % (8)) (y := 7) (tgt := 1018) hx hb (by omega) (by decide) dL_law_951 (by decide) (fun c951 => ?_) (fun c951 => ?_)
        · refine lv_iload hx hb dL_law_1018 (lv_at hl 3 rfl) ?_
          refine lv_bipush (v := nI (20)) hx hb dL_law_1020 (by decide) ?_
          refine n_rem (x := k) (y := 20) hx hb (by omega) (by omega) (by omega) dL_law_1022 ?_
          refine lv_bipush (v := nI (19)) hx hb dL_law_1023 (by decide) ?_
          refine n_icmp_ne (x := (k) % (20)) (y := 19) (tgt := 1045) hx hb (by omega) (by decide) dL_law_1025 (by decide) (fun c1025 => ?_) (fun c1025 => ?_)
          · refine n_iinc (x := k) (dN := 1) (k := 3) (lv' := [(7, .int (nI (k + 1))), (12, .int (nI ((cpN σ 1)))), (11, .int (nI (cel))), (9, .int (nI (Y))), (2, .int (nI (1))), (3, .int (nI (cpN σ 0))), (4, .int (nI (cpN σ 1))), (5, .int (nI (cpN σ 2))), (6, .ref (qo)), (1, .ref (o)), (0, .ref (b))]) hx hb dL_law_1045 hl rfl (by decide) rfl (fun ls hl => ?_)
            refine lv_goto (tgt := 27) hx hb dL_law_1048 (by decide) ?_
            exact W.widen (by omega) (by omega) (kk σ f H locs ls hI hM9 hP hq hf hS (lv_sub hl [0, 4, 5, 6, 7, 8, 9, 10] rfl))
          · refine lv_iload_n hx hb dL_law_1028 rfl (lv_at hl 4 rfl) ?_
            refine n_if_eq (x := 1) (tgt := 1043) hx hb (by decide) dL_law_1029 (by decide) (fun c9 => absurd c9 (by decide)) (fun _ => ?_)
            refine lv_aload_n hx hb dL_law_1032 rfl (lv_at hl 9 rfl) ?_
            refine l_help (As := [.ref (o)]) (rest := []) ⟨hx, hb, hml, hown, hts⟩ (hc_refuses l hl0 G ids tS tE o z hI) (va_cwS 1 hts gL_law_L_refuses rfl rfl rfl (by decide +kernel) ⟨Nat.le_of_ble_eq_true rfl, Nat.le_of_ble_eq_true rfl⟩) hK hZ hN hA hP hS rfl hl.1 rfl (Nat.le_of_ble_eq_true rfl) dL_law_1033 ⟨by show (cells + 9 * cpN σ 1) + 300 ≤ 600074; omega, by show (slots + 54 * cpN σ 1) + 9000 ≤ 7301550; omega⟩ (c1 := cells + 9 * cpN σ 1 + 300) (s1 := slots + 54 * cpN σ 1 + 9000) (by omega) (by omega) (fun H locs hP hS hz9 hk9 => ?_)
            replace hq := hq.kept (hk9 _ hq.lt hqn)
            clear hz9 hk9
            refine n_if_eq (x := 1) (tgt := 1043) hx hb (by decide) dL_law_1036 (by decide) (fun c9 => absurd c9 (by decide)) (fun _ => ?_)
            refine lv_iconst (v := nI (1)) hx hb dL_law_1039 (by decide) ?_
            refine lv_goto (tgt := 1044) hx hb dL_law_1040 (by decide) ?_
            refine lv_istore_n (lv' := [(2, .int (nI (1))), (12, .int (nI ((cpN σ 1)))), (11, .int (nI (cel))), (9, .int (nI (Y))), (7, .int (nI (k))), (3, .int (nI (cpN σ 0))), (4, .int (nI (cpN σ 1))), (5, .int (nI (cpN σ 2))), (6, .ref (qo)), (1, .ref (o)), (0, .ref (b))]) hx hb dL_law_1044 rfl hl (by decide) rfl (fun ls hl => ?_)
            refine n_iinc (x := k) (dN := 1) (k := 4) (lv' := [(7, .int (nI (k + 1))), (2, .int (nI (1))), (12, .int (nI ((cpN σ 1)))), (11, .int (nI (cel))), (9, .int (nI (Y))), (3, .int (nI (cpN σ 0))), (4, .int (nI (cpN σ 1))), (5, .int (nI (cpN σ 2))), (6, .ref (qo)), (1, .ref (o)), (0, .ref (b))]) hx hb dL_law_1045 hl rfl (by decide) rfl (fun ls hl => ?_)
            refine lv_goto (tgt := 27) hx hb dL_law_1048 (by decide) ?_
            exact W.widen (by omega) (by omega) (kk σ f H locs ls hI hM9 hP hq hf hS (lv_sub hl [0, 1, 5, 6, 7, 8, 9, 10] rfl))
        · refine lv_iload_n hx hb dL_law_954 rfl (lv_at hl 4 rfl) ?_
          refine n_if_eq (x := 1) (tgt := 1016) hx hb (by decide) dL_law_955 (by decide) (fun c9 => absurd c9 (by decide)) (fun _ => ?_)
          refine lv_aload_n hx hb dL_law_958 rfl (lv_at hl 9 rfl) ?_
          refine l_help (As := [.ref (o)]) (rest := []) ⟨hx, hb, hml, hown, hts⟩ (hc_balances l hl0 G ids tS tE o z hI) (va_cwS 1 hts gL_law_L_balances rfl rfl rfl (by decide +kernel) ⟨Nat.le_of_ble_eq_true rfl, Nat.le_of_ble_eq_true rfl⟩) hK hZ hN hA hP hS rfl hl.1 rfl (Nat.le_of_ble_eq_true rfl) dL_law_959 ⟨by show (cells + 9 * cpN σ 1) + 3000 ≤ 600074; omega, by show (slots + 54 * cpN σ 1) + 18000 ≤ 7301550; omega⟩ (c1 := cells + 9 * cpN σ 1 + 3000) (s1 := slots + 54 * cpN σ 1 + 18000) (by omega) (by omega) (fun H locs hP hS hz9 hk9 => ?_)
          replace hq := hq.kept (hk9 _ hq.lt hqn)
          clear hz9 hk9
          refine n_if_eq (x := 1) (tgt := 1016) hx hb (by decide) dL_law_962 (by decide) (fun c9 => absurd c9 (by decide)) (fun _ => ?_)
          refine lv_aload_n hx hb dL_law_965 rfl (lv_at hl 9 rfl) ?_
          refine lv_iload hx hb dL_law_966 (lv_at hl 1 rfl) ?_
          refine l_help (As := [.ref (o), .int (nI (cel))]) (rest := []) ⟨hx, hb, hml, hown, hts⟩ (hc_cellHolds l hl0 G ids tS tE o z hI (cel := cel) hc) (va_cwS 2 hts gL_law_L_cellHolds rfl rfl rfl (by decide +kernel) ⟨Nat.le_of_ble_eq_true rfl, Nat.le_of_ble_eq_true rfl⟩) hK hZ hN hA hP hS rfl hl.1 rfl (Nat.le_of_ble_eq_true rfl) dL_law_968 ⟨by show (cells + 9 * cpN σ 1 + 3000) + 300 ≤ 600074; omega, by show (slots + 54 * cpN σ 1 + 18000) + 1800 ≤ 7301550; omega⟩ (c1 := cells + 9 * cpN σ 1 + 3300) (s1 := slots + 54 * cpN σ 1 + 19800) (by omega) (by omega) (fun H locs hP hS hz9 hk9 => ?_)
          replace hq := hq.kept (hk9 _ hq.lt hqn)
          clear hz9 hk9
          refine n_if_eq (x := 1) (tgt := 1016) hx hb (by decide) dL_law_971 (by decide) (fun c9 => absurd c9 (by decide)) (fun _ => ?_)
          refine lv_aload_n hx hb dL_law_974 rfl (lv_at hl 9 rfl) ?_
          refine lv_iload hx hb dL_law_975 (lv_at hl 2 rfl) ?_
          refine lv_bipush (v := nI (25)) hx hb dL_law_977 (by decide) ?_
          refine n_rem (x := Y) (y := 25) hx hb (by omega) (by omega) (by omega) dL_law_979 ?_
          refine l_help (As := [.ref (o), .int (nI ((Y) % (25)))]) (rest := []) ⟨hx, hb, hml, hown, hts⟩ (hc_cellHolds l hl0 G ids tS tE o z hI (cel := Y % 25) (by omega)) (va_cwS 2 hts gL_law_L_cellHolds rfl rfl rfl (by decide +kernel) ⟨Nat.le_of_ble_eq_true rfl, Nat.le_of_ble_eq_true rfl⟩) hK hZ hN hA hP hS rfl hl.1 rfl (Nat.le_of_ble_eq_true rfl) dL_law_980 ⟨by show (cells + 9 * cpN σ 1 + 3300) + 300 ≤ 600074; omega, by show (slots + 54 * cpN σ 1 + 19800) + 1800 ≤ 7301550; omega⟩ (c1 := cells + 9 * cpN σ 1 + 3600) (s1 := slots + 54 * cpN σ 1 + 21600) (by omega) (by omega) (fun H locs hP hS hz9 hk9 => ?_)
          replace hq := hq.kept (hk9 _ hq.lt hqn)
          clear hz9 hk9
          refine n_if_eq (x := 1) (tgt := 1016) hx hb (by decide) dL_law_983 (by decide) (fun c9 => absurd c9 (by decide)) (fun _ => ?_)
          refine lv_aload_n hx hb dL_law_986 rfl (lv_at hl 9 rfl) ?_
          refine lv_iload_n hx hb dL_law_987 rfl (lv_at hl 5 rfl) ?_
          refine lv_iload hx hb dL_law_988 (lv_at hl 7 rfl) ?_
          refine l_help (As := [.ref (o), .int (nI (cpN σ 0)), .int (nI (cpN σ 2))]) (rest := []) ⟨hx, hb, hml, hown, hts⟩ (hc_claimsHold l hl0 G ids tS tE o z hI) (va_cwS 3 hts gL_law_L_claimsHold rfl rfl rfl (by decide +kernel) ⟨Nat.le_of_ble_eq_true rfl, Nat.le_of_ble_eq_true rfl⟩) hK hZ hN hA hP hS rfl hl.1 rfl (Nat.le_of_ble_eq_true rfl) dL_law_990 ⟨by show (cells + 9 * cpN σ 1 + 3600) + 400 ≤ 600074; omega, by show (slots + 54 * cpN σ 1 + 21600) + 2400 ≤ 7301550; omega⟩ (c1 := cells + 9 * cpN σ 1 + 4000) (s1 := slots + 54 * cpN σ 1 + 24000) (by omega) (by omega) (fun H locs hP hS hz9 hk9 => ?_)
          replace hq := hq.kept (hk9 _ hq.lt hqn)
          clear hz9 hk9
          refine n_if_eq (x := 1) (tgt := 1016) hx hb (by decide) dL_law_993 (by decide) (fun c9 => absurd c9 (by decide)) (fun _ => ?_)
          refine lv_aload_n hx hb dL_law_996 rfl (lv_at hl 9 rfl) ?_
          refine l_lakes (rest := []) ⟨hx, hb, hml, hown, hts⟩ (cwV 0 hts gL_law_X5_lakes rfl rfl rfl (by decide +kernel) ⟨Nat.le_of_ble_eq_true rfl, Nat.le_of_ble_eq_true rfl⟩) hK hZ hA hP hS hl.1 (Nat.le_of_ble_eq_true rfl) dL_law_997 ⟨by show (cells + 9 * cpN σ 1 + 4000) + 0 ≤ 600074; omega, by show (slots + 54 * cpN σ 1 + 24000) + 0 ≤ 7301550; omega⟩ (Pr := fun r => 0 ≤ r.toInt ∧ r.toInt ≤ 13) (fun τ v => lakes_b (v.iv hI)) (fun rl H locs hrl hP hS hz9 hk9 => ?_)
          replace hq := hq.kept (hk9 _ hq.lt hqn)
          clear hz9 hk9
          refine lv_if_lt (x := rl) (tgt := 1016) hx hb dL_law_1000 (by decide) (fun c9 => absurd c9 ((by rw [i_lt, z_0]; omega))) (fun _ => ?_)
          refine lv_aload_n hx hb dL_law_1003 rfl (lv_at hl 9 rfl) ?_
          refine l_lakes (rest := []) ⟨hx, hb, hml, hown, hts⟩ (cwV 0 hts gL_law_X5_lakes rfl rfl rfl (by decide +kernel) ⟨Nat.le_of_ble_eq_true rfl, Nat.le_of_ble_eq_true rfl⟩) hK hZ hA hP hS hl.1 (Nat.le_of_ble_eq_true rfl) dL_law_1004 ⟨by show (cells + 9 * cpN σ 1 + 4000) + 0 ≤ 600074; omega, by show (slots + 54 * cpN σ 1 + 24000) + 0 ≤ 7301550; omega⟩ (Pr := fun r => 0 ≤ r.toInt ∧ r.toInt ≤ 13) (fun τ v => lakes_b (v.iv hI)) (fun rl H locs hrl hP hS hz9 hk9 => ?_)
          replace hq := hq.kept (hk9 _ hq.lt hqn)
          clear hz9 hk9
          refine lv_bipush (v := nI (13)) hx hb dL_law_1007 (by decide) ?_
          refine lv_icmp_gt (x := rl) (y := nI (13)) (tgt := 1016) hx hb dL_law_1009 (by decide) (fun c9 => absurd c9 ((by rw [i_lt, k_13]; omega))) (fun _ => ?_)
          refine lv_iconst (v := nI (1)) hx hb dL_law_1012 (by decide) ?_
          refine lv_goto (tgt := 1017) hx hb dL_law_1013 (by decide) ?_
          refine lv_istore_n (lv' := [(2, .int (nI (1))), (12, .int (nI ((cpN σ 1)))), (11, .int (nI (cel))), (9, .int (nI (Y))), (7, .int (nI (k))), (3, .int (nI (cpN σ 0))), (4, .int (nI (cpN σ 1))), (5, .int (nI (cpN σ 2))), (6, .ref (qo)), (1, .ref (o)), (0, .ref (b))]) hx hb dL_law_1017 rfl hl (by decide) rfl (fun ls hl => ?_)
          refine lv_iload hx hb dL_law_1018 (lv_at hl 4 rfl) ?_
          refine lv_bipush (v := nI (20)) hx hb dL_law_1020 (by decide) ?_
          refine n_rem (x := k) (y := 20) hx hb (by omega) (by omega) (by omega) dL_law_1022 ?_
          refine lv_bipush (v := nI (19)) hx hb dL_law_1023 (by decide) ?_
          refine n_icmp_ne (x := (k) % (20)) (y := 19) (tgt := 1045) hx hb (by omega) (by decide) dL_law_1025 (by decide) (fun c1025 => ?_) (fun c1025 => ?_)
          · refine n_iinc (x := k) (dN := 1) (k := 4) (lv' := [(7, .int (nI (k + 1))), (2, .int (nI (1))), (12, .int (nI ((cpN σ 1)))), (11, .int (nI (cel))), (9, .int (nI (Y))), (3, .int (nI (cpN σ 0))), (4, .int (nI (cpN σ 1))), (5, .int (nI (cpN σ 2))), (6, .ref (qo)), (1, .ref (o)), (0, .ref (b))]) hx hb dL_law_1045 hl rfl (by decide) rfl (fun ls hl => ?_)
            refine lv_goto (tgt := 27) hx hb dL_law_1048 (by decide) ?_
            exact W.widen (by omega) (by omega) (kk σ f H locs ls hI hM9 hP hq hf hS (lv_sub hl [0, 1, 5, 6, 7, 8, 9, 10] rfl))
          · refine lv_iload_n hx hb dL_law_1028 rfl (lv_at hl 0 rfl) ?_
            refine n_if_eq (x := 1) (tgt := 1043) hx hb (by decide) dL_law_1029 (by decide) (fun c9 => absurd c9 (by decide)) (fun _ => ?_)
            refine lv_aload_n hx hb dL_law_1032 rfl (lv_at hl 9 rfl) ?_
            refine l_help (As := [.ref (o)]) (rest := []) ⟨hx, hb, hml, hown, hts⟩ (hc_refuses l hl0 G ids tS tE o z hI) (va_cwS 1 hts gL_law_L_refuses rfl rfl rfl (by decide +kernel) ⟨Nat.le_of_ble_eq_true rfl, Nat.le_of_ble_eq_true rfl⟩) hK hZ hN hA hP hS rfl hl.1 rfl (Nat.le_of_ble_eq_true rfl) dL_law_1033 ⟨by show (cells + 9 * cpN σ 1 + 4000) + 300 ≤ 600074; omega, by show (slots + 54 * cpN σ 1 + 24000) + 9000 ≤ 7301550; omega⟩ (c1 := cells + 9 * cpN σ 1 + 4300) (s1 := slots + 54 * cpN σ 1 + 33000) (by omega) (by omega) (fun H locs hP hS hz9 hk9 => ?_)
            replace hq := hq.kept (hk9 _ hq.lt hqn)
            clear hz9 hk9
            refine n_if_eq (x := 1) (tgt := 1043) hx hb (by decide) dL_law_1036 (by decide) (fun c9 => absurd c9 (by decide)) (fun _ => ?_)
            refine lv_iconst (v := nI (1)) hx hb dL_law_1039 (by decide) ?_
            refine lv_goto (tgt := 1044) hx hb dL_law_1040 (by decide) ?_
            refine lv_istore_n (lv' := [(2, .int (nI (1))), (12, .int (nI ((cpN σ 1)))), (11, .int (nI (cel))), (9, .int (nI (Y))), (7, .int (nI (k))), (3, .int (nI (cpN σ 0))), (4, .int (nI (cpN σ 1))), (5, .int (nI (cpN σ 2))), (6, .ref (qo)), (1, .ref (o)), (0, .ref (b))]) hx hb dL_law_1044 rfl hl (by decide) rfl (fun ls hl => ?_)
            refine n_iinc (x := k) (dN := 1) (k := 4) (lv' := [(7, .int (nI (k + 1))), (2, .int (nI (1))), (12, .int (nI ((cpN σ 1)))), (11, .int (nI (cel))), (9, .int (nI (Y))), (3, .int (nI (cpN σ 0))), (4, .int (nI (cpN σ 1))), (5, .int (nI (cpN σ 2))), (6, .ref (qo)), (1, .ref (o)), (0, .ref (b))]) hx hb dL_law_1045 hl rfl (by decide) rfl (fun ls hl => ?_)
            refine lv_goto (tgt := 27) hx hb dL_law_1048 (by decide) ?_
            exact W.widen (by omega) (by omega) (kk σ f H locs ls hI hM9 hP hq hf hS (lv_sub hl [0, 1, 5, 6, 7, 8, 9, 10] rfl))
      · refine lv_iload_n hx hb dL_law_853 rfl (lv_at hl 4 rfl) ?_
        refine n_if_eq (x := 1) (tgt := 944) hx hb (by decide) dL_law_854 (by decide) (fun c9 => absurd c9 (by decide)) (fun _ => ?_)
        have hbb : bb < cpN σ 1 := by omega
        have hsk := sk_eq hI hbb
        refine lv_aload_n hx hb dL_law_857 rfl (lv_at hl 9 rfl) ?_
        refine l_month (rest := []) ⟨hx, hb, hml, hown, hts⟩ (cwV 0 hts gL_law_X5_month rfl rfl rfl (by decide +kernel) ⟨Nat.le_of_ble_eq_true rfl, Nat.le_of_ble_eq_true rfl⟩) hK hZ hA hP hS hl.1 (Nat.le_of_ble_eq_true rfl) dL_law_858 ⟨by show (cells + 9 * bb) + 0 ≤ 600074; omega, by show (slots + 54 * bb) + 0 ≤ 7301550; omega⟩ (fun H locs hP hS hz9 hk9 => ?_)
        replace hq := hq.kept (hk9 _ hq.lt hqn)
        clear hz9 hk9
        refine l_top (show Value.int (σ.1 1 0) = Value.int (nI (mon σ)) from congrArg Value.int hI.mo.1) ?_
        refine lv_istore (lv' := [(13, .int (nI (mon σ))), (12, .int (nI (bb))), (11, .int (nI (cel))), (9, .int (nI (Y))), (7, .int (nI (k))), (2, .int (nI (1))), (3, .int (nI (cpN σ 0))), (4, .int (nI (cpN σ 1))), (5, .int (nI (cpN σ 2))), (6, .ref (qo)), (1, .ref (o)), (0, .ref (b))]) hx hb dL_law_861 hl (by decide) rfl (fun ls hl => ?_)
        refine lv_aload_n hx hb dL_law_863 rfl (lv_at hl 10 rfl) ?_
        refine lv_iload hx hb dL_law_864 (lv_at hl 1 rfl) ?_
        refine lv_iload hx hb dL_law_866 (lv_at hl 0 rfl) ?_
        refine lv_iconst (v := nI (0)) hx hb dL_law_868 (by decide) ?_
        refine l_read (As := [.ref (o), .int (nI (bb)), .int (nI (mon σ)), .int (nI (0))]) (rest := []) ⟨hx, hb, hml, hown, hts⟩ (rdr_no hl0 hI hbb (mo := nI (mon σ)) (fun m q1 _ q3 => rd_b hmo q1 q3) (y := 0) (by decide)) (vx_cwSW 4 hts gL_law_L_reading rfl rfl rfl (by decide +kernel) ⟨Nat.le_of_ble_eq_true rfl, Nat.le_of_ble_eq_true rfl⟩) hK hZ hN hA hP hS rfl hl.1 rfl (Nat.le_of_ble_eq_true rfl) dL_law_869 ⟨by show (cells + 9 * bb) + 3 ≤ 600074; omega, by show (slots + 54 * bb) + 18 ≤ 7301550; omega⟩ (c1 := cells + 9 * bb + 3) (s1 := slots + 54 * bb + 18) (by omega) (by omega) (fun H locs hP hS hz9 hk9 => ?_)
        replace hq := hq.kept (hk9 _ hq.lt hqn)
        clear hz9 hk9
        refine lv_ldc2 (own := RL) (v := -9000000000000000001) hx hb hown (hts _ (List.mem_of_getElem? (i := 8) rfl)) dL_law_872 ?_
        refine l_cne (x := lK 1) (y := (-9000000000000000001 : Int64)) (tgt := 936) hx hb dL_law_875 dL_law_876 (by decide) (fun c9 => absurd (rfl) c9) (fun _ => ?_)
        refine lv_aload_n hx hb dL_law_879 rfl (lv_at hl 10 rfl) ?_
        refine lv_iload hx hb dL_law_880 (lv_at hl 1 rfl) ?_
        refine lv_aload hx hb dL_law_882 (lv_at hl 9 rfl) ?_
        refine lv_iload hx hb dL_law_884 (lv_at hl 1 rfl) ?_
        refine x_iald (v := σ.1 22 bb) hx hb hK hq (j := nI (bb)) (vp_in_nI (by omega) (by decide)) (by rw [nI_clamp (by omega)]; exact hf _ (by omega)) dL_law_886 ?_
        refine l_top (show Value.int (σ.1 22 bb) = Value.int (nI (sk σ bb)) from congrArg Value.int hsk.1) ?_
        refine lv_iconst (v := nI (1)) hx hb dL_law_887 (by decide) ?_
        refine lv_isub (x := nI (sk σ bb)) (y := nI (1)) hx hb dL_law_888 ?_
        refine lv_iconst (v := nI (0)) hx hb dL_law_889 (by decide) ?_
        refine l_read (As := [.ref (o), .int (nI (bb)), .int ((nI (sk σ bb)) - (nI (1))), .int (nI (0))]) (rest := []) ⟨hx, hb, hml, hown, hts⟩ (rdr_no hl0 hI hbb (mo := nI (sk σ bb) - nI 1) (fun m q1 q2 q3 => rd_a (σ := σ) (by omega) q1 q2 (by omega)) (y := 0) (by decide)) (vx_cwSW 4 hts gL_law_L_reading rfl rfl rfl (by decide +kernel) ⟨Nat.le_of_ble_eq_true rfl, Nat.le_of_ble_eq_true rfl⟩) hK hZ hN hA hP hS rfl hl.1 rfl (Nat.le_of_ble_eq_true rfl) dL_law_890 ⟨by show (cells + 9 * bb + 3) + 3 ≤ 600074; omega, by show (slots + 54 * bb + 18) + 18 ≤ 7301550; omega⟩ (c1 := cells + 9 * bb + 6) (s1 := slots + 54 * bb + 36) (by omega) (by omega) (fun H locs hP hS hz9 hk9 => ?_)
        replace hq := hq.kept (hk9 _ hq.lt hqn)
        clear hz9 hk9
        refine lv_ldc2 (own := RL) (v := -9000000000000000001) hx hb hown (hts _ (List.mem_of_getElem? (i := 8) rfl)) dL_law_893 ?_
        refine l_cne (x := lK 1) (y := (-9000000000000000001 : Int64)) (tgt := 936) hx hb dL_law_896 dL_law_897 (by decide) (fun c9 => absurd (rfl) c9) (fun _ => ?_)
        refine lv_iload hx hb dL_law_900 (lv_at hl 0 rfl) ?_
        refine lv_aload hx hb dL_law_902 (lv_at hl 9 rfl) ?_
        refine lv_iload hx hb dL_law_904 (lv_at hl 1 rfl) ?_
        refine x_iald (v := σ.1 22 bb) hx hb hK hq (j := nI (bb)) (vp_in_nI (by omega) (by decide)) (by rw [nI_clamp (by omega)]; exact hf _ (by omega)) dL_law_906 ?_
        refine l_top (show Value.int (σ.1 22 bb) = Value.int (nI (sk σ bb)) from congrArg Value.int hsk.1) ?_
        refine n_icmp_eq (x := mon σ) (y := sk σ bb) (tgt := 932) hx hb (by omega) (by omega) dL_law_907 (by decide) (fun c907 => ?_) (fun c907 => ?_)
        · refine lv_iconst (v := nI (1)) hx hb dL_law_932 (by decide) ?_
          refine lv_goto (tgt := 937) hx hb dL_law_933 (by decide) ?_
          refine lv_istore_n (lv' := [(2, .int (nI (1))), (13, .int (nI (mon σ))), (12, .int (nI (bb))), (11, .int (nI (cel))), (9, .int (nI (Y))), (7, .int (nI (k))), (3, .int (nI (cpN σ 0))), (4, .int (nI (cpN σ 1))), (5, .int (nI (cpN σ 2))), (6, .ref (qo)), (1, .ref (o)), (0, .ref (b))]) hx hb dL_law_937 rfl hl (by decide) rfl (fun ls hl => ?_)
          refine n_iinc (x := bb) (dN := 1) (k := 2) (lv' := [(12, .int (nI (bb + 1))), (2, .int (nI (1))), (13, .int (nI (mon σ))), (11, .int (nI (cel))), (9, .int (nI (Y))), (7, .int (nI (k))), (3, .int (nI (cpN σ 0))), (4, .int (nI (cpN σ 1))), (5, .int (nI (cpN σ 2))), (6, .ref (qo)), (1, .ref (o)), (0, .ref (b))]) hx hb dL_law_938 hl rfl (by decide) rfl (fun ls hl => ?_)
          refine lv_goto (tgt := 846) hx hb dL_law_941 (by decide) ?_
          have hl : lv_has ls 19 [(12, .int (nI (bb + 1))), (11, .int (nI (cel))), (9, .int (nI (Y))), (7, .int (nI (k))), (2, .int (nI (1))), (3, .int (nI (cpN σ 0))), (4, .int (nI (cpN σ 1))), (5, .int (nI (cpN σ 2))), (6, .ref (qo)), (1, .ref (o)), (0, .ref (b))] := lv_sub hl [0, 3, 4, 5, 1, 6, 7, 8, 9, 10, 11] rfl
          exact W.widen (by omega) (by omega) ((hWW _ _ _ _ _).mp (ih846 (bb + 1) (by omega) (by omega) H locs ls hP hq hS hl))
        · refine lv_aload_n hx hb dL_law_910 rfl (lv_at hl 10 rfl) ?_
          refine lv_iload hx hb dL_law_911 (lv_at hl 1 rfl) ?_
          refine lv_aload hx hb dL_law_913 (lv_at hl 9 rfl) ?_
          refine lv_iload hx hb dL_law_915 (lv_at hl 1 rfl) ?_
          refine x_iald (v := σ.1 22 bb) hx hb hK hq (j := nI (bb)) (vp_in_nI (by omega) (by decide)) (by rw [nI_clamp (by omega)]; exact hf _ (by omega)) dL_law_917 ?_
          refine l_top (show Value.int (σ.1 22 bb) = Value.int (nI (sk σ bb)) from congrArg Value.int hsk.1) ?_
          refine lv_iload hx hb dL_law_918 (lv_at hl 3 rfl) ?_
          refine lv_iconst (v := nI (5)) hx hb dL_law_920 (by decide) ?_
          refine n_rem (x := Y) (y := 5) hx hb (by omega) (by omega) (by omega) dL_law_921 ?_
          refine l_read (As := [.ref (o), .int (nI (bb)), .int (nI (sk σ bb)), .int (nI ((Y) % (5)))]) (rest := []) ⟨hx, hb, hml, hown, hts⟩ (rdr_yes hl0 hI hbb (m := sk σ bb) (Nat.le_refl _) (by omega) (y := Y % 5) (by omega)) (vx_cwSW 4 hts gL_law_L_reading rfl rfl rfl (by decide +kernel) ⟨Nat.le_of_ble_eq_true rfl, Nat.le_of_ble_eq_true rfl⟩) hK hZ hN hA hP hS rfl hl.1 rfl (Nat.le_of_ble_eq_true rfl) dL_law_922 ⟨by show (cells + 9 * bb + 6) + 3 ≤ 600074; omega, by show (slots + 54 * bb + 36) + 18 ≤ 7301550; omega⟩ (c1 := cells + 9 * bb + 9) (s1 := slots + 54 * bb + 54) (by omega) (by omega) (fun H locs hP hS hz9 hk9 => ?_)
          replace hq := hq.kept (hk9 _ hq.lt hqn)
          clear hz9 hk9
          refine lv_ldc2 (own := RL) (v := -9000000000000000001) hx hb hown (hts _ (List.mem_of_getElem? (i := 8) rfl)) dL_law_925 ?_
          refine l_cle (x := (k_reading σ (nI bb) (nI (sk σ bb)) (nI (Y % 5))).toInt64) (y := (-9000000000000000001 : Int64)) (X := (k_reading σ (nI bb) (nI (sk σ bb)) (nI (Y % 5))).toInt) (Y := -9000000000000000001) (tgt := 936) hx hb (t64 _) (by decide) dL_law_928 dL_law_929 (by decide) (fun c9 => absurd c9 ((by have q := Int32.le_toInt (k_reading σ (nI bb) (nI (sk σ bb)) (nI (Y % 5))); omega))) (fun _ => ?_)
          refine lv_iconst (v := nI (1)) hx hb dL_law_932 (by decide) ?_
          refine lv_goto (tgt := 937) hx hb dL_law_933 (by decide) ?_
          refine lv_istore_n (lv' := [(2, .int (nI (1))), (13, .int (nI (mon σ))), (12, .int (nI (bb))), (11, .int (nI (cel))), (9, .int (nI (Y))), (7, .int (nI (k))), (3, .int (nI (cpN σ 0))), (4, .int (nI (cpN σ 1))), (5, .int (nI (cpN σ 2))), (6, .ref (qo)), (1, .ref (o)), (0, .ref (b))]) hx hb dL_law_937 rfl hl (by decide) rfl (fun ls hl => ?_)
          refine n_iinc (x := bb) (dN := 1) (k := 2) (lv' := [(12, .int (nI (bb + 1))), (2, .int (nI (1))), (13, .int (nI (mon σ))), (11, .int (nI (cel))), (9, .int (nI (Y))), (7, .int (nI (k))), (3, .int (nI (cpN σ 0))), (4, .int (nI (cpN σ 1))), (5, .int (nI (cpN σ 2))), (6, .ref (qo)), (1, .ref (o)), (0, .ref (b))]) hx hb dL_law_938 hl rfl (by decide) rfl (fun ls hl => ?_)
          refine lv_goto (tgt := 846) hx hb dL_law_941 (by decide) ?_
          have hl : lv_has ls 19 [(12, .int (nI (bb + 1))), (11, .int (nI (cel))), (9, .int (nI (Y))), (7, .int (nI (k))), (2, .int (nI (1))), (3, .int (nI (cpN σ 0))), (4, .int (nI (cpN σ 1))), (5, .int (nI (cpN σ 2))), (6, .ref (qo)), (1, .ref (o)), (0, .ref (b))] := lv_sub hl [0, 3, 4, 5, 1, 6, 7, 8, 9, 10, 11] rfl
          exact W.widen (by omega) (by omega) ((hWW _ _ _ _ _).mp (ih846 (bb + 1) (by omega) (by omega) H locs ls hP hq hS hl))
  have hl : lv_has ls 19 [(12, .int (nI (0))), (11, .int (nI (cel))), (9, .int (nI (Y))), (7, .int (nI (k))), (2, .int (nI (1))), (3, .int (nI (cpN σ 0))), (4, .int (nI (cpN σ 1))), (5, .int (nI (cpN σ 2))), (6, .ref (qo)), (1, .ref (o)), (0, .ref (b))] := lv_sub hl [0, 1, 2, 3, 4, 5, 6, 7, 8, 9, 10] rfl
  exact W.widen (by omega) (by omega) ((hWW _ _ _ _ _).mp (L846 (cpN σ 1 + 1) 0 (Nat.zero_le _) (by omega) H locs ls hP hq hS hl))
