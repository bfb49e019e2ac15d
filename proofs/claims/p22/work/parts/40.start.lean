/-! p22: the law's walk from its entry to its end -/
set_option maxHeartbeats 4000000 in
set_option maxRecDepth 100000 in
theorem whole_start {p : Program} {e : Env} {s : State} {m : MethodId} {below : List Frame} {meth : Method} {c : Code} (l : Launch) (hflags : l.flags = flags0) {b L : Nat} {xs : Nat → Int32} (hL : L ≤ 260) (C0 : lw_At p s m meth c b L xs) : W p l e room_1 s m #[Value.ref b] below meth c s.heap [] 0 0 (lw_Z below #[Value.ref b] s) (entryFrame m ([Value.ref b] : List Value).toArray 19) := by
  obtain ⟨hx, hb, hr, hml, hown, hts, hX, hbl, hlocks, hgv⟩ := id C0
  have hl0 : l.stackTraces = false := by
    unfold Launch.stackTraces
    rw [hflags]
    decide +kernel
  have htw : ∀ w ∈ wsL_law, w.before #[Value.ref b] s = true := fun w h => hts w (wsL_law_in w h)
  have ht : ∀ (i : Nat) (w : Cond), tables_1[i]? = some w → w.before #[Value.ref b] s = true := fun i w h => hts w (List.mem_append_right _ (List.mem_of_getElem? h))
  obtain ⟨G, ids, tS, tE, hK, hZ, hN⟩ := law_world hts hgv
  have hNest : va_Nw (.methodLinkNest RX5 43 yX1_init "Wakeground") s := va_Nw.of rfl (ht 59 _ (by decide +kernel))
  have hS : va_S (fun q : Nat => s.heap.size ≤ q) s.heap s.heap [] := va_S.rf
  have hl := lv_entry ([.ref b]) (n := 19) (Nat.le_of_ble_eq_true rfl)
  rw [lg_entry_eq]
  generalize (lg_sl ([.ref b]) ++ List.replicate (19 - (lg_sl ([.ref b])).length) Slot.unset).toArray = ls at hl ⊢
  have hl : lv_has ls 19 [(0, .ref b)] := hl
  refine x_new (C := RX5) (T := TX5) (N := 10) (ci := 6) (fs := [.null, .null, .null, .null, .int (0), .null, .null, .long (0), .null, .null]) (c1 := 1) (s1 := 10) (q := s.heap.size) hx hb htw inlX5 tyX5 tyX5_ok hown (List.mem_of_getElem? (i := 0) rfl) (List.mem_of_getElem? (i := 1) rfl) (List.mem_of_getElem? (i := 2) rfl) hK hS rfl (fun j hj => by rcases (show j = 0 ∨ j = 1 ∨ j = 2 ∨ j = 3 ∨ j = 4 ∨ j = 5 ∨ j = 6 ∨ j = 7 ∨ j = 8 ∨ j = 9 by omega) with rfl | rfl | rfl | rfl | rfl | rfl | rfl | rfl | rfl | rfl <;> rfl) (Nat.le_of_ble_eq_true rfl) (Nat.le_of_ble_eq_true rfl) dL_law_0 rfl rfl rfl (fun H hm hh hS => ?_)
  obtain ⟨o, ho⟩ : ∃ o : Nat, o = s.heap.size := ⟨_, rfl⟩
  have hsz : H.size = o + 1 := by rw [hm.1, ho]
  rw [← ho] at hh ⊢
  clear hm
  refine lv_dup hx hb dL_law_3 rfl ?_
  refine va_callv (va_runI (As := []) (rest := [.ref o]) ⟨hx, hb, hml, hown, htw⟩ (cn_X5_init l G ids tS tE o) (cwI 0 htw gL_law_X5_init rfl rfl rfl (htw _ (List.mem_of_getElem? (i := 2) rfl)) (htw _ (List.mem_of_getElem? (i := 9) rfl)) (htw _ (List.mem_of_getElem? (i := 10) rfl)) rfl (by decide +kernel) ⟨Nat.le_of_ble_eq_true rfl, Nat.le_of_ble_eq_true rfl⟩) ⟨yPn_blind, fun U hU hW => ⟨rfl, by rw [hU]; exact ⟨hsz, hh⟩, va_K.moved hW.alike hK, (cST_at hZ hS hU hW.alike).narrow (fun q h => by rcases h with h | h <;> (show s.heap.size ≤ q; omega)), va_Nw.warmM hW hNest⟩⟩ rfl rfl hl.1 rfl (lv_room (Nat.le_of_ble_eq_true rfl)) dL_law_4 ⟨Nat.le_of_ble_eq_true rfl, Nat.le_of_ble_eq_true rfl⟩) hS (fun q _ h => by rcases h with h | h <;> (show s.heap.size ≤ q; omega)) (fun q h => by rcases h with h | h <;> (show s.heap.size ≤ q; omega)) (fun u t H1 locs ht9 hvm hw hP hz1 hk hS => ?_)
  rw [ht9] at hP
  clear hk hh
  refine lv_astore_n (lv' := [(1, .ref o), (0, .ref b)]) hx hb dL_law_7 rfl hl (by decide) rfl (fun ls hl => ?_)
  have hlt : o + 184 ≤ H1.size := by
    have q := hP.lt (x := (8, 124)) (show 124 < 125 by decide)
    have q2 : cpA o (fun _ _ => 0) (8, 124) = o + 9 + 7 * (124 / 5) + 2 + 124 % 5 := rfl
    rw [q2] at q
    omega
  refine lv_iconst (v := nI 1) hx hb dL_law_8 (by decide) ?_
  refine lv_istore_n (lv' := [(2, .int (nI 1)), (1, .ref o), (0, .ref b)]) hx hb dL_law_9 rfl hl (by decide) rfl (fun ls hl => ?_)
  refine lv_iconst (v := nI 0) hx hb dL_law_10 (by decide) ?_
  refine lv_istore_n (lv' := [(3, .int (nI 0)), (2, .int (nI 1)), (1, .ref o), (0, .ref b)]) hx hb dL_law_11 rfl hl (by decide) rfl (fun ls hl => ?_)
  refine lv_iconst (v := nI 0) hx hb dL_law_12 (by decide) ?_
  refine lv_istore (lv' := [(4, .int (nI 0)), (3, .int (nI 0)), (2, .int (nI 1)), (1, .ref o), (0, .ref b)]) hx hb dL_law_13 hl (by decide) rfl (fun ls hl => ?_)
  refine lv_iconst (v := nI 0) hx hb dL_law_15 (by decide) ?_
  refine lv_istore (lv' := [(5, .int (nI 0)), (4, .int (nI 0)), (3, .int (nI 0)), (2, .int (nI 1)), (1, .ref o), (0, .ref b)]) hx hb dL_law_16 hl (by decide) rfl (fun ls hl => ?_)
  refine lv_bipush (v := nI 10) hx hb dL_law_18 (by decide) ?_
  refine x_newa (atype := .int) (ty := .int) (cI := ids 0) (N' := 10) (a0 := (10, .inl (fun _ => 0))) (c1 := 185) (s1 := 909) (q := H1.size) hx hb (htw _ (List.mem_of_getElem? (i := 3) rfl)) rfl hK 0 (cTy_nm hK).1 hS rfl (nI_pos (by omega)) (nI_clamp (by omega)) (by decide) (Nat.le_of_ble_eq_true rfl) (Nat.le_of_ble_eq_true rfl) dL_law_20 rfl rfl rfl (fun H2 hm2 hq2 hS => ?_)
  refine lv_astore (lv' := [(6, .ref H1.size), (5, .int (nI 0)), (4, .int (nI 0)), (3, .int (nI 0)), (2, .int (nI 1)), (1, .ref o), (0, .ref b)]) hx hb dL_law_22 hl (by decide) rfl (fun ls hl => ?_)
  refine lv_iconst (v := nI 0) hx hb dL_law_24 (by decide) ?_
  refine lv_istore (lv' := [(7, .int (nI 0)), (6, .ref H1.size), (5, .int (nI 0)), (4, .int (nI 0)), (3, .int (nI 0)), (2, .int (nI 1)), (1, .ref o), (0, .ref b)]) hx hb dL_law_25 hl (by decide) rfl (fun ls hl => ?_)
  have hPL : vP G ids o (H1.size + 1) tE k_init_s H2 := vP.at (k_init_pic hP (by omega) (fun q h1 h2 => hm2.2 q (by omega))) (by rw [hm2.1]; exact Nat.le_refl _)
  have CX : LX p l s m c b L xs G ids tS tE o H1.size (H1.size + 1) := ⟨hx, hb, hml, hown, htw, hX, hbl, hl0, hK, hZ, hN, by omega, by omega, rfl, hL⟩
  have hm0 : mon k_init_s = 0 := by decide +kernel
  have hl9 : lv_has ls 19 [(7, .int (nI (0))), (2, .int (nI (1))), (3, .int (nI (cpN k_init_s 0))), (4, .int (nI (cpN k_init_s 1))), (5, .int (nI (cpN k_init_s 2))), (6, .ref H1.size), (1, .ref (o)), (0, .ref (b))] := by
    rw [k_init_N, k_init_N, k_init_N]
    exact lv_sub hl [0, 5, 4, 3, 2, 1, 6, 7] rfl
  refine W.widen (k := 300 + 5000 * 0) (n := 40000 + 40000 * 0) (by decide) (by decide) ?_
  exact law_loop CX (fun H locs cells slots ls hc hs hS => by
    refine va_forget (fun q h => hS.2.2 q h) ?_
    refine W.widen (k := 600074) (n := 7301550) hc hs ?_
    exact lw_ret hx hb hr hlocks dL_law_1052) 40 0 rfl k_init_s (fun _ => 0) H2 _ ls IV_first (by rw [hm0]; omega) hPL hq2 (fun x hx => absurd hx (by rw [k_init_N]; omega)) hS hl9
