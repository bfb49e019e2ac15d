set_option maxHeartbeats 4000000 in
set_option maxRecDepth 100000 in
theorem law_house {p : Program} {l : Launch} {e : Env} {s : State} {m : MethodId} {below : List Frame} {meth : Method} {c : Code} {b L : Nat} {xs : Nat → Int32} {G : va_G} {ids : Nat → ClassId} {tS tE o qo z : Nat} (C0 : LX p l s m c b L xs G ids tS tE o qo z) {Q : State → Prop} {cells slots : Nat} (hcell : cells + 5000 ≤ 600074) (hslot : slots + 40000 ≤ 7301550) {σ : Sg} {f : Nat → Int32} {H : Heap} {locs : List Loc} {ls : Array Slot} (hI : IV σ) (hP : vP G ids o z tE σ H) (hq : sP G ids qo f H) (hf : ∀ x, x < cpN σ 1 → f x = σ.1 22 x) (hS : va_S (fun q => s.heap.size ≤ q) s.heap H locs) {k cel Y : Nat} (hc : cel < 25) (hY : Y < 2 ^ 31) {M9 : Nat} (hM9 : mon σ + 4 ≤ M9) (hl : lv_has ls 19 [(11, .int (nI (cel))), (9, .int (nI (Y))), (7, .int (nI (k))), (2, .int (nI (1))), (3, .int (nI (cpN σ 0))), (4, .int (nI (cpN σ 1))), (5, .int (nI (cpN σ 2))), (6, .ref (qo)), (1, .ref (o)), (0, .ref (b))])
    (kk : ∀ (σ : Sg) (f : Nat → Int32) (H : Heap) (locs : List Loc) (ls : Array Slot), IV σ → mon σ ≤ M9 → vP G ids o z tE σ H → sP G ids qo f H → (∀ x, x < cpN σ 1 → f x = σ.1 22 x) → va_S (fun q => s.heap.size ≤ q) s.heap H locs → lv_has ls 19 [(11, .int (nI (cel))), (9, .int (nI (Y))), (7, .int (nI (k))), (2, .int (nI (1))), (3, .int (nI (cpN σ 0))), (4, .int (nI (cpN σ 1))), (5, .int (nI (cpN σ 2))), (6, .ref (qo)), (1, .ref (o)), (0, .ref (b))] → W p l e room_1 s m #[Value.ref b] below meth c H locs (cells + 60) (slots + 4000) Q (F0 m 843 ls [])) : W p l e room_1 s m #[Value.ref b] below meth c H locs cells slots Q (F0 m 547 ls []) := by
  obtain ⟨hx, hb, hml, hown, hts, hX, hbl, hl0, hK, hZ, hN, ho1, ho2, ho3, hL⟩ := id C0
  have hA : ∀ q, cpG o z q → (fun q : Nat => s.heap.size ≤ q) q := fun q h => by
    show s.heap.size ≤ q
    rcases h with h | h
    · omega
    · omega
  have hqn : ¬ cpG o z qo := by
    unfold cpG
    omega
  have hmo := hI.mo.2
  have hn0 := hI.n0.2
  have hn1 := hI.n1.2
  have hn2 := hI.n2.2
  refine w_named (fun WW hWW => ?_)
  refine lv_aload_n hx hb dL_law_547 rfl (lv_at hl 8 rfl) ?_
  refine lv_iload hx hb dL_law_548 (lv_at hl 0 rfl) ?_
  refine lv_iconst (v := nI (5)) hx hb dL_law_550 (by decide) ?_
  refine l_read (As := [.ref (o), .int (nI (cel)), .int (nI (5))]) (rest := []) ⟨hx, hb, hml, hown, hts⟩ (rdc5 hl0 hc) (vx_cwSW 3 hts gL_law_L_cellOf rfl rfl rfl (by decide +kernel) ⟨Nat.le_of_ble_eq_true rfl, Nat.le_of_ble_eq_true rfl⟩) hK hZ hN hA hP hS rfl hl.1 rfl (Nat.le_of_ble_eq_true rfl) dL_law_551 ⟨by show (cells) + 2 ≤ 600074; omega, by show (slots) + 12 ≤ 7301550; omega⟩ (c1 := cells + 2) (s1 := slots + 12) (by omega) (by omega) (fun H locs hP hS hz9 hk9 => ?_)
  replace hq := hq.kept (hk9 _ hq.lt hqn)
  clear hz9 hk9
  refine lv_lconst (v := 0) hx hb dL_law_554 (by decide) ?_
  refine l_cge (x := (σ.1 36 (cel)).toInt64) (y := (0 : Int64)) (X := (σ.1 36 (cel)).toInt) (Y := 0) (tgt := 583) hx hb (t64 _) (by decide) dL_law_555 dL_law_556 (by decide) (fun c555 => ?_) (fun c555 => ?_)
  · refine lv_iconst (v := nI (0)) hx hb dL_law_583 (by decide) ?_
    refine lv_istore (lv' := [(12, .int (nI (0))), (11, .int (nI (cel))), (9, .int (nI (Y))), (7, .int (nI (k))), (2, .int (nI (1))), (3, .int (nI (cpN σ 0))), (4, .int (nI (cpN σ 1))), (5, .int (nI (cpN σ 2))), (6, .ref (qo)), (1, .ref (o)), (0, .ref (b))]) hx hb dL_law_584 hl (by decide) rfl (fun ls hl => ?_)
    obtain ⟨ic, hic0, hic1⟩ : ∃ ic : Int32, (Y / 4 % 2 = 0 → ic = nI 1) ∧ (¬ Y / 4 % 2 = 0 → ic = nI 0) := ⟨if Y / 4 % 2 = 0 then nI 1 else nI 0, fun q => if_pos q, fun q => if_neg q⟩
    have hic : ic = 0 ∨ ic = 1 := by
      by_cases q : Y / 4 % 2 = 0
      · exact Or.inr (hic0 q)
      · exact Or.inl (hic1 q)
    refine lv_aload_n hx hb dL_law_586 rfl (lv_at hl 9 rfl) ?_
    refine lv_iload hx hb dL_law_587 (lv_at hl 1 rfl) ?_
    refine lv_iconst (v := nI (1)) hx hb dL_law_589 (by decide) ?_
    refine lv_iload hx hb dL_law_590 (lv_at hl 2 rfl) ?_
    refine lv_iconst (v := nI (4)) hx hb dL_law_592 (by decide) ?_
    refine n_rem (x := Y) (y := 4) hx hb (by omega) (by omega) (by omega) dL_law_593 ?_
    refine n_add (x := 1) (y := (Y) % (4)) hx hb dL_law_594 ?_
    refine lv_iload hx hb dL_law_595 (lv_at hl 2 rfl) ?_
    refine lv_iconst (v := nI (4)) hx hb dL_law_597 (by decide) ?_
    refine n_div (x := Y) (y := 4) hx hb (by omega) (by omega) (by omega) dL_law_598 ?_
    refine lv_iconst (v := nI (2)) hx hb dL_law_599 (by decide) ?_
    refine n_rem (x := (Y) / (4)) (y := 2) hx hb (by omega) (by omega) (by omega) dL_law_600 ?_
    have J609 : WW H locs (cells + 2) (slots + 12) (F0 m 609 ls [.int (ic), .int (nI ((1) + ((Y) % (4)))), .int (nI (cel)), .ref (o)]) := by
      refine (hWW _ _ _ _ _).mpr ?_
      refine l_read (As := [.ref (o), .int (nI (cel)), .int (nI ((1) + ((Y) % (4)))), .int (ic)]) (rest := []) ⟨hx, hb, hml, hown, hts⟩ (RQ.no (x := 3) (fun τ v => lc_house l hl0 G ids tS tE o z τ (nI cel) (nI (1 + Y % 4)) ic (v.iv hI).ok.1 (v.iv hI).ok.2.2 hic) (fun τ v => house_no (v.iv hI) hc ⟨by omega, by omega⟩ (fun q => by rw [v.1 36 (by decide) (by decide), v.1 3 (by decide) (by decide), v.cn] at q; omega)) (by decide)) (vx_cwSW 4 hts gL_law_L_house rfl rfl rfl (by decide +kernel) ⟨Nat.le_of_ble_eq_true rfl, Nat.le_of_ble_eq_true rfl⟩) hK hZ hN hA hP hS rfl hl.1 rfl (Nat.le_of_ble_eq_true rfl) dL_law_609 ⟨by show (cells + 2) + 5 ≤ 600074; omega, by show (slots + 12) + 83 ≤ 7301550; omega⟩ (c1 := cells + 7) (s1 := slots + 95) (by omega) (by omega) (fun H locs hP hS hz9 hk9 => ?_)
      replace hq := hq.kept (hk9 _ hq.lt hqn)
      clear hz9 hk9
      refine lv_lstore (lv' := [(13, .long (lK 3)), (12, .int (nI (0))), (11, .int (nI (cel))), (9, .int (nI (Y))), (7, .int (nI (k))), (2, .int (nI (1))), (3, .int (nI (cpN σ 0))), (4, .int (nI (cpN σ 1))), (5, .int (nI (cpN σ 2))), (6, .ref (qo)), (1, .ref (o)), (0, .ref (b))]) hx hb dL_law_612 hl (by decide) rfl (fun ls hl => ?_)
      refine lv_lload hx hb dL_law_614 (lv_at hl 0 rfl) ?_
      refine lv_iload hx hb dL_law_616 (lv_at hl 1 rfl) ?_
      refine n_if_eq (x := 0) (tgt := 626) hx hb (by decide) dL_law_618 (by decide) (fun _ => ?_) (fun c9 => absurd (by decide) c9)
      refine lv_ldc2 (own := RL) (v := -9000000000000000003) hx hb hown (hts _ (List.mem_of_getElem? (i := 7) rfl)) dL_law_626 ?_
      refine l_cne (x := lK 3) (y := (-9000000000000000003 : Int64)) (tgt := 637) hx hb dL_law_629 dL_law_630 (by decide) (fun c9 => absurd (rfl) c9) (fun _ => ?_)
      refine lv_iconst (v := nI (1)) hx hb dL_law_633 (by decide) ?_
      refine lv_goto (tgt := 638) hx hb dL_law_634 (by decide) ?_
      refine lv_istore_n (lv' := [(2, .int (nI (1))), (13, .long (lK 3)), (12, .int (nI (0))), (11, .int (nI (cel))), (9, .int (nI (Y))), (7, .int (nI (k))), (3, .int (nI (cpN σ 0))), (4, .int (nI (cpN σ 1))), (5, .int (nI (cpN σ 2))), (6, .ref (qo)), (1, .ref (o)), (0, .ref (b))]) hx hb dL_law_638 rfl hl (by decide) rfl (fun ls hl => ?_)
      refine lv_iload_n hx hb dL_law_639 rfl (lv_at hl 6 rfl) ?_
      refine lv_iload hx hb dL_law_640 (lv_at hl 2 rfl) ?_
      refine n_if_eq (x := 0) (tgt := 649) hx hb (by decide) dL_law_642 (by decide) (fun _ => ?_) (fun c9 => absurd (by decide) c9)
      refine lv_iconst (v := nI (0)) hx hb dL_law_649 (by decide) ?_
      refine n_add (x := cpN σ 0) (y := 0) hx hb dL_law_650 ?_
      refine lv_istore_n (lv' := [(3, .int (nI ((cpN σ 0) + (0)))), (2, .int (nI (1))), (13, .long (lK 3)), (12, .int (nI (0))), (11, .int (nI (cel))), (9, .int (nI (Y))), (7, .int (nI (k))), (4, .int (nI (cpN σ 1))), (5, .int (nI (cpN σ 2))), (6, .ref (qo)), (1, .ref (o)), (0, .ref (b))]) hx hb dL_law_651 rfl hl (by decide) rfl (fun ls hl => ?_)
      refine lv_goto (tgt := 843) hx hb dL_law_652 (by decide) ?_
      have hl : lv_has ls 19 [(11, .int (nI (cel))), (9, .int (nI (Y))), (7, .int (nI (k))), (2, .int (nI (1))), (3, .int (nI (cpN σ 0))), (4, .int (nI (cpN σ 1))), (5, .int (nI (cpN σ 2))), (6, .ref (qo)), (1, .ref (o)), (0, .ref (b))] := by
        exact lv_sub hl [4, 5, 6, 1, 0, 7, 8, 9, 10, 11] rfl
      exact W.widen (by omega) (by omega) (kk σ _ _ _ ls hI (by omega) hP hq hf hS hl)
    refine n_if_ne (x := ((Y) / (4)) % (2)) (tgt := 608) hx hb (by omega) dL_law_601 (by decide) (fun c601 => ?_) (fun c601 => ?_)
    · refine lv_iconst (v := nI (0)) hx hb dL_law_608 (by decide) ?_
      exact l_top (show Value.int (nI (0)) = Value.int (ic) from congrArg Value.int ((hic1 c601).symm)) ((hWW _ _ _ _ _).mp J609)
    · refine lv_iconst (v := nI (1)) hx hb dL_law_604 (by decide) ?_
      refine lv_goto (tgt := 609) hx hb dL_law_605 (by decide) ?_
      exact l_top (show Value.int (nI (1)) = Value.int (ic) from congrArg Value.int ((hic0 c601).symm)) ((hWW _ _ _ _ _).mp J609)
  · refine lv_aload_n hx hb dL_law_559 rfl (lv_at hl 8 rfl) ?_
    refine lv_iload hx hb dL_law_560 (lv_at hl 0 rfl) ?_
    refine lv_iconst (v := nI (1)) hx hb dL_law_562 (by decide) ?_
    refine l_read (As := [.ref (o), .int (nI (cel)), .int (nI (1))]) (rest := []) ⟨hx, hb, hml, hown, hts⟩ (rdc1 hl0 hc) (vx_cwSW 3 hts gL_law_L_cellOf rfl rfl rfl (by decide +kernel) ⟨Nat.le_of_ble_eq_true rfl, Nat.le_of_ble_eq_true rfl⟩) hK hZ hN hA hP hS rfl hl.1 rfl (Nat.le_of_ble_eq_true rfl) dL_law_563 ⟨by show (cells + 2) + 2 ≤ 600074; omega, by show (slots + 12) + 12 ≤ 7301550; omega⟩ (c1 := cells + 4) (s1 := slots + 24) (by omega) (by omega) (fun H locs hP hS hz9 hk9 => ?_)
    replace hq := hq.kept (hk9 _ hq.lt hqn)
    clear hz9 hk9
    refine lv_ldc2 (own := RL) (v := 3) hx hb hown (hts _ (List.mem_of_getElem? (i := 5) rfl)) dL_law_566 ?_
    refine l_cge (x := (σ.1 3 (cel)).toInt64) (y := (3 : Int64)) (X := (σ.1 3 (cel)).toInt) (Y := 3) (tgt := 583) hx hb (t64 _) (by decide) dL_law_569 dL_law_570 (by decide) (fun c569 => ?_) (fun c569 => ?_)
    · refine lv_iconst (v := nI (0)) hx hb dL_law_583 (by decide) ?_
      refine lv_istore (lv' := [(12, .int (nI (0))), (11, .int (nI (cel))), (9, .int (nI (Y))), (7, .int (nI (k))), (2, .int (nI (1))), (3, .int (nI (cpN σ 0))), (4, .int (nI (cpN σ 1))), (5, .int (nI (cpN σ 2))), (6, .ref (qo)), (1, .ref (o)), (0, .ref (b))]) hx hb dL_law_584 hl (by decide) rfl (fun ls hl => ?_)
      obtain ⟨ic, hic0, hic1⟩ : ∃ ic : Int32, (Y / 4 % 2 = 0 → ic = nI 1) ∧ (¬ Y / 4 % 2 = 0 → ic = nI 0) := ⟨if Y / 4 % 2 = 0 then nI 1 else nI 0, fun q => if_pos q, fun q => if_neg q⟩
      have hic : ic = 0 ∨ ic = 1 := by
        by_cases q : Y / 4 % 2 = 0
        · exact Or.inr (hic0 q)
        · exact Or.inl (hic1 q)
      refine lv_aload_n hx hb dL_law_586 rfl (lv_at hl 9 rfl) ?_
      refine lv_iload hx hb dL_law_587 (lv_at hl 1 rfl) ?_
      refine lv_iconst (v := nI (1)) hx hb dL_law_589 (by decide) ?_
      refine lv_iload hx hb dL_law_590 (lv_at hl 2 rfl) ?_
      refine lv_iconst (v := nI (4)) hx hb dL_law_592 (by decide) ?_
      refine n_rem (x := Y) (y := 4) hx hb (by omega) (by omega) (by omega) dL_law_593 ?_
      refine n_add (x := 1) (y := (Y) % (4)) hx hb dL_law_594 ?_
      refine lv_iload hx hb dL_law_595 (lv_at hl 2 rfl) ?_
      refine lv_iconst (v := nI (4)) hx hb dL_law_597 (by decide) ?_
      refine n_div (x := Y) (y := 4) hx hb (by omega) (by omega) (by omega) dL_law_598 ?_
      refine lv_iconst (v := nI (2)) hx hb dL_law_599 (by decide) ?_
      refine n_rem (x := (Y) / (4)) (y := 2) hx hb (by omega) (by omega) (by omega) dL_law_600 ?_
      have J609 : WW H locs (cells + 4) (slots + 24) (F0 m 609 ls [.int (ic), .int (nI ((1) + ((Y) % (4)))), .int (nI (cel)), .ref (o)]) := by
        refine (hWW _ _ _ _ _).mpr ?_
        refine l_read (As := [.ref (o), .int (nI (cel)), .int (nI ((1) + ((Y) % (4)))), .int (ic)]) (rest := []) ⟨hx, hb, hml, hown, hts⟩ (RQ.no (x := 3) (fun τ v => lc_house l hl0 G ids tS tE o z τ (nI cel) (nI (1 + Y % 4)) ic (v.iv hI).ok.1 (v.iv hI).ok.2.2 hic) (fun τ v => house_no (v.iv hI) hc ⟨by omega, by omega⟩ (fun q => by rw [v.1 36 (by decide) (by decide), v.1 3 (by decide) (by decide), v.cn] at q; omega)) (by decide)) (vx_cwSW 4 hts gL_law_L_house rfl rfl rfl (by decide +kernel) ⟨Nat.le_of_ble_eq_true rfl, Nat.le_of_ble_eq_true rfl⟩) hK hZ hN hA hP hS rfl hl.1 rfl (Nat.le_of_ble_eq_true rfl) dL_law_609 ⟨by show (cells + 4) + 5 ≤ 600074; omega, by show (slots + 24) + 83 ≤ 7301550; omega⟩ (c1 := cells + 9) (s1 := slots + 107) (by omega) (by omega) (fun H locs hP hS hz9 hk9 => ?_)
        replace hq := hq.kept (hk9 _ hq.lt hqn)
        clear hz9 hk9
        refine lv_lstore (lv' := [(13, .long (lK 3)), (12, .int (nI (0))), (11, .int (nI (cel))), (9, .int (nI (Y))), (7, .int (nI (k))), (2, .int (nI (1))), (3, .int (nI (cpN σ 0))), (4, .int (nI (cpN σ 1))), (5, .int (nI (cpN σ 2))), (6, .ref (qo)), (1, .ref (o)), (0, .ref (b))]) hx hb dL_law_612 hl (by decide) rfl (fun ls hl => ?_)
        refine lv_lload hx hb dL_law_614 (lv_at hl 0 rfl) ?_
        refine lv_iload hx hb dL_law_616 (lv_at hl 1 rfl) ?_
        refine n_if_eq (x := 0) (tgt := 626) hx hb (by decide) dL_law_618 (by decide) (fun _ => ?_) (fun c9 => absurd (by decide) c9)
        refine lv_ldc2 (own := RL) (v := -9000000000000000003) hx hb hown (hts _ (List.mem_of_getElem? (i := 7) rfl)) dL_law_626 ?_
        refine l_cne (x := lK 3) (y := (-9000000000000000003 : Int64)) (tgt := 637) hx hb dL_law_629 dL_law_630 (by decide) (fun c9 => absurd (rfl) c9) (fun _ => ?_)
        refine lv_iconst (v := nI (1)) hx hb dL_law_633 (by decide) ?_
        refine lv_goto (tgt := 638) hx hb dL_law_634 (by decide) ?_
        refine lv_istore_n (lv' := [(2, .int (nI (1))), (13, .long (lK 3)), (12, .int (nI (0))), (11, .int (nI (cel))), (9, .int (nI (Y))), (7, .int (nI (k))), (3, .int (nI (cpN σ 0))), (4, .int (nI (cpN σ 1))), (5, .int (nI (cpN σ 2))), (6, .ref (qo)), (1, .ref (o)), (0, .ref (b))]) hx hb dL_law_638 rfl hl (by decide) rfl (fun ls hl => ?_)
        refine lv_iload_n hx hb dL_law_639 rfl (lv_at hl 6 rfl) ?_
        refine lv_iload hx hb dL_law_640 (lv_at hl 2 rfl) ?_
        refine n_if_eq (x := 0) (tgt := 649) hx hb (by decide) dL_law_642 (by decide) (fun _ => ?_) (fun c9 => absurd (by decide) c9)
        refine lv_iconst (v := nI (0)) hx hb dL_law_649 (by decide) ?_
        refine n_add (x := cpN σ 0) (y := 0) hx hb dL_law_650 ?_
        refine lv_istore_n (lv' := [(3, .int (nI ((cpN σ 0) + (0)))), (2, .int (nI (1))), (13, .long (lK 3)), (12, .int (nI (0))), (11, .int (nI (cel))), (9, .int (nI (Y))), (7, .int (nI (k))), (4, .int (nI (cpN σ 1))), (5, .int (nI (cpN σ 2))), (6, .ref (qo)), (1, .ref (o)), (0, .ref (b))]) hx hb dL_law_651 rfl hl (by decide) rfl (fun ls hl => ?_)
        refine lv_goto (tgt := 843) hx hb dL_law_652 (by decide) ?_
        have hl : lv_has ls 19 [(11, .int (nI (cel))), (9, .int (nI (Y))), (7, .int (nI (k))), (2, .int (nI (1))), (3, .int (nI (cpN σ 0))), (4, .int (nI (cpN σ 1))), (5, .int (nI (cpN σ 2))), (6, .ref (qo)), (1, .ref (o)), (0, .ref (b))] := by
          exact lv_sub hl [4, 5, 6, 1, 0, 7, 8, 9, 10, 11] rfl
        exact W.widen (by omega) (by omega) (kk σ _ _ _ ls hI (by omega) hP hq hf hS hl)
      refine n_if_ne (x := ((Y) / (4)) % (2)) (tgt := 608) hx hb (by omega) dL_law_601 (by decide) (fun c601 => ?_) (fun c601 => ?_)
      · refine lv_iconst (v := nI (0)) hx hb dL_law_608 (by decide) ?_
        exact l_top (show Value.int (nI (0)) = Value.int (ic) from congrArg Value.int ((hic1 c601).symm)) ((hWW _ _ _ _ _).mp J609)
      · refine lv_iconst (v := nI (1)) hx hb dL_law_604 (by decide) ?_
        refine lv_goto (tgt := 609) hx hb dL_law_605 (by decide) ?_
        exact l_top (show Value.int (nI (1)) = Value.int (ic) from congrArg Value.int ((hic0 c601).symm)) ((hWW _ _ _ _ _).mp J609)
    · refine lv_iload_n hx hb dL_law_573 rfl (lv_at hl 4 rfl) ?_
      refine lv_bipush (v := nI (10)) hx hb dL_law_574 (by decide) ?_
      refine n_icmp_ge (x := cpN σ 0) (y := 10) (tgt := 583) hx hb (by omega) (by decide) dL_law_576 (by decide) (fun c576 => ?_) (fun c576 => ?_)
      · refine lv_iconst (v := nI (0)) hx hb dL_law_583 (by decide) ?_
        refine lv_istore (lv' := [(12, .int (nI (0))), (11, .int (nI (cel))), (9, .int (nI (Y))), (7, .int (nI (k))), (2, .int (nI (1))), (3, .int (nI (cpN σ 0))), (4, .int (nI (cpN σ 1))), (5, .int (nI (cpN σ 2))), (6, .ref (qo)), (1, .ref (o)), (0, .ref (b))]) hx hb dL_law_584 hl (by decide) rfl (fun ls hl => ?_)
        obtain ⟨ic, hic0, hic1⟩ : ∃ ic : Int32, (Y / 4 % 2 = 0 → ic = nI 1) ∧ (¬ Y / 4 % 2 = 0 → ic = nI 0) := ⟨if Y / 4 % 2 = 0 then nI 1 else nI 0, fun q => if_pos q, fun q => if_neg q⟩
        have hic : ic = 0 ∨ ic = 1 := by
          by_cases q : Y / 4 % 2 = 0
          · exact Or.inr (hic0 q)
          · exact Or.inl (hic1 q)
        refine lv_aload_n hx hb dL_law_586 rfl (lv_at hl 9 rfl) ?_
        refine lv_iload hx hb dL_law_587 (lv_at hl 1 rfl) ?_
        refine lv_iconst (v := nI (1)) hx hb dL_law_589 (by decide) ?_
        refine lv_iload hx hb dL_law_590 (lv_at hl 2 rfl) ?_
        refine lv_iconst (v := nI (4)) hx hb dL_law_592 (by decide) ?_
        refine n_rem (x := Y) (y := 4) hx hb (by omega) (by omega) (by omega) dL_law_593 ?_
        refine n_add (x := 1) (y := (Y) % (4)) hx hb dL_law_594 ?_
        refine lv_iload hx hb dL_law_595 (lv_at hl 2 rfl) ?_
        refine lv_iconst (v := nI (4)) hx hb dL_law_597 (by decide) ?_
        refine n_div (x := Y) (y := 4) hx hb (by omega) (by omega) (by omega) dL_law_598 ?_
        refine lv_iconst (v := nI (2)) hx hb dL_law_599 (by decide) ?_
        refine n_rem (x := (Y) / (4)) (y := 2) hx hb (by omega) (by omega) (by omega) dL_law_600 ?_
        have J609 : WW H locs (cells + 4) (slots + 24) (F0 m 609 ls [.int (ic), .int (nI ((1) + ((Y) % (4)))), .int (nI (cel)), .ref (o)]) := by
          refine (hWW _ _ _ _ _).mpr ?_
          refine l_read (As := [.ref (o), .int (nI (cel)), .int (nI ((1) + ((Y) % (4)))), .int (ic)]) (rest := []) ⟨hx, hb, hml, hown, hts⟩ (RQ.no (x := 3) (fun τ v => lc_house l hl0 G ids tS tE o z τ (nI cel) (nI (1 + Y % 4)) ic (v.iv hI).ok.1 (v.iv hI).ok.2.2 hic) (fun τ v => house_no (v.iv hI) hc ⟨by omega, by omega⟩ (fun q => by rw [v.1 36 (by decide) (by decide), v.1 3 (by decide) (by decide), v.cn] at q; omega)) (by decide)) (vx_cwSW 4 hts gL_law_L_house rfl rfl rfl (by decide +kernel) ⟨Nat.le_of_ble_eq_true rfl, Nat.le_of_ble_eq_true rfl⟩) hK hZ hN hA hP hS rfl hl.1 rfl (Nat.le_of_ble_eq_true rfl) dL_law_609 ⟨by show (cells + 4) + 5 ≤ 600074; omega, by show (slots + 24) + 83 ≤ 7301550; omega⟩ (c1 := cells + 9) (s1 := slots + 107) (by omega) (by omega) (fun H locs hP hS hz9 hk9 => ?_)
          replace hq := hq.kept (hk9 _ hq.lt hqn)
          clear hz9 hk9
          refine lv_lstore (lv' := [(13, .long (lK 3)), (12, .int (nI (0))), (11, .int (nI (cel))), (9, .int (nI (Y))), (7, .int (nI (k))), (2, .int (nI (1))), (3, .int (nI (cpN σ 0))), (4, .int (nI (cpN σ 1))), (5, .int (nI (cpN σ 2))), (6, .ref (qo)), (1, .ref (o)), (0, .ref (b))]) hx hb dL_law_612 hl (by decide) rfl (fun ls hl => ?_)
          refine lv_lload hx hb dL_law_614 (lv_at hl 0 rfl) ?_
          refine lv_iload hx hb dL_law_616 (lv_at hl 1 rfl) ?_
          refine n_if_eq (x := 0) (tgt := 626) hx hb (by decide) dL_law_618 (by decide) (fun _ => ?_) (fun c9 => absurd (by decide) c9)
          refine lv_ldc2 (own := RL) (v := -9000000000000000003) hx hb hown (hts _ (List.mem_of_getElem? (i := 7) rfl)) dL_law_626 ?_
          refine l_cne (x := lK 3) (y := (-9000000000000000003 : Int64)) (tgt := 637) hx hb dL_law_629 dL_law_630 (by decide) (fun c9 => absurd (rfl) c9) (fun _ => ?_)
          refine lv_iconst (v := nI (1)) hx hb dL_law_633 (by decide) ?_
          refine lv_goto (tgt := 638) hx hb dL_law_634 (by decide) ?_
          refine lv_istore_n (lv' := [(2, .int (nI (1))), (13, .long (lK 3)), (12, .int (nI (0))), (11, .int (nI (cel))), (9, .int (nI (Y))), (7, .int (nI (k))), (3, .int (nI (cpN σ 0))), (4, .int (nI (cpN σ 1))), (5, .int (nI (cpN σ 2))), (6, .ref (qo)), (1, .ref (o)), (0, .ref (b))]) hx hb dL_law_638 rfl hl (by decide) rfl (fun ls hl => ?_)
          refine lv_iload_n hx hb dL_law_639 rfl (lv_at hl 6 rfl) ?_
          refine lv_iload hx hb dL_law_640 (lv_at hl 2 rfl) ?_
          refine n_if_eq (x := 0) (tgt := 649) hx hb (by decide) dL_law_642 (by decide) (fun _ => ?_) (fun c9 => absurd (by decide) c9)
          refine lv_iconst (v := nI (0)) hx hb dL_law_649 (by decide) ?_
          refine n_add (x := cpN σ 0) (y := 0) hx hb dL_law_650 ?_
          refine lv_istore_n (lv' := [(3, .int (nI ((cpN σ 0) + (0)))), (2, .int (nI (1))), (13, .long (lK 3)), (12, .int (nI (0))), (11, .int (nI (cel))), (9, .int (nI (Y))), (7, .int (nI (k))), (4, .int (nI (cpN σ 1))), (5, .int (nI (cpN σ 2))), (6, .ref (qo)), (1, .ref (o)), (0, .ref (b))]) hx hb dL_law_651 rfl hl (by decide) rfl (fun ls hl => ?_)
          refine lv_goto (tgt := 843) hx hb dL_law_652 (by decide) ?_
          have hl : lv_has ls 19 [(11, .int (nI (cel))), (9, .int (nI (Y))), (7, .int (nI (k))), (2, .int (nI (1))), (3, .int (nI (cpN σ 0))), (4, .int (nI (cpN σ 1))), (5, .int (nI (cpN σ 2))), (6, .ref (qo)), (1, .ref (o)), (0, .ref (b))] := by
            exact lv_sub hl [4, 5, 6, 1, 0, 7, 8, 9, 10, 11] rfl
          exact W.widen (by omega) (by omega) (kk σ _ _ _ ls hI (by omega) hP hq hf hS hl)
        refine n_if_ne (x := ((Y) / (4)) % (2)) (tgt := 608) hx hb (by omega) dL_law_601 (by decide) (fun c601 => ?_) (fun c601 => ?_)
        · refine lv_iconst (v := nI (0)) hx hb dL_law_608 (by decide) ?_
          exact l_top (show Value.int (nI (0)) = Value.int (ic) from congrArg Value.int ((hic1 c601).symm)) ((hWW _ _ _ _ _).mp J609)
        · refine lv_iconst (v := nI (1)) hx hb dL_law_604 (by decide) ?_
          refine lv_goto (tgt := 609) hx hb dL_law_605 (by decide) ?_
          exact l_top (show Value.int (nI (1)) = Value.int (ic) from congrArg Value.int ((hic0 c601).symm)) ((hWW _ _ _ _ _).mp J609)
      · refine lv_iconst (v := nI (1)) hx hb dL_law_579 (by decide) ?_
        refine lv_goto (tgt := 584) hx hb dL_law_580 (by decide) ?_
        refine lv_istore (lv' := [(12, .int (nI (1))), (11, .int (nI (cel))), (9, .int (nI (Y))), (7, .int (nI (k))), (2, .int (nI (1))), (3, .int (nI (cpN σ 0))), (4, .int (nI (cpN σ 1))), (5, .int (nI (cpN σ 2))), (6, .ref (qo)), (1, .ref (o)), (0, .ref (b))]) hx hb dL_law_584 hl (by decide) rfl (fun ls hl => ?_)
        obtain ⟨ic, hic0, hic1⟩ : ∃ ic : Int32, (Y / 4 % 2 = 0 → ic = nI 1) ∧ (¬ Y / 4 % 2 = 0 → ic = nI 0) := ⟨if Y / 4 % 2 = 0 then nI 1 else nI 0, fun q => if_pos q, fun q => if_neg q⟩
        have hic : ic = 0 ∨ ic = 1 := by
          by_cases q : Y / 4 % 2 = 0
          · exact Or.inr (hic0 q)
          · exact Or.inl (hic1 q)
        refine lv_aload_n hx hb dL_law_586 rfl (lv_at hl 9 rfl) ?_
        refine lv_iload hx hb dL_law_587 (lv_at hl 1 rfl) ?_
        refine lv_iconst (v := nI (1)) hx hb dL_law_589 (by decide) ?_
        refine lv_iload hx hb dL_law_590 (lv_at hl 2 rfl) ?_
        refine lv_iconst (v := nI (4)) hx hb dL_law_592 (by decide) ?_
        refine n_rem (x := Y) (y := 4) hx hb (by omega) (by omega) (by omega) dL_law_593 ?_
        refine n_add (x := 1) (y := (Y) % (4)) hx hb dL_law_594 ?_
        refine lv_iload hx hb dL_law_595 (lv_at hl 2 rfl) ?_
        refine lv_iconst (v := nI (4)) hx hb dL_law_597 (by decide) ?_
        refine n_div (x := Y) (y := 4) hx hb (by omega) (by omega) (by omega) dL_law_598 ?_
        refine lv_iconst (v := nI (2)) hx hb dL_law_599 (by decide) ?_
        refine n_rem (x := (Y) / (4)) (y := 2) hx hb (by omega) (by omega) (by omega) dL_law_600 ?_
        have J609 : WW H locs (cells + 4) (slots + 24) (F0 m 609 ls [.int (ic), .int (nI ((1) + ((Y) % (4)))), .int (nI (cel)), .ref (o)]) := by
          refine (hWW _ _ _ _ _).mpr ?_
          obtain ⟨⟨τ, v, hPt⟩, hzt⟩ := hP
          have hIt := v.iv hI
          have hmt := v.mon
          have hcn := v.cn
          obtain ⟨ex, hI1, hkv, hm1, hg0, hg1, hg2, h22⟩ := IV_house hIt (c := cel) (p := 1 + Y % 4) (ic := ic) hc ⟨by omega, by omega⟩ hic (by rw [v.1 36 (by decide) (by decide)]; omega) (by rw [v.1 3 (by decide) (by decide)]; omega) (by rw [hcn]; omega)
          refine l_tell (As := [.ref (o), .int (nI (cel)), .int (nI ((1) + ((Y) % (4)))), .int (ic)]) (rest := []) ⟨hx, hb, hml, hown, hts⟩ (lc_house l hl0 G ids tS tE o z τ (nI cel) (nI (1 + Y % 4)) ic hIt.ok.1 hIt.ok.2.2 hic) (ex) (vx_cwSW 4 hts gL_law_L_house rfl rfl rfl (by decide +kernel) ⟨Nat.le_of_ble_eq_true rfl, Nat.le_of_ble_eq_true rfl⟩) hK hZ hN hA hPt hzt hS rfl hl.1 rfl (Nat.le_of_ble_eq_true rfl) dL_law_609 ⟨by show (cells + 4) + 5 ≤ 600074; omega, by show (slots + 24) + 83 ≤ 7301550; omega⟩ (c1 := cells + 9) (s1 := slots + 107) (by omega) (by omega) (fun H locs hP hS hz9 hk9 => ?_)
          replace hq := hq.kept (hk9 _ hq.lt hqn)
          clear hz9 hk9
          clear hPt hzt hI
          have hI := hI1
          refine lv_lstore (lv' := [(13, .long ((k_house τ (nI cel) (nI (1 + Y % 4)) ic).toInt64)), (12, .int (nI (1))), (11, .int (nI (cel))), (9, .int (nI (Y))), (7, .int (nI (k))), (2, .int (nI (1))), (3, .int (nI (cpN σ 0))), (4, .int (nI (cpN σ 1))), (5, .int (nI (cpN σ 2))), (6, .ref (qo)), (1, .ref (o)), (0, .ref (b))]) hx hb dL_law_612 hl (by decide) rfl (fun ls hl => ?_)
          refine lv_lload hx hb dL_law_614 (lv_at hl 0 rfl) ?_
          refine lv_iload hx hb dL_law_616 (lv_at hl 1 rfl) ?_
          refine n_if_eq (x := 1) (tgt := 626) hx hb (by decide) dL_law_618 (by decide) (fun c9 => absurd c9 (by decide)) (fun _ => ?_)
          refine lv_iload_n hx hb dL_law_621 rfl (lv_at hl 6 rfl) ?_
          refine lv_i2l (v := (nI (cpN σ 0)).toInt64) hx hb dL_law_622 rfl ?_
          refine lv_goto (tgt := 629) hx hb dL_law_623 (by decide) ?_
          refine l_cne (x := (k_house τ (nI cel) (nI (1 + Y % 4)) ic).toInt64) (y := (nI (cpN σ 0)).toInt64) (tgt := 637) hx hb dL_law_629 dL_law_630 (by decide) (fun c9 => absurd ((by rw [hkv, hcn])) c9) (fun _ => ?_)
          refine lv_iconst (v := nI (1)) hx hb dL_law_633 (by decide) ?_
          refine lv_goto (tgt := 638) hx hb dL_law_634 (by decide) ?_
          refine lv_istore_n (lv' := [(2, .int (nI (1))), (13, .long ((k_house τ (nI cel) (nI (1 + Y % 4)) ic).toInt64)), (12, .int (nI (1))), (11, .int (nI (cel))), (9, .int (nI (Y))), (7, .int (nI (k))), (3, .int (nI (cpN σ 0))), (4, .int (nI (cpN σ 1))), (5, .int (nI (cpN σ 2))), (6, .ref (qo)), (1, .ref (o)), (0, .ref (b))]) hx hb dL_law_638 rfl hl (by decide) rfl (fun ls hl => ?_)
          refine lv_iload_n hx hb dL_law_639 rfl (lv_at hl 6 rfl) ?_
          refine lv_iload hx hb dL_law_640 (lv_at hl 2 rfl) ?_
          refine n_if_eq (x := 1) (tgt := 649) hx hb (by decide) dL_law_642 (by decide) (fun c9 => absurd c9 (by decide)) (fun _ => ?_)
          refine lv_iconst (v := nI (1)) hx hb dL_law_645 (by decide) ?_
          refine lv_goto (tgt := 650) hx hb dL_law_646 (by decide) ?_
          refine n_add (x := cpN σ 0) (y := 1) hx hb dL_law_650 ?_
          refine lv_istore_n (lv' := [(3, .int (nI ((cpN σ 0) + (1)))), (2, .int (nI (1))), (13, .long ((k_house τ (nI cel) (nI (1 + Y % 4)) ic).toInt64)), (12, .int (nI (1))), (11, .int (nI (cel))), (9, .int (nI (Y))), (7, .int (nI (k))), (4, .int (nI (cpN σ 1))), (5, .int (nI (cpN σ 2))), (6, .ref (qo)), (1, .ref (o)), (0, .ref (b))]) hx hb dL_law_651 rfl hl (by decide) rfl (fun ls hl => ?_)
          refine lv_goto (tgt := 843) hx hb dL_law_652 (by decide) ?_
          have hl : lv_has ls 19 [(11, .int (nI (cel))), (9, .int (nI (Y))), (7, .int (nI (k))), (2, .int (nI (1))), (3, .int (nI (cpN (k_house_s τ (nI cel) (nI (1 + Y % 4)) ic) 0))), (4, .int (nI (cpN (k_house_s τ (nI cel) (nI (1 + Y % 4)) ic) 1))), (5, .int (nI (cpN (k_house_s τ (nI cel) (nI (1 + Y % 4)) ic) 2))), (6, .ref (qo)), (1, .ref (o)), (0, .ref (b))] := by
            rw [hg0.trans (congrArg (· + 1) (hcn 0)), hg1.trans (hcn 1), hg2.trans (hcn 2)]
            exact lv_sub hl [4, 5, 6, 1, 0, 7, 8, 9, 10, 11] rfl
          exact W.widen (by omega) (by omega) (kk (k_house_s τ (nI cel) (nI (1 + Y % 4)) ic) _ _ _ ls hI (by rw [hm1, hmt]; omega) hP hq (fun x hx => by rw [hg1, hcn] at hx; rw [h22, v.1 22 (by decide) (by decide)]; exact hf x hx) hS hl)
        refine n_if_ne (x := ((Y) / (4)) % (2)) (tgt := 608) hx hb (by omega) dL_law_601 (by decide) (fun c601 => ?_) (fun c601 => ?_)
        · refine lv_iconst (v := nI (0)) hx hb dL_law_608 (by decide) ?_
          exact l_top (show Value.int (nI (0)) = Value.int (ic) from congrArg Value.int ((hic1 c601).symm)) ((hWW _ _ _ _ _).mp J609)
        · refine lv_iconst (v := nI (1)) hx hb dL_law_604 (by decide) ?_
          refine lv_goto (tgt := 609) hx hb dL_law_605 (by decide) ?_
          exact l_top (show Value.int (nI (1)) = Value.int (ic) from congrArg Value.int ((hic0 c601).symm)) ((hWW _ _ _ _ _).mp J609)
set_option maxHeartbeats 4000000 in
set_option maxRecDepth 100000 in
theorem law_hole {p : Program} {l : Launch} {e : Env} {s : State} {m : MethodId} {below : List Frame} {meth : Method} {c : Code} {b L : Nat} {xs : Nat → Int32} {G : va_G} {ids : Nat → ClassId} {tS tE o qo z : Nat} (C0 : LX p l s m c b L xs G ids tS tE o qo z) {Q : State → Prop} {cells slots : Nat} (hcell : cells + 5000 ≤ 600074) (hslot : slots + 40000 ≤ 7301550) {σ : Sg} {f : Nat → Int32} {H : Heap} {locs : List Loc} {ls : Array Slot} (hI : IV σ) (hP : vP G ids o z tE σ H) (hq : sP G ids qo f H) (hf : ∀ x, x < cpN σ 1 → f x = σ.1 22 x) (hS : va_S (fun q => s.heap.size ≤ q) s.heap H locs) {k cel Y : Nat} (hc : cel < 25) (hY : Y < 2 ^ 31) {M9 : Nat} (hM9 : mon σ + 4 ≤ M9) (hl : lv_has ls 19 [(11, .int (nI (cel))), (9, .int (nI (Y))), (7, .int (nI (k))), (2, .int (nI (1))), (3, .int (nI (cpN σ 0))), (4, .int (nI (cpN σ 1))), (5, .int (nI (cpN σ 2))), (6, .ref (qo)), (1, .ref (o)), (0, .ref (b))])
    (kk : ∀ (σ : Sg) (f : Nat → Int32) (H : Heap) (locs : List Loc) (ls : Array Slot), IV σ → mon σ ≤ M9 → vP G ids o z tE σ H → sP G ids qo f H → (∀ x, x < cpN σ 1 → f x = σ.1 22 x) → va_S (fun q => s.heap.size ≤ q) s.heap H locs → lv_has ls 19 [(11, .int (nI (cel))), (9, .int (nI (Y))), (7, .int (nI (k))), (2, .int (nI (1))), (3, .int (nI (cpN σ 0))), (4, .int (nI (cpN σ 1))), (5, .int (nI (cpN σ 2))), (6, .ref (qo)), (1, .ref (o)), (0, .ref (b))] → W p l e room_1 s m #[Value.ref b] below meth c H locs (cells + 60) (slots + 4000) Q (F0 m 843 ls [])) : W p l e room_1 s m #[Value.ref b] below meth c H locs cells slots Q (F0 m 662 ls []) := by
  obtain ⟨hx, hb, hml, hown, hts, hX, hbl, hl0, hK, hZ, hN, ho1, ho2, ho3, hL⟩ := id C0
  have hA : ∀ q, cpG o z q → (fun q : Nat => s.heap.size ≤ q) q := fun q h => by
    show s.heap.size ≤ q
    rcases h with h | h
    · omega
    · omega
  have hqn : ¬ cpG o z qo := by
    unfold cpG
    omega
  have hmo := hI.mo.2
  have hn0 := hI.n0.2
  have hn1 := hI.n1.2
  have hn2 := hI.n2.2
  refine w_named (fun WW hWW => ?_)
  refine lv_iload_n hx hb dL_law_662 rfl (lv_at hl 4 rfl) ?_
  refine n_if_ne (x := cpN σ 0) (tgt := 671) hx hb (by omega) dL_law_663 (by decide) (fun c663 => ?_) (fun c663 => ?_)
  · obtain ⟨hcl, hcl25, hcl1, hcl2⟩ := house_in hI (k := Y % cpN σ 0) (Nat.mod_lt _ (by omega))
    refine lv_aload_n hx hb dL_law_671 rfl (lv_at hl 8 rfl) ?_
    refine lv_iload hx hb dL_law_672 (lv_at hl 1 rfl) ?_
    refine lv_iload_n hx hb dL_law_674 rfl (lv_at hl 4 rfl) ?_
    refine n_rem (x := Y) (y := cpN σ 0) hx hb (by omega) (by omega) (by omega) dL_law_675 ?_
    refine lv_iconst (v := nI (0)) hx hb dL_law_676 (by decide) ?_
    refine l_read (As := [.ref (o), .int (nI ((Y) % (cpN σ 0))), .int (nI (0))]) (rest := []) ⟨hx, hb, hml, hown, hts⟩ (rdh0 hl0 hI (Nat.mod_lt _ (by omega))) (vx_cwSW 3 hts gL_law_L_houseOf rfl rfl rfl (by decide +kernel) ⟨Nat.le_of_ble_eq_true rfl, Nat.le_of_ble_eq_true rfl⟩) hK hZ hN hA hP hS rfl hl.1 rfl (Nat.le_of_ble_eq_true rfl) dL_law_677 ⟨by show (cells) + 2 ≤ 600074; omega, by show (slots) + 12 ≤ 7301550; omega⟩ (c1 := cells + 2) (s1 := slots + 12) (by omega) (by omega) (fun H locs hP hS hz9 hk9 => ?_)
    replace hq := hq.kept (hk9 _ hq.lt hqn)
    clear hz9 hk9
    refine lv_l2i (v := ((σ.1 14 ((Y) % (cpN σ 0))).toInt64).toInt32) hx hb dL_law_680 rfl ?_
    refine l_top (show Value.int (((σ.1 14 ((Y) % (cpN σ 0))).toInt64).toInt32) = Value.int (nI (hcl)) from congrArg Value.int ((Int32.toInt32_toInt64 _).trans hcl1)) ?_
    refine lv_istore (lv' := [(12, .int (nI (hcl))), (11, .int (nI (cel))), (9, .int (nI (Y))), (7, .int (nI (k))), (2, .int (nI (1))), (3, .int (nI (cpN σ 0))), (4, .int (nI (cpN σ 1))), (5, .int (nI (cpN σ 2))), (6, .ref (qo)), (1, .ref (o)), (0, .ref (b))]) hx hb dL_law_681 hl (by decide) rfl (fun ls hl => ?_)
    refine lv_aload_n hx hb dL_law_683 rfl (lv_at hl 9 rfl) ?_
    refine lv_iload hx hb dL_law_684 (lv_at hl 0 rfl) ?_
    refine lv_iload hx hb dL_law_686 (lv_at hl 2 rfl) ?_
    refine lv_bipush (v := nI (16)) hx hb dL_law_688 (by decide) ?_
    refine n_div (x := Y) (y := 16) hx hb (by omega) (by omega) (by omega) dL_law_690 ?_
    refine lv_bipush (v := nI (25)) hx hb dL_law_691 (by decide) ?_
    refine n_rem (x := (Y) / (16)) (y := 25) hx hb (by omega) (by omega) (by omega) dL_law_693 ?_
    refine lv_bipush (v := nI (12)) hx hb dL_law_694 (by decide) ?_
    refine lv_isub (x := nI (((Y) / (16)) % (25))) (y := nI (12)) hx hb dL_law_696 ?_
    by_cases c697 : cpN σ 1 = 10
    · have d12 : (nI (Y / 16 % 25) - nI 12).toInt = ((Y / 16 % 25 : Nat) : Int) - 12 := pk_sub_toInt (by omega) (by decide)
      refine l_read (As := [.ref (o), .int (nI (hcl)), .int ((nI (((Y) / (16)) % (25))) - (nI (12)))]) (rest := []) ⟨hx, hb, hml, hown, hts⟩ (RQ.no (x := 3) (fun τ v => lc_borehole l hl0 G ids tS tE o z τ (nI hcl) (nI (Y / 16 % 25) - nI 12) (v.iv hI).ok.1) (fun τ v => hole_no (v.iv hI) hcl25 (by rw [d12]; omega) (by rw [d12]; omega) (by rw [v.cn]; exact c697)) (by decide)) (vx_cwSW 3 hts gL_law_L_borehole rfl rfl rfl (by decide +kernel) ⟨Nat.le_of_ble_eq_true rfl, Nat.le_of_ble_eq_true rfl⟩) hK hZ hN hA hP hS rfl hl.1 rfl (Nat.le_of_ble_eq_true rfl) dL_law_697 ⟨by show (cells + 2) + 6 ≤ 600074; omega, by show (slots + 12) + 3083 ≤ 7301550; omega⟩ (c1 := cells + 8) (s1 := slots + 3095) (by omega) (by omega) (fun H locs hP hS hz9 hk9 => ?_)
      replace hq := hq.kept (hk9 _ hq.lt hqn)
      clear hz9 hk9
      refine lv_lstore (lv' := [(13, .long (lK 3)), (12, .int (nI (hcl))), (11, .int (nI (cel))), (9, .int (nI (Y))), (7, .int (nI (k))), (2, .int (nI (1))), (3, .int (nI (cpN σ 0))), (4, .int (nI (cpN σ 1))), (5, .int (nI (cpN σ 2))), (6, .ref (qo)), (1, .ref (o)), (0, .ref (b))]) hx hb dL_law_700 hl (by decide) rfl (fun ls hl => ?_)
      refine lv_lload hx hb dL_law_702 (lv_at hl 0 rfl) ?_
      refine lv_iload hx hb dL_law_704 (lv_at hl 7 rfl) ?_
      refine lv_bipush (v := nI (10)) hx hb dL_law_706 (by decide) ?_
      refine n_icmp_ne (x := cpN σ 1) (y := 10) (tgt := 717) hx hb (by omega) (by decide) dL_law_708 (by decide) (fun c9 => absurd (c697) c9) (fun _ => ?_)
      refine lv_ldc2 (own := RL) (v := -9000000000000000003) hx hb hown (hts _ (List.mem_of_getElem? (i := 7) rfl)) dL_law_711 ?_
      refine lv_goto (tgt := 720) hx hb dL_law_714 (by decide) ?_
      refine l_cne (x := lK 3) (y := (-9000000000000000003 : Int64)) (tgt := 728) hx hb dL_law_720 dL_law_721 (by decide) (fun c9 => absurd (rfl) c9) (fun _ => ?_)
      refine lv_iconst (v := nI (1)) hx hb dL_law_724 (by decide) ?_
      refine lv_goto (tgt := 729) hx hb dL_law_725 (by decide) ?_
      refine lv_istore_n (lv' := [(2, .int (nI (1))), (13, .long (lK 3)), (12, .int (nI (hcl))), (11, .int (nI (cel))), (9, .int (nI (Y))), (7, .int (nI (k))), (3, .int (nI (cpN σ 0))), (4, .int (nI (cpN σ 1))), (5, .int (nI (cpN σ 2))), (6, .ref (qo)), (1, .ref (o)), (0, .ref (b))]) hx hb dL_law_729 rfl hl (by decide) rfl (fun ls hl => ?_)
      refine lv_iload hx hb dL_law_730 (lv_at hl 7 rfl) ?_
      refine lv_bipush (v := nI (10)) hx hb dL_law_732 (by decide) ?_
      refine n_icmp_ge (x := cpN σ 1) (y := 10) (tgt := 749) hx hb (by omega) (by decide) dL_law_734 (by decide) (fun _ => ?_) (fun c9 => absurd ((by omega)) c9)
      refine lv_goto (tgt := 843) hx hb dL_law_749 (by decide) ?_
      have hl : lv_has ls 19 [(11, .int (nI (cel))), (9, .int (nI (Y))), (7, .int (nI (k))), (2, .int (nI (1))), (3, .int (nI (cpN σ 0))), (4, .int (nI (cpN σ 1))), (5, .int (nI (cpN σ 2))), (6, .ref (qo)), (1, .ref (o)), (0, .ref (b))] := by
        exact lv_sub hl [3, 4, 5, 0, 6, 7, 8, 9, 10, 11] rfl
      exact W.widen (by omega) (by omega) (kk σ _ _ _ ls hI (by omega) hP hq hf hS hl)
    · have d12 : (nI (Y / 16 % 25) - nI 12).toInt = ((Y / 16 % 25 : Nat) : Int) - 12 := pk_sub_toInt (by omega) (by decide)
      obtain ⟨⟨τ, v, hPt⟩, hzt⟩ := hP
      have hIt := v.iv hI
      have hmt := v.mon
      have hcn := v.cn
      obtain ⟨ex, hI1, hkv, hm1, hg0, hg1, hg2, h22⟩ := IV_hole hIt (c := hcl) (dr := nI (Y / 16 % 25) - nI 12) hcl25 (by rw [d12]; omega) (by rw [d12]; omega) (by rw [hcn]; omega)
      refine l_tell (As := [.ref (o), .int (nI (hcl)), .int ((nI (((Y) / (16)) % (25))) - (nI (12)))]) (rest := []) ⟨hx, hb, hml, hown, hts⟩ (lc_borehole l hl0 G ids tS tE o z τ (nI hcl) (nI (Y / 16 % 25) - nI 12) hIt.ok.1) (ex) (vx_cwSW 3 hts gL_law_L_borehole rfl rfl rfl (by decide +kernel) ⟨Nat.le_of_ble_eq_true rfl, Nat.le_of_ble_eq_true rfl⟩) hK hZ hN hA hPt hzt hS rfl hl.1 rfl (Nat.le_of_ble_eq_true rfl) dL_law_697 ⟨by show (cells + 2) + 6 ≤ 600074; omega, by show (slots + 12) + 3083 ≤ 7301550; omega⟩ (c1 := cells + 8) (s1 := slots + 3095) (by omega) (by omega) (fun H locs hP hS hz9 hk9 => ?_)
      replace hq := hq.kept (hk9 _ hq.lt hqn)
      clear hz9 hk9
      clear hPt hzt hI
      have hI := hI1
      refine lv_lstore (lv' := [(13, .long ((k_borehole τ (nI hcl) (nI (Y / 16 % 25) - nI 12)).toInt64)), (12, .int (nI (hcl))), (11, .int (nI (cel))), (9, .int (nI (Y))), (7, .int (nI (k))), (2, .int (nI (1))), (3, .int (nI (cpN σ 0))), (4, .int (nI (cpN σ 1))), (5, .int (nI (cpN σ 2))), (6, .ref (qo)), (1, .ref (o)), (0, .ref (b))]) hx hb dL_law_700 hl (by decide) rfl (fun ls hl => ?_)
      refine lv_lload hx hb dL_law_702 (lv_at hl 0 rfl) ?_
      refine lv_iload hx hb dL_law_704 (lv_at hl 7 rfl) ?_
      refine lv_bipush (v := nI (10)) hx hb dL_law_706 (by decide) ?_
      refine n_icmp_ne (x := cpN σ 1) (y := 10) (tgt := 717) hx hb (by omega) (by decide) dL_law_708 (by decide) (fun _ => ?_) (fun c9 => absurd c9 (c697))
      refine lv_iload hx hb dL_law_717 (lv_at hl 7 rfl) ?_
      refine lv_i2l (v := (nI (cpN σ 1)).toInt64) hx hb dL_law_719 rfl ?_
      refine l_cne (x := (k_borehole τ (nI hcl) (nI (Y / 16 % 25) - nI 12)).toInt64) (y := (nI (cpN σ 1)).toInt64) (tgt := 728) hx hb dL_law_720 dL_law_721 (by decide) (fun c9 => absurd ((by rw [hkv, hcn])) c9) (fun _ => ?_)
      refine lv_iconst (v := nI (1)) hx hb dL_law_724 (by decide) ?_
      refine lv_goto (tgt := 729) hx hb dL_law_725 (by decide) ?_
      refine lv_istore_n (lv' := [(2, .int (nI (1))), (13, .long ((k_borehole τ (nI hcl) (nI (Y / 16 % 25) - nI 12)).toInt64)), (12, .int (nI (hcl))), (11, .int (nI (cel))), (9, .int (nI (Y))), (7, .int (nI (k))), (3, .int (nI (cpN σ 0))), (4, .int (nI (cpN σ 1))), (5, .int (nI (cpN σ 2))), (6, .ref (qo)), (1, .ref (o)), (0, .ref (b))]) hx hb dL_law_729 rfl hl (by decide) rfl (fun ls hl => ?_)
      refine lv_iload hx hb dL_law_730 (lv_at hl 7 rfl) ?_
      refine lv_bipush (v := nI (10)) hx hb dL_law_732 (by decide) ?_
      refine n_icmp_ge (x := cpN σ 1) (y := 10) (tgt := 749) hx hb (by omega) (by decide) dL_law_734 (by decide) (fun c9 => absurd c9 ((by omega))) (fun _ => ?_)
      refine lv_aload hx hb dL_law_737 (lv_at hl 9 rfl) ?_
      refine lv_iload hx hb dL_law_739 (lv_at hl 7 rfl) ?_
      refine lv_aload_n hx hb dL_law_741 rfl (lv_at hl 10 rfl) ?_
      refine l_month (rest := [.int (nI (cpN σ 1)), .ref (qo)]) ⟨hx, hb, hml, hown, hts⟩ (cwV 0 hts gL_law_X5_month rfl rfl rfl (by decide +kernel) ⟨Nat.le_of_ble_eq_true rfl, Nat.le_of_ble_eq_true rfl⟩) hK hZ hA hP hS hl.1 (Nat.le_of_ble_eq_true rfl) dL_law_742 ⟨by show (cells + 8) + 0 ≤ 600074; omega, by show (slots + 3095) + 0 ≤ 7301550; omega⟩ (fun H locs hP hS hz9 hk9 => ?_)
      replace hq := hq.kept (hk9 _ hq.lt hqn)
      clear hz9 hk9
      refine l_top (show Value.int ((k_borehole_s τ (nI hcl) (nI (Y / 16 % 25) - nI 12)).1 1 0) = Value.int (nI (mon (k_borehole_s τ (nI hcl) (nI (Y / 16 % 25) - nI 12)))) from congrArg Value.int hI.mo.1) ?_
      refine x_iast hx hb hK hq (show s.heap.size ≤ qo by omega) hS (i := nI (cpN σ 1)) (x := nI (mon (k_borehole_s τ (nI hcl) (nI (Y / 16 % 25) - nI 12)))) (vp_in_nI (by omega) (by decide)) dL_law_745 (fun H2 locs2 hq2 ho9 hS2 => ?_)
      have hP2 := vP.only hP ho9 ho2 ho3
      clear hP hS ho9
      have hP := hP2
      have hS := hS2
      clear hq
      have hq := hq2
      clear hP2 hS2 hq2
      refine n_iinc (x := cpN σ 1) (dN := 1) (k := 7) (lv' := [(4, .int (nI (cpN σ 1 + 1))), (2, .int (nI (1))), (13, .long ((k_borehole τ (nI hcl) (nI (Y / 16 % 25) - nI 12)).toInt64)), (12, .int (nI (hcl))), (11, .int (nI (cel))), (9, .int (nI (Y))), (7, .int (nI (k))), (3, .int (nI (cpN σ 0))), (5, .int (nI (cpN σ 2))), (6, .ref (qo)), (1, .ref (o)), (0, .ref (b))]) hx hb dL_law_746 hl rfl (by decide) rfl (fun ls hl => ?_)
      refine lv_goto (tgt := 843) hx hb dL_law_749 (by decide) ?_
      have hl : lv_has ls 19 [(11, .int (nI (cel))), (9, .int (nI (Y))), (7, .int (nI (k))), (2, .int (nI (1))), (3, .int (nI (cpN (k_borehole_s τ (nI hcl) (nI (Y / 16 % 25) - nI 12)) 0))), (4, .int (nI (cpN (k_borehole_s τ (nI hcl) (nI (Y / 16 % 25) - nI 12)) 1))), (5, .int (nI (cpN (k_borehole_s τ (nI hcl) (nI (Y / 16 % 25) - nI 12)) 2))), (6, .ref (qo)), (1, .ref (o)), (0, .ref (b))] := by
        rw [hg0.trans (hcn 0), hg1.trans (congrArg (· + 1) (hcn 1)), hg2.trans (hcn 2)]
        exact lv_sub hl [4, 5, 6, 1, 7, 0, 8, 9, 10, 11] rfl
      exact W.widen (by omega) (by omega) (kk (k_borehole_s τ (nI hcl) (nI (Y / 16 % 25) - nI 12)) _ _ _ ls hI (by rw [hm1, hmt]; omega) hP hq (fun x hx => by rw [hg1, hcn] at hx; rw [h22, hm1, hcn, nI_clamp (show cpN σ 1 < 2 ^ 31 by omega), upd_i, v.1 22 (by decide) (by decide)]; exact ite_eq2 (fun q => hf x (by omega))) hS hl)
  · refine lv_iload hx hb dL_law_666 (lv_at hl 0 rfl) ?_
    refine lv_goto (tgt := 681) hx hb dL_law_668 (by decide) ?_
    refine l_top (show Value.int (nI (cel)) = Value.int (nI (cel)) from congrArg Value.int (rfl)) ?_
    refine lv_istore (lv' := [(12, .int (nI (cel))), (11, .int (nI (cel))), (9, .int (nI (Y))), (7, .int (nI (k))), (2, .int (nI (1))), (3, .int (nI (cpN σ 0))), (4, .int (nI (cpN σ 1))), (5, .int (nI (cpN σ 2))), (6, .ref (qo)), (1, .ref (o)), (0, .ref (b))]) hx hb dL_law_681 hl (by decide) rfl (fun ls hl => ?_)
    refine lv_aload_n hx hb dL_law_683 rfl (lv_at hl 9 rfl) ?_
    refine lv_iload hx hb dL_law_684 (lv_at hl 0 rfl) ?_
    refine lv_iload hx hb dL_law_686 (lv_at hl 2 rfl) ?_
    refine lv_bipush (v := nI (16)) hx hb dL_law_688 (by decide) ?_
    refine n_div (x := Y) (y := 16) hx hb (by omega) (by omega) (by omega) dL_law_690 ?_
    refine lv_bipush (v := nI (25)) hx hb dL_law_691 (by decide) ?_
    refine n_rem (x := (Y) / (16)) (y := 25) hx hb (by omega) (by omega) (by omega) dL_law_693 ?_
    refine lv_bipush (v := nI (12)) hx hb dL_law_694 (by decide) ?_
    refine lv_isub (x := nI (((Y) / (16)) % (25))) (y := nI (12)) hx hb dL_law_696 ?_
    by_cases c697 : cpN σ 1 = 10
    · have d12 : (nI (Y / 16 % 25) - nI 12).toInt = ((Y / 16 % 25 : Nat) : Int) - 12 := pk_sub_toInt (by omega) (by decide)
      refine l_read (As := [.ref (o), .int (nI (cel)), .int ((nI (((Y) / (16)) % (25))) - (nI (12)))]) (rest := []) ⟨hx, hb, hml, hown, hts⟩ (RQ.no (x := 3) (fun τ v => lc_borehole l hl0 G ids tS tE o z τ (nI cel) (nI (Y / 16 % 25) - nI 12) (v.iv hI).ok.1) (fun τ v => hole_no (v.iv hI) hc (by rw [d12]; omega) (by rw [d12]; omega) (by rw [v.cn]; exact c697)) (by decide)) (vx_cwSW 3 hts gL_law_L_borehole rfl rfl rfl (by decide +kernel) ⟨Nat.le_of_ble_eq_true rfl, Nat.le_of_ble_eq_true rfl⟩) hK hZ hN hA hP hS rfl hl.1 rfl (Nat.le_of_ble_eq_true rfl) dL_law_697 ⟨by show (cells) + 6 ≤ 600074; omega, by show (slots) + 3083 ≤ 7301550; omega⟩ (c1 := cells + 6) (s1 := slots + 3083) (by omega) (by omega) (fun H locs hP hS hz9 hk9 => ?_)
      replace hq := hq.kept (hk9 _ hq.lt hqn)
      clear hz9 hk9
      refine lv_lstore (lv' := [(13, .long (lK 3)), (12, .int (nI (cel))), (11, .int (nI (cel))), (9, .int (nI (Y))), (7, .int (nI (k))), (2, .int (nI (1))), (3, .int (nI (cpN σ 0))), (4, .int (nI (cpN σ 1))), (5, .int (nI (cpN σ 2))), (6, .ref (qo)), (1, .ref (o)), (0, .ref (b))]) hx hb dL_law_700 hl (by decide) rfl (fun ls hl => ?_)
      refine lv_lload hx hb dL_law_702 (lv_at hl 0 rfl) ?_
      refine lv_iload hx hb dL_law_704 (lv_at hl 7 rfl) ?_
      refine lv_bipush (v := nI (10)) hx hb dL_law_706 (by decide) ?_
      refine n_icmp_ne (x := cpN σ 1) (y := 10) (tgt := 717) hx hb (by omega) (by decide) dL_law_708 (by decide) (fun c9 => absurd (c697) c9) (fun _ => ?_)
      refine lv_ldc2 (own := RL) (v := -9000000000000000003) hx hb hown (hts _ (List.mem_of_getElem? (i := 7) rfl)) dL_law_711 ?_
      refine lv_goto (tgt := 720) hx hb dL_law_714 (by decide) ?_
      refine l_cne (x := lK 3) (y := (-9000000000000000003 : Int64)) (tgt := 728) hx hb dL_law_720 dL_law_721 (by decide) (fun c9 => absurd (rfl) c9) (fun _ => ?_)
      refine lv_iconst (v := nI (1)) hx hb dL_law_724 (by decide) ?_
      refine lv_goto (tgt := 729) hx hb dL_law_725 (by decide) ?_
      refine lv_istore_n (lv' := [(2, .int (nI (1))), (13, .long (lK 3)), (12, .int (nI (cel))), (11, .int (nI (cel))), (9, .int (nI (Y))), (7, .int (nI (k))), (3, .int (nI (cpN σ 0))), (4, .int (nI (cpN σ 1))), (5, .int (nI (cpN σ 2))), (6, .ref (qo)), (1, .ref (o)), (0, .ref (b))]) hx hb dL_law_729 rfl hl (by decide) rfl (fun ls hl => ?_)
      refine lv_iload hx hb dL_law_730 (lv_at hl 7 rfl) ?_
      refine lv_bipush (v := nI (10)) hx hb dL_law_732 (by decide) ?_
      refine n_icmp_ge (x := cpN σ 1) (y := 10) (tgt := 749) hx hb (by omega) (by decide) dL_law_734 (by decide) (fun _ => ?_) (fun c9 => absurd ((by omega)) c9)
      refine lv_goto (tgt := 843) hx hb dL_law_749 (by decide) ?_
      have hl : lv_has ls 19 [(11, .int (nI (cel))), (9, .int (nI (Y))), (7, .int (nI (k))), (2, .int (nI (1))), (3, .int (nI (cpN σ 0))), (4, .int (nI (cpN σ 1))), (5, .int (nI (cpN σ 2))), (6, .ref (qo)), (1, .ref (o)), (0, .ref (b))] := by
        exact lv_sub hl [3, 4, 5, 0, 6, 7, 8, 9, 10, 11] rfl
      exact W.widen (by omega) (by omega) (kk σ _ _ _ ls hI (by omega) hP hq hf hS hl)
    · have d12 : (nI (Y / 16 % 25) - nI 12).toInt = ((Y / 16 % 25 : Nat) : Int) - 12 := pk_sub_toInt (by omega) (by decide)
      obtain ⟨⟨τ, v, hPt⟩, hzt⟩ := hP
      have hIt := v.iv hI
      have hmt := v.mon
      have hcn := v.cn
      obtain ⟨ex, hI1, hkv, hm1, hg0, hg1, hg2, h22⟩ := IV_hole hIt (c := cel) (dr := nI (Y / 16 % 25) - nI 12) hc (by rw [d12]; omega) (by rw [d12]; omega) (by rw [hcn]; omega)
      refine l_tell (As := [.ref (o), .int (nI (cel)), .int ((nI (((Y) / (16)) % (25))) - (nI (12)))]) (rest := []) ⟨hx, hb, hml, hown, hts⟩ (lc_borehole l hl0 G ids tS tE o z τ (nI cel) (nI (Y / 16 % 25) - nI 12) hIt.ok.1) (ex) (vx_cwSW 3 hts gL_law_L_borehole rfl rfl rfl (by decide +kernel) ⟨Nat.le_of_ble_eq_true rfl, Nat.le_of_ble_eq_true rfl⟩) hK hZ hN hA hPt hzt hS rfl hl.1 rfl (Nat.le_of_ble_eq_true rfl) dL_law_697 ⟨by show (cells) + 6 ≤ 600074; omega, by show (slots) + 3083 ≤ 7301550; omega⟩ (c1 := cells + 6) (s1 := slots + 3083) (by omega) (by omega) (fun H locs hP hS hz9 hk9 => ?_)
      replace hq := hq.kept (hk9 _ hq.lt hqn)
      clear hz9 hk9
      clear hPt hzt hI
      have hI := hI1
      refine lv_lstore (lv' := [(13, .long ((k_borehole τ (nI cel) (nI (Y / 16 % 25) - nI 12)).toInt64)), (12, .int (nI (cel))), (11, .int (nI (cel))), (9, .int (nI (Y))), (7, .int (nI (k))), (2, .int (nI (1))), (3, .int (nI (cpN σ 0))), (4, .int (nI (cpN σ 1))), (5, .int (nI (cpN σ 2))), (6, .ref (qo)), (1, .ref (o)), (0, .ref (b))]) hx hb dL_law_700 hl (by decide) rfl (fun ls hl => ?_)
      refine lv_lload hx hb dL_law_702 (lv_at hl 0 rfl) ?_
      refine lv_iload hx hb dL_law_704 (lv_at hl 7 rfl) ?_
      refine lv_bipush (v := nI (10)) hx hb dL_law_706 (by decide) ?_
      refine n_icmp_ne (x := cpN σ 1) (y := 10) (tgt := 717) hx hb (by omega) (by decide) dL_law_708 (by decide) (fun _ => ?_) (fun c9 => absurd c9 (c697))
      refine lv_iload hx hb dL_law_717 (lv_at hl 7 rfl) ?_
      refine lv_i2l (v := (nI (cpN σ 1)).toInt64) hx hb dL_law_719 rfl ?_
      refine l_cne (x := (k_borehole τ (nI cel) (nI (Y / 16 % 25) - nI 12)).toInt64) (y := (nI (cpN σ 1)).toInt64) (tgt := 728) hx hb dL_law_720 dL_law_721 (by decide) (fun c9 => absurd ((by rw [hkv, hcn])) c9) (fun _ => ?_)
      refine lv_iconst (v := nI (1)) hx hb dL_law_724 (by decide) ?_
      refine lv_goto (tgt := 729) hx hb dL_law_725 (by decide) ?_
      refine lv_istore_n (lv' := [(2, .int (nI (1))), (13, .long ((k_borehole τ (nI cel) (nI (Y / 16 % 25) - nI 12)).toInt64)), (12, .int (nI (cel))), (11, .int (nI (cel))), (9, .int (nI (Y))), (7, .int (nI (k))), (3, .int (nI (cpN σ 0))), (4, .int (nI (cpN σ 1))), (5, .int (nI (cpN σ 2))), (6, .ref (qo)), (1, .ref (o)), (0, .ref (b))]) hx hb dL_law_729 rfl hl (by decide) rfl (fun ls hl => ?_)
      refine lv_iload hx hb dL_law_730 (lv_at hl 7 rfl) ?_
      refine lv_bipush (v := nI (10)) hx hb dL_law_732 (by decide) ?_
      refine n_icmp_ge (x := cpN σ 1) (y := 10) (tgt := 749) hx hb (by omega) (by decide) dL_law_734 (by decide) (fun c9 => absurd c9 ((by omega))) (fun _ => ?_)
      refine lv_aload hx hb dL_law_737 (lv_at hl 9 rfl) ?_
      refine lv_iload hx hb dL_law_739 (lv_at hl 7 rfl) ?_
      refine lv_aload_n hx hb dL_law_741 rfl (lv_at hl 10 rfl) ?_
      refine l_month (rest := [.int (nI (cpN σ 1)), .ref (qo)]) ⟨hx, hb, hml, hown, hts⟩ (cwV 0 hts gL_law_X5_month rfl rfl rfl (by decide +kernel) ⟨Nat.le_of_ble_eq_true rfl, Nat.le_of_ble_eq_true rfl⟩) hK hZ hA hP hS hl.1 (Nat.le_of_ble_eq_true rfl) dL_law_742 ⟨by show (cells + 6) + 0 ≤ 600074; omega, by show (slots + 3083) + 0 ≤ 7301550; omega⟩ (fun H locs hP hS hz9 hk9 => ?_)
      replace hq := hq.kept (hk9 _ hq.lt hqn)
      clear hz9 hk9
      refine l_top (show Value.int ((k_borehole_s τ (nI cel) (nI (Y / 16 % 25) - nI 12)).1 1 0) = Value.int (nI (mon (k_borehole_s τ (nI cel) (nI (Y / 16 % 25) - nI 12)))) from congrArg Value.int hI.mo.1) ?_
      refine x_iast hx hb hK hq (show s.heap.size ≤ qo by omega) hS (i := nI (cpN σ 1)) (x := nI (mon (k_borehole_s τ (nI cel) (nI (Y / 16 % 25) - nI 12)))) (vp_in_nI (by omega) (by decide)) dL_law_745 (fun H2 locs2 hq2 ho9 hS2 => ?_)
      have hP2 := vP.only hP ho9 ho2 ho3
      clear hP hS ho9
      have hP := hP2
      have hS := hS2
      clear hq
      have hq := hq2
      clear hP2 hS2 hq2
      refine n_iinc (x := cpN σ 1) (dN := 1) (k := 7) (lv' := [(4, .int (nI (cpN σ 1 + 1))), (2, .int (nI (1))), (13, .long ((k_borehole τ (nI cel) (nI (Y / 16 % 25) - nI 12)).toInt64)), (12, .int (nI (cel))), (11, .int (nI (cel))), (9, .int (nI (Y))), (7, .int (nI (k))), (3, .int (nI (cpN σ 0))), (5, .int (nI (cpN σ 2))), (6, .ref (qo)), (1, .ref (o)), (0, .ref (b))]) hx hb dL_law_746 hl rfl (by decide) rfl (fun ls hl => ?_)
      refine lv_goto (tgt := 843) hx hb dL_law_749 (by decide) ?_
      have hl : lv_has ls 19 [(11, .int (nI (cel))), (9, .int (nI (Y))), (7, .int (nI (k))), (2, .int (nI (1))), (3, .int (nI (cpN (k_borehole_s τ (nI cel) (nI (Y / 16 % 25) - nI 12)) 0))), (4, .int (nI (cpN (k_borehole_s τ (nI cel) (nI (Y / 16 % 25) - nI 12)) 1))), (5, .int (nI (cpN (k_borehole_s τ (nI cel) (nI (Y / 16 % 25) - nI 12)) 2))), (6, .ref (qo)), (1, .ref (o)), (0, .ref (b))] := by
        rw [hg0.trans (hcn 0), hg1.trans (congrArg (· + 1) (hcn 1)), hg2.trans (hcn 2)]
        exact lv_sub hl [4, 5, 6, 1, 7, 0, 8, 9, 10, 11] rfl
      exact W.widen (by omega) (by omega) (kk (k_borehole_s τ (nI cel) (nI (Y / 16 % 25) - nI 12)) _ _ _ ls hI (by rw [hm1, hmt]; omega) hP hq (fun x hx => by rw [hg1, hcn] at hx; rw [h22, hm1, hcn, nI_clamp (show cpN σ 1 < 2 ^ 31 by omega), upd_i, v.1 22 (by decide) (by decide)]; exact ite_eq2 (fun q => hf x (by omega))) hS hl)
set_option maxHeartbeats 4000000 in
set_option maxRecDepth 100000 in
theorem law_claim {p : Program} {l : Launch} {e : Env} {s : State} {m : MethodId} {below : List Frame} {meth : Method} {c : Code} {b L : Nat} {xs : Nat → Int32} {G : va_G} {ids : Nat → ClassId} {tS tE o qo z : Nat} (C0 : LX p l s m c b L xs G ids tS tE o qo z) {Q : State → Prop} {cells slots : Nat} (hcell : cells + 5000 ≤ 600074) (hslot : slots + 40000 ≤ 7301550) {σ : Sg} {f : Nat → Int32} {H : Heap} {locs : List Loc} {ls : Array Slot} (hI : IV σ) (hP : vP G ids o z tE σ H) (hq : sP G ids qo f H) (hf : ∀ x, x < cpN σ 1 → f x = σ.1 22 x) (hS : va_S (fun q => s.heap.size ≤ q) s.heap H locs) {k cel Y : Nat} (hc : cel < 25) (hY : Y < 2 ^ 31) {M9 : Nat} (hM9 : mon σ + 4 ≤ M9) (hl : lv_has ls 19 [(11, .int (nI (cel))), (9, .int (nI (Y))), (7, .int (nI (k))), (2, .int (nI (1))), (3, .int (nI (cpN σ 0))), (4, .int (nI (cpN σ 1))), (5, .int (nI (cpN σ 2))), (6, .ref (qo)), (1, .ref (o)), (0, .ref (b))])
    (kk : ∀ (σ : Sg) (f : Nat → Int32) (H : Heap) (locs : List Loc) (ls : Array Slot), IV σ → mon σ ≤ M9 → vP G ids o z tE σ H → sP G ids qo f H → (∀ x, x < cpN σ 1 → f x = σ.1 22 x) → va_S (fun q => s.heap.size ≤ q) s.heap H locs → lv_has ls 19 [(11, .int (nI (cel))), (9, .int (nI (Y))), (7, .int (nI (k))), (2, .int (nI (1))), (3, .int (nI (cpN σ 0))), (4, .int (nI (cpN σ 1))), (5, .int (nI (cpN σ 2))), (6, .ref (qo)), (1, .ref (o)), (0, .ref (b))] → W p l e room_1 s m #[Value.ref b] below meth c H locs (cells + 60) (slots + 4000) Q (F0 m 843 ls [])) : W p l e room_1 s m #[Value.ref b] below meth c H locs cells slots Q (F0 m 752 ls []) := by
  obtain ⟨hx, hb, hml, hown, hts, hX, hbl, hl0, hK, hZ, hN, ho1, ho2, ho3, hL⟩ := id C0
  have hA : ∀ q, cpG o z q → (fun q : Nat => s.heap.size ≤ q) q := fun q h => by
    show s.heap.size ≤ q
    rcases h with h | h
    · omega
    · omega
  have hqn : ¬ cpG o z qo := by
    unfold cpG
    omega
  have hmo := hI.mo.2
  have hn0 := hI.n0.2
  have hn1 := hI.n1.2
  have hn2 := hI.n2.2
  refine w_named (fun WW hWW => ?_)
  refine lv_iload_n hx hb dL_law_752 rfl (lv_at hl 4 rfl) ?_
  refine lv_if_le (x := nI (cpN σ 0)) (tgt := 843) hx hb dL_law_753 (by decide) (fun c753 => ?_) (fun c753 => ?_)
  · have hl : lv_has ls 19 [(11, .int (nI (cel))), (9, .int (nI (Y))), (7, .int (nI (k))), (2, .int (nI (1))), (3, .int (nI (cpN σ 0))), (4, .int (nI (cpN σ 1))), (5, .int (nI (cpN σ 2))), (6, .ref (qo)), (1, .ref (o)), (0, .ref (b))] := by
      exact lv_sub hl [0, 1, 2, 3, 4, 5, 6, 7, 8, 9] rfl
    exact W.widen (by omega) (by omega) (kk σ _ _ _ ls hI (by omega) hP hq hf hS hl)
  · rw [i_le, z_0, nI_toInt (by omega)] at c753
    have hml9 : Y % cpN σ 0 < cpN σ 0 := Nat.mod_lt _ (by omega)
    refine lv_iload hx hb dL_law_756 (lv_at hl 1 rfl) ?_
    refine lv_iload_n hx hb dL_law_758 rfl (lv_at hl 4 rfl) ?_
    refine n_rem (x := Y) (y := cpN σ 0) hx hb (by omega) (by omega) (by omega) dL_law_759 ?_
    refine lv_istore (lv' := [(12, .int (nI ((Y) % (cpN σ 0)))), (11, .int (nI (cel))), (9, .int (nI (Y))), (7, .int (nI (k))), (2, .int (nI (1))), (3, .int (nI (cpN σ 0))), (4, .int (nI (cpN σ 1))), (5, .int (nI (cpN σ 2))), (6, .ref (qo)), (1, .ref (o)), (0, .ref (b))]) hx hb dL_law_760 hl (by decide) rfl (fun ls hl => ?_)
    refine lv_aload_n hx hb dL_law_762 rfl (lv_at hl 9 rfl) ?_
    refine lv_iload hx hb dL_law_763 (lv_at hl 0 rfl) ?_
    refine lv_iconst (v := nI (4)) hx hb dL_law_765 (by decide) ?_
    refine l_read (As := [.ref (o), .int (nI ((Y) % (cpN σ 0))), .int (nI (4))]) (rest := []) ⟨hx, hb, hml, hown, hts⟩ (rdh4 hl0 hI hml9) (vx_cwSW 3 hts gL_law_L_houseOf rfl rfl rfl (by decide +kernel) ⟨Nat.le_of_ble_eq_true rfl, Nat.le_of_ble_eq_true rfl⟩) hK hZ hN hA hP hS rfl hl.1 rfl (Nat.le_of_ble_eq_true rfl) dL_law_766 ⟨by show (cells) + 2 ≤ 600074; omega, by show (slots) + 12 ≤ 7301550; omega⟩ (c1 := cells + 2) (s1 := slots + 12) (by omega) (by omega) (fun H locs hP hS hz9 hk9 => ?_)
    replace hq := hq.kept (hk9 _ hq.lt hqn)
    clear hz9 hk9
    refine lv_lstore (lv' := [(13, .long ((wo σ ((Y) % (cpN σ 0))).toInt64)), (12, .int (nI ((Y) % (cpN σ 0)))), (11, .int (nI (cel))), (9, .int (nI (Y))), (7, .int (nI (k))), (2, .int (nI (1))), (3, .int (nI (cpN σ 0))), (4, .int (nI (cpN σ 1))), (5, .int (nI (cpN σ 2))), (6, .ref (qo)), (1, .ref (o)), (0, .ref (b))]) hx hb dL_law_769 hl (by decide) rfl (fun ls hl => ?_)
    refine lv_aload_n hx hb dL_law_771 rfl (lv_at hl 10 rfl) ?_
    refine lv_iload hx hb dL_law_772 (lv_at hl 1 rfl) ?_
    by_cases c774 : cpN σ 2 = 40
    · refine l_read (As := [.ref (o), .int (nI ((Y) % (cpN σ 0)))]) (rest := []) ⟨hx, hb, hml, hown, hts⟩ (RQ.no (x := 3) (fun τ v => lc_claim l hl0 G ids tS tE o z τ (nI (Y % cpN σ 0)) (v.iv hI).ok.1) (fun τ v => claim_no (v.iv hI) (by rw [v.cn]; exact hml9) (by rw [v.cn]; exact c774)) (by decide)) (vx_cwSW 2 hts gL_law_L_claim rfl rfl rfl (by decide +kernel) ⟨Nat.le_of_ble_eq_true rfl, Nat.le_of_ble_eq_true rfl⟩) hK hZ hN hA hP hS rfl hl.1 rfl (Nat.le_of_ble_eq_true rfl) dL_law_774 ⟨by show (cells + 2) + 4 ≤ 600074; omega, by show (slots + 12) + 76 ≤ 7301550; omega⟩ (c1 := cells + 6) (s1 := slots + 88) (by omega) (by omega) (fun H locs hP hS hz9 hk9 => ?_)
      replace hq := hq.kept (hk9 _ hq.lt hqn)
      clear hz9 hk9
      refine lv_lstore (lv' := [(15, .long (lK 3)), (13, .long ((wo σ ((Y) % (cpN σ 0))).toInt64)), (12, .int (nI ((Y) % (cpN σ 0)))), (11, .int (nI (cel))), (9, .int (nI (Y))), (7, .int (nI (k))), (2, .int (nI (1))), (3, .int (nI (cpN σ 0))), (4, .int (nI (cpN σ 1))), (5, .int (nI (cpN σ 2))), (6, .ref (qo)), (1, .ref (o)), (0, .ref (b))]) hx hb dL_law_777 hl (by decide) rfl (fun ls hl => ?_)
      refine lv_lload hx hb dL_law_779 (lv_at hl 0 rfl) ?_
      refine lv_iload hx hb dL_law_781 (lv_at hl 9 rfl) ?_
      refine lv_bipush (v := nI (40)) hx hb dL_law_783 (by decide) ?_
      refine n_icmp_ne (x := cpN σ 2) (y := 40) (tgt := 794) hx hb (by omega) (by decide) dL_law_785 (by decide) (fun c9 => absurd (c774) c9) (fun _ => ?_)
      refine lv_ldc2 (own := RL) (v := -9000000000000000003) hx hb hown (hts _ (List.mem_of_getElem? (i := 7) rfl)) dL_law_788 ?_
      refine lv_goto (tgt := 797) hx hb dL_law_791 (by decide) ?_
      refine l_cne (x := lK 3) (y := (-9000000000000000003 : Int64)) (tgt := 824) hx hb dL_law_797 dL_law_798 (by decide) (fun c9 => absurd (rfl) c9) (fun _ => ?_)
      refine lv_iload hx hb dL_law_801 (lv_at hl 9 rfl) ?_
      refine lv_bipush (v := nI (40)) hx hb dL_law_803 (by decide) ?_
      refine n_icmp_eq (x := cpN σ 2) (y := 40) (tgt := 820) hx hb (by omega) (by decide) dL_law_805 (by decide) (fun _ => ?_) (fun c9 => absurd (c774) c9)
      refine lv_iconst (v := nI (1)) hx hb dL_law_820 (by decide) ?_
      refine lv_goto (tgt := 825) hx hb dL_law_821 (by decide) ?_
      refine lv_istore_n (lv' := [(2, .int (nI (1))), (15, .long (lK 3)), (13, .long ((wo σ ((Y) % (cpN σ 0))).toInt64)), (12, .int (nI ((Y) % (cpN σ 0)))), (11, .int (nI (cel))), (9, .int (nI (Y))), (7, .int (nI (k))), (3, .int (nI (cpN σ 0))), (4, .int (nI (cpN σ 1))), (5, .int (nI (cpN σ 2))), (6, .ref (qo)), (1, .ref (o)), (0, .ref (b))]) hx hb dL_law_825 rfl hl (by decide) rfl (fun ls hl => ?_)
      refine lv_iload hx hb dL_law_826 (lv_at hl 9 rfl) ?_
      refine lv_iload hx hb dL_law_828 (lv_at hl 9 rfl) ?_
      refine lv_bipush (v := nI (40)) hx hb dL_law_830 (by decide) ?_
      refine n_icmp_ne (x := cpN σ 2) (y := 40) (tgt := 839) hx hb (by omega) (by decide) dL_law_832 (by decide) (fun c9 => absurd (c774) c9) (fun _ => ?_)
      refine lv_iconst (v := nI (0)) hx hb dL_law_835 (by decide) ?_
      refine lv_goto (tgt := 840) hx hb dL_law_836 (by decide) ?_
      refine n_add (x := cpN σ 2) (y := 0) hx hb dL_law_840 ?_
      refine lv_istore (lv' := [(5, .int (nI ((cpN σ 2) + (0)))), (2, .int (nI (1))), (15, .long (lK 3)), (13, .long ((wo σ ((Y) % (cpN σ 0))).toInt64)), (12, .int (nI ((Y) % (cpN σ 0)))), (11, .int (nI (cel))), (9, .int (nI (Y))), (7, .int (nI (k))), (3, .int (nI (cpN σ 0))), (4, .int (nI (cpN σ 1))), (6, .ref (qo)), (1, .ref (o)), (0, .ref (b))]) hx hb dL_law_841 hl (by decide) rfl (fun ls hl => ?_)
      have hl : lv_has ls 19 [(11, .int (nI (cel))), (9, .int (nI (Y))), (7, .int (nI (k))), (2, .int (nI (1))), (3, .int (nI (cpN σ 0))), (4, .int (nI (cpN σ 1))), (5, .int (nI (cpN σ 2))), (6, .ref (qo)), (1, .ref (o)), (0, .ref (b))] := by
        exact lv_sub hl [5, 6, 7, 1, 8, 9, 0, 10, 11, 12] rfl
      exact W.widen (by omega) (by omega) (kk σ _ _ _ ls hI (by omega) hP hq hf hS hl)
    · obtain ⟨⟨τ, v, hPt⟩, hzt⟩ := hP
      have hIt := v.iv hI
      have hmt := v.mon
      have hcn := v.cn
      obtain ⟨ex, hI1, hkv, hm1, hg0, hg1, hg2, h22, h25⟩ := IV_claim hIt (k := Y % cpN σ 0) (by rw [hcn]; exact hml9) (by rw [hcn]; omega)
      rw [hcn] at h25
      have hwo : k_claimAmount τ (Y % cpN σ 0) (τ.1 17 (Y % cpN σ 0)) (τ.1 1 0) = wo σ (Y % cpN σ 0) := by
        unfold wo
        rw [v.ff.amt, v.1 17 (by decide) (by decide), v.1 1 (by decide) (by decide)]
      refine l_tell (As := [.ref (o), .int (nI ((Y) % (cpN σ 0)))]) (rest := []) ⟨hx, hb, hml, hown, hts⟩ (lc_claim l hl0 G ids tS tE o z τ (nI (Y % cpN σ 0)) hIt.ok.1) (ex) (vx_cwSW 2 hts gL_law_L_claim rfl rfl rfl (by decide +kernel) ⟨Nat.le_of_ble_eq_true rfl, Nat.le_of_ble_eq_true rfl⟩) hK hZ hN hA hPt hzt hS rfl hl.1 rfl (Nat.le_of_ble_eq_true rfl) dL_law_774 ⟨by show (cells + 2) + 4 ≤ 600074; omega, by show (slots + 12) + 76 ≤ 7301550; omega⟩ (c1 := cells + 6) (s1 := slots + 88) (by omega) (by omega) (fun H locs hP hS hz9 hk9 => ?_)
      replace hq := hq.kept (hk9 _ hq.lt hqn)
      clear hz9 hk9
      clear hPt hzt hI
      have hI := hI1
      refine lv_lstore (lv' := [(15, .long ((k_claim τ (nI (Y % cpN σ 0))).toInt64)), (13, .long ((wo σ ((Y) % (cpN σ 0))).toInt64)), (12, .int (nI ((Y) % (cpN σ 0)))), (11, .int (nI (cel))), (9, .int (nI (Y))), (7, .int (nI (k))), (2, .int (nI (1))), (3, .int (nI (cpN σ 0))), (4, .int (nI (cpN σ 1))), (5, .int (nI (cpN σ 2))), (6, .ref (qo)), (1, .ref (o)), (0, .ref (b))]) hx hb dL_law_777 hl (by decide) rfl (fun ls hl => ?_)
      refine lv_lload hx hb dL_law_779 (lv_at hl 0 rfl) ?_
      refine lv_iload hx hb dL_law_781 (lv_at hl 9 rfl) ?_
      refine lv_bipush (v := nI (40)) hx hb dL_law_783 (by decide) ?_
      refine n_icmp_ne (x := cpN σ 2) (y := 40) (tgt := 794) hx hb (by omega) (by decide) dL_law_785 (by decide) (fun _ => ?_) (fun c9 => absurd c9 (c774))
      refine lv_iload hx hb dL_law_794 (lv_at hl 9 rfl) ?_
      refine lv_i2l (v := (nI (cpN σ 2)).toInt64) hx hb dL_law_796 rfl ?_
      refine l_cne (x := (k_claim τ (nI (Y % cpN σ 0))).toInt64) (y := (nI (cpN σ 2)).toInt64) (tgt := 824) hx hb dL_law_797 dL_law_798 (by decide) (fun c9 => absurd ((by rw [hkv, hcn])) c9) (fun _ => ?_)
      refine lv_iload hx hb dL_law_801 (lv_at hl 9 rfl) ?_
      refine lv_bipush (v := nI (40)) hx hb dL_law_803 (by decide) ?_
      refine n_icmp_eq (x := cpN σ 2) (y := 40) (tgt := 820) hx hb (by omega) (by decide) dL_law_805 (by decide) (fun c9 => absurd c9 (c774)) (fun _ => ?_)
      refine lv_aload_n hx hb dL_law_808 rfl (lv_at hl 11 rfl) ?_
      refine lv_iload hx hb dL_law_809 (lv_at hl 9 rfl) ?_
      refine l_read (As := [.ref (o), .int (nI (cpN σ 2))]) (rest := []) ⟨hx, hb, hml, hown, hts⟩ (rdk hl0 hI (by rw [hg2, hcn]; omega)) (vx_cwSW 2 hts gL_law_L_claimOf rfl rfl rfl (by decide +kernel) ⟨Nat.le_of_ble_eq_true rfl, Nat.le_of_ble_eq_true rfl⟩) hK hZ hN hA hP hS rfl hl.1 rfl (Nat.le_of_ble_eq_true rfl) dL_law_811 ⟨by show (cells + 6) + 1 ≤ 600074; omega, by show (slots + 88) + 6 ≤ 7301550; omega⟩ (c1 := cells + 7) (s1 := slots + 94) (by omega) (by omega) (fun H locs hP hS hz9 hk9 => ?_)
      replace hq := hq.kept (hk9 _ hq.lt hqn)
      clear hz9 hk9
      refine lv_lload hx hb dL_law_814 (lv_at hl 1 rfl) ?_
      refine l_cne (x := ((k_claim_s τ (nI (Y % cpN σ 0))).1 25 (cpN σ 2)).toInt64) (y := (wo σ ((Y) % (cpN σ 0))).toInt64) (tgt := 824) hx hb dL_law_816 dL_law_817 (by decide) (fun c9 => absurd (congrArg Int32.toInt64 (h25.trans hwo)) c9) (fun _ => ?_)
      refine lv_iconst (v := nI (1)) hx hb dL_law_820 (by decide) ?_
      refine lv_goto (tgt := 825) hx hb dL_law_821 (by decide) ?_
      refine lv_istore_n (lv' := [(2, .int (nI (1))), (15, .long ((k_claim τ (nI (Y % cpN σ 0))).toInt64)), (13, .long ((wo σ ((Y) % (cpN σ 0))).toInt64)), (12, .int (nI ((Y) % (cpN σ 0)))), (11, .int (nI (cel))), (9, .int (nI (Y))), (7, .int (nI (k))), (3, .int (nI (cpN σ 0))), (4, .int (nI (cpN σ 1))), (5, .int (nI (cpN σ 2))), (6, .ref (qo)), (1, .ref (o)), (0, .ref (b))]) hx hb dL_law_825 rfl hl (by decide) rfl (fun ls hl => ?_)
      refine lv_iload hx hb dL_law_826 (lv_at hl 9 rfl) ?_
      refine lv_iload hx hb dL_law_828 (lv_at hl 9 rfl) ?_
      refine lv_bipush (v := nI (40)) hx hb dL_law_830 (by decide) ?_
      refine n_icmp_ne (x := cpN σ 2) (y := 40) (tgt := 839) hx hb (by omega) (by decide) dL_law_832 (by decide) (fun _ => ?_) (fun c9 => absurd c9 (c774))
      refine lv_iconst (v := nI (1)) hx hb dL_law_839 (by decide) ?_
      refine n_add (x := cpN σ 2) (y := 1) hx hb dL_law_840 ?_
      refine lv_istore (lv' := [(5, .int (nI ((cpN σ 2) + (1)))), (2, .int (nI (1))), (15, .long ((k_claim τ (nI (Y % cpN σ 0))).toInt64)), (13, .long ((wo σ ((Y) % (cpN σ 0))).toInt64)), (12, .int (nI ((Y) % (cpN σ 0)))), (11, .int (nI (cel))), (9, .int (nI (Y))), (7, .int (nI (k))), (3, .int (nI (cpN σ 0))), (4, .int (nI (cpN σ 1))), (6, .ref (qo)), (1, .ref (o)), (0, .ref (b))]) hx hb dL_law_841 hl (by decide) rfl (fun ls hl => ?_)
      have hl : lv_has ls 19 [(11, .int (nI (cel))), (9, .int (nI (Y))), (7, .int (nI (k))), (2, .int (nI (1))), (3, .int (nI (cpN (k_claim_s τ (nI (Y % cpN σ 0))) 0))), (4, .int (nI (cpN (k_claim_s τ (nI (Y % cpN σ 0))) 1))), (5, .int (nI (cpN (k_claim_s τ (nI (Y % cpN σ 0))) 2))), (6, .ref (qo)), (1, .ref (o)), (0, .ref (b))] := by
        rw [hg0.trans (hcn 0), hg1.trans (hcn 1), hg2.trans (congrArg (· + 1) (hcn 2))]
        exact lv_sub hl [5, 6, 7, 1, 8, 9, 0, 10, 11, 12] rfl
      exact W.widen (by omega) (by omega) (kk (k_claim_s τ (nI (Y % cpN σ 0))) _ _ _ ls hI (by rw [hm1, hmt]; omega) hP hq (fun x hx => by rw [hg1, hcn] at hx; rw [h22, v.1 22 (by decide) (by decide)]; exact hf x hx) hS hl)
