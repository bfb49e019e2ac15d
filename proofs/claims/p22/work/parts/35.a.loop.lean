/-! one turn of the law, and its loop -/
theorem vP.kept {G : va_G} {ids : Nat → ClassId} {o z tE : Nat} {σ : Sg} {H H1 : Heap} (h : vP G ids o z tE σ H) (hz : H.size ≤ H1.size) (hk : ∀ q : Nat, q < H.size → H1[q]? = H[q]?) : vP G ids o z tE σ H1 := by
  obtain ⟨⟨τ, v, d, w, hP, hw⟩, h2⟩ := h
  exact ⟨⟨τ, v, d, w, hP.keep (fun q h _ => hk q h), hw⟩, by omega⟩
set_option maxHeartbeats 4000000 in
set_option maxRecDepth 100000 in
theorem law_one {p : Program} {l : Launch} {e : Env} {s : State} {m : MethodId} {below : List Frame} {meth : Method} {c : Code} {b L : Nat} {xs : Nat → Int32} {G : va_G} {ids : Nat → ClassId} {tS tE o qo z : Nat} (C0 : LX p l s m c b L xs G ids tS tE o qo z) {Q : State → Prop} {cells slots : Nat} (hcell : cells + 5060 ≤ 600074) (hslot : slots + 44000 ≤ 7301550) {σ : Sg} {f : Nat → Int32} {H : Heap} {locs : List Loc} {ls : Array Slot} (hI : IV σ) (hP : vP G ids o z tE σ H) (hq : sP G ids qo f H) (hf : ∀ x, x < cpN σ 1 → f x = σ.1 22 x) (hS : va_S (fun q => s.heap.size ≤ q) s.heap H locs) {k M9 : Nat} (hk : k < 40) (hmk : mon σ + 4 ≤ 600) (hM9 : mon σ + 4 ≤ M9) (hl : lv_has ls 19 [(7, .int (nI (k))), (2, .int (nI (1))), (3, .int (nI (cpN σ 0))), (4, .int (nI (cpN σ 1))), (5, .int (nI (cpN σ 2))), (6, .ref (qo)), (1, .ref (o)), (0, .ref (b))])
    (kk : ∀ (σ : Sg) (f : Nat → Int32) (H : Heap) (locs : List Loc) (ls : Array Slot), IV σ → mon σ ≤ M9 → vP G ids o z tE σ H → sP G ids qo f H → (∀ x, x < cpN σ 1 → f x = σ.1 22 x) → va_S (fun q => s.heap.size ≤ q) s.heap H locs → lv_has ls 19 [(7, .int (nI (k + 1))), (2, .int (nI (1))), (3, .int (nI (cpN σ 0))), (4, .int (nI (cpN σ 1))), (5, .int (nI (cpN σ 2))), (6, .ref (qo)), (1, .ref (o)), (0, .ref (b))] → W p l e room_1 s m #[Value.ref b] below meth c H locs (cells + 60 + 4600) (slots + 4000 + 36000) Q (F0 m 27 ls [])) : W p l e room_1 s m #[Value.ref b] below meth c H locs cells slots Q (F0 m 38 ls []) := by
  obtain ⟨hx, hb, hml, hown, hts, hX, hbl, hl0, hK, hZ, hN, ho1, ho2, ho3, hL⟩ := id C0
  have hA : ∀ q, cpG o z q → (fun q : Nat => s.heap.size ≤ q) q := fun q h => by
    show s.heap.size ≤ q
    rcases h with h | h
    · omega
    · omega
  have hqn : ¬ cpG o z qo := by
    unfold cpG
    omega
  have hmo := hI.mo.2
  have hn0 := hI.n0.2
  have hn1 := hI.n1.2
  have hn2 := hI.n2.2
  refine w_named (fun WW hWW => ?_)
  refine lv_aload_n hx hb dL_law_38 rfl (lv_at hl 7 rfl) ?_
  refine lv_iconst (v := nI (2)) hx hb dL_law_39 (by decide) ?_
  refine lv_iload hx hb dL_law_40 (lv_at hl 0 rfl) ?_
  refine n_mul (x := 2) (y := k) hx hb dL_law_42 ?_
  refine l_draw (k := (2) * (k)) (rest := []) ⟨hx, hb, hml, hown, hts⟩ (va_cwS 2 hts gL_law_L_draw rfl rfl rfl (by decide +kernel) ⟨Nat.le_of_ble_eq_true rfl, Nat.le_of_ble_eq_true rfl⟩) hX hbl (Nat.not_le.mpr hbl) (by omega) (by omega) hS hl.1 (Nat.le_of_ble_eq_true rfl) dL_law_43 ⟨by show (cells) + 0 ≤ 600074; omega, by show (slots) + 0 ≤ 7301550; omega⟩ (fun X H1 locs1 hXl hS1 hz1 hk1 => ?_)
  have hP1 := vP.kept hP hz1 hk1
  have hq1 := va_at.kept hq (hk1 _ hq.lt)
  clear hP hq hS hz1 hk1
  have hP := hP1
  have hq := hq1
  have hS := hS1
  clear hP1 hq1 hS1
  refine lv_istore (lv' := [(8, .int (nI (X))), (7, .int (nI (k))), (2, .int (nI (1))), (3, .int (nI (cpN σ 0))), (4, .int (nI (cpN σ 1))), (5, .int (nI (cpN σ 2))), (6, .ref (qo)), (1, .ref (o)), (0, .ref (b))]) hx hb dL_law_46 hl (by decide) rfl (fun ls hl => ?_)
  refine lv_aload_n hx hb dL_law_48 rfl (lv_at hl 8 rfl) ?_
  refine lv_iconst (v := nI (2)) hx hb dL_law_49 (by decide) ?_
  refine lv_iload hx hb dL_law_50 (lv_at hl 1 rfl) ?_
  refine n_mul (x := 2) (y := k) hx hb dL_law_52 ?_
  refine lv_iconst (v := nI (1)) hx hb dL_law_53 (by decide) ?_
  refine n_add (x := (2) * (k)) (y := 1) hx hb dL_law_54 ?_
  refine l_draw (k := ((2) * (k)) + (1)) (rest := []) ⟨hx, hb, hml, hown, hts⟩ (va_cwS 2 hts gL_law_L_draw rfl rfl rfl (by decide +kernel) ⟨Nat.le_of_ble_eq_true rfl, Nat.le_of_ble_eq_true rfl⟩) hX hbl (Nat.not_le.mpr hbl) (by omega) (by omega) hS hl.1 (Nat.le_of_ble_eq_true rfl) dL_law_55 ⟨by show (cells) + 0 ≤ 600074; omega, by show (slots) + 0 ≤ 7301550; omega⟩ (fun Y H1 locs1 hY hS1 hz1 hk1 => ?_)
  have hP1 := vP.kept hP hz1 hk1
  have hq1 := va_at.kept hq (hk1 _ hq.lt)
  clear hP hq hS hz1 hk1
  have hP := hP1
  have hq := hq1
  have hS := hS1
  clear hP1 hq1 hS1
  refine lv_istore (lv' := [(9, .int (nI (Y))), (8, .int (nI (X))), (7, .int (nI (k))), (2, .int (nI (1))), (3, .int (nI (cpN σ 0))), (4, .int (nI (cpN σ 1))), (5, .int (nI (cpN σ 2))), (6, .ref (qo)), (1, .ref (o)), (0, .ref (b))]) hx hb dL_law_58 hl (by decide) rfl (fun ls hl => ?_)
  refine lv_iload hx hb dL_law_60 (lv_at hl 1 rfl) ?_
  refine lv_bipush (v := nI (12)) hx hb dL_law_62 (by decide) ?_
  refine n_rem (x := X) (y := 12) hx hb (by omega) (by omega) (by omega) dL_law_64 ?_
  refine lv_istore (lv' := [(10, .int (nI ((X) % (12)))), (9, .int (nI (Y))), (8, .int (nI (X))), (7, .int (nI (k))), (2, .int (nI (1))), (3, .int (nI (cpN σ 0))), (4, .int (nI (cpN σ 1))), (5, .int (nI (cpN σ 2))), (6, .ref (qo)), (1, .ref (o)), (0, .ref (b))]) hx hb dL_law_65 hl (by decide) rfl (fun ls hl => ?_)
  refine lv_iload hx hb dL_law_67 (lv_at hl 2 rfl) ?_
  refine lv_bipush (v := nI (16)) hx hb dL_law_69 (by decide) ?_
  refine n_div (x := X) (y := 16) hx hb (by omega) (by omega) (by omega) dL_law_71 ?_
  refine lv_bipush (v := nI (25)) hx hb dL_law_72 (by decide) ?_
  refine n_rem (x := (X) / (16)) (y := 25) hx hb (by omega) (by omega) (by omega) dL_law_74 ?_
  refine lv_istore (lv' := [(11, .int (nI (((X) / (16)) % (25)))), (10, .int (nI ((X) % (12)))), (9, .int (nI (Y))), (8, .int (nI (X))), (7, .int (nI (k))), (2, .int (nI (1))), (3, .int (nI (cpN σ 0))), (4, .int (nI (cpN σ 1))), (5, .int (nI (cpN σ 2))), (6, .ref (qo)), (1, .ref (o)), (0, .ref (b))]) hx hb dL_law_75 hl (by decide) rfl (fun ls hl => ?_)
  obtain ⟨cel, hcel⟩ : ∃ cel : Nat, cel = ((X) / (16)) % (25) := ⟨_, rfl⟩
  rw [← hcel] at hl
  have hc : cel < 25 := by omega
  have K : ∀ (σ : Sg) (f : Nat → Int32) (H : Heap) (locs : List Loc) (ls : Array Slot), IV σ → mon σ ≤ M9 → vP G ids o z tE σ H → sP G ids qo f H → (∀ x, x < cpN σ 1 → f x = σ.1 22 x) → va_S (fun q => s.heap.size ≤ q) s.heap H locs → lv_has ls 19 [(11, .int (nI (cel))), (9, .int (nI (Y))), (7, .int (nI (k))), (2, .int (nI (1))), (3, .int (nI (cpN σ 0))), (4, .int (nI (cpN σ 1))), (5, .int (nI (cpN σ 2))), (6, .ref (qo)), (1, .ref (o)), (0, .ref (b))] → W p l e room_1 s m #[Value.ref b] below meth c H locs (cells + 60) (slots + 4000) Q (F0 m 843 ls []) := fun σ1 f1 H1 locs1 ls1 hI1 hm1 hP1 hq1 hf1 hS1 hl1 =>
    law_tail C0 (by omega) (by omega) hI1 hP1 hq1 hf1 hS1 hc hY hk hl1 kk hm1
  clear hcel
  refine lv_iload hx hb dL_law_77 (lv_at hl 1 rfl) ?_
  refine lv_iconst (v := nI (4)) hx hb dL_law_79 (by decide) ?_
  refine n_icmp_ge (x := (X) % (12)) (y := 4) (tgt := 142) hx hb (by omega) (by decide) dL_law_80 (by decide) (fun c80 => ?_) (fun c80 => ?_)
  · refine lv_iload hx hb dL_law_142 (lv_at hl 1 rfl) ?_
    refine lv_bipush (v := nI (7)) hx hb dL_law_144 (by decide) ?_
    refine n_icmp_ge (x := (X) % (12)) (y := 7) (tgt := 257) hx hb (by omega) (by decide) dL_law_146 (by decide) (fun c146 => ?_) (fun c146 => ?_)
    · refine lv_iload hx hb dL_law_257 (lv_at hl 1 rfl) ?_
      refine lv_bipush (v := nI (7)) hx hb dL_law_259 (by decide) ?_
      refine n_icmp_ne (x := (X) % (12)) (y := 7) (tgt := 440) hx hb (by omega) (by decide) dL_law_261 (by decide) (fun c261 => ?_) (fun c261 => ?_)
      · refine lv_iload hx hb dL_law_440 (lv_at hl 1 rfl) ?_
        refine lv_bipush (v := nI (8)) hx hb dL_law_442 (by decide) ?_
        refine n_icmp_ne (x := (X) % (12)) (y := 8) (tgt := 540) hx hb (by omega) (by decide) dL_law_444 (by decide) (fun c444 => ?_) (fun c444 => ?_)
        · refine lv_iload hx hb dL_law_540 (lv_at hl 1 rfl) ?_
          refine lv_bipush (v := nI (9)) hx hb dL_law_542 (by decide) ?_
          refine n_icmp_ne (x := (X) % (12)) (y := 9) (tgt := 655) hx hb (by omega) (by decide) dL_law_544 (by decide) (fun c544 => ?_) (fun c544 => ?_)
          · refine lv_iload hx hb dL_law_655 (lv_at hl 1 rfl) ?_
            refine lv_bipush (v := nI (10)) hx hb dL_law_657 (by decide) ?_
            refine n_icmp_ne (x := (X) % (12)) (y := 10) (tgt := 752) hx hb (by omega) (by decide) dL_law_659 (by decide) (fun c659 => ?_) (fun c659 => ?_)
            · exact law_claim C0 (by omega) (by omega) hI hP hq hf hS hc hY hM9 (lv_sub hl [0, 2, 4, 5, 6, 7, 8, 9, 10, 11] rfl) K
            · exact law_hole C0 (by omega) (by omega) hI hP hq hf hS hc hY hM9 (lv_sub hl [0, 2, 4, 5, 6, 7, 8, 9, 10, 11] rfl) K
          · exact law_house C0 (by omega) (by omega) hI hP hq hf hS hc hY hM9 (lv_sub hl [0, 2, 4, 5, 6, 7, 8, 9, 10, 11] rfl) K
        · exact law_breach C0 (by omega) (by omega) hI hP hq hf hS hc hY hM9 (lv_sub hl [0, 2, 4, 5, 6, 7, 8, 9, 10, 11] rfl) K
      · exact law_fire C0 (by omega) (by omega) hI hP hq hf hS hc hY hM9 (lv_sub hl [0, 2, 4, 5, 6, 7, 8, 9, 10, 11] rfl) K
    · exact law_ground C0 (by omega) (by omega) hI hP hq hf hS hc hY hM9 (lv_sub hl [0, 2, 4, 5, 6, 7, 8, 9, 10, 11] rfl) K
  · exact law_pass C0 (by omega) (by omega) hI hP hq hf hS hc hY hM9 hmk (lv_sub hl [0, 2, 4, 5, 6, 7, 8, 9, 10, 11] rfl) K
set_option maxHeartbeats 4000000 in
set_option maxRecDepth 100000 in
theorem law_loop {p : Program} {l : Launch} {e : Env} {s : State} {m : MethodId} {below : List Frame} {meth : Method} {c : Code} {b L : Nat} {xs : Nat → Int32} {G : va_G} {ids : Nat → ClassId} {tS tE o qo z : Nat} (C0 : LX p l s m c b L xs G ids tS tE o qo z) {Q : State → Prop} 
    (kend : ∀ (H : Heap) (locs : List Loc) (cells slots : Nat) (ls : Array Slot), cells ≤ 600074 → slots ≤ 7301550 → va_S (fun q => s.heap.size ≤ q) s.heap H locs → W p l e room_1 s m #[Value.ref b] below meth c H locs cells slots Q (F0 m 1052 ls [.int (nI 1)])) :
    ∀ (n k : Nat), k + n = 40 → ∀ (σ : Sg) (f : Nat → Int32) (H : Heap) (locs : List Loc) (ls : Array Slot), IV σ → mon σ ≤ 4 * k → vP G ids o z tE σ H → sP G ids qo f H → (∀ x, x < cpN σ 1 → f x = σ.1 22 x) → va_S (fun q => s.heap.size ≤ q) s.heap H locs → lv_has ls 19 [(7, .int (nI (k))), (2, .int (nI (1))), (3, .int (nI (cpN σ 0))), (4, .int (nI (cpN σ 1))), (5, .int (nI (cpN σ 2))), (6, .ref (qo)), (1, .ref (o)), (0, .ref (b))] → W p l e room_1 s m #[Value.ref b] below meth c H locs (300 + 5000 * k) (40000 + 40000 * k) Q (F0 m 27 ls []) := by
  obtain ⟨hx, hb, hml, hown, hts, hX, hbl, hl0, hK, hZ, hN, ho1, ho2, ho3, hL⟩ := id C0
  intro n
  induction n with
  | zero =>
    intro k hk σ f H locs ls hI hm hP hq hf hS hl
    refine lv_iload hx hb dL_law_27 (lv_at hl 0 rfl) ?_
    refine lv_bipush (v := nI 40) hx hb dL_law_29 (by decide) ?_
    refine n_icmp_ge (x := k) (y := 40) (tgt := 1051) hx hb (by omega) (by decide) dL_law_31 (by decide) (fun _ => ?_) (fun c9 => absurd (by omega) c9)
    refine lv_iload_n hx hb dL_law_1051 rfl (lv_at hl 1 rfl) ?_
    exact kend H locs _ _ ls (by omega) (by omega) hS
  | succ n ih =>
    intro k hk σ f H locs ls hI hm hP hq hf hS hl
    refine lv_iload hx hb dL_law_27 (lv_at hl 0 rfl) ?_
    refine lv_bipush (v := nI 40) hx hb dL_law_29 (by decide) ?_
    refine n_icmp_ge (x := k) (y := 40) (tgt := 1051) hx hb (by omega) (by decide) dL_law_31 (by decide) (fun c9 => absurd c9 (by omega)) (fun _ => ?_)
    refine lv_iload_n hx hb dL_law_34 rfl (lv_at hl 1 rfl) ?_
    refine n_if_eq (x := 1) (tgt := 1051) hx hb (by decide) dL_law_35 (by decide) (fun c9 => absurd c9 (by decide)) (fun _ => ?_)
    refine law_one C0 (by omega) (by omega) hI hP hq hf hS (k := k) (M9 := 4 * (k + 1)) (by omega) (by omega) (by omega) hl (fun σ1 f1 H1 locs1 ls1 hI1 hm1 hP1 hq1 hf1 hS1 hl1 => ?_)
    exact W.widen (by omega) (by omega) (ih (k + 1) (by omega) σ1 f1 H1 locs1 ls1 hI1 hm1 hP1 hq1 hf1 hS1 hl1)
