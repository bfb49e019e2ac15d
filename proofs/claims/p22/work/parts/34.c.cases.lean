set_option maxHeartbeats 4000000 in
set_option maxRecDepth 100000 in
theorem law_pass {p : Program} {l : Launch} {e : Env} {s : State} {m : MethodId} {below : List Frame} {meth : Method} {c : Code} {b L : Nat} {xs : Nat → Int32} {G : va_G} {ids : Nat → ClassId} {tS tE o qo z : Nat} (C0 : LX p l s m c b L xs G ids tS tE o qo z) {Q : State → Prop} {cells slots : Nat} (hcell : cells + 5000 ≤ 600074) (hslot : slots + 40000 ≤ 7301550) {σ : Sg} {f : Nat → Int32} {H : Heap} {locs : List Loc} {ls : Array Slot} (hI : IV σ) (hP : vP G ids o z tE σ H) (hq : sP G ids qo f H) (hf : ∀ x, x < cpN σ 1 → f x = σ.1 22 x) (hS : va_S (fun q => s.heap.size ≤ q) s.heap H locs) {k cel Y : Nat} (hc : cel < 25) (hY : Y < 2 ^ 31) {M9 : Nat} (hM9 : mon σ + 4 ≤ M9) (hmk : mon σ + 4 ≤ 600) (hl : lv_has ls 19 [(11, .int (nI (cel))), (9, .int (nI (Y))), (7, .int (nI (k))), (2, .int (nI (1))), (3, .int (nI (cpN σ 0))), (4, .int (nI (cpN σ 1))), (5, .int (nI (cpN σ 2))), (6, .ref (qo)), (1, .ref (o)), (0, .ref (b))])
    (kk : ∀ (σ : Sg) (f : Nat → Int32) (H : Heap) (locs : List Loc) (ls : Array Slot), IV σ → mon σ ≤ M9 → vP G ids o z tE σ H → sP G ids qo f H → (∀ x, x < cpN σ 1 → f x = σ.1 22 x) → va_S (fun q => s.heap.size ≤ q) s.heap H locs → lv_has ls 19 [(11, .int (nI (cel))), (9, .int (nI (Y))), (7, .int (nI (k))), (2, .int (nI (1))), (3, .int (nI (cpN σ 0))), (4, .int (nI (cpN σ 1))), (5, .int (nI (cpN σ 2))), (6, .ref (qo)), (1, .ref (o)), (0, .ref (b))] → W p l e room_1 s m #[Value.ref b] below meth c H locs (cells + 60) (slots + 4000) Q (F0 m 843 ls [])) : W p l e room_1 s m #[Value.ref b] below meth c H locs cells slots Q (F0 m 83 ls []) := by
  obtain ⟨hx, hb, hml, hown, hts, hX, hbl, hl0, hK, hZ, hN, ho1, ho2, ho3, hL⟩ := id C0
  have hA : ∀ q, cpG o z q → (fun q : Nat => s.heap.size ≤ q) q := fun q h => by
    show s.heap.size ≤ q
    rcases h with h | h
    · omega
    · omega
  have hqn : ¬ cpG o z qo := by
    unfold cpG
    omega
  have hmo := hI.mo.2
  have hn0 := hI.n0.2
  have hn1 := hI.n1.2
  have hn2 := hI.n2.2
  refine w_named (fun WW hWW => ?_)
  refine lv_aload_n hx hb dL_law_83 rfl (lv_at hl 8 rfl) ?_
  refine l_month (rest := []) ⟨hx, hb, hml, hown, hts⟩ (cwV 0 hts gL_law_X5_month rfl rfl rfl (by decide +kernel) ⟨Nat.le_of_ble_eq_true rfl, Nat.le_of_ble_eq_true rfl⟩) hK hZ hA hP hS hl.1 (Nat.le_of_ble_eq_true rfl) dL_law_84 ⟨by show (cells) + 0 ≤ 600074; omega, by show (slots) + 0 ≤ 7301550; omega⟩ (fun H locs hP hS hz9 hk9 => ?_)
  replace hq := hq.kept (hk9 _ hq.lt hqn)
  clear hz9 hk9
  refine l_top (show Value.int (σ.1 1 0) = Value.int (nI (mon σ)) from congrArg Value.int hI.mo.1) ?_
  refine lv_istore (lv' := [(12, .int (nI (mon σ))), (11, .int (nI (cel))), (9, .int (nI (Y))), (7, .int (nI (k))), (2, .int (nI (1))), (3, .int (nI (cpN σ 0))), (4, .int (nI (cpN σ 1))), (5, .int (nI (cpN σ 2))), (6, .ref (qo)), (1, .ref (o)), (0, .ref (b))]) hx hb dL_law_87 hl (by decide) rfl (fun ls hl => ?_)
  refine lv_iconst (v := nI (1)) hx hb dL_law_89 (by decide) ?_
  refine lv_iload hx hb dL_law_90 (lv_at hl 2 rfl) ?_
  refine lv_iconst (v := nI (4)) hx hb dL_law_92 (by decide) ?_
  refine n_rem (x := Y) (y := 4) hx hb (by omega) (by omega) (by omega) dL_law_93 ?_
  refine n_add (x := 1) (y := (Y) % (4)) hx hb dL_law_94 ?_
  refine lv_istore (lv' := [(13, .int (nI ((1) + ((Y) % (4))))), (12, .int (nI (mon σ))), (11, .int (nI (cel))), (9, .int (nI (Y))), (7, .int (nI (k))), (2, .int (nI (1))), (3, .int (nI (cpN σ 0))), (4, .int (nI (cpN σ 1))), (5, .int (nI (cpN σ 2))), (6, .ref (qo)), (1, .ref (o)), (0, .ref (b))]) hx hb dL_law_95 hl (by decide) rfl (fun ls hl => ?_)
  refine lv_aload_n hx hb dL_law_97 rfl (lv_at hl 10 rfl) ?_
  refine lv_iload hx hb dL_law_98 (lv_at hl 0 rfl) ?_
  refine lv_iload hx hb dL_law_100 (lv_at hl 3 rfl) ?_
  refine lv_bipush (v := nI (8)) hx hb dL_law_102 (by decide) ?_
  refine n_div (x := Y) (y := 8) hx hb (by omega) (by omega) (by omega) dL_law_104 ?_
  refine lv_bipush (v := nI (81)) hx hb dL_law_105 (by decide) ?_
  refine n_rem (x := (Y) / (8)) (y := 81) hx hb (by omega) (by omega) (by omega) dL_law_107 ?_
  refine lv_bipush (v := nI (50)) hx hb dL_law_108 (by decide) ?_
  refine lv_isub (x := nI (((Y) / (8)) % (81))) (y := nI (50)) hx hb dL_law_110 ?_
  refine lv_iload hx hb dL_law_111 (lv_at hl 3 rfl) ?_
  refine lv_sipush (v := nI (1024)) hx hb dL_law_113 (by decide) ?_
  refine n_div (x := Y) (y := 1024) hx hb (by omega) (by omega) (by omega) dL_law_116 ?_
  refine lv_bipush (v := nI (10)) hx hb dL_law_117 (by decide) ?_
  refine n_rem (x := (Y) / (1024)) (y := 10) hx hb (by omega) (by omega) (by omega) dL_law_119 ?_
  have a50 : (nI (Y / 8 % 81) - nI 50).toInt = ((Y / 8 % 81 : Nat) : Int) - 50 := pk_sub_toInt (by omega) (by decide)
  obtain ⟨⟨τ, v, hPt⟩, hzt⟩ := hP
  have hIt := v.iv hI
  have hmt := v.mon
  have hcn := v.cn
  obtain ⟨ex, hI1, hkv, hm1, hN1, h22⟩ := IV_pass hIt (n := 1 + Y % 4) (w := Y / 1024 % 10) (air := nI (Y / 8 % 81) - nI 50) ⟨by omega, by omega⟩ (by rw [hmt]; omega) (by rw [a50]; omega) (by rw [a50]; omega) (by omega)
  refine l_tell (As := [.ref (o), .int (nI ((1) + ((Y) % (4)))), .int ((nI (((Y) / (8)) % (81))) - (nI (50))), .int (nI (((Y) / (1024)) % (10)))]) (rest := []) ⟨hx, hb, hml, hown, hts⟩ (lc_pass l hl0 G ids tS tE o z τ (nI (1 + Y % 4)) (nI (Y / 8 % 81) - nI 50) (nI (Y / 1024 % 10)) hIt.ok.1 hIt.ok.2.1) (ex) (vx_cwSW 4 hts gL_law_L_pass rfl rfl rfl (by decide +kernel) ⟨Nat.le_of_ble_eq_true rfl, Nat.le_of_ble_eq_true rfl⟩) hK hZ hN hA hPt hzt hS rfl hl.1 rfl (Nat.le_of_ble_eq_true rfl) dL_law_120 ⟨by show (cells) + 4 ≤ 600074; omega, by show (slots) + 24 ≤ 7301550; omega⟩ (c1 := cells + 4) (s1 := slots + 24) (by omega) (by omega) (fun H locs hP hS hz9 hk9 => ?_)
  replace hq := hq.kept (hk9 _ hq.lt hqn)
  clear hz9 hk9
  clear hPt hzt hI
  have hI := hI1
  refine lv_iload hx hb dL_law_123 (lv_at hl 1 rfl) ?_
  refine lv_iload hx hb dL_law_125 (lv_at hl 0 rfl) ?_
  refine n_add (x := mon σ) (y := (1) + ((Y) % (4))) hx hb dL_law_127 ?_
  refine lv_i2l (v := (nI ((mon σ) + ((1) + ((Y) % (4))))).toInt64) hx hb dL_law_128 rfl ?_
  refine l_cne (x := (k_pass τ (nI (1 + Y % 4)) (nI (Y / 8 % 81) - nI 50) (nI (Y / 1024 % 10))).toInt64) (y := (nI ((mon σ) + ((1) + ((Y) % (4))))).toInt64) (tgt := 137) hx hb dL_law_129 dL_law_130 (by decide) (fun c9 => absurd ((by rw [hkv, hmt])) c9) (fun _ => ?_)
  refine lv_iconst (v := nI (1)) hx hb dL_law_133 (by decide) ?_
  refine lv_goto (tgt := 138) hx hb dL_law_134 (by decide) ?_
  refine lv_istore_n (lv' := [(2, .int (nI (1))), (13, .int (nI ((1) + ((Y) % (4))))), (12, .int (nI (mon σ))), (11, .int (nI (cel))), (9, .int (nI (Y))), (7, .int (nI (k))), (3, .int (nI (cpN σ 0))), (4, .int (nI (cpN σ 1))), (5, .int (nI (cpN σ 2))), (6, .ref (qo)), (1, .ref (o)), (0, .ref (b))]) hx hb dL_law_138 rfl hl (by decide) rfl (fun ls hl => ?_)
  refine lv_goto (tgt := 843) hx hb dL_law_139 (by decide) ?_
  have hl : lv_has ls 19 [(11, .int (nI (cel))), (9, .int (nI (Y))), (7, .int (nI (k))), (2, .int (nI (1))), (3, .int (nI (cpN (k_pass_s τ (nI (1 + Y % 4)) (nI (Y / 8 % 81) - nI 50) (nI (Y / 1024 % 10))) 0))), (4, .int (nI (cpN (k_pass_s τ (nI (1 + Y % 4)) (nI (Y / 8 % 81) - nI 50) (nI (Y / 1024 % 10))) 1))), (5, .int (nI (cpN (k_pass_s τ (nI (1 + Y % 4)) (nI (Y / 8 % 81) - nI 50) (nI (Y / 1024 % 10))) 2))), (6, .ref (qo)), (1, .ref (o)), (0, .ref (b))] := by
    rw [(hN1 0).trans (hcn 0), (hN1 1).trans (hcn 1), (hN1 2).trans (hcn 2)]
    exact lv_sub hl [3, 4, 5, 0, 6, 7, 8, 9, 10, 11] rfl
  exact W.widen (by omega) (by omega) (kk (k_pass_s τ (nI (1 + Y % 4)) (nI (Y / 8 % 81) - nI 50) (nI (Y / 1024 % 10))) _ _ _ ls hI (by rw [hm1, hmt]; omega) hP hq (fun x hx => by rw [hN1, hcn] at hx; rw [h22, v.1 22 (by decide) (by decide)]; exact hf x hx) hS hl)
set_option maxHeartbeats 4000000 in
set_option maxRecDepth 100000 in
theorem law_ground {p : Program} {l : Launch} {e : Env} {s : State} {m : MethodId} {below : List Frame} {meth : Method} {c : Code} {b L : Nat} {xs : Nat → Int32} {G : va_G} {ids : Nat → ClassId} {tS tE o qo z : Nat} (C0 : LX p l s m c b L xs G ids tS tE o qo z) {Q : State → Prop} {cells slots : Nat} (hcell : cells + 5000 ≤ 600074) (hslot : slots + 40000 ≤ 7301550) {σ : Sg} {f : Nat → Int32} {H : Heap} {locs : List Loc} {ls : Array Slot} (hI : IV σ) (hP : vP G ids o z tE σ H) (hq : sP G ids qo f H) (hf : ∀ x, x < cpN σ 1 → f x = σ.1 22 x) (hS : va_S (fun q => s.heap.size ≤ q) s.heap H locs) {k cel Y : Nat} (hc : cel < 25) (hY : Y < 2 ^ 31) {M9 : Nat} (hM9 : mon σ + 4 ≤ M9) (hl : lv_has ls 19 [(11, .int (nI (cel))), (9, .int (nI (Y))), (7, .int (nI (k))), (2, .int (nI (1))), (3, .int (nI (cpN σ 0))), (4, .int (nI (cpN σ 1))), (5, .int (nI (cpN σ 2))), (6, .ref (qo)), (1, .ref (o)), (0, .ref (b))])
    (kk : ∀ (σ : Sg) (f : Nat → Int32) (H : Heap) (locs : List Loc) (ls : Array Slot), IV σ → mon σ ≤ M9 → vP G ids o z tE σ H → sP G ids qo f H → (∀ x, x < cpN σ 1 → f x = σ.1 22 x) → va_S (fun q => s.heap.size ≤ q) s.heap H locs → lv_has ls 19 [(11, .int (nI (cel))), (9, .int (nI (Y))), (7, .int (nI (k))), (2, .int (nI (1))), (3, .int (nI (cpN σ 0))), (4, .int (nI (cpN σ 1))), (5, .int (nI (cpN σ 2))), (6, .ref (qo)), (1, .ref (o)), (0, .ref (b))] → W p l e room_1 s m #[Value.ref b] below meth c H locs (cells + 60) (slots + 4000) Q (F0 m 843 ls [])) : W p l e room_1 s m #[Value.ref b] below meth c H locs cells slots Q (F0 m 149 ls []) := by
  obtain ⟨hx, hb, hml, hown, hts, hX, hbl, hl0, hK, hZ, hN, ho1, ho2, ho3, hL⟩ := id C0
  have hA : ∀ q, cpG o z q → (fun q : Nat => s.heap.size ≤ q) q := fun q h => by
    show s.heap.size ≤ q
    rcases h with h | h
    · omega
    · omega
  have hqn : ¬ cpG o z qo := by
    unfold cpG
    omega
  have hmo := hI.mo.2
  have hn0 := hI.n0.2
  have hn1 := hI.n1.2
  have hn2 := hI.n2.2
  refine w_named (fun WW hWW => ?_)
  refine lv_iload hx hb dL_law_149 (lv_at hl 1 rfl) ?_
  refine lv_sipush (v := nI (128)) hx hb dL_law_151 (by decide) ?_
  refine n_div (x := Y) (y := 128) hx hb (by omega) (by omega) (by omega) dL_law_154 ?_
  refine lv_ldc (own := RL) (v := nI 35001) hx hb hown (hts _ (List.mem_of_getElem? (i := 4) rfl)) dL_law_155 ?_
  refine n_rem (x := (Y) / (128)) (y := 35001) hx hb (by omega) (by omega) (by omega) dL_law_157 ?_
  refine lv_sipush (v := nI (5000)) hx hb dL_law_158 (by decide) ?_
  refine lv_isub (x := nI (((Y) / (128)) % (35001))) (y := nI (5000)) hx hb dL_law_161 ?_
  refine lv_istore (lv' := [(12, .int ((nI (((Y) / (128)) % (35001))) - (nI (5000)))), (11, .int (nI (cel))), (9, .int (nI (Y))), (7, .int (nI (k))), (2, .int (nI (1))), (3, .int (nI (cpN σ 0))), (4, .int (nI (cpN σ 1))), (5, .int (nI (cpN σ 2))), (6, .ref (qo)), (1, .ref (o)), (0, .ref (b))]) hx hb dL_law_162 hl (by decide) rfl (fun ls hl => ?_)
  refine lv_iload hx hb dL_law_164 (lv_at hl 2 rfl) ?_
  refine lv_iconst (v := nI (5)) hx hb dL_law_166 (by decide) ?_
  refine n_rem (x := Y) (y := 5) hx hb (by omega) (by omega) (by omega) dL_law_167 ?_
  refine lv_istore (lv' := [(13, .int (nI ((Y) % (5)))), (12, .int ((nI (((Y) / (128)) % (35001))) - (nI (5000)))), (11, .int (nI (cel))), (9, .int (nI (Y))), (7, .int (nI (k))), (2, .int (nI (1))), (3, .int (nI (cpN σ 0))), (4, .int (nI (cpN σ 1))), (5, .int (nI (cpN σ 2))), (6, .ref (qo)), (1, .ref (o)), (0, .ref (b))]) hx hb dL_law_168 hl (by decide) rfl (fun ls hl => ?_)
  refine lv_aload_n hx hb dL_law_170 rfl (lv_at hl 10 rfl) ?_
  refine lv_iload hx hb dL_law_171 (lv_at hl 2 rfl) ?_
  refine lv_iconst (v := nI (0)) hx hb dL_law_173 (by decide) ?_
  refine l_read (As := [.ref (o), .int (nI (cel)), .int (nI (0))]) (rest := []) ⟨hx, hb, hml, hown, hts⟩ (rdc0 hl0 hc) (vx_cwSW 3 hts gL_law_L_cellOf rfl rfl rfl (by decide +kernel) ⟨Nat.le_of_ble_eq_true rfl, Nat.le_of_ble_eq_true rfl⟩) hK hZ hN hA hP hS rfl hl.1 rfl (Nat.le_of_ble_eq_true rfl) dL_law_174 ⟨by show (cells) + 2 ≤ 600074; omega, by show (slots) + 12 ≤ 7301550; omega⟩ (c1 := cells + 2) (s1 := slots + 12) (by omega) (by omega) (fun H locs hP hS hz9 hk9 => ?_)
  replace hq := hq.kept (hk9 _ hq.lt hqn)
  clear hz9 hk9
  refine lv_lstore (lv' := [(14, .long ((σ.1 2 (cel)).toInt64)), (13, .int (nI ((Y) % (5)))), (12, .int ((nI (((Y) / (128)) % (35001))) - (nI (5000)))), (11, .int (nI (cel))), (9, .int (nI (Y))), (7, .int (nI (k))), (2, .int (nI (1))), (3, .int (nI (cpN σ 0))), (4, .int (nI (cpN σ 1))), (5, .int (nI (cpN σ 2))), (6, .ref (qo)), (1, .ref (o)), (0, .ref (b))]) hx hb dL_law_177 hl (by decide) rfl (fun ls hl => ?_)
  refine lv_aload_n hx hb dL_law_179 rfl (lv_at hl 11 rfl) ?_
  refine lv_iload hx hb dL_law_180 (lv_at hl 3 rfl) ?_
  refine lv_iload hx hb dL_law_182 (lv_at hl 1 rfl) ?_
  refine lv_iload hx hb dL_law_184 (lv_at hl 4 rfl) ?_
  refine lv_bipush (v := nI (8)) hx hb dL_law_186 (by decide) ?_
  refine n_div (x := Y) (y := 8) hx hb (by omega) (by omega) (by omega) dL_law_188 ?_
  refine lv_bipush (v := nI (10)) hx hb dL_law_189 (by decide) ?_
  refine n_rem (x := (Y) / (8)) (y := 10) hx hb (by omega) (by omega) (by omega) dL_law_191 ?_
  refine lv_iload hx hb dL_law_192 (lv_at hl 4 rfl) ?_
  refine lv_bipush (v := nI (16)) hx hb dL_law_194 (by decide) ?_
  refine n_div (x := Y) (y := 16) hx hb (by omega) (by omega) (by omega) dL_law_196 ?_
  refine lv_bipush (v := nI (10)) hx hb dL_law_197 (by decide) ?_
  refine n_rem (x := (Y) / (16)) (y := 10) hx hb (by omega) (by omega) (by omega) dL_law_199 ?_
  refine lv_iload hx hb dL_law_200 (lv_at hl 2 rfl) ?_
  refine lv_iload hx hb dL_law_202 (lv_at hl 4 rfl) ?_
  refine lv_bipush (v := nI (64)) hx hb dL_law_204 (by decide) ?_
  refine n_div (x := Y) (y := 64) hx hb (by omega) (by omega) (by omega) dL_law_206 ?_
  refine lv_sipush (v := nI (1001)) hx hb dL_law_207 (by decide) ?_
  refine n_rem (x := (Y) / (64)) (y := 1001) hx hb (by omega) (by omega) (by omega) dL_law_210 ?_
  have g50 : (nI (Y / 128 % 35001) - nI 5000).toInt = ((Y / 128 % 35001 : Nat) : Int) - 5000 := pk_sub_toInt (by omega) (by decide)
  obtain ⟨⟨τ, v, hPt⟩, hzt⟩ := hP
  have hIt := v.iv hI
  have hmt := v.mon
  have hcn := v.cn
  obtain ⟨ex, hI1, hsm, h10, h2⟩ := IV_ground hIt (c := cel) (l := Y % 5) (p := Y / 8 % 10) (x := Y / 16 % 10) (k := Y / 64 % 1001) (g := nI (Y / 128 % 35001) - nI 5000) hc (by omega) (by omega) (by omega) (by omega) (by rw [g50]; omega) (by rw [g50]; omega)
  refine l_tell (As := [.ref (o), .int (nI (cel)), .int (nI ((Y) % (5))), .int (nI (((Y) / (8)) % (10))), .int (nI (((Y) / (16)) % (10))), .int ((nI (((Y) / (128)) % (35001))) - (nI (5000))), .int (nI (((Y) / (64)) % (1001)))]) (rest := []) ⟨hx, hb, hml, hown, hts⟩ (lc_ground l hl0 G ids tS tE o z τ (nI cel) (nI (Y % 5)) (nI (Y / 8 % 10)) (nI (Y / 16 % 10)) (nI (Y / 128 % 35001) - nI 5000) (nI (Y / 64 % 1001))) (ex) (vx_cwSW 7 hts gL_law_L_ground rfl rfl rfl (by decide +kernel) ⟨Nat.le_of_ble_eq_true rfl, Nat.le_of_ble_eq_true rfl⟩) hK hZ hN hA hPt hzt hS rfl hl.1 rfl (Nat.le_of_ble_eq_true rfl) dL_law_211 ⟨by show (cells + 2) + 6 ≤ 600074; omega, by show (slots + 12) + 36 ≤ 7301550; omega⟩ (c1 := cells + 8) (s1 := slots + 48) (by omega) (by omega) (fun H locs hP hS hz9 hk9 => ?_)
  replace hq := hq.kept (hk9 _ hq.lt hqn)
  clear hz9 hk9
  clear hPt hzt hI
  have hI := hI1
  refine lv_lconst (v := 0) hx hb dL_law_214 (by decide) ?_
  refine l_cne (x := (0 : Int64)) (y := (0 : Int64)) (tgt := 252) hx hb dL_law_215 dL_law_216 (by decide) (fun c9 => absurd (rfl) c9) (fun _ => ?_)
  refine lv_aload_n hx hb dL_law_219 rfl (lv_at hl 11 rfl) ?_
  refine lv_iload hx hb dL_law_220 (lv_at hl 3 rfl) ?_
  refine lv_iload hx hb dL_law_222 (lv_at hl 1 rfl) ?_
  refine lv_iconst (v := nI (1)) hx hb dL_law_224 (by decide) ?_
  refine l_read (As := [.ref (o), .int (nI (cel)), .int (nI ((Y) % (5))), .int (nI (1))]) (rest := []) ⟨hx, hb, hml, hown, hts⟩ (rdl1 hl0 hc (by omega)) (vx_cwSW 4 hts gL_law_L_layerOf rfl rfl rfl (by decide +kernel) ⟨Nat.le_of_ble_eq_true rfl, Nat.le_of_ble_eq_true rfl⟩) hK hZ hN hA hP hS rfl hl.1 rfl (Nat.le_of_ble_eq_true rfl) dL_law_225 ⟨by show (cells + 8) + 3 ≤ 600074; omega, by show (slots + 48) + 18 ≤ 7301550; omega⟩ (c1 := cells + 11) (s1 := slots + 66) (by omega) (by omega) (fun H locs hP hS hz9 hk9 => ?_)
  replace hq := hq.kept (hk9 _ hq.lt hqn)
  clear hz9 hk9
  refine lv_iload hx hb dL_law_228 (lv_at hl 2 rfl) ?_
  refine lv_i2l (v := ((nI (((Y) / (128)) % (35001))) - (nI (5000))).toInt64) hx hb dL_law_230 rfl ?_
  refine l_cne (x := ((k_ground_s τ (nI cel) (nI (Y % 5)) (nI (Y / 8 % 10)) (nI (Y / 16 % 10)) (nI (Y / 128 % 35001) - nI 5000) (nI (Y / 64 % 1001))).1 10 (5 * (cel) + ((Y) % (5)))).toInt64) (y := ((nI (((Y) / (128)) % (35001))) - (nI (5000))).toInt64) (tgt := 252) hx hb dL_law_231 dL_law_232 (by decide) (fun c9 => absurd (congrArg Int32.toInt64 h10) c9) (fun _ => ?_)
  refine lv_aload_n hx hb dL_law_235 rfl (lv_at hl 11 rfl) ?_
  refine lv_iload hx hb dL_law_236 (lv_at hl 3 rfl) ?_
  refine lv_iconst (v := nI (0)) hx hb dL_law_238 (by decide) ?_
  refine l_read (As := [.ref (o), .int (nI (cel)), .int (nI (0))]) (rest := []) ⟨hx, hb, hml, hown, hts⟩ (rdc0 hl0 hc) (vx_cwSW 3 hts gL_law_L_cellOf rfl rfl rfl (by decide +kernel) ⟨Nat.le_of_ble_eq_true rfl, Nat.le_of_ble_eq_true rfl⟩) hK hZ hN hA hP hS rfl hl.1 rfl (Nat.le_of_ble_eq_true rfl) dL_law_239 ⟨by show (cells + 11) + 2 ≤ 600074; omega, by show (slots + 66) + 12 ≤ 7301550; omega⟩ (c1 := cells + 13) (s1 := slots + 78) (by omega) (by omega) (fun H locs hP hS hz9 hk9 => ?_)
  replace hq := hq.kept (hk9 _ hq.lt hqn)
  clear hz9 hk9
  refine lv_lload hx hb dL_law_242 (lv_at hl 0 rfl) ?_
  refine l_cne (x := ((k_ground_s τ (nI cel) (nI (Y % 5)) (nI (Y / 8 % 10)) (nI (Y / 16 % 10)) (nI (Y / 128 % 35001) - nI 5000) (nI (Y / 64 % 1001))).1 2 (cel)).toInt64) (y := (σ.1 2 (cel)).toInt64) (tgt := 252) hx hb dL_law_244 dL_law_245 (by decide) (fun c9 => absurd ((by rw [h2, v.1 2 (by decide) (by decide)])) c9) (fun _ => ?_)
  refine lv_iconst (v := nI (1)) hx hb dL_law_248 (by decide) ?_
  refine lv_goto (tgt := 253) hx hb dL_law_249 (by decide) ?_
  refine lv_istore_n (lv' := [(2, .int (nI (1))), (14, .long ((σ.1 2 (cel)).toInt64)), (13, .int (nI ((Y) % (5)))), (12, .int ((nI (((Y) / (128)) % (35001))) - (nI (5000)))), (11, .int (nI (cel))), (9, .int (nI (Y))), (7, .int (nI (k))), (3, .int (nI (cpN σ 0))), (4, .int (nI (cpN σ 1))), (5, .int (nI (cpN σ 2))), (6, .ref (qo)), (1, .ref (o)), (0, .ref (b))]) hx hb dL_law_253 rfl hl (by decide) rfl (fun ls hl => ?_)
  refine lv_goto (tgt := 843) hx hb dL_law_254 (by decide) ?_
  have hl : lv_has ls 19 [(11, .int (nI (cel))), (9, .int (nI (Y))), (7, .int (nI (k))), (2, .int (nI (1))), (3, .int (nI (cpN (k_ground_s τ (nI cel) (nI (Y % 5)) (nI (Y / 8 % 10)) (nI (Y / 16 % 10)) (nI (Y / 128 % 35001) - nI 5000) (nI (Y / 64 % 1001))) 0))), (4, .int (nI (cpN (k_ground_s τ (nI cel) (nI (Y % 5)) (nI (Y / 8 % 10)) (nI (Y / 16 % 10)) (nI (Y / 128 % 35001) - nI 5000) (nI (Y / 64 % 1001))) 1))), (5, .int (nI (cpN (k_ground_s τ (nI cel) (nI (Y % 5)) (nI (Y / 8 % 10)) (nI (Y / 16 % 10)) (nI (Y / 128 % 35001) - nI 5000) (nI (Y / 64 % 1001))) 2))), (6, .ref (qo)), (1, .ref (o)), (0, .ref (b))] := by
    rw [(hsm.2.1 0).trans (hcn 0), (hsm.2.1 1).trans (hcn 1), (hsm.2.1 2).trans (hcn 2)]
    exact lv_sub hl [4, 5, 6, 0, 7, 8, 9, 10, 11, 12] rfl
  exact W.widen (by omega) (by omega) (kk (k_ground_s τ (nI cel) (nI (Y % 5)) (nI (Y / 8 % 10)) (nI (Y / 16 % 10)) (nI (Y / 128 % 35001) - nI 5000) (nI (Y / 64 % 1001))) _ _ _ ls hI (by rw [hsm.1, hmt]; omega) hP hq (fun x hx => by rw [hsm.2.1, hcn] at hx; rw [hsm.2.2, v.1 22 (by decide) (by decide)]; exact hf x hx) hS hl)
