set_option maxHeartbeats 4000000 in
set_option maxRecDepth 100000 in
/-- houses and claims: at most a hundred for each tilt, and for each month since -/
theorem hc_claimsHold (l : Launch) (hl0 : l.stackTraces = false) (G : va_G) (ids : Nat → ClassId) (tS tE o z : Nat) {σ : Sg} (h : IV σ) : HC l yL_claimsHold wsL_claimsHold ({ frames := 9, cells := 400, slots := 2400, locals := 181 } : Room) G ids tS tE o z [.ref (o), .int (nI (cpN σ 0)), .int (nI (cpN σ 2))] σ 400 2400 := by
  unfold HC
  refine Met.ofW (cc := cL_claimsHold) (maxL := 7) (ret := (some .boolean)) (by decide) rfl ?_
  intro p e s m args below meth c s₁ B hml hv
  obtain ⟨rfl, hP, hK, hZ, hN⟩ := hv
  have hx := B.exec
  have hb := B.bytes
  have hr := B.returns
  have hts := atoms_spec (ws := wsL_claimsHold) B.pre
  have hown : s.vm.findClass RL = some m.cls := findClass_of_methodNamed B.named
  have hlocks := B.notSynchronized
  have hA : ∀ q, cpG o z q → cpG o z q := fun _ h => h
  have hS : va_S (cpG o z) s.heap s.heap [] := va_S.rf
  have hl := lv_entry ([.ref (o), .int (nI (cpN σ 0)), .int (nI (cpN σ 2))]) (n := 7) (Nat.le_of_ble_eq_true rfl)
  rw [lg_entry_eq]
  generalize (lg_sl ([.ref (o), .int (nI (cpN σ 0)), .int (nI (cpN σ 2))]) ++ List.replicate (7 - (lg_sl ([.ref (o), .int (nI (cpN σ 0)), .int (nI (cpN σ 2))])).length) Slot.unset).toArray = ls at hl ⊢
  have hl : lv_has ls 7 [(0, .ref (o)), (1, .int (nI (cpN σ 0))), (2, .int (nI (cpN σ 2)))] := hl
  refine w_named (fun WW hWW => ?_)
  obtain ⟨H, hH⟩ : ∃ H : Heap, H = s.heap := ⟨_, rfl⟩
  obtain ⟨locs, hL9⟩ : ∃ L : List Loc, L = [] := ⟨_, rfl⟩
  rw [← hH] at hP
  have hS : va_S (cpG o z) s.heap H locs := by rw [hH, hL9]; exact hS
  refine w_at (H := H) (locs := locs) hH hL9 ?_
  have hn0 := h.n0.2
  have hn2 := h.n2.2
  have hmo := h.mo.2
  refine lv_aload_n hx hb dL_claimsHold_0 rfl (lv_at hl 0 rfl) ?_
  refine lv_iload_n hx hb dL_claimsHold_1 rfl (lv_at hl 1 rfl) ?_
  refine lv_iconst (v := nI (0)) hx hb dL_claimsHold_2 (by decide) ?_
  refine l_read (As := [.ref (o), .int (nI (cpN σ 0)), .int (nI (0))]) (rest := []) ⟨hx, hb, hml, hown, hts⟩ (rdh_no hl0 h (w := 0) (Nat.le_refl _) (by omega)) (vx_cwSW 3 hts gL_claimsHold_L_houseOf rfl rfl rfl (by decide +kernel) ⟨Nat.le_of_ble_eq_true rfl, Nat.le_of_ble_eq_true rfl⟩) hK hZ hN hA hP hS rfl hl.1 rfl (Nat.le_of_ble_eq_true rfl) dL_claimsHold_3 ⟨by show (0) + 2 ≤ 400; omega, by show (0) + 12 ≤ 2400; omega⟩ (c1 := 0 + 2) (s1 := 0 + 12) (by omega) (by omega) (fun H locs hP hS hz9 hk9 => ?_)
  clear hz9 hk9
  refine lv_ldc2 (own := RL) (v := -9000000000000000001) hx hb hown (hts _ (List.mem_of_getElem? (i := 1) rfl)) dL_claimsHold_6 ?_
  refine l_cne (x := lK 1) (y := (-9000000000000000001 : Int64)) (tgt := 29) hx hb dL_claimsHold_9 dL_claimsHold_10 (by decide) (fun c9 => absurd (rfl) c9) (fun _ => ?_)
  refine lv_aload_n hx hb dL_claimsHold_13 rfl (lv_at hl 0 rfl) ?_
  refine lv_iload_n hx hb dL_claimsHold_14 rfl (lv_at hl 2 rfl) ?_
  refine l_read (As := [.ref (o), .int (nI (cpN σ 2))]) (rest := []) ⟨hx, hb, hml, hown, hts⟩ (rdk_no hl0 h (Nat.le_refl _) (by omega)) (vx_cwSW 2 hts gL_claimsHold_L_claimOf rfl rfl rfl (by decide +kernel) ⟨Nat.le_of_ble_eq_true rfl, Nat.le_of_ble_eq_true rfl⟩) hK hZ hN hA hP hS rfl hl.1 rfl (Nat.le_of_ble_eq_true rfl) dL_claimsHold_15 ⟨by show (0 + 2) + 1 ≤ 400; omega, by show (0 + 12) + 6 ≤ 2400; omega⟩ (c1 := 0 + 3) (s1 := 0 + 18) (by omega) (by omega) (fun H locs hP hS hz9 hk9 => ?_)
  clear hz9 hk9
  refine lv_ldc2 (own := RL) (v := -9000000000000000001) hx hb hown (hts _ (List.mem_of_getElem? (i := 1) rfl)) dL_claimsHold_18 ?_
  refine l_cne (x := lK 1) (y := (-9000000000000000001 : Int64)) (tgt := 29) hx hb dL_claimsHold_21 dL_claimsHold_22 (by decide) (fun c9 => absurd (rfl) c9) (fun _ => ?_)
  refine lv_iconst (v := nI (1)) hx hb dL_claimsHold_25 (by decide) ?_
  refine lv_goto (tgt := 30) hx hb dL_claimsHold_26 (by decide) ?_
  refine lv_istore_n (lv' := [(3, .int (nI (1))), (0, .ref (o)), (1, .int (nI (cpN σ 0))), (2, .int (nI (cpN σ 2)))]) hx hb dL_claimsHold_30 rfl hl (by decide) rfl (fun ls hl => ?_)
  refine lv_iconst (v := nI (0)) hx hb dL_claimsHold_31 (by decide) ?_
  refine lv_istore (lv' := [(4, .int (nI (0))), (3, .int (nI (1))), (0, .ref (o)), (1, .int (nI (cpN σ 0))), (2, .int (nI (cpN σ 2)))]) hx hb dL_claimsHold_32 hl (by decide) rfl (fun ls hl => ?_)
  have L34 : ∀ (n34 k : Nat), k ≤ cpN σ 0 → cpN σ 0 + 1 ≤ k + n34 → ∀ (H : Heap) (locs : List Loc) (ls : Array Slot), vP G ids o z tE σ H → va_S (cpG o z) s.heap H locs → lv_has ls 7 [(4, .int (nI (k))), (3, .int (nI (1))), (0, .ref (o)), (1, .int (nI (cpN σ 0))), (2, .int (nI (cpN σ 2)))] → WW H locs (0 + 3 + 12 * k) (0 + 18 + 72 * k) (F0 m 34 ls []) := by
    intro n34
    induction n34 with
    | zero => intro k h1 h2; exact absurd h2 (by omega)
    | succ n34 ih34 =>
      intro k hi34 hn34 H locs ls hP hS hl
      refine (hWW _ _ _ _ _).mpr ?_
      refine lv_iload hx hb dL_claimsHold_34 (lv_at hl 0 rfl) ?_
      refine lv_iload_n hx hb dL_claimsHold_36 rfl (lv_at hl 3 rfl) ?_
      refine n_icmp_ge (x := k) (y := cpN σ 0) (tgt := 144) hx hb (by omega) (by omega) dL_claimsHold_37 (by decide) (fun c37 => ?_) (fun c37 => ?_)
      · have hq : k = cpN σ 0 := by omega
        subst hq
        refine lv_iconst (v := nI (0)) hx hb dL_claimsHold_144 (by decide) ?_
        refine lv_istore (lv' := [(4, .int (nI (0))), (3, .int (nI (1))), (0, .ref (o)), (1, .int (nI (cpN σ 0))), (2, .int (nI (cpN σ 2)))]) hx hb dL_claimsHold_145 hl (by decide) rfl (fun ls hl => ?_)
        have L147 : ∀ (n147 k : Nat), k ≤ cpN σ 2 → cpN σ 2 + 1 ≤ k + n147 → ∀ (H : Heap) (locs : List Loc) (ls : Array Slot), vP G ids o z tE σ H → va_S (cpG o z) s.heap H locs → lv_has ls 7 [(4, .int (nI (k))), (3, .int (nI (1))), (0, .ref (o)), (1, .int (nI (cpN σ 0))), (2, .int (nI (cpN σ 2)))] → WW H locs (0 + 3 + 12 * cpN σ 0 + 3 * k) (0 + 18 + 72 * cpN σ 0 + 18 * k) (F0 m 147 ls []) := by
          intro n147
          induction n147 with
          | zero => intro k h1 h2; exact absurd h2 (by omega)
          | succ n147 ih147 =>
            intro k hi147 hn147 H locs ls hP hS hl
            refine (hWW _ _ _ _ _).mpr ?_
            refine lv_iload hx hb dL_claimsHold_147 (lv_at hl 0 rfl) ?_
            refine lv_iload_n hx hb dL_claimsHold_149 rfl (lv_at hl 4 rfl) ?_
            refine n_icmp_ge (x := k) (y := cpN σ 2) (tgt := 196) hx hb (by omega) (by omega) dL_claimsHold_150 (by decide) (fun c150 => ?_) (fun c150 => ?_)
            · have hq : k = cpN σ 2 := by omega
              subst hq
              refine lv_iload_n hx hb dL_claimsHold_196 rfl (lv_at hl 1 rfl) ?_
              exact w_zret (Pic1 := fun H : Heap => vP G ids o z tE σ H) hx hb hr hlocks (by omega) (by omega) hP hS dL_claimsHold_197
            · refine lv_iload_n hx hb dL_claimsHold_153 rfl (lv_at hl 1 rfl) ?_
              refine n_if_eq (x := 1) (tgt := 196) hx hb (by decide) dL_claimsHold_154 (by decide) (fun c9 => absurd c9 (by decide)) (fun _ => ?_)
              refine lv_aload_n hx hb dL_claimsHold_157 rfl (lv_at hl 2 rfl) ?_
              refine lv_iload hx hb dL_claimsHold_158 (lv_at hl 0 rfl) ?_
              refine l_read (As := [.ref (o), .int (nI (k))]) (rest := []) ⟨hx, hb, hml, hown, hts⟩ (rdk hl0 h (by omega)) (vx_cwSW 2 hts gL_claimsHold_L_claimOf rfl rfl rfl (by decide +kernel) ⟨Nat.le_of_ble_eq_true rfl, Nat.le_of_ble_eq_true rfl⟩) hK hZ hN hA hP hS rfl hl.1 rfl (Nat.le_of_ble_eq_true rfl) dL_claimsHold_160 ⟨by show (0 + 3 + 12 * cpN σ 0 + 3 * k) + 1 ≤ 400; omega, by show (0 + 18 + 72 * cpN σ 0 + 18 * k) + 6 ≤ 2400; omega⟩ (c1 := 0 + 3 + 12 * cpN σ 0 + 3 * k + 1) (s1 := 0 + 18 + 72 * cpN σ 0 + 18 * k + 6) (by omega) (by omega) (fun H locs hP hS hz9 hk9 => ?_)
              clear hz9 hk9
              refine lv_aload_n hx hb dL_claimsHold_163 rfl (lv_at hl 2 rfl) ?_
              refine lv_iload hx hb dL_claimsHold_164 (lv_at hl 0 rfl) ?_
              refine l_read (As := [.ref (o), .int (nI (k))]) (rest := [.long ((σ.1 25 (k)).toInt64)]) ⟨hx, hb, hml, hown, hts⟩ (rda hl0 h (by omega)) (vx_cwSW 2 hts gL_claimsHold_L_claimAnew rfl rfl rfl (by decide +kernel) ⟨Nat.le_of_ble_eq_true rfl, Nat.le_of_ble_eq_true rfl⟩) hK hZ hN hA hP hS rfl hl.1 rfl (Nat.le_of_ble_eq_true rfl) dL_claimsHold_166 ⟨by show (0 + 3 + 12 * cpN σ 0 + 3 * k + 1) + 1 ≤ 400; omega, by show (0 + 18 + 72 * cpN σ 0 + 18 * k + 6) + 6 ≤ 2400; omega⟩ (c1 := 0 + 3 + 12 * cpN σ 0 + 3 * k + 2) (s1 := 0 + 18 + 72 * cpN σ 0 + 18 * k + 12) (by omega) (by omega) (fun H locs hP hS hz9 hk9 => ?_)
              clear hz9 hk9
              refine l_cne (x := (σ.1 25 (k)).toInt64) (y := (σ.1 25 (k)).toInt64) (tgt := 188) hx hb dL_claimsHold_169 dL_claimsHold_170 (by decide) (fun c9 => absurd (rfl) c9) (fun _ => ?_)
              refine lv_aload_n hx hb dL_claimsHold_173 rfl (lv_at hl 2 rfl) ?_
              refine lv_iload hx hb dL_claimsHold_174 (lv_at hl 0 rfl) ?_
              refine l_read (As := [.ref (o), .int (nI (k))]) (rest := []) ⟨hx, hb, hml, hown, hts⟩ (rdk hl0 h (by omega)) (vx_cwSW 2 hts gL_claimsHold_L_claimOf rfl rfl rfl (by decide +kernel) ⟨Nat.le_of_ble_eq_true rfl, Nat.le_of_ble_eq_true rfl⟩) hK hZ hN hA hP hS rfl hl.1 rfl (Nat.le_of_ble_eq_true rfl) dL_claimsHold_176 ⟨by show (0 + 3 + 12 * cpN σ 0 + 3 * k + 2) + 1 ≤ 400; omega, by show (0 + 18 + 72 * cpN σ 0 + 18 * k + 12) + 6 ≤ 2400; omega⟩ (c1 := 0 + 3 + 12 * cpN σ 0 + 3 * k + 3) (s1 := 0 + 18 + 72 * cpN σ 0 + 18 * k + 18) (by omega) (by omega) (fun H locs hP hS hz9 hk9 => ?_)
              clear hz9 hk9
              refine lv_lconst (v := 0) hx hb dL_claimsHold_179 (by decide) ?_
              refine l_clt (x := (σ.1 25 (k)).toInt64) (y := (0 : Int64)) (X := (σ.1 25 (k)).toInt) (Y := 0) (tgt := 188) hx hb (t64 _) (by decide) dL_claimsHold_180 dL_claimsHold_181 (by decide) (fun c9 => absurd c9 ((by have q := h.2.2.2 k (by omega); omega))) (fun _ => ?_)
              refine lv_iconst (v := nI (1)) hx hb dL_claimsHold_184 (by decide) ?_
              refine lv_goto (tgt := 189) hx hb dL_claimsHold_185 (by decide) ?_
              refine lv_istore_n (lv' := [(3, .int (nI (1))), (4, .int (nI (k))), (0, .ref (o)), (1, .int (nI (cpN σ 0))), (2, .int (nI (cpN σ 2)))]) hx hb dL_claimsHold_189 rfl hl (by decide) rfl (fun ls hl => ?_)
              refine n_iinc (x := k) (dN := 1) (k := 1) (lv' := [(4, .int (nI (k + 1))), (3, .int (nI (1))), (0, .ref (o)), (1, .int (nI (cpN σ 0))), (2, .int (nI (cpN σ 2)))]) hx hb dL_claimsHold_190 hl rfl (by decide) rfl (fun ls hl => ?_)
              refine lv_goto (tgt := 147) hx hb dL_claimsHold_193 (by decide) ?_
              have hl : lv_has ls 7 [(4, .int (nI (k + 1))), (3, .int (nI (1))), (0, .ref (o)), (1, .int (nI (cpN σ 0))), (2, .int (nI (cpN σ 2)))] := lv_sub hl [0, 1, 2, 3, 4] rfl
              exact W.widen (by omega) (by omega) ((hWW _ _ _ _ _).mp (ih147 (k + 1) (by omega) (by omega) H locs ls hP hS hl))
        have hl : lv_has ls 7 [(4, .int (nI (0))), (3, .int (nI (1))), (0, .ref (o)), (1, .int (nI (cpN σ 0))), (2, .int (nI (cpN σ 2)))] := lv_sub hl [0, 1, 2, 3, 4] rfl
        exact W.widen (by omega) (by omega) ((hWW _ _ _ _ _).mp (L147 (cpN σ 2 + 1) 0 (Nat.zero_le _) (by omega) H locs ls hP hS hl))
      · refine lv_iload_n hx hb dL_claimsHold_40 rfl (lv_at hl 1 rfl) ?_
        refine n_if_eq (x := 1) (tgt := 144) hx hb (by decide) dL_claimsHold_41 (by decide) (fun c9 => absurd c9 (by decide)) (fun _ => ?_)
        refine lv_aload_n hx hb dL_claimsHold_44 rfl (lv_at hl 2 rfl) ?_
        refine lv_iload hx hb dL_claimsHold_45 (lv_at hl 0 rfl) ?_
        refine lv_iconst (v := nI (4)) hx hb dL_claimsHold_47 (by decide) ?_
        refine l_read (As := [.ref (o), .int (nI (k)), .int (nI (4))]) (rest := []) ⟨hx, hb, hml, hown, hts⟩ (rdh4 hl0 h (by omega)) (vx_cwSW 3 hts gL_claimsHold_L_houseOf rfl rfl rfl (by decide +kernel) ⟨Nat.le_of_ble_eq_true rfl, Nat.le_of_ble_eq_true rfl⟩) hK hZ hN hA hP hS rfl hl.1 rfl (Nat.le_of_ble_eq_true rfl) dL_claimsHold_48 ⟨by show (0 + 3 + 12 * k) + 2 ≤ 400; omega, by show (0 + 18 + 72 * k) + 12 ≤ 2400; omega⟩ (c1 := 0 + 3 + 12 * k + 2) (s1 := 0 + 18 + 72 * k + 12) (by omega) (by omega) (fun H locs hP hS hz9 hk9 => ?_)
        clear hz9 hk9
        refine lv_lstore (lv' := [(5, .long ((wo σ (k)).toInt64)), (4, .int (nI (k))), (3, .int (nI (1))), (0, .ref (o)), (1, .int (nI (cpN σ 0))), (2, .int (nI (cpN σ 2)))]) hx hb dL_claimsHold_51 hl (by decide) rfl (fun ls hl => ?_)
        obtain ⟨qw, w1, w2, w3, w4⟩ := wo_b h (k := k) (by omega)
        obtain ⟨hcl, hcl25, hcl1, hcl2⟩ := house_in h (k := k) (by omega)
        have hht := house_t h (k := k) (by omega)
        refine lv_lload hx hb dL_claimsHold_53 (lv_at hl 0 rfl) ?_
        refine lv_lconst (v := 0) hx hb dL_claimsHold_55 (by decide) ?_
        refine l_clt (x := (wo σ (k)).toInt64) (y := (0 : Int64)) (X := (wo σ (k)).toInt) (Y := 0) (tgt := 136) hx hb (t64 _) (by decide) dL_claimsHold_56 dL_claimsHold_57 (by decide) (fun c9 => absurd c9 ((by omega))) (fun _ => ?_)
        refine lv_lload hx hb dL_claimsHold_60 (lv_at hl 0 rfl) ?_
        refine lv_ldc2 (own := RL) (v := 100) hx hb hown (hts _ (List.mem_of_getElem? (i := 2) rfl)) dL_claimsHold_62 ?_
        refine lv_lrem hx hb dL_claimsHold_65 (by decide) ?_
        refine lv_lconst (v := 0) hx hb dL_claimsHold_66 (by decide) ?_
        refine l_cne (x := ((wo σ (k)).toInt64) - ((wo σ (k)).toInt64) / ((100 : Int64)) * ((100 : Int64))) (y := (0 : Int64)) (tgt := 136) hx hb dL_claimsHold_67 dL_claimsHold_68 (by decide) (fun c9 => absurd (lrem_0 (q := qw) ((t64 _).trans w1) w2 (by omega)) c9) (fun _ => ?_)
        refine lv_lload hx hb dL_claimsHold_71 (lv_at hl 0 rfl) ?_
        refine lv_ldc2 (own := RL) (v := 100) hx hb hown (hts _ (List.mem_of_getElem? (i := 2) rfl)) dL_claimsHold_73 ?_
        refine lv_aload_n hx hb dL_claimsHold_76 rfl (lv_at hl 3 rfl) ?_
        refine lv_iload hx hb dL_claimsHold_77 (lv_at hl 1 rfl) ?_
        refine lv_iconst (v := nI (2)) hx hb dL_claimsHold_79 (by decide) ?_
        refine l_read (As := [.ref (o), .int (nI (k)), .int (nI (2))]) (rest := [.long ((100 : Int64)), .long ((wo σ (k)).toInt64)]) ⟨hx, hb, hml, hown, hts⟩ (rdh2 hl0 h (by omega)) (vx_cwSW 3 hts gL_claimsHold_L_houseOf rfl rfl rfl (by decide +kernel) ⟨Nat.le_of_ble_eq_true rfl, Nat.le_of_ble_eq_true rfl⟩) hK hZ hN hA hP hS rfl hl.1 rfl (Nat.le_of_ble_eq_true rfl) dL_claimsHold_80 ⟨by show (0 + 3 + 12 * k + 2) + 2 ≤ 400; omega, by show (0 + 18 + 72 * k + 12) + 12 ≤ 2400; omega⟩ (c1 := 0 + 3 + 12 * k + 4) (s1 := 0 + 18 + 72 * k + 24) (by omega) (by omega) (fun H locs hP hS hz9 hk9 => ?_)
        clear hz9 hk9
        refine lv_lmul hx hb dL_claimsHold_83 ?_
        refine l_cgt (x := (wo σ (k)).toInt64) (y := ((100 : Int64)) * ((σ.1 17 (k)).toInt64)) (X := (wo σ (k)).toInt) (Y := 100 * (σ.1 17 (k)).toInt) (tgt := 136) hx hb (t64 _) (mul100 hht.1.1 hht.1.2) dL_claimsHold_84 dL_claimsHold_85 (by decide) (fun c9 => absurd c9 ((by omega))) (fun _ => ?_)
        refine lv_aload_n hx hb dL_claimsHold_88 rfl (lv_at hl 3 rfl) ?_
        refine lv_iload hx hb dL_claimsHold_89 (lv_at hl 1 rfl) ?_
        refine lv_iconst (v := nI (2)) hx hb dL_claimsHold_91 (by decide) ?_
        refine l_read (As := [.ref (o), .int (nI (k)), .int (nI (2))]) (rest := []) ⟨hx, hb, hml, hown, hts⟩ (rdh2 hl0 h (by omega)) (vx_cwSW 3 hts gL_claimsHold_L_houseOf rfl rfl rfl (by decide +kernel) ⟨Nat.le_of_ble_eq_true rfl, Nat.le_of_ble_eq_true rfl⟩) hK hZ hN hA hP hS rfl hl.1 rfl (Nat.le_of_ble_eq_true rfl) dL_claimsHold_92 ⟨by show (0 + 3 + 12 * k + 4) + 2 ≤ 400; omega, by show (0 + 18 + 72 * k + 24) + 12 ≤ 2400; omega⟩ (c1 := 0 + 3 + 12 * k + 6) (s1 := 0 + 18 + 72 * k + 36) (by omega) (by omega) (fun H locs hP hS hz9 hk9 => ?_)
        clear hz9 hk9
        refine lv_aload_n hx hb dL_claimsHold_95 rfl (lv_at hl 3 rfl) ?_
        refine l_month (rest := [.long ((σ.1 17 (k)).toInt64)]) ⟨hx, hb, hml, hown, hts⟩ (cwV 0 hts gL_claimsHold_X5_month rfl rfl rfl (by decide +kernel) ⟨Nat.le_of_ble_eq_true rfl, Nat.le_of_ble_eq_true rfl⟩) hK hZ hA hP hS hl.1 (Nat.le_of_ble_eq_true rfl) dL_claimsHold_96 ⟨by show (0 + 3 + 12 * k + 6) + 0 ≤ 400; omega, by show (0 + 18 + 72 * k + 36) + 0 ≤ 2400; omega⟩ (fun H locs hP hS hz9 hk9 => ?_)
        clear hz9 hk9
        refine l_top (show Value.int (σ.1 1 0) = Value.int (nI (mon σ)) from congrArg Value.int h.mo.1) ?_
        refine lv_i2l (v := (nI (mon σ)).toInt64) hx hb dL_claimsHold_99 rfl ?_
        refine lv_aload_n hx hb dL_claimsHold_100 rfl (lv_at hl 3 rfl) ?_
        refine lv_iload hx hb dL_claimsHold_101 (lv_at hl 1 rfl) ?_
        refine lv_iconst (v := nI (3)) hx hb dL_claimsHold_103 (by decide) ?_
        refine l_read (As := [.ref (o), .int (nI (k)), .int (nI (3))]) (rest := [.long ((nI (mon σ)).toInt64), .long ((σ.1 17 (k)).toInt64)]) ⟨hx, hb, hml, hown, hts⟩ (rdh3 hl0 h (by omega)) (vx_cwSW 3 hts gL_claimsHold_L_houseOf rfl rfl rfl (by decide +kernel) ⟨Nat.le_of_ble_eq_true rfl, Nat.le_of_ble_eq_true rfl⟩) hK hZ hN hA hP hS rfl hl.1 rfl (Nat.le_of_ble_eq_true rfl) dL_claimsHold_104 ⟨by show (0 + 3 + 12 * k + 6) + 2 ≤ 400; omega, by show (0 + 18 + 72 * k + 36) + 12 ≤ 2400; omega⟩ (c1 := 0 + 3 + 12 * k + 8) (s1 := 0 + 18 + 72 * k + 48) (by omega) (by omega) (fun H locs hP hS hz9 hk9 => ?_)
        clear hz9 hk9
        refine lv_lsub hx hb dL_claimsHold_107 ?_
        refine l_cgt (x := (σ.1 17 (k)).toInt64) (y := ((nI (mon σ)).toInt64) - ((σ.1 18 (k)).toInt64)) (X := (σ.1 17 (k)).toInt) (Y := (mon σ : Int) - (σ.1 18 (k)).toInt) (tgt := 136) hx hb (t64 _) (sub64 hmo hht.2.2.1 hht.2.2.2) dL_claimsHold_108 dL_claimsHold_109 (by decide) (fun c9 => absurd c9 ((by omega))) (fun _ => ?_)
        refine lv_aload_n hx hb dL_claimsHold_112 rfl (lv_at hl 3 rfl) ?_
        refine lv_aload_n hx hb dL_claimsHold_113 rfl (lv_at hl 3 rfl) ?_
        refine lv_iload hx hb dL_claimsHold_114 (lv_at hl 1 rfl) ?_
        refine lv_iconst (v := nI (0)) hx hb dL_claimsHold_116 (by decide) ?_
        refine l_read (As := [.ref (o), .int (nI (k)), .int (nI (0))]) (rest := [.ref (o)]) ⟨hx, hb, hml, hown, hts⟩ (rdh0 hl0 h (by omega)) (vx_cwSW 3 hts gL_claimsHold_L_houseOf rfl rfl rfl (by decide +kernel) ⟨Nat.le_of_ble_eq_true rfl, Nat.le_of_ble_eq_true rfl⟩) hK hZ hN hA hP hS rfl hl.1 rfl (Nat.le_of_ble_eq_true rfl) dL_claimsHold_117 ⟨by show (0 + 3 + 12 * k + 8) + 2 ≤ 400; omega, by show (0 + 18 + 72 * k + 48) + 12 ≤ 2400; omega⟩ (c1 := 0 + 3 + 12 * k + 10) (s1 := 0 + 18 + 72 * k + 60) (by omega) (by omega) (fun H locs hP hS hz9 hk9 => ?_)
        clear hz9 hk9
        refine lv_l2i (v := ((σ.1 14 (k)).toInt64).toInt32) hx hb dL_claimsHold_120 rfl ?_
        refine l_top (show Value.int (((σ.1 14 (k)).toInt64).toInt32) = Value.int (nI (hcl)) from congrArg Value.int ((Int32.toInt32_toInt64 _).trans hcl1)) ?_
        refine lv_iconst (v := nI (5)) hx hb dL_claimsHold_121 (by decide) ?_
        refine l_read (As := [.ref (o), .int (nI (hcl)), .int (nI (5))]) (rest := []) ⟨hx, hb, hml, hown, hts⟩ (rdc5 hl0 hcl25) (vx_cwSW 3 hts gL_claimsHold_L_cellOf rfl rfl rfl (by decide +kernel) ⟨Nat.le_of_ble_eq_true rfl, Nat.le_of_ble_eq_true rfl⟩) hK hZ hN hA hP hS rfl hl.1 rfl (Nat.le_of_ble_eq_true rfl) dL_claimsHold_122 ⟨by show (0 + 3 + 12 * k + 10) + 2 ≤ 400; omega, by show (0 + 18 + 72 * k + 60) + 12 ≤ 2400; omega⟩ (c1 := 0 + 3 + 12 * k + 12) (s1 := 0 + 18 + 72 * k + 72) (by omega) (by omega) (fun H locs hP hS hz9 hk9 => ?_)
        clear hz9 hk9
        refine lv_iload hx hb dL_claimsHold_125 (lv_at hl 1 rfl) ?_
        refine lv_i2l (v := (nI (k)).toInt64) hx hb dL_claimsHold_127 rfl ?_
        refine l_cne (x := (σ.1 36 (hcl)).toInt64) (y := (nI (k)).toInt64) (tgt := 136) hx hb dL_claimsHold_128 dL_claimsHold_129 (by decide) (fun c9 => absurd ((by rw [hcl2])) c9) (fun _ => ?_)
        refine lv_iconst (v := nI (1)) hx hb dL_claimsHold_132 (by decide) ?_
        refine lv_goto (tgt := 137) hx hb dL_claimsHold_133 (by decide) ?_
        refine lv_istore_n (lv' := [(3, .int (nI (1))), (5, .long ((wo σ (k)).toInt64)), (4, .int (nI (k))), (0, .ref (o)), (1, .int (nI (cpN σ 0))), (2, .int (nI (cpN σ 2)))]) hx hb dL_claimsHold_137 rfl hl (by decide) rfl (fun ls hl => ?_)
        refine n_iinc (x := k) (dN := 1) (k := 2) (lv' := [(4, .int (nI (k + 1))), (3, .int (nI (1))), (5, .long ((wo σ (k)).toInt64)), (0, .ref (o)), (1, .int (nI (cpN σ 0))), (2, .int (nI (cpN σ 2)))]) hx hb dL_claimsHold_138 hl rfl (by decide) rfl (fun ls hl => ?_)
        refine lv_goto (tgt := 34) hx hb dL_claimsHold_141 (by decide) ?_
        have hl : lv_has ls 7 [(4, .int (nI (k + 1))), (3, .int (nI (1))), (0, .ref (o)), (1, .int (nI (cpN σ 0))), (2, .int (nI (cpN σ 2)))] := lv_sub hl [0, 1, 3, 4, 5] rfl
        exact W.widen (by omega) (by omega) ((hWW _ _ _ _ _).mp (ih34 (k + 1) (by omega) (by omega) H locs ls hP hS hl))
  have hl : lv_has ls 7 [(4, .int (nI (0))), (3, .int (nI (1))), (0, .ref (o)), (1, .int (nI (cpN σ 0))), (2, .int (nI (cpN σ 2)))] := lv_sub hl [0, 1, 2, 3, 4] rfl
  exact W.widen (by omega) (by omega) ((hWW _ _ _ _ _).mp (L34 (cpN σ 0 + 1) 0 (Nat.zero_le _) (by omega) H locs ls hP hS hl))
