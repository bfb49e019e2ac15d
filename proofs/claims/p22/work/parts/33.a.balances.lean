/-! the law's own methods that look at the object: sums -/
theorem w_at {p : Program} {l : Launch} {e : Env} {R : Room} {s : State} {m : MethodId} {args : Array Value} {below : List Frame} {meth : Method} {c : Code} {H : Heap} {locs : List Loc} {cells slots : Nat} {Q : State → Prop} {g : JFrame} (hH : H = s.heap) (hL : locs = []) (kk : W p l e R s m args below meth c H locs cells slots Q g) : W p l e R s m args below meth c s.heap [] cells slots Q g := by
  subst hL
  rw [hH] at kk
  exact kk
def bH (σ : Sg) (n c : Nat) : Int64 := Int64.ofInt (isum (fun j => (σ.1 10 j).toInt) n + 1000 * sw σ c)
def bW (σ : Sg) (n c : Nat) : Int64 := Int64.ofInt (isum (fun j => (σ.1 8 j).toInt + (σ.1 9 j).toInt) n + sw σ c)
def bC (σ : Sg) (n : Nat) : Int64 := Int64.ofInt (isum (fun j => (σ.1 11 j).toInt) n)
theorem bH_w {σ : Sg} {n c : Nat} : bH σ n c + (1000 : Int64) * (σ.1 3 c).toInt64 = bH σ n (c + 1) := by
  have o1 : (1000 : Int64) = Int64.ofInt 1000 := rfl
  unfold bH
  rw [oi_32, o1, ← Int64.ofInt_mul, oi_add]
  exact congrArg Int64.ofInt (by show _ = isum _ n + 1000 * (sw σ c + (σ.1 3 c).toInt); omega)
theorem bH_e {σ : Sg} {n y c : Nat} : bH σ (n + y) c + (σ.1 10 (n + y)).toInt64 = bH σ (n + (y + 1)) c := by
  unfold bH
  rw [oi_32, oi_add]
  exact congrArg Int64.ofInt (by show _ = (isum _ (n + y) + (σ.1 10 (n + y)).toInt) + 1000 * sw σ c; omega)
theorem bW_w {σ : Sg} {n c : Nat} : bW σ n c + (σ.1 3 c).toInt64 = bW σ n (c + 1) := by
  unfold bW
  rw [oi_32, oi_add]
  exact congrArg Int64.ofInt (by show _ = isum _ n + (sw σ c + (σ.1 3 c).toInt); omega)
theorem bW_u {σ : Sg} {n y c : Nat} : bW σ (n + y) c + ((σ.1 8 (n + y)).toInt64 + (σ.1 9 (n + y)).toInt64) = bW σ (n + (y + 1)) c := by
  unfold bW
  rw [oi_32, oi_32, oi_add, oi_add]
  exact congrArg Int64.ofInt (by show _ = (isum _ (n + y) + ((σ.1 8 (n + y)).toInt + (σ.1 9 (n + y)).toInt)) + sw σ c; omega)
theorem bC_c {σ : Sg} {n y : Nat} : bC σ (n + y) + (σ.1 11 (n + y)).toInt64 = bC σ (n + (y + 1)) := by
  unfold bC
  rw [oi_32, oi_add]
  rfl
theorem bH_5 {σ : Sg} {c k : Nat} : bH σ (5 * (c + 1)) k = bH σ (5 * c + 5) k := rfl
theorem bW_5 {σ : Sg} {c k : Nat} : bW σ (5 * (c + 1)) k = bW σ (5 * c + 5) k := rfl
theorem bC_5 {σ : Sg} {c : Nat} : bC σ (5 * (c + 1)) = bC σ (5 * c + 5) := rfl
theorem bH_0 {σ : Sg} : bH σ (5 * 0) 0 = 0 := rfl
theorem bW_0 {σ : Sg} : bW σ (5 * 0) 0 = 0 := rfl
theorem bC_0 {σ : Sg} : bC σ (5 * 0) = 0 := rfl
theorem bH_L {σ : Sg} : bH σ (5 * 25) 25 = bL σ 0 := rfl
theorem bW_L {σ : Sg} : bW σ (5 * 25) 25 = bL σ 1 := rfl
theorem bC_L {σ : Sg} : bC σ (5 * 25) = bL σ 2 := rfl
set_option maxHeartbeats 4000000 in
set_option maxRecDepth 100000 in
/-- heat, water and carbon balance, and are those of the layers and ponds -/
theorem hc_balances (l : Launch) (hl0 : l.stackTraces = false) (G : va_G) (ids : Nat → ClassId) (tS tE o z : Nat) {σ : Sg} (h : IV σ) : HC l yL_balances wsL_balances ({ frames := 9, cells := 3000, slots := 18000, locals := 170 } : Room) G ids tS tE o z [.ref (o)] σ 3000 18000 := by
  unfold HC
  refine Met.ofW (cc := cL_balances) (maxL := 10) (ret := (some .boolean)) (by decide) rfl ?_
  intro p e s m args below meth c s₁ B hml hv
  obtain ⟨rfl, hP, hK, hZ, hN⟩ := hv
  have hx := B.exec
  have hb := B.bytes
  have hr := B.returns
  have hts := atoms_spec (ws := wsL_balances) B.pre
  have hown : s.vm.findClass RL = some m.cls := findClass_of_methodNamed B.named
  have hlocks := B.notSynchronized
  have hA : ∀ q, cpG o z q → cpG o z q := fun _ h => h
  have hS : va_S (cpG o z) s.heap s.heap [] := va_S.rf
  have hl := lv_entry ([.ref (o)]) (n := 10) (Nat.le_of_ble_eq_true rfl)
  rw [lg_entry_eq]
  generalize (lg_sl ([.ref (o)]) ++ List.replicate (10 - (lg_sl ([.ref (o)])).length) Slot.unset).toArray = ls at hl ⊢
  have hl : lv_has ls 10 [(0, .ref (o))] := hl
  refine w_named (fun WW hWW => ?_)
  obtain ⟨H, hH⟩ : ∃ H : Heap, H = s.heap := ⟨_, rfl⟩
  obtain ⟨locs, hL9⟩ : ∃ L : List Loc, L = [] := ⟨_, rfl⟩
  rw [← hH] at hP
  have hS : va_S (cpG o z) s.heap H locs := by rw [hH, hL9]; exact hS
  refine w_at (H := H) (locs := locs) hH hL9 ?_
  refine lv_lconst (v := 0) hx hb dL_balances_0 (by decide) ?_
  refine lv_lstore_n (lv' := [(1, .long ((0 : Int64))), (0, .ref (o))]) hx hb dL_balances_1 rfl hl (by decide) rfl (fun ls hl => ?_)
  refine lv_lconst (v := 0) hx hb dL_balances_2 (by decide) ?_
  refine lv_lstore_n (lv' := [(3, .long ((0 : Int64))), (1, .long ((0 : Int64))), (0, .ref (o))]) hx hb dL_balances_3 rfl hl (by decide) rfl (fun ls hl => ?_)
  refine lv_lconst (v := 0) hx hb dL_balances_4 (by decide) ?_
  refine lv_lstore (lv' := [(5, .long ((0 : Int64))), (3, .long ((0 : Int64))), (1, .long ((0 : Int64))), (0, .ref (o))]) hx hb dL_balances_5 hl (by decide) rfl (fun ls hl => ?_)
  refine lv_iconst (v := nI (1)) hx hb dL_balances_7 (by decide) ?_
  refine lv_istore (lv' := [(7, .int (nI (1))), (5, .long ((0 : Int64))), (3, .long ((0 : Int64))), (1, .long ((0 : Int64))), (0, .ref (o))]) hx hb dL_balances_8 hl (by decide) rfl (fun ls hl => ?_)
  refine lv_iconst (v := nI (0)) hx hb dL_balances_10 (by decide) ?_
  refine lv_istore (lv' := [(8, .int (nI (0))), (7, .int (nI (1))), (5, .long ((0 : Int64))), (3, .long ((0 : Int64))), (1, .long ((0 : Int64))), (0, .ref (o))]) hx hb dL_balances_11 hl (by decide) rfl (fun ls hl => ?_)
  have L13 : ∀ (n13 i : Nat), i ≤ 25 → 25 + 1 ≤ i + n13 → ∀ (H : Heap) (locs : List Loc) (ls : Array Slot), vP G ids o z tE σ H → va_S (cpG o z) s.heap H locs → lv_has ls 10 [(8, .int (nI (i))), (7, .int (nI (1))), (5, .long (bC σ (5 * i))), (3, .long (bW σ (5 * i) i)), (1, .long (bH σ (5 * i) i)), (0, .ref (o))] → WW H locs (0 + 100 * i) (0 + 600 * i) (F0 m 13 ls []) := by
    intro n13
    induction n13 with
    | zero => intro i h1 h2; exact absurd h2 (by omega)
    | succ n13 ih13 =>
      intro i hi13 hn13 H locs ls hP hS hl
      refine (hWW _ _ _ _ _).mpr ?_
      refine lv_iload hx hb dL_balances_13 (lv_at hl 0 rfl) ?_
      refine lv_bipush (v := nI (25)) hx hb dL_balances_15 (by decide) ?_
      refine n_icmp_ge (x := i) (y := 25) (tgt := 218) hx hb (by omega) (by decide) dL_balances_17 (by decide) (fun c17 => ?_) (fun c17 => ?_)
      · have hq : i = 25 := by omega
        subst hq
        refine lv_iconst (v := nI (0)) hx hb dL_balances_218 (by decide) ?_
        refine lv_istore (lv' := [(8, .int (nI (0))), (7, .int (nI (1))), (5, .long (bC σ (5 * 25))), (3, .long (bW σ (5 * 25) 25)), (1, .long (bH σ (5 * 25) 25)), (0, .ref (o))]) hx hb dL_balances_219 hl (by decide) rfl (fun ls hl => ?_)
        have L221 : ∀ (n221 k : Nat), k ≤ 3 → 3 + 1 ≤ k + n221 → ∀ (H : Heap) (locs : List Loc) (ls : Array Slot), vP G ids o z tE σ H → va_S (cpG o z) s.heap H locs → lv_has ls 10 [(8, .int (nI (k))), (7, .int (nI (1))), (5, .long (bC σ (5 * 25))), (3, .long (bW σ (5 * 25) 25)), (1, .long (bH σ (5 * 25) 25)), (0, .ref (o))] → WW H locs (0 + 100 * 25 + 8 * k) (0 + 600 * 25 + 48 * k) (F0 m 221 ls []) := by
          intro n221
          induction n221 with
          | zero => intro k h1 h2; exact absurd h2 (by omega)
          | succ n221 ih221 =>
            intro k hi221 hn221 H locs ls hP hS hl
            refine (hWW _ _ _ _ _).mpr ?_
            refine lv_iload hx hb dL_balances_221 (lv_at hl 0 rfl) ?_
            refine lv_iconst (v := nI (3)) hx hb dL_balances_223 (by decide) ?_
            refine n_icmp_ge (x := k) (y := 3) (tgt := 283) hx hb (by omega) (by decide) dL_balances_224 (by decide) (fun c224 => ?_) (fun c224 => ?_)
            · have hq : k = 3 := by omega
              subst hq
              refine lv_iload hx hb dL_balances_283 (lv_at hl 1 rfl) ?_
              refine n_if_eq (x := 1) (tgt := 377) hx hb (by decide) dL_balances_285 (by decide) (fun c9 => absurd c9 (by decide)) (fun _ => ?_)
              refine lv_lload_n hx hb dL_balances_288 rfl (lv_at hl 4 rfl) ?_
              refine lv_aload_n hx hb dL_balances_289 rfl (lv_at hl 5 rfl) ?_
              refine lv_iconst (v := nI (0)) hx hb dL_balances_290 (by decide) ?_
              refine lv_iconst (v := nI (0)) hx hb dL_balances_291 (by decide) ?_
              refine l_read (As := [.ref (o), .int (nI (0)), .int (nI (0))]) (rest := [.long (bH σ (5 * 25) 25)]) ⟨hx, hb, hml, hown, hts⟩ (rdb0 hl0 h (k := 0) (by omega)) (vx_cwSW 3 hts gL_balances_L_balance rfl rfl rfl (by decide +kernel) ⟨Nat.le_of_ble_eq_true rfl, Nat.le_of_ble_eq_true rfl⟩) hK hZ hN hA hP hS rfl hl.1 rfl (Nat.le_of_ble_eq_true rfl) dL_balances_292 ⟨by show (0 + 100 * 25 + 8 * 3) + 2 ≤ 3000; omega, by show (0 + 600 * 25 + 48 * 3) + 12 ≤ 18000; omega⟩ (c1 := 0 + 100 * 25 + 8 * 3 + 2) (s1 := 0 + 600 * 25 + 48 * 3 + 12) (by omega) (by omega) (fun H locs hP hS hz9 hk9 => ?_)
              clear hz9 hk9
              refine l_cne (x := bH σ (5 * 25) 25) (y := bL σ (0)) (tgt := 377) hx hb dL_balances_295 dL_balances_296 (by decide) (fun c9 => absurd (bH_L) c9) (fun _ => ?_)
              refine lv_lload_n hx hb dL_balances_299 rfl (lv_at hl 3 rfl) ?_
              refine lv_aload_n hx hb dL_balances_300 rfl (lv_at hl 5 rfl) ?_
              refine lv_iconst (v := nI (1)) hx hb dL_balances_301 (by decide) ?_
              refine lv_iconst (v := nI (0)) hx hb dL_balances_302 (by decide) ?_
              refine l_read (As := [.ref (o), .int (nI (1)), .int (nI (0))]) (rest := [.long (bW σ (5 * 25) 25)]) ⟨hx, hb, hml, hown, hts⟩ (rdb0 hl0 h (k := 1) (by omega)) (vx_cwSW 3 hts gL_balances_L_balance rfl rfl rfl (by decide +kernel) ⟨Nat.le_of_ble_eq_true rfl, Nat.le_of_ble_eq_true rfl⟩) hK hZ hN hA hP hS rfl hl.1 rfl (Nat.le_of_ble_eq_true rfl) dL_balances_303 ⟨by show (0 + 100 * 25 + 8 * 3 + 2) + 2 ≤ 3000; omega, by show (0 + 600 * 25 + 48 * 3 + 12) + 12 ≤ 18000; omega⟩ (c1 := 0 + 100 * 25 + 8 * 3 + 4) (s1 := 0 + 600 * 25 + 48 * 3 + 24) (by omega) (by omega) (fun H locs hP hS hz9 hk9 => ?_)
              clear hz9 hk9
              refine l_cne (x := bW σ (5 * 25) 25) (y := bL σ (1)) (tgt := 377) hx hb dL_balances_306 dL_balances_307 (by decide) (fun c9 => absurd (bW_L) c9) (fun _ => ?_)
              refine lv_lload hx hb dL_balances_310 (lv_at hl 2 rfl) ?_
              refine lv_aload_n hx hb dL_balances_312 rfl (lv_at hl 5 rfl) ?_
              refine lv_iconst (v := nI (2)) hx hb dL_balances_313 (by decide) ?_
              refine lv_iconst (v := nI (0)) hx hb dL_balances_314 (by decide) ?_
              refine l_read (As := [.ref (o), .int (nI (2)), .int (nI (0))]) (rest := [.long (bC σ (5 * 25))]) ⟨hx, hb, hml, hown, hts⟩ (rdb0 hl0 h (k := 2) (by omega)) (vx_cwSW 3 hts gL_balances_L_balance rfl rfl rfl (by decide +kernel) ⟨Nat.le_of_ble_eq_true rfl, Nat.le_of_ble_eq_true rfl⟩) hK hZ hN hA hP hS rfl hl.1 rfl (Nat.le_of_ble_eq_true rfl) dL_balances_315 ⟨by show (0 + 100 * 25 + 8 * 3 + 4) + 2 ≤ 3000; omega, by show (0 + 600 * 25 + 48 * 3 + 24) + 12 ≤ 18000; omega⟩ (c1 := 0 + 100 * 25 + 8 * 3 + 6) (s1 := 0 + 600 * 25 + 48 * 3 + 36) (by omega) (by omega) (fun H locs hP hS hz9 hk9 => ?_)
              clear hz9 hk9
              refine l_cne (x := bC σ (5 * 25)) (y := bL σ (2)) (tgt := 377) hx hb dL_balances_318 dL_balances_319 (by decide) (fun c9 => absurd (bC_L) c9) (fun _ => ?_)
              refine lv_aload_n hx hb dL_balances_322 rfl (lv_at hl 5 rfl) ?_
              refine lv_iconst (v := nI (2)) hx hb dL_balances_323 (by decide) ?_
              refine lv_iconst (v := nI (2)) hx hb dL_balances_324 (by decide) ?_
              refine l_read (As := [.ref (o), .int (nI (2)), .int (nI (2))]) (rest := []) ⟨hx, hb, hml, hown, hts⟩ (rdb2 hl0 h (k := 2) (by omega)) (vx_cwSW 3 hts gL_balances_L_balance rfl rfl rfl (by decide +kernel) ⟨Nat.le_of_ble_eq_true rfl, Nat.le_of_ble_eq_true rfl⟩) hK hZ hN hA hP hS rfl hl.1 rfl (Nat.le_of_ble_eq_true rfl) dL_balances_325 ⟨by show (0 + 100 * 25 + 8 * 3 + 6) + 2 ≤ 3000; omega, by show (0 + 600 * 25 + 48 * 3 + 36) + 12 ≤ 18000; omega⟩ (c1 := 0 + 100 * 25 + 8 * 3 + 8) (s1 := 0 + 600 * 25 + 48 * 3 + 48) (by omega) (by omega) (fun H locs hP hS hz9 hk9 => ?_)
              clear hz9 hk9
              refine lv_aload_n hx hb dL_balances_328 rfl (lv_at hl 5 rfl) ?_
              refine lv_iconst (v := nI (0)) hx hb dL_balances_329 (by decide) ?_
              refine l_read (As := [.ref (o), .int (nI (0))]) (rest := [.long (bG σ (2))]) ⟨hx, hb, hml, hown, hts⟩ (rdg hl0 (g := 0) (by omega)) (vx_cwSW 2 hts gL_balances_L_air rfl rfl rfl (by decide +kernel) ⟨Nat.le_of_ble_eq_true rfl, Nat.le_of_ble_eq_true rfl⟩) hK hZ hN hA hP hS rfl hl.1 rfl (Nat.le_of_ble_eq_true rfl) dL_balances_330 ⟨by show (0 + 100 * 25 + 8 * 3 + 8) + 1 ≤ 3000; omega, by show (0 + 600 * 25 + 48 * 3 + 48) + 6 ≤ 18000; omega⟩ (c1 := 0 + 100 * 25 + 8 * 3 + 9) (s1 := 0 + 600 * 25 + 48 * 3 + 54) (by omega) (by omega) (fun H locs hP hS hz9 hk9 => ?_)
              clear hz9 hk9
              refine lv_aload_n hx hb dL_balances_333 rfl (lv_at hl 5 rfl) ?_
              refine lv_iconst (v := nI (1)) hx hb dL_balances_334 (by decide) ?_
              refine l_read (As := [.ref (o), .int (nI (1))]) (rest := [.long (σ.2 (30 + (0))), .long (bG σ (2))]) ⟨hx, hb, hml, hown, hts⟩ (rdg hl0 (g := 1) (by omega)) (vx_cwSW 2 hts gL_balances_L_air rfl rfl rfl (by decide +kernel) ⟨Nat.le_of_ble_eq_true rfl, Nat.le_of_ble_eq_true rfl⟩) hK hZ hN hA hP hS rfl hl.1 rfl (Nat.le_of_ble_eq_true rfl) dL_balances_335 ⟨by show (0 + 100 * 25 + 8 * 3 + 9) + 1 ≤ 3000; omega, by show (0 + 600 * 25 + 48 * 3 + 54) + 6 ≤ 18000; omega⟩ (c1 := 0 + 100 * 25 + 8 * 3 + 10) (s1 := 0 + 600 * 25 + 48 * 3 + 60) (by omega) (by omega) (fun H locs hP hS hz9 hk9 => ?_)
              clear hz9 hk9
              refine lv_ladd hx hb dL_balances_338 ?_
              refine l_cne (x := bG σ (2)) (y := (σ.2 (30 + (0))) + (σ.2 (30 + (1)))) (tgt := 377) hx hb dL_balances_339 dL_balances_340 (by decide) (fun c9 => absurd (rfl) c9) (fun _ => ?_)
              refine lv_aload_n hx hb dL_balances_343 rfl (lv_at hl 5 rfl) ?_
              refine lv_iconst (v := nI (0)) hx hb dL_balances_344 (by decide) ?_
              refine lv_iconst (v := nI (2)) hx hb dL_balances_345 (by decide) ?_
              refine l_read (As := [.ref (o), .int (nI (0)), .int (nI (2))]) (rest := []) ⟨hx, hb, hml, hown, hts⟩ (rdb2 hl0 h (k := 0) (by omega)) (vx_cwSW 3 hts gL_balances_L_balance rfl rfl rfl (by decide +kernel) ⟨Nat.le_of_ble_eq_true rfl, Nat.le_of_ble_eq_true rfl⟩) hK hZ hN hA hP hS rfl hl.1 rfl (Nat.le_of_ble_eq_true rfl) dL_balances_346 ⟨by show (0 + 100 * 25 + 8 * 3 + 10) + 2 ≤ 3000; omega, by show (0 + 600 * 25 + 48 * 3 + 60) + 12 ≤ 18000; omega⟩ (c1 := 0 + 100 * 25 + 8 * 3 + 12) (s1 := 0 + 600 * 25 + 48 * 3 + 72) (by omega) (by omega) (fun H locs hP hS hz9 hk9 => ?_)
              clear hz9 hk9
              refine lv_ldc2 (own := RL) (v := 1000) hx hb hown (hts _ (List.mem_of_getElem? (i := 1) rfl)) dL_balances_349 ?_
              refine lv_aload_n hx hb dL_balances_352 rfl (lv_at hl 5 rfl) ?_
              refine lv_iconst (v := nI (1)) hx hb dL_balances_353 (by decide) ?_
              refine lv_iconst (v := nI (2)) hx hb dL_balances_354 (by decide) ?_
              refine l_read (As := [.ref (o), .int (nI (1)), .int (nI (2))]) (rest := [.long ((1000 : Int64)), .long (bG σ (0))]) ⟨hx, hb, hml, hown, hts⟩ (rdb2 hl0 h (k := 1) (by omega)) (vx_cwSW 3 hts gL_balances_L_balance rfl rfl rfl (by decide +kernel) ⟨Nat.le_of_ble_eq_true rfl, Nat.le_of_ble_eq_true rfl⟩) hK hZ hN hA hP hS rfl hl.1 rfl (Nat.le_of_ble_eq_true rfl) dL_balances_355 ⟨by show (0 + 100 * 25 + 8 * 3 + 12) + 2 ≤ 3000; omega, by show (0 + 600 * 25 + 48 * 3 + 72) + 12 ≤ 18000; omega⟩ (c1 := 0 + 100 * 25 + 8 * 3 + 14) (s1 := 0 + 600 * 25 + 48 * 3 + 84) (by omega) (by omega) (fun H locs hP hS hz9 hk9 => ?_)
              clear hz9 hk9
              refine lv_lmul hx hb dL_balances_358 ?_
              refine l_cne (x := bG σ (0)) (y := ((1000 : Int64)) * (bG σ (1))) (tgt := 377) hx hb dL_balances_359 dL_balances_360 (by decide) (fun c9 => absurd (rfl) c9) (fun _ => ?_)
              refine lv_aload_n hx hb dL_balances_363 rfl (lv_at hl 5 rfl) ?_
              refine lv_iconst (v := nI (1)) hx hb dL_balances_364 (by decide) ?_
              refine l_read (As := [.ref (o), .int (nI (1))]) (rest := []) ⟨hx, hb, hml, hown, hts⟩ (rdg hl0 (g := 1) (by omega)) (vx_cwSW 2 hts gL_balances_L_air rfl rfl rfl (by decide +kernel) ⟨Nat.le_of_ble_eq_true rfl, Nat.le_of_ble_eq_true rfl⟩) hK hZ hN hA hP hS rfl hl.1 rfl (Nat.le_of_ble_eq_true rfl) dL_balances_365 ⟨by show (0 + 100 * 25 + 8 * 3 + 14) + 1 ≤ 3000; omega, by show (0 + 600 * 25 + 48 * 3 + 84) + 6 ≤ 18000; omega⟩ (c1 := 0 + 100 * 25 + 8 * 3 + 15) (s1 := 0 + 600 * 25 + 48 * 3 + 90) (by omega) (by omega) (fun H locs hP hS hz9 hk9 => ?_)
              clear hz9 hk9
              refine lv_lconst (v := 0) hx hb dL_balances_368 (by decide) ?_
              refine l_clt (x := σ.2 (30 + (1))) (y := (0 : Int64)) (X := (σ.2 (30 + (1))).toInt) (Y := 0) (tgt := 377) hx hb (rfl) (by decide) dL_balances_369 dL_balances_370 (by decide) (fun c9 => absurd c9 (Int.not_lt.mpr (air_0 h))) (fun _ => ?_)
              refine lv_iconst (v := nI (1)) hx hb dL_balances_373 (by decide) ?_
              refine lv_goto (tgt := 378) hx hb dL_balances_374 (by decide) ?_
              exact w_zret (Pic1 := fun H : Heap => vP G ids o z tE σ H) hx hb hr hlocks (by omega) (by omega) hP hS dL_balances_378
            · refine lv_iload hx hb dL_balances_227 (lv_at hl 1 rfl) ?_
              refine n_if_eq (x := 1) (tgt := 283) hx hb (by decide) dL_balances_229 (by decide) (fun c9 => absurd c9 (by decide)) (fun _ => ?_)
              refine lv_aload_n hx hb dL_balances_232 rfl (lv_at hl 5 rfl) ?_
              refine lv_iload hx hb dL_balances_233 (lv_at hl 0 rfl) ?_
              refine lv_iconst (v := nI (3)) hx hb dL_balances_235 (by decide) ?_
              refine l_read (As := [.ref (o), .int (nI (k)), .int (nI (3))]) (rest := []) ⟨hx, hb, hml, hown, hts⟩ (rdb3 hl0 h (k := k) (by omega)) (vx_cwSW 3 hts gL_balances_L_balance rfl rfl rfl (by decide +kernel) ⟨Nat.le_of_ble_eq_true rfl, Nat.le_of_ble_eq_true rfl⟩) hK hZ hN hA hP hS rfl hl.1 rfl (Nat.le_of_ble_eq_true rfl) dL_balances_236 ⟨by show (0 + 100 * 25 + 8 * k) + 2 ≤ 3000; omega, by show (0 + 600 * 25 + 48 * k) + 12 ≤ 18000; omega⟩ (c1 := 0 + 100 * 25 + 8 * k + 2) (s1 := 0 + 600 * 25 + 48 * k + 12) (by omega) (by omega) (fun H locs hP hS hz9 hk9 => ?_)
              clear hz9 hk9
              refine lv_lconst (v := 0) hx hb dL_balances_239 (by decide) ?_
              refine l_cne (x := (0 : Int64)) (y := (0 : Int64)) (tgt := 274) hx hb dL_balances_240 dL_balances_241 (by decide) (fun c9 => absurd (rfl) c9) (fun _ => ?_)
              refine lv_aload_n hx hb dL_balances_244 rfl (lv_at hl 5 rfl) ?_
              refine lv_iload hx hb dL_balances_245 (lv_at hl 0 rfl) ?_
              refine lv_iconst (v := nI (1)) hx hb dL_balances_247 (by decide) ?_
              refine l_read (As := [.ref (o), .int (nI (k)), .int (nI (1))]) (rest := []) ⟨hx, hb, hml, hown, hts⟩ (rdb1 hl0 h (k := k) (by omega)) (vx_cwSW 3 hts gL_balances_L_balance rfl rfl rfl (by decide +kernel) ⟨Nat.le_of_ble_eq_true rfl, Nat.le_of_ble_eq_true rfl⟩) hK hZ hN hA hP hS rfl hl.1 rfl (Nat.le_of_ble_eq_true rfl) dL_balances_248 ⟨by show (0 + 100 * 25 + 8 * k + 2) + 2 ≤ 3000; omega, by show (0 + 600 * 25 + 48 * k + 12) + 12 ≤ 18000; omega⟩ (c1 := 0 + 100 * 25 + 8 * k + 4) (s1 := 0 + 600 * 25 + 48 * k + 24) (by omega) (by omega) (fun H locs hP hS hz9 hk9 => ?_)
              clear hz9 hk9
              refine lv_aload_n hx hb dL_balances_251 rfl (lv_at hl 5 rfl) ?_
              refine lv_iload hx hb dL_balances_252 (lv_at hl 0 rfl) ?_
              refine lv_iconst (v := nI (0)) hx hb dL_balances_254 (by decide) ?_
              refine l_read (As := [.ref (o), .int (nI (k)), .int (nI (0))]) (rest := [.long (σ.2 (26 + (k)))]) ⟨hx, hb, hml, hown, hts⟩ (rdb0 hl0 h (k := k) (by omega)) (vx_cwSW 3 hts gL_balances_L_balance rfl rfl rfl (by decide +kernel) ⟨Nat.le_of_ble_eq_true rfl, Nat.le_of_ble_eq_true rfl⟩) hK hZ hN hA hP hS rfl hl.1 rfl (Nat.le_of_ble_eq_true rfl) dL_balances_255 ⟨by show (0 + 100 * 25 + 8 * k + 4) + 2 ≤ 3000; omega, by show (0 + 600 * 25 + 48 * k + 24) + 12 ≤ 18000; omega⟩ (c1 := 0 + 100 * 25 + 8 * k + 6) (s1 := 0 + 600 * 25 + 48 * k + 36) (by omega) (by omega) (fun H locs hP hS hz9 hk9 => ?_)
              clear hz9 hk9
              refine lv_aload_n hx hb dL_balances_258 rfl (lv_at hl 5 rfl) ?_
              refine lv_iload hx hb dL_balances_259 (lv_at hl 0 rfl) ?_
              refine lv_iconst (v := nI (2)) hx hb dL_balances_261 (by decide) ?_
              refine l_read (As := [.ref (o), .int (nI (k)), .int (nI (2))]) (rest := [.long (bL σ (k)), .long (σ.2 (26 + (k)))]) ⟨hx, hb, hml, hown, hts⟩ (rdb2 hl0 h (k := k) (by omega)) (vx_cwSW 3 hts gL_balances_L_balance rfl rfl rfl (by decide +kernel) ⟨Nat.le_of_ble_eq_true rfl, Nat.le_of_ble_eq_true rfl⟩) hK hZ hN hA hP hS rfl hl.1 rfl (Nat.le_of_ble_eq_true rfl) dL_balances_262 ⟨by show (0 + 100 * 25 + 8 * k + 6) + 2 ≤ 3000; omega, by show (0 + 600 * 25 + 48 * k + 36) + 12 ≤ 18000; omega⟩ (c1 := 0 + 100 * 25 + 8 * k + 8) (s1 := 0 + 600 * 25 + 48 * k + 48) (by omega) (by omega) (fun H locs hP hS hz9 hk9 => ?_)
              clear hz9 hk9
              refine lv_ladd hx hb dL_balances_265 ?_
              refine l_cne (x := σ.2 (26 + (k))) (y := (bL σ (k)) + (bG σ (k))) (tgt := 274) hx hb dL_balances_266 dL_balances_267 (by decide) (fun c9 => absurd (bal_eq h (k := k) (by omega)) c9) (fun _ => ?_)
              refine lv_iconst (v := nI (1)) hx hb dL_balances_270 (by decide) ?_
              refine lv_goto (tgt := 275) hx hb dL_balances_271 (by decide) ?_
              refine lv_istore (lv' := [(7, .int (nI (1))), (8, .int (nI (k))), (5, .long (bC σ (5 * 25))), (3, .long (bW σ (5 * 25) 25)), (1, .long (bH σ (5 * 25) 25)), (0, .ref (o))]) hx hb dL_balances_275 hl (by decide) rfl (fun ls hl => ?_)
              refine n_iinc (x := k) (dN := 1) (k := 1) (lv' := [(8, .int (nI (k + 1))), (7, .int (nI (1))), (5, .long (bC σ (5 * 25))), (3, .long (bW σ (5 * 25) 25)), (1, .long (bH σ (5 * 25) 25)), (0, .ref (o))]) hx hb dL_balances_277 hl rfl (by decide) rfl (fun ls hl => ?_)
              refine lv_goto (tgt := 221) hx hb dL_balances_280 (by decide) ?_
              have hl : lv_has ls 10 [(8, .int (nI (k + 1))), (7, .int (nI (1))), (5, .long (bC σ (5 * 25))), (3, .long (bW σ (5 * 25) 25)), (1, .long (bH σ (5 * 25) 25)), (0, .ref (o))] := lv_sub hl [0, 1, 2, 3, 4, 5] rfl
              exact W.widen (by omega) (by omega) ((hWW _ _ _ _ _).mp (ih221 (k + 1) (by omega) (by omega) H locs ls hP hS hl))
        have hl : lv_has ls 10 [(8, .int (nI (0))), (7, .int (nI (1))), (5, .long (bC σ (5 * 25))), (3, .long (bW σ (5 * 25) 25)), (1, .long (bH σ (5 * 25) 25)), (0, .ref (o))] := lv_sub hl [0, 1, 2, 3, 4, 5] rfl
        exact W.widen (by omega) (by omega) ((hWW _ _ _ _ _).mp (L221 (3 + 1) 0 (Nat.zero_le _) (by omega) H locs ls hP hS hl))
      · refine lv_iload hx hb dL_balances_20 (lv_at hl 1 rfl) ?_
        refine n_if_eq (x := 1) (tgt := 218) hx hb (by decide) dL_balances_22 (by decide) (fun c9 => absurd c9 (by decide)) (fun _ => ?_)
        refine lv_lload_n hx hb dL_balances_25 rfl (lv_at hl 3 rfl) ?_
        refine lv_aload_n hx hb dL_balances_26 rfl (lv_at hl 5 rfl) ?_
        refine lv_iload hx hb dL_balances_27 (lv_at hl 0 rfl) ?_
        refine lv_iconst (v := nI (1)) hx hb dL_balances_29 (by decide) ?_
        refine l_read (As := [.ref (o), .int (nI (i)), .int (nI (1))]) (rest := [.long (bW σ (5 * i) i)]) ⟨hx, hb, hml, hown, hts⟩ (rdc1 hl0 (by omega)) (vx_cwSW 3 hts gL_balances_L_cellOf rfl rfl rfl (by decide +kernel) ⟨Nat.le_of_ble_eq_true rfl, Nat.le_of_ble_eq_true rfl⟩) hK hZ hN hA hP hS rfl hl.1 rfl (Nat.le_of_ble_eq_true rfl) dL_balances_30 ⟨by show (0 + 100 * i) + 2 ≤ 3000; omega, by show (0 + 600 * i) + 12 ≤ 18000; omega⟩ (c1 := 0 + 100 * i + 2) (s1 := 0 + 600 * i + 12) (by omega) (by omega) (fun H locs hP hS hz9 hk9 => ?_)
        clear hz9 hk9
        refine lv_ladd hx hb dL_balances_33 ?_
        refine l_top (show Value.long ((bW σ (5 * i) i) + ((σ.1 3 (i)).toInt64)) = Value.long (bW σ (5 * i) (i + 1)) from congrArg Value.long (bW_w)) ?_
        refine lv_lstore_n (lv' := [(3, .long (bW σ (5 * i) (i + 1))), (8, .int (nI (i))), (7, .int (nI (1))), (5, .long (bC σ (5 * i))), (1, .long (bH σ (5 * i) i)), (0, .ref (o))]) hx hb dL_balances_34 rfl hl (by decide) rfl (fun ls hl => ?_)
        refine lv_lload_n hx hb dL_balances_35 rfl (lv_at hl 4 rfl) ?_
        refine lv_ldc2 (own := RL) (v := 1000) hx hb hown (hts _ (List.mem_of_getElem? (i := 1) rfl)) dL_balances_36 ?_
        refine lv_aload_n hx hb dL_balances_39 rfl (lv_at hl 5 rfl) ?_
        refine lv_iload hx hb dL_balances_40 (lv_at hl 1 rfl) ?_
        refine lv_iconst (v := nI (1)) hx hb dL_balances_42 (by decide) ?_
        refine l_read (As := [.ref (o), .int (nI (i)), .int (nI (1))]) (rest := [.long ((1000 : Int64)), .long (bH σ (5 * i) i)]) ⟨hx, hb, hml, hown, hts⟩ (rdc1 hl0 (by omega)) (vx_cwSW 3 hts gL_balances_L_cellOf rfl rfl rfl (by decide +kernel) ⟨Nat.le_of_ble_eq_true rfl, Nat.le_of_ble_eq_true rfl⟩) hK hZ hN hA hP hS rfl hl.1 rfl (Nat.le_of_ble_eq_true rfl) dL_balances_43 ⟨by show (0 + 100 * i + 2) + 2 ≤ 3000; omega, by show (0 + 600 * i + 12) + 12 ≤ 18000; omega⟩ (c1 := 0 + 100 * i + 4) (s1 := 0 + 600 * i + 24) (by omega) (by omega) (fun H locs hP hS hz9 hk9 => ?_)
        clear hz9 hk9
        refine lv_lmul hx hb dL_balances_46 ?_
        refine lv_ladd hx hb dL_balances_47 ?_
        refine l_top (show Value.long ((bH σ (5 * i) i) + (((1000 : Int64)) * ((σ.1 3 (i)).toInt64))) = Value.long (bH σ (5 * i) (i + 1)) from congrArg Value.long (bH_w)) ?_
        refine lv_lstore_n (lv' := [(1, .long (bH σ (5 * i) (i + 1))), (3, .long (bW σ (5 * i) (i + 1))), (8, .int (nI (i))), (7, .int (nI (1))), (5, .long (bC σ (5 * i))), (0, .ref (o))]) hx hb dL_balances_48 rfl hl (by decide) rfl (fun ls hl => ?_)
        refine lv_iconst (v := nI (0)) hx hb dL_balances_49 (by decide) ?_
        refine lv_istore (lv' := [(9, .int (nI (0))), (1, .long (bH σ (5 * i) (i + 1))), (3, .long (bW σ (5 * i) (i + 1))), (8, .int (nI (i))), (7, .int (nI (1))), (5, .long (bC σ (5 * i))), (0, .ref (o))]) hx hb dL_balances_50 hl (by decide) rfl (fun ls hl => ?_)
        have L52 : ∀ (n52 y : Nat), y ≤ 5 → 5 + 1 ≤ y + n52 → ∀ (H : Heap) (locs : List Loc) (ls : Array Slot), vP G ids o z tE σ H → va_S (cpG o z) s.heap H locs → lv_has ls 10 [(9, .int (nI (y))), (1, .long (bH σ (5 * i + y) (i + 1))), (3, .long (bW σ (5 * i + y) (i + 1))), (8, .int (nI (i))), (7, .int (nI (1))), (5, .long (bC σ (5 * i + y))), (0, .ref (o))] → WW H locs (0 + 100 * i + 4 + 12 * y) (0 + 600 * i + 24 + 72 * y) (F0 m 52 ls []) := by
          intro n52
          induction n52 with
          | zero => intro y h1 h2; exact absurd h2 (by omega)
          | succ n52 ih52 =>
            intro y hi52 hn52 H locs ls hP hS hl
            refine (hWW _ _ _ _ _).mpr ?_
            refine lv_iload hx hb dL_balances_52 (lv_at hl 0 rfl) ?_
            refine lv_iconst (v := nI (5)) hx hb dL_balances_54 (by decide) ?_
            refine n_icmp_ge (x := y) (y := 5) (tgt := 112) hx hb (by omega) (by decide) dL_balances_55 (by decide) (fun c55 => ?_) (fun c55 => ?_)
            · have hq : y = 5 := by omega
              subst hq
              refine lv_aload_n hx hb dL_balances_112 rfl (lv_at hl 6 rfl) ?_
              refine lv_iload hx hb dL_balances_113 (lv_at hl 3 rfl) ?_
              refine lv_iconst (v := nI (1)) hx hb dL_balances_115 (by decide) ?_
              refine l_read (As := [.ref (o), .int (nI (i)), .int (nI (1))]) (rest := []) ⟨hx, hb, hml, hown, hts⟩ (rdc1 hl0 (by omega)) (vx_cwSW 3 hts gL_balances_L_cellOf rfl rfl rfl (by decide +kernel) ⟨Nat.le_of_ble_eq_true rfl, Nat.le_of_ble_eq_true rfl⟩) hK hZ hN hA hP hS rfl hl.1 rfl (Nat.le_of_ble_eq_true rfl) dL_balances_116 ⟨by show (0 + 100 * i + 4 + 12 * 5) + 2 ≤ 3000; omega, by show (0 + 600 * i + 24 + 72 * 5) + 12 ≤ 18000; omega⟩ (c1 := 0 + 100 * i + 4 + 12 * 5 + 2) (s1 := 0 + 600 * i + 24 + 72 * 5 + 12) (by omega) (by omega) (fun H locs hP hS hz9 hk9 => ?_)
              clear hz9 hk9
              refine lv_lconst (v := 0) hx hb dL_balances_119 (by decide) ?_
              refine l_clt (x := (σ.1 3 (i)).toInt64) (y := (0 : Int64)) (X := (σ.1 3 (i)).toInt) (Y := 0) (tgt := 209) hx hb (t64 _) (by decide) dL_balances_120 dL_balances_121 (by decide) (fun c9 => absurd c9 ((by have q := h.bw i (by omega); omega))) (fun _ => ?_)
              refine lv_aload_n hx hb dL_balances_124 rfl (lv_at hl 6 rfl) ?_
              refine lv_iload hx hb dL_balances_125 (lv_at hl 3 rfl) ?_
              refine lv_iconst (v := nI (2)) hx hb dL_balances_127 (by decide) ?_
              refine l_read (As := [.ref (o), .int (nI (i)), .int (nI (2))]) (rest := []) ⟨hx, hb, hml, hown, hts⟩ (rdc2 hl0 (by omega)) (vx_cwSW 3 hts gL_balances_L_cellOf rfl rfl rfl (by decide +kernel) ⟨Nat.le_of_ble_eq_true rfl, Nat.le_of_ble_eq_true rfl⟩) hK hZ hN hA hP hS rfl hl.1 rfl (Nat.le_of_ble_eq_true rfl) dL_balances_128 ⟨by show (0 + 100 * i + 4 + 12 * 5 + 2) + 2 ≤ 3000; omega, by show (0 + 600 * i + 24 + 72 * 5 + 12) + 12 ≤ 18000; omega⟩ (c1 := 0 + 100 * i + 4 + 12 * 5 + 4) (s1 := 0 + 600 * i + 24 + 72 * 5 + 24) (by omega) (by omega) (fun H locs hP hS hz9 hk9 => ?_)
              clear hz9 hk9
              refine lv_ldc2 (own := RL) (v := 9) hx hb hown (hts _ (List.mem_of_getElem? (i := 2) rfl)) dL_balances_131 ?_
              refine l_cgt (x := (σ.1 4 (i)).toInt64) (y := (9 : Int64)) (X := (σ.1 4 (i)).toInt) (Y := 9) (tgt := 209) hx hb (t64 _) (by decide) dL_balances_134 dL_balances_135 (by decide) (fun c9 => absurd c9 ((by have q := h.sm (c := i) (by omega); omega))) (fun _ => ?_)
              refine lv_aload_n hx hb dL_balances_138 rfl (lv_at hl 6 rfl) ?_
              refine lv_iload hx hb dL_balances_139 (lv_at hl 3 rfl) ?_
              refine lv_iconst (v := nI (3)) hx hb dL_balances_141 (by decide) ?_
              refine l_read (As := [.ref (o), .int (nI (i)), .int (nI (3))]) (rest := []) ⟨hx, hb, hml, hown, hts⟩ (rdc3 hl0 (by omega)) (vx_cwSW 3 hts gL_balances_L_cellOf rfl rfl rfl (by decide +kernel) ⟨Nat.le_of_ble_eq_true rfl, Nat.le_of_ble_eq_true rfl⟩) hK hZ hN hA hP hS rfl hl.1 rfl (Nat.le_of_ble_eq_true rfl) dL_balances_142 ⟨by show (0 + 100 * i + 4 + 12 * 5 + 4) + 2 ≤ 3000; omega, by show (0 + 600 * i + 24 + 72 * 5 + 24) + 12 ≤ 18000; omega⟩ (c1 := 0 + 100 * i + 4 + 12 * 5 + 6) (s1 := 0 + 600 * i + 24 + 72 * 5 + 36) (by omega) (by omega) (fun H locs hP hS hz9 hk9 => ?_)
              clear hz9 hk9
              refine lv_ldc2 (own := RL) (v := 3) hx hb hown (hts _ (List.mem_of_getElem? (i := 3) rfl)) dL_balances_145 ?_
              refine l_cgt (x := (σ.1 5 (i)).toInt64) (y := (3 : Int64)) (X := (σ.1 5 (i)).toInt) (Y := 3) (tgt := 209) hx hb (t64 _) (by decide) dL_balances_148 dL_balances_149 (by decide) (fun c9 => absurd c9 ((by have q := h.sm (c := i) (by omega); omega))) (fun _ => ?_)
              refine lv_aload_n hx hb dL_balances_152 rfl (lv_at hl 6 rfl) ?_
              refine lv_iload hx hb dL_balances_153 (lv_at hl 3 rfl) ?_
              refine lv_bipush (v := nI (6)) hx hb dL_balances_155 (by decide) ?_
              refine l_read (As := [.ref (o), .int (nI (i)), .int (nI (6))]) (rest := []) ⟨hx, hb, hml, hown, hts⟩ (rdc6 hl0 h (by omega)) (vx_cwSW 3 hts gL_balances_L_cellOf rfl rfl rfl (by decide +kernel) ⟨Nat.le_of_ble_eq_true rfl, Nat.le_of_ble_eq_true rfl⟩) hK hZ hN hA hP hS rfl hl.1 rfl (Nat.le_of_ble_eq_true rfl) dL_balances_157 ⟨by show (0 + 100 * i + 4 + 12 * 5 + 6) + 2 ≤ 3000; omega, by show (0 + 600 * i + 24 + 72 * 5 + 36) + 12 ≤ 18000; omega⟩ (c1 := 0 + 100 * i + 4 + 12 * 5 + 8) (s1 := 0 + 600 * i + 24 + 72 * 5 + 48) (by omega) (by omega) (fun H locs hP hS hz9 hk9 => ?_)
              clear hz9 hk9
              refine lv_lconst (v := 0) hx hb dL_balances_160 (by decide) ?_
              refine l_cle (x := (lz σ (i)).toInt64) (y := (0 : Int64)) (X := (lz σ (i)).toInt) (Y := 0) (tgt := 169) hx hb (t64 _) (by decide) dL_balances_161 dL_balances_162 (by decide) (fun c161 => ?_) (fun c161 => ?_)
              · refine lv_iconst (v := nI (0)) hx hb dL_balances_169 (by decide) ?_
                refine lv_aload_n hx hb dL_balances_170 rfl (lv_at hl 6 rfl) ?_
                refine lv_iload hx hb dL_balances_171 (lv_at hl 3 rfl) ?_
                refine lv_iconst (v := nI (1)) hx hb dL_balances_173 (by decide) ?_
                refine l_read (As := [.ref (o), .int (nI (i)), .int (nI (1))]) (rest := [.int (nI (0))]) ⟨hx, hb, hml, hown, hts⟩ (rdc1 hl0 (by omega)) (vx_cwSW 3 hts gL_balances_L_cellOf rfl rfl rfl (by decide +kernel) ⟨Nat.le_of_ble_eq_true rfl, Nat.le_of_ble_eq_true rfl⟩) hK hZ hN hA hP hS rfl hl.1 rfl (Nat.le_of_ble_eq_true rfl) dL_balances_174 ⟨by show (0 + 100 * i + 4 + 12 * 5 + 8) + 2 ≤ 3000; omega, by show (0 + 600 * i + 24 + 72 * 5 + 48) + 12 ≤ 18000; omega⟩ (c1 := 0 + 100 * i + 4 + 12 * 5 + 10) (s1 := 0 + 600 * i + 24 + 72 * 5 + 60) (by omega) (by omega) (fun H locs hP hS hz9 hk9 => ?_)
                clear hz9 hk9
                refine lv_lconst (v := 0) hx hb dL_balances_177 (by decide) ?_
                refine l_cle (x := (σ.1 3 (i)).toInt64) (y := (0 : Int64)) (X := (σ.1 3 (i)).toInt) (Y := 0) (tgt := 186) hx hb (t64 _) (by decide) dL_balances_178 dL_balances_179 (by decide) (fun _ => ?_) (fun c9 => absurd ((by have q := (lz_b (σ := σ) (c := i) (by omega)).2; omega)) c9)
                refine lv_iconst (v := nI (0)) hx hb dL_balances_186 (by decide) ?_
                refine n_icmp_ne (x := 0) (y := 0) (tgt := 209) hx hb (by decide) (by decide) dL_balances_187 (by decide) (fun c9 => absurd (by decide) c9) (fun _ => ?_)
                refine lv_aload_n hx hb dL_balances_190 rfl (lv_at hl 6 rfl) ?_
                refine lv_iload hx hb dL_balances_191 (lv_at hl 3 rfl) ?_
                refine lv_bipush (v := nI (6)) hx hb dL_balances_193 (by decide) ?_
                refine l_read (As := [.ref (o), .int (nI (i)), .int (nI (6))]) (rest := []) ⟨hx, hb, hml, hown, hts⟩ (rdc6 hl0 h (by omega)) (vx_cwSW 3 hts gL_balances_L_cellOf rfl rfl rfl (by decide +kernel) ⟨Nat.le_of_ble_eq_true rfl, Nat.le_of_ble_eq_true rfl⟩) hK hZ hN hA hP hS rfl hl.1 rfl (Nat.le_of_ble_eq_true rfl) dL_balances_195 ⟨by show (0 + 100 * i + 4 + 12 * 5 + 10) + 2 ≤ 3000; omega, by show (0 + 600 * i + 24 + 72 * 5 + 60) + 12 ≤ 18000; omega⟩ (c1 := 0 + 100 * i + 4 + 12 * 5 + 12) (s1 := 0 + 600 * i + 24 + 72 * 5 + 72) (by omega) (by omega) (fun H locs hP hS hz9 hk9 => ?_)
                clear hz9 hk9
                refine lv_ldc2 (own := RL) (v := 25) hx hb hown (hts _ (List.mem_of_getElem? (i := 4) rfl)) dL_balances_198 ?_
                refine l_cgt (x := (lz σ (i)).toInt64) (y := (25 : Int64)) (X := (lz σ (i)).toInt) (Y := 25) (tgt := 209) hx hb (t64 _) (by decide) dL_balances_201 dL_balances_202 (by decide) (fun c9 => absurd c9 ((by have q := (lz_b (σ := σ) (c := i) (by omega)).1; omega))) (fun _ => ?_)
                refine lv_iconst (v := nI (1)) hx hb dL_balances_205 (by decide) ?_
                refine lv_goto (tgt := 210) hx hb dL_balances_206 (by decide) ?_
                refine lv_istore (lv' := [(7, .int (nI (1))), (9, .int (nI (5))), (1, .long (bH σ (5 * i + 5) (i + 1))), (3, .long (bW σ (5 * i + 5) (i + 1))), (8, .int (nI (i))), (5, .long (bC σ (5 * i + 5))), (0, .ref (o))]) hx hb dL_balances_210 hl (by decide) rfl (fun ls hl => ?_)
                refine n_iinc (x := i) (dN := 1) (k := 4) (lv' := [(8, .int (nI (i + 1))), (7, .int (nI (1))), (9, .int (nI (5))), (1, .long (bH σ (5 * i + 5) (i + 1))), (3, .long (bW σ (5 * i + 5) (i + 1))), (5, .long (bC σ (5 * i + 5))), (0, .ref (o))]) hx hb dL_balances_212 hl rfl (by decide) rfl (fun ls hl => ?_)
                refine lv_goto (tgt := 13) hx hb dL_balances_215 (by decide) ?_
                have hl : lv_has ls 10 [(8, .int (nI (i + 1))), (7, .int (nI (1))), (5, .long (bC σ (5 * (i + 1)))), (3, .long (bW σ (5 * (i + 1)) (i + 1))), (1, .long (bH σ (5 * (i + 1)) (i + 1))), (0, .ref (o))] := by
                  rw [(show Value.long (bC σ (5 * (i + 1))) = Value.long (bC σ (5 * i + 5)) from congrArg Value.long (bC_5)), (show Value.long (bW σ (5 * (i + 1)) (i + 1)) = Value.long (bW σ (5 * i + 5) (i + 1)) from congrArg Value.long (bW_5)), (show Value.long (bH σ (5 * (i + 1)) (i + 1)) = Value.long (bH σ (5 * i + 5) (i + 1)) from congrArg Value.long (bH_5))]
                  exact lv_sub hl [0, 1, 5, 4, 3, 6] rfl
                exact W.widen (by omega) (by omega) ((hWW _ _ _ _ _).mp (ih13 (i + 1) (by omega) (by omega) H locs ls hP hS hl))
              · refine lv_iconst (v := nI (1)) hx hb dL_balances_165 (by decide) ?_
                refine lv_goto (tgt := 170) hx hb dL_balances_166 (by decide) ?_
                refine lv_aload_n hx hb dL_balances_170 rfl (lv_at hl 6 rfl) ?_
                refine lv_iload hx hb dL_balances_171 (lv_at hl 3 rfl) ?_
                refine lv_iconst (v := nI (1)) hx hb dL_balances_173 (by decide) ?_
                refine l_read (As := [.ref (o), .int (nI (i)), .int (nI (1))]) (rest := [.int (nI (1))]) ⟨hx, hb, hml, hown, hts⟩ (rdc1 hl0 (by omega)) (vx_cwSW 3 hts gL_balances_L_cellOf rfl rfl rfl (by decide +kernel) ⟨Nat.le_of_ble_eq_true rfl, Nat.le_of_ble_eq_true rfl⟩) hK hZ hN hA hP hS rfl hl.1 rfl (Nat.le_of_ble_eq_true rfl) dL_balances_174 ⟨by show (0 + 100 * i + 4 + 12 * 5 + 8) + 2 ≤ 3000; omega, by show (0 + 600 * i + 24 + 72 * 5 + 48) + 12 ≤ 18000; omega⟩ (c1 := 0 + 100 * i + 4 + 12 * 5 + 10) (s1 := 0 + 600 * i + 24 + 72 * 5 + 60) (by omega) (by omega) (fun H locs hP hS hz9 hk9 => ?_)
                clear hz9 hk9
                refine lv_lconst (v := 0) hx hb dL_balances_177 (by decide) ?_
                refine l_cle (x := (σ.1 3 (i)).toInt64) (y := (0 : Int64)) (X := (σ.1 3 (i)).toInt) (Y := 0) (tgt := 186) hx hb (t64 _) (by decide) dL_balances_178 dL_balances_179 (by decide) (fun c9 => absurd c9 ((by have q := (lz_b (σ := σ) (c := i) (by omega)).2; omega))) (fun _ => ?_)
                refine lv_iconst (v := nI (1)) hx hb dL_balances_182 (by decide) ?_
                refine lv_goto (tgt := 187) hx hb dL_balances_183 (by decide) ?_
                refine n_icmp_ne (x := 1) (y := 1) (tgt := 209) hx hb (by decide) (by decide) dL_balances_187 (by decide) (fun c9 => absurd (by decide) c9) (fun _ => ?_)
                refine lv_aload_n hx hb dL_balances_190 rfl (lv_at hl 6 rfl) ?_
                refine lv_iload hx hb dL_balances_191 (lv_at hl 3 rfl) ?_
                refine lv_bipush (v := nI (6)) hx hb dL_balances_193 (by decide) ?_
                refine l_read (As := [.ref (o), .int (nI (i)), .int (nI (6))]) (rest := []) ⟨hx, hb, hml, hown, hts⟩ (rdc6 hl0 h (by omega)) (vx_cwSW 3 hts gL_balances_L_cellOf rfl rfl rfl (by decide +kernel) ⟨Nat.le_of_ble_eq_true rfl, Nat.le_of_ble_eq_true rfl⟩) hK hZ hN hA hP hS rfl hl.1 rfl (Nat.le_of_ble_eq_true rfl) dL_balances_195 ⟨by show (0 + 100 * i + 4 + 12 * 5 + 10) + 2 ≤ 3000; omega, by show (0 + 600 * i + 24 + 72 * 5 + 60) + 12 ≤ 18000; omega⟩ (c1 := 0 + 100 * i + 4 + 12 * 5 + 12) (s1 := 0 + 600 * i + 24 + 72 * 5 + 72) (by omega) (by omega) (fun H locs hP hS hz9 hk9 => ?_)
                clear hz9 hk9
                refine lv_ldc2 (own := RL) (v := 25) hx hb hown (hts _ (List.mem_of_getElem? (i := 4) rfl)) dL_balances_198 ?_
                refine l_cgt (x := (lz σ (i)).toInt64) (y := (25 : Int64)) (X := (lz σ (i)).toInt) (Y := 25) (tgt := 209) hx hb (t64 _) (by decide) dL_balances_201 dL_balances_202 (by decide) (fun c9 => absurd c9 ((by have q := (lz_b (σ := σ) (c := i) (by omega)).1; omega))) (fun _ => ?_)
                refine lv_iconst (v := nI (1)) hx hb dL_balances_205 (by decide) ?_
                refine lv_goto (tgt := 210) hx hb dL_balances_206 (by decide) ?_
                refine lv_istore (lv' := [(7, .int (nI (1))), (9, .int (nI (5))), (1, .long (bH σ (5 * i + 5) (i + 1))), (3, .long (bW σ (5 * i + 5) (i + 1))), (8, .int (nI (i))), (5, .long (bC σ (5 * i + 5))), (0, .ref (o))]) hx hb dL_balances_210 hl (by decide) rfl (fun ls hl => ?_)
                refine n_iinc (x := i) (dN := 1) (k := 4) (lv' := [(8, .int (nI (i + 1))), (7, .int (nI (1))), (9, .int (nI (5))), (1, .long (bH σ (5 * i + 5) (i + 1))), (3, .long (bW σ (5 * i + 5) (i + 1))), (5, .long (bC σ (5 * i + 5))), (0, .ref (o))]) hx hb dL_balances_212 hl rfl (by decide) rfl (fun ls hl => ?_)
                refine lv_goto (tgt := 13) hx hb dL_balances_215 (by decide) ?_
                have hl : lv_has ls 10 [(8, .int (nI (i + 1))), (7, .int (nI (1))), (5, .long (bC σ (5 * (i + 1)))), (3, .long (bW σ (5 * (i + 1)) (i + 1))), (1, .long (bH σ (5 * (i + 1)) (i + 1))), (0, .ref (o))] := by
                  rw [(show Value.long (bC σ (5 * (i + 1))) = Value.long (bC σ (5 * i + 5)) from congrArg Value.long (bC_5)), (show Value.long (bW σ (5 * (i + 1)) (i + 1)) = Value.long (bW σ (5 * i + 5) (i + 1)) from congrArg Value.long (bW_5)), (show Value.long (bH σ (5 * (i + 1)) (i + 1)) = Value.long (bH σ (5 * i + 5) (i + 1)) from congrArg Value.long (bH_5))]
                  exact lv_sub hl [0, 1, 5, 4, 3, 6] rfl
                exact W.widen (by omega) (by omega) ((hWW _ _ _ _ _).mp (ih13 (i + 1) (by omega) (by omega) H locs ls hP hS hl))
            · refine lv_lload_n hx hb dL_balances_58 rfl (lv_at hl 1 rfl) ?_
              refine lv_aload_n hx hb dL_balances_59 rfl (lv_at hl 6 rfl) ?_
              refine lv_iload hx hb dL_balances_60 (lv_at hl 3 rfl) ?_
              refine lv_iload hx hb dL_balances_62 (lv_at hl 0 rfl) ?_
              refine lv_iconst (v := nI (1)) hx hb dL_balances_64 (by decide) ?_
              refine l_read (As := [.ref (o), .int (nI (i)), .int (nI (y)), .int (nI (1))]) (rest := [.long (bH σ (5 * i + y) (i + 1))]) ⟨hx, hb, hml, hown, hts⟩ (rdl1 hl0 (by omega) (by omega)) (vx_cwSW 4 hts gL_balances_L_layerOf rfl rfl rfl (by decide +kernel) ⟨Nat.le_of_ble_eq_true rfl, Nat.le_of_ble_eq_true rfl⟩) hK hZ hN hA hP hS rfl hl.1 rfl (Nat.le_of_ble_eq_true rfl) dL_balances_65 ⟨by show (0 + 100 * i + 4 + 12 * y) + 3 ≤ 3000; omega, by show (0 + 600 * i + 24 + 72 * y) + 18 ≤ 18000; omega⟩ (c1 := 0 + 100 * i + 4 + 12 * y + 3) (s1 := 0 + 600 * i + 24 + 72 * y + 18) (by omega) (by omega) (fun H locs hP hS hz9 hk9 => ?_)
              clear hz9 hk9
              refine lv_ladd hx hb dL_balances_68 ?_
              refine l_top (show Value.long ((bH σ (5 * i + y) (i + 1)) + ((σ.1 10 (5 * (i) + (y))).toInt64)) = Value.long (bH σ (5 * i + (y + 1)) (i + 1)) from congrArg Value.long (bH_e)) ?_
              refine lv_lstore_n (lv' := [(1, .long (bH σ (5 * i + (y + 1)) (i + 1))), (9, .int (nI (y))), (3, .long (bW σ (5 * i + y) (i + 1))), (8, .int (nI (i))), (7, .int (nI (1))), (5, .long (bC σ (5 * i + y))), (0, .ref (o))]) hx hb dL_balances_69 rfl hl (by decide) rfl (fun ls hl => ?_)
              refine lv_lload_n hx hb dL_balances_70 rfl (lv_at hl 2 rfl) ?_
              refine lv_aload_n hx hb dL_balances_71 rfl (lv_at hl 6 rfl) ?_
              refine lv_iload hx hb dL_balances_72 (lv_at hl 3 rfl) ?_
              refine lv_iload hx hb dL_balances_74 (lv_at hl 1 rfl) ?_
              refine lv_iconst (v := nI (2)) hx hb dL_balances_76 (by decide) ?_
              refine l_read (As := [.ref (o), .int (nI (i)), .int (nI (y)), .int (nI (2))]) (rest := [.long (bW σ (5 * i + y) (i + 1))]) ⟨hx, hb, hml, hown, hts⟩ (rdl2 hl0 (by omega) (by omega)) (vx_cwSW 4 hts gL_balances_L_layerOf rfl rfl rfl (by decide +kernel) ⟨Nat.le_of_ble_eq_true rfl, Nat.le_of_ble_eq_true rfl⟩) hK hZ hN hA hP hS rfl hl.1 rfl (Nat.le_of_ble_eq_true rfl) dL_balances_77 ⟨by show (0 + 100 * i + 4 + 12 * y + 3) + 3 ≤ 3000; omega, by show (0 + 600 * i + 24 + 72 * y + 18) + 18 ≤ 18000; omega⟩ (c1 := 0 + 100 * i + 4 + 12 * y + 6) (s1 := 0 + 600 * i + 24 + 72 * y + 36) (by omega) (by omega) (fun H locs hP hS hz9 hk9 => ?_)
              clear hz9 hk9
              refine lv_aload_n hx hb dL_balances_80 rfl (lv_at hl 6 rfl) ?_
              refine lv_iload hx hb dL_balances_81 (lv_at hl 3 rfl) ?_
              refine lv_iload hx hb dL_balances_83 (lv_at hl 1 rfl) ?_
              refine lv_iconst (v := nI (3)) hx hb dL_balances_85 (by decide) ?_
              refine l_read (As := [.ref (o), .int (nI (i)), .int (nI (y)), .int (nI (3))]) (rest := [.long ((σ.1 8 (5 * (i) + (y))).toInt64), .long (bW σ (5 * i + y) (i + 1))]) ⟨hx, hb, hml, hown, hts⟩ (rdl3 hl0 (by omega) (by omega)) (vx_cwSW 4 hts gL_balances_L_layerOf rfl rfl rfl (by decide +kernel) ⟨Nat.le_of_ble_eq_true rfl, Nat.le_of_ble_eq_true rfl⟩) hK hZ hN hA hP hS rfl hl.1 rfl (Nat.le_of_ble_eq_true rfl) dL_balances_86 ⟨by show (0 + 100 * i + 4 + 12 * y + 6) + 3 ≤ 3000; omega, by show (0 + 600 * i + 24 + 72 * y + 36) + 18 ≤ 18000; omega⟩ (c1 := 0 + 100 * i + 4 + 12 * y + 9) (s1 := 0 + 600 * i + 24 + 72 * y + 54) (by omega) (by omega) (fun H locs hP hS hz9 hk9 => ?_)
              clear hz9 hk9
              refine lv_ladd hx hb dL_balances_89 ?_
              refine lv_ladd hx hb dL_balances_90 ?_
              refine l_top (show Value.long ((bW σ (5 * i + y) (i + 1)) + (((σ.1 8 (5 * (i) + (y))).toInt64) + ((σ.1 9 (5 * (i) + (y))).toInt64))) = Value.long (bW σ (5 * i + (y + 1)) (i + 1)) from congrArg Value.long (bW_u)) ?_
              refine lv_lstore_n (lv' := [(3, .long (bW σ (5 * i + (y + 1)) (i + 1))), (1, .long (bH σ (5 * i + (y + 1)) (i + 1))), (9, .int (nI (y))), (8, .int (nI (i))), (7, .int (nI (1))), (5, .long (bC σ (5 * i + y))), (0, .ref (o))]) hx hb dL_balances_91 rfl hl (by decide) rfl (fun ls hl => ?_)
              refine lv_lload hx hb dL_balances_92 (lv_at hl 5 rfl) ?_
              refine lv_aload_n hx hb dL_balances_94 rfl (lv_at hl 6 rfl) ?_
              refine lv_iload hx hb dL_balances_95 (lv_at hl 3 rfl) ?_
              refine lv_iload hx hb dL_balances_97 (lv_at hl 2 rfl) ?_
              refine lv_iconst (v := nI (4)) hx hb dL_balances_99 (by decide) ?_
              refine l_read (As := [.ref (o), .int (nI (i)), .int (nI (y)), .int (nI (4))]) (rest := [.long (bC σ (5 * i + y))]) ⟨hx, hb, hml, hown, hts⟩ (rdl4 hl0 (by omega) (by omega)) (vx_cwSW 4 hts gL_balances_L_layerOf rfl rfl rfl (by decide +kernel) ⟨Nat.le_of_ble_eq_true rfl, Nat.le_of_ble_eq_true rfl⟩) hK hZ hN hA hP hS rfl hl.1 rfl (Nat.le_of_ble_eq_true rfl) dL_balances_100 ⟨by show (0 + 100 * i + 4 + 12 * y + 9) + 3 ≤ 3000; omega, by show (0 + 600 * i + 24 + 72 * y + 54) + 18 ≤ 18000; omega⟩ (c1 := 0 + 100 * i + 4 + 12 * y + 12) (s1 := 0 + 600 * i + 24 + 72 * y + 72) (by omega) (by omega) (fun H locs hP hS hz9 hk9 => ?_)
              clear hz9 hk9
              refine lv_ladd hx hb dL_balances_103 ?_
              refine l_top (show Value.long ((bC σ (5 * i + y)) + ((σ.1 11 (5 * (i) + (y))).toInt64)) = Value.long (bC σ (5 * i + (y + 1))) from congrArg Value.long (bC_c)) ?_
              refine lv_lstore (lv' := [(5, .long (bC σ (5 * i + (y + 1)))), (3, .long (bW σ (5 * i + (y + 1)) (i + 1))), (1, .long (bH σ (5 * i + (y + 1)) (i + 1))), (9, .int (nI (y))), (8, .int (nI (i))), (7, .int (nI (1))), (0, .ref (o))]) hx hb dL_balances_104 hl (by decide) rfl (fun ls hl => ?_)
              refine n_iinc (x := y) (dN := 1) (k := 3) (lv' := [(9, .int (nI (y + 1))), (5, .long (bC σ (5 * i + (y + 1)))), (3, .long (bW σ (5 * i + (y + 1)) (i + 1))), (1, .long (bH σ (5 * i + (y + 1)) (i + 1))), (8, .int (nI (i))), (7, .int (nI (1))), (0, .ref (o))]) hx hb dL_balances_106 hl rfl (by decide) rfl (fun ls hl => ?_)
              refine lv_goto (tgt := 52) hx hb dL_balances_109 (by decide) ?_
              have hl : lv_has ls 10 [(9, .int (nI (y + 1))), (1, .long (bH σ (5 * i + (y + 1)) (i + 1))), (3, .long (bW σ (5 * i + (y + 1)) (i + 1))), (8, .int (nI (i))), (7, .int (nI (1))), (5, .long (bC σ (5 * i + (y + 1)))), (0, .ref (o))] := lv_sub hl [0, 3, 2, 4, 5, 1, 6] rfl
              exact W.widen (by omega) (by omega) ((hWW _ _ _ _ _).mp (ih52 (y + 1) (by omega) (by omega) H locs ls hP hS hl))
        have hl : lv_has ls 10 [(9, .int (nI (0))), (1, .long (bH σ (5 * i + 0) (i + 1))), (3, .long (bW σ (5 * i + 0) (i + 1))), (8, .int (nI (i))), (7, .int (nI (1))), (5, .long (bC σ (5 * i + 0))), (0, .ref (o))] := by
          rw [(show Value.long (bH σ (5 * i + 0) (i + 1)) = Value.long (bH σ (5 * i) (i + 1)) from congrArg Value.long (rfl)), (show Value.long (bW σ (5 * i + 0) (i + 1)) = Value.long (bW σ (5 * i) (i + 1)) from congrArg Value.long (rfl)), (show Value.long (bC σ (5 * i + 0)) = Value.long (bC σ (5 * i)) from congrArg Value.long (rfl))]
          exact lv_sub hl [0, 1, 2, 3, 4, 5, 6] rfl
        exact W.widen (by omega) (by omega) ((hWW _ _ _ _ _).mp (L52 (5 + 1) 0 (Nat.zero_le _) (by omega) H locs ls hP hS hl))
  have hl : lv_has ls 10 [(8, .int (nI (0))), (7, .int (nI (1))), (5, .long (bC σ (5 * 0))), (3, .long (bW σ (5 * 0) 0)), (1, .long (bH σ (5 * 0) 0)), (0, .ref (o))] := by
    rw [(show Value.long (bC σ (5 * 0)) = Value.long ((0 : Int64)) from congrArg Value.long (bC_0)), (show Value.long (bW σ (5 * 0) 0) = Value.long ((0 : Int64)) from congrArg Value.long (bW_0)), (show Value.long (bH σ (5 * 0) 0) = Value.long ((0 : Int64)) from congrArg Value.long (bH_0))]
    exact lv_sub hl [0, 1, 2, 3, 4, 5] rfl
  exact W.widen (by omega) (by omega) ((hWW _ _ _ _ _).mp (L13 (25 + 1) 0 (Nat.zero_le _) (by omega) H locs ls hP hS hl))
