/-! the law from its entry -/
theorem k_init_1 : k_init_s.1 = s00.1 := rfl
theorem k_init_N (L : Nat) : cpN k_init_s L = 0 := by
  unfold cpN
  rw [k_init_1]
  rcases cpF_3 L with q | q | q <;> rw [q, s00_0 (by decide)] <;> rfl
theorem k_init_U {x : Nat × Nat} (hx : cpU k_init_s x) : 5 ≤ x.1 := by
  have h9 := cpU_lt hx
  obtain ⟨k, j⟩ := x
  simp only at h9
  show 5 ≤ k
  rcases (show k = 0 ∨ k = 1 ∨ k = 2 ∨ k = 3 ∨ k = 4 ∨ 5 ≤ k by omega) with rfl | rfl | rfl | rfl | rfl | h
  · have q : j < 3 ∧ cpN k_init_s j ≠ 0 := hx
    exact absurd (k_init_N j) q.2
  · have q : j < cpN k_init_s 0 := hx
    rw [k_init_N] at q
    omega
  · have q : j < cpN k_init_s 1 := hx
    rw [k_init_N] at q
    omega
  · have q : j < cpN k_init_s 1 := hx
    rw [k_init_N] at q
    omega
  · have q : j < cpN k_init_s 2 := hx
    rw [k_init_N] at q
    omega
  · exact h
theorem k_init_pic {G : va_G} {ids : Nat → ClassId} {o z z1 tE : Nat} {H H1 : Heap} {d : Nat → Nat → Nat} (hP : CPic G ids o z tE d (fun _ => 0) k_init_s H) (hz : o + 184 ≤ z1) (hk : ∀ q : Nat, q < o + 184 → q < H.size → H1[q]? = H[q]?) : lPic G ids o z1 tE k_init_s H1 := by
  refine ⟨d, fun _ => 0, ⟨fun x hx => (hP.1 x hx).kept (hk _ (cpA_fix hx (k_init_U hx)).2 (hP.lt hx)), fun x hx h5 => absurd (k_init_U hx) (by omega), fun x y hx _ h5 => absurd (k_init_U hx) (by omega), hz, hP.2.2.2.2⟩, fun _ _ => Or.inl rfl⟩
theorem l_arr {s : State} {args : Array Value} {ty : FieldType} (h : (Cond.arrayClass ty).before args s = true) : ∃ cA : ClassId, ArrOfT s cA ty ∧ s.vm.findClass ("[" ++ ty.toString) = some cA := by
  obtain ⟨cA, kA, comp, h1, h2, h3⟩ := Cond.arrayClass_spec h
  exact ⟨cA, fun n z => ⟨fun k h => (by cases h), kA, h2, comp, h3⟩, h1⟩
theorem l_arrO {s : State} {args : Array Value} {C : String} (h : (Cond.arrayOver (.object C)).before args s = true) : ∃ cA : ClassId, ArrOfT s cA (.object C) ∧ va_RA s cA (.object C) := by
  obtain ⟨comp, cA, kA, h1, h2, h3, h4, h5⟩ := Cond.arrayOver_spec h
  exact ⟨cA, fun n z => ⟨fun k h => (by cases h), kA, h3, comp, h4⟩, kA, comp, h3, h4, h1, h5⟩
theorem l_ids {s : State} {G : va_G} {a0 a1 a2 a3 a4 a5 : ClassId} (hc : ∀ (k : Nat) (q : vw_C), vwCl[k]? = some q → u_Kn s q.1 q.2.1 q.2.2 (G.1 k) (G.2 k)) (h0 : ArrOfT s a0 .int ∧ s.vm.findClass ("[" ++ FieldType.int.toString) = some a0) (h1 : ArrOfT s a1 .boolean ∧ s.vm.findClass ("[" ++ FieldType.boolean.toString) = some a1) (h2 : ArrOfT s a2 .long ∧ s.vm.findClass ("[" ++ FieldType.long.toString) = some a2)
    (h3 : ArrOfT s a3 (.object "Wakeground$Cell") ∧ va_RA s a3 (.object "Wakeground$Cell")) (h4 : ArrOfT s a4 (.object "Wakeground$Layer") ∧ va_RA s a4 (.object "Wakeground$Layer")) (h5 : ArrOfT s a5 (.object "java/lang/Object") ∧ va_RA s a5 (.object "java/lang/Object")) : ∃ ids : Nat → ClassId, va_K G vwCl (cTy ids) s := by
  refine ⟨fun k => if k = 0 then a0 else if k = 1 then a1 else if k = 2 then a2 else if k = 3 then a3 else if k = 4 then a4 else a5, hc, fun k q hq => ?_⟩
  match k, hq with
  | 0, hq => cases hq; exact h0
  | 1, hq => cases hq; exact h1
  | 2, hq => cases hq; exact h2
  | 3, hq => cases hq; exact h3
  | 4, hq => cases hq; exact h4
  | 5, hq => cases hq; exact h5
  | k + 6, hq => simp [cTy] at hq
set_option maxHeartbeats 4000000 in
set_option maxRecDepth 100000 in
theorem law_world {s : State} {b : Nat} (hts : ∀ w ∈ lw_tbl, w.before #[Value.ref b] s = true) (hgv : (Jvm.Cond.and given_1 narrow_1).before #[Value.ref b] s = true) : ∃ (G : va_G) (ids : Nat → ClassId) (tS tE : Nat), va_K G vwCl (cTy ids) s ∧ cST tS tE (fun q => s.heap.size ≤ q) s s.heap ∧ lNc s := by
  have hq := flat_of_before _ hgv
  have ht : ∀ (i : Nat) (w : Cond), tables_1[i]? = some w → w.before #[Value.ref b] s = true := fun i w h => hts w (List.mem_append_right _ (List.mem_of_getElem? h))
  have hA : ∀ a : Nat, a < s.heap.size → ¬ (fun q : Nat => s.heap.size ≤ q) a := fun a h => Nat.not_le.mpr h
  obtain ⟨c0, i0, k0⟩ := u_known (C := RJx4a65c) (T := TJx4a65c) (N := 3) (n := 3) hts inJx4a65c (ht 34 (.instantiable RJx4a65c 3) (by decide +kernel))
  obtain ⟨c1, i1, k1⟩ := u_known (C := RX0) (T := TX0) (N := 5) (n := 5) hts inX0 (ht 568 (.instantiable RX0 5) (by decide +kernel))
  obtain ⟨c2, i2, k2⟩ := u_known (C := RX1) (T := TX1) (N := 7) (n := 7) hts inX1 (ht 59 (.instantiable RX1 7) (by decide +kernel))
  obtain ⟨c3, i3, k3⟩ := u_known (C := RX2) (T := TX2) (N := 4) (n := 4) hts inX2 (ht 599 (.instantiable RX2 4) (by decide +kernel))
  obtain ⟨c4, i4, k4⟩ := u_known (C := RX3) (T := TX3) (N := 5) (n := 5) hts inX3 (ht 481 (.instantiable RX3 5) (by decide +kernel))
  obtain ⟨c5, i5, k5⟩ := u_known (C := RX4) (T := TX4) (N := 4) (n := 4) hts inX4 (ht 66 (.instantiable RX4 4) (by decide +kernel))
  obtain ⟨c6, i6, k6⟩ := u_known (C := RX5) (T := TX5) (N := 10) (n := 10) hts inX5 (ht 24 (.instantiable RX5 10) (by decide +kernel))
  obtain ⟨c7, i7, k7⟩ := u_known (C := RX6) (T := TX6) (N := 32) (n := 32) hts inX6 (ht 717 (.instantiable RX6 32) (by decide +kernel))
  obtain ⟨G, hc⟩ : ∃ G : va_G, ∀ (k : Nat) (q : vw_C), vwCl[k]? = some q → u_Kn s q.1 q.2.1 q.2.2 (G.1 k) (G.2 k) := by
    refine ⟨(fun k => if k = 0 then c0 else if k = 1 then c1 else if k = 2 then c2 else if k = 3 then c3 else if k = 4 then c4 else if k = 5 then c5 else if k = 6 then c6 else c7, fun k => if k = 0 then i0 else if k = 1 then i1 else if k = 2 then i2 else if k = 3 then i3 else if k = 4 then i4 else if k = 5 then i5 else if k = 6 then i6 else i7), ?_⟩
    intro k q hq
    match k, hq with
    | 0, hq => cases hq; exact k0
    | 1, hq => cases hq; exact k1
    | 2, hq => cases hq; exact k2
    | 3, hq => cases hq; exact k3
    | 4, hq => cases hq; exact k4
    | 5, hq => cases hq; exact k5
    | 6, hq => cases hq; exact k6
    | 7, hq => cases hq; exact k7
    | k + 8, hq => simp [vwCl] at hq
  obtain ⟨a0, b0⟩ := l_arr (ht 91 (.arrayClass .int) (by decide +kernel))
  obtain ⟨a1, b1⟩ := l_arr (ht 92 (.arrayClass .boolean) (by decide +kernel))
  obtain ⟨a2, b2⟩ := l_arr (ht 90 (.arrayClass .long) (by decide +kernel))
  obtain ⟨a3, b3⟩ := l_arrO (ht 32 (.arrayOver (.object "Wakeground$Cell")) (by decide +kernel))
  obtain ⟨a4, b4⟩ := l_arrO (ht 65 (.arrayOver (.object "Wakeground$Layer")) (by decide +kernel))
  obtain ⟨a5, b5⟩ := l_arrO (ht 553 (.arrayOver (.object "java/lang/Object")) (by decide +kernel))
  obtain ⟨ids, hK⟩ := l_ids hc b0 b1 b2 b3 b4 b5
  have hini5 : (Cond.initialized "Wakeground").before #[Value.ref b] s = true := ht 1 _ (by decide +kernel)
  have hiniT : (Cond.initialized "java/lang/Throwable").before #[Value.ref b] s = true := ht 8 _ (by decide +kernel)
  obtain ⟨tS, eS, hTS⟩ := va_Tof (tm := .static "Wakeground" "STEPS" "[I") (ty := .int) (N := 4) (f := fun j => .int (cpS j)) (by decide) (hq (.arrayOf (.static "Wakeground" "STEPS" "[I") .int) (by decide +kernel)) (va_eqt (hq (.eq (.length (.static "Wakeground" "STEPS" "[I")) (.int 4)) (by decide +kernel))) (fun j hj => by
    rcases (show j = 0 ∨ j = 1 ∨ j = 2 ∨ j = 3 by omega) with rfl | rfl | rfl | rfl
    · exact va_eqt (hq (.eq (.elem (.static "Wakeground" "STEPS" "[I") (.int 0)) (.int (-5))) (by decide +kernel))
    · exact va_eqt (hq (.eq (.elem (.static "Wakeground" "STEPS" "[I") (.int 1)) (.int (-1))) (by decide +kernel))
    · exact va_eqt (hq (.eq (.elem (.static "Wakeground" "STEPS" "[I") (.int 2)) (.int 1)) (by decide +kernel))
    · exact va_eqt (hq (.eq (.elem (.static "Wakeground" "STEPS" "[I") (.int 3)) (.int 5)) (by decide +kernel))) hA
  obtain ⟨tE, eE, hTE⟩ := va_Tof (tm := .static "java/util/ArrayList" "DEFAULTCAPACITY_EMPTY_ELEMENTDATA" "[Ljava/lang/Object;") (ty := .object "java/lang/Object") (N := 0) (f := fun _ => .null) (by decide) (hq (.arrayOf (.static "java/util/ArrayList" "DEFAULTCAPACITY_EMPTY_ELEMENTDATA" "[Ljava/lang/Object;") (.object "java/lang/Object")) (by decide +kernel)) (va_eqt (hq (.eq (.length (.static "java/util/ArrayList" "DEFAULTCAPACITY_EMPTY_ELEMENTDATA" "[Ljava/lang/Object;")) (.int 0)) (by decide +kernel))) (fun j hj => absurd hj (by omega)) hA
  have hWD : cWD s := by
    refine ⟨fun w hw => ?_, va_Mi.of (hq (.isRef (.mirror "[Ljava/lang/Object;")) (by decide +kernel)), va_AO.of (ht 553 (.arrayOver (.object "java/lang/Object")) (by decide +kernel)), va_AO.of (ht 32 (.arrayOver (.object "Wakeground$Cell")) (by decide +kernel)), va_AO.of (ht 65 (.arrayOver (.object "Wakeground$Layer")) (by decide +kernel))⟩
    refine va_Nw.of (xNW_tab w hw) (A := #[Value.ref b]) ?_
    unfold xNW at hw
    simp only [List.mem_cons, List.not_mem_nil, or_false] at hw
    rcases hw with rfl | rfl | rfl | rfl | rfl | rfl | rfl | rfl | rfl | rfl
    · exact ht 216 _ (by decide +kernel)
    · exact ht 282 _ (by decide +kernel)
    · exact ht 316 _ (by decide +kernel)
    · exact ht 217 _ (by decide +kernel)
    · exact ht 219 _ (by decide +kernel)
    · exact ht 221 _ (by decide +kernel)
    · exact ht 1000 _ (by decide +kernel)
    · exact ht 1001 _ (by decide +kernel)
    · exact ht 1002 _ (by decide +kernel)
    · exact ht 1006 _ (by decide +kernel)
  refine ⟨G, ids, tS, tE, hK, ⟨⟨va_Zof (ht 190 (.laysStatic "Wakeground" "STEPS" "[I") (by decide +kernel)) hini5 eS hA, hTS⟩, ⟨va_Zof (ht 46 (.laysStatic "java/util/ArrayList" "DEFAULTCAPACITY_EMPTY_ELEMENTDATA" "[Ljava/lang/Object;") (by decide +kernel)) (ht 4 _ (by decide +kernel)) eE hA, hTE⟩, vx_Zqof (ht 241 (.laysStatic "java/lang/Throwable" "UNASSIGNED_STACK" "[Ljava/lang/StackTraceElement;") (by decide +kernel)) hiniT (hq (.isRef (.static "java/lang/Throwable" "UNASSIGNED_STACK" "[Ljava/lang/StackTraceElement;")) (by decide +kernel)) hA, vx_Zqof (ht 243 (.laysStatic "java/lang/Throwable" "SUPPRESSED_SENTINEL" "Ljava/util/List;") (by decide +kernel)) hiniT (hq (.isRef (.static "java/lang/Throwable" "SUPPRESSED_SENTINEL" "Ljava/util/List;")) (by decide +kernel)) hA, hWD⟩, va_Nc.of (hq (.not (.castable "java/lang/IllegalArgumentException" "java/lang/IndexOutOfBoundsException")) (by decide +kernel)), va_Nc.of (hq (.not (.castable "java/lang/IllegalStateException" "java/lang/IndexOutOfBoundsException")) (by decide +kernel)), va_Nc.of (hq (.not (.castable "java/lang/IllegalStateException" "java/lang/IllegalArgumentException")) (by decide +kernel))⟩
set_option maxHeartbeats 4000000 in
set_option maxRecDepth 100000 in
theorem law_start {Rel : Sg → Sg → Prop} (hok : lp_ok Rel) (h_ground : lp_ground Rel) (h_moss : lp_moss Rel) (h_pass : lp_pass Rel) (h_fire : lp_fire Rel) (h_breach : lp_breach Rel) (h_house : lp_house Rel) (h_borehole : lp_borehole Rel) (h_claim : lp_claim Rel) (h_month : lp_month Rel) (h_cellOf : lp_cellOf Rel) (h_layerOf : lp_layerOf Rel) (h_neighbour : lp_neighbour Rel) (h_lakes : lp_lakes Rel) (h_houseOf : lp_houseOf Rel) (h_reading : lp_reading Rel) (h_claimOf : lp_claimOf Rel) (h_claimAnew : lp_claimAnew Rel) (h_balance : lp_balance Rel) (h_air : lp_air Rel) (hR0 : Rel k_init_s m_init_s) {p : Program} {e : Env} {s : State} {m : MethodId} {below : List Frame} {meth : Method} {c : Code} (l : Launch) (hflags : l.flags = flags0) {b L : Nat} {xs : Nat → Int32} (hL : L ≤ 3584) (C0 : lw_At p s m meth c b L xs) : W p l e room_1 s m #[Value.ref b] below meth c s.heap [] 0 0 (lw_Z below #[Value.ref b] s) (entryFrame m ([Value.ref b] : List Value).toArray 8) := by
  obtain ⟨hx, hb, hr, hml, hown, hts, hX, hbl, hlocks, hgv⟩ := id C0
  have hl0 : l.stackTraces = false := by
    unfold Launch.stackTraces
    rw [hflags]
    decide +kernel
  have htw : ∀ w ∈ wsL_law, w.before #[Value.ref b] s = true := fun w h => hts w (wsL_law_in w h)
  have ht : ∀ (i : Nat) (w : Cond), tables_1[i]? = some w → w.before #[Value.ref b] s = true := fun i w h => hts w (List.mem_append_right _ (List.mem_of_getElem? h))
  obtain ⟨G, ids, tS, tE, hK, hZ, hN⟩ := law_world hts hgv
  have hNest : va_Nw (.methodLinkNest RX5 43 yX1_init "Wakeground") s := va_Nw.of rfl (ht 60 _ (by decide +kernel))
  have hS : va_S (fun q : Nat => s.heap.size ≤ q) s.heap s.heap [] := va_S.rf
  have hl := lv_entry ([.ref b]) (n := 8) (Nat.le_of_ble_eq_true rfl)
  rw [lg_entry_eq]
  generalize (lg_sl ([.ref b]) ++ List.replicate (8 - (lg_sl ([.ref b])).length) Slot.unset).toArray = ls at hl ⊢
  have hl : lv_has ls 8 [(0, .ref b)] := hl
  refine x_new (C := RX5) (T := TX5) (N := 10) (ci := 6) (fs := [.null, .null, .null, .null, .int (0), .null, .null, .long (0), .null, .null]) (c1 := 1) (s1 := 10) (q := s.heap.size) hx hb htw inlX5 tyX5 tyX5_ok hown (List.mem_of_getElem? (i := 0) rfl) (List.mem_of_getElem? (i := 1) rfl) (List.mem_of_getElem? (i := 2) rfl) hK hS rfl (fun j hj => by rcases (show j = 0 ∨ j = 1 ∨ j = 2 ∨ j = 3 ∨ j = 4 ∨ j = 5 ∨ j = 6 ∨ j = 7 ∨ j = 8 ∨ j = 9 by omega) with rfl | rfl | rfl | rfl | rfl | rfl | rfl | rfl | rfl | rfl <;> rfl) (Nat.le_of_ble_eq_true rfl) (Nat.le_of_ble_eq_true rfl) dL_law_0 rfl rfl rfl (fun H hm hh hS => ?_)
  obtain ⟨o, ho⟩ : ∃ o : Nat, o = s.heap.size := ⟨_, rfl⟩
  have hsz : H.size = o + 1 := by rw [hm.1, ho]
  rw [← ho] at hh ⊢
  clear hm
  refine lv_dup hx hb dL_law_3 rfl ?_
  refine va_callv (va_runI (As := []) (rest := [.ref o]) ⟨hx, hb, hml, hown, htw⟩ (cn_X5_init l G ids tS tE o) (cwI 0 htw gL_law_X5_init rfl rfl rfl (htw _ (List.mem_of_getElem? (i := 2) rfl)) (htw _ (List.mem_of_getElem? (i := 7) rfl)) (htw _ (List.mem_of_getElem? (i := 8) rfl)) rfl (by decide +kernel) ⟨Nat.le_of_ble_eq_true rfl, Nat.le_of_ble_eq_true rfl⟩) ⟨yPn_blind, fun U hU hW => ⟨rfl, by rw [hU]; exact ⟨hsz, hh⟩, va_K.moved hW.alike hK, (cST_at hZ hS hU hW.alike).narrow (fun q h => by rcases h with h | h <;> (show s.heap.size ≤ q; omega)), va_Nw.warmM hW hNest⟩⟩ rfl rfl hl.1 rfl (lv_room (Nat.le_of_ble_eq_true rfl)) dL_law_4 ⟨Nat.le_of_ble_eq_true rfl, Nat.le_of_ble_eq_true rfl⟩) hS (fun q _ h => by rcases h with h | h <;> (show s.heap.size ≤ q; omega)) (fun q h => by rcases h with h | h <;> (show s.heap.size ≤ q; omega)) (fun u t H1 locs ht9 hvm hw hP hz1 hk hS => ?_)
  rw [ht9] at hP
  clear hk hh
  refine lv_astore_n (lv' := [(1, .ref o), (0, .ref b)]) hx hb dL_law_7 rfl hl (by decide) rfl (fun ls hl => ?_)
  have hlt : o + 184 ≤ H1.size := by
    have q := hP.lt (x := (8, 124)) (show 124 < 125 by decide)
    have q2 : cpA o (fun _ _ => 0) (8, 124) = o + 9 + 7 * (124 / 5) + 2 + 124 % 5 := rfl
    rw [q2] at q
    omega
  refine x_new (C := RX6) (T := TX6) (N := 32) (ci := 7) (fs := [.int (0), .int (0), .null, .null, .null, .null, .null, .null, .null, .null, .null, .null, .null, .int (0), .null, .null, .null, .null, .null, .int (0), .null, .null, .null, .null, .int (0), .null, .long (0), .long (0), .long (0), .long (0), .long (0), .long (0)]) (c1 := 185) (s1 := 931) (q := H1.size) hx hb htw inlX6 tyX6 tyX6_ok hown (List.mem_of_getElem? (i := 3) rfl) (List.mem_of_getElem? (i := 4) rfl) (List.mem_of_getElem? (i := 5) rfl) hK hS rfl (fun j hj => by rcases (show j = 0 ∨ j = 1 ∨ j = 2 ∨ j = 3 ∨ j = 4 ∨ j = 5 ∨ j = 6 ∨ j = 7 ∨ j = 8 ∨ j = 9 ∨ j = 10 ∨ j = 11 ∨ j = 12 ∨ j = 13 ∨ j = 14 ∨ j = 15 ∨ j = 16 ∨ j = 17 ∨ j = 18 ∨ j = 19 ∨ j = 20 ∨ j = 21 ∨ j = 22 ∨ j = 23 ∨ j = 24 ∨ j = 25 ∨ j = 26 ∨ j = 27 ∨ j = 28 ∨ j = 29 ∨ j = 30 ∨ j = 31 by omega) with rfl | rfl | rfl | rfl | rfl | rfl | rfl | rfl | rfl | rfl | rfl | rfl | rfl | rfl | rfl | rfl | rfl | rfl | rfl | rfl | rfl | rfl | rfl | rfl | rfl | rfl | rfl | rfl | rfl | rfl | rfl | rfl <;> rfl) (Nat.le_of_ble_eq_true rfl) (Nat.le_of_ble_eq_true rfl) dL_law_8 rfl rfl rfl (fun H2 hm hh hS => ?_)
  obtain ⟨r, hr9⟩ : ∃ r : Nat, r = H1.size := ⟨_, rfl⟩
  have hsz2 : H2.size = r + 1 := by rw [hm.1, hr9]
  rw [← hr9] at hh ⊢
  refine lv_dup hx hb dL_law_11 rfl ?_
  refine w_init (As := []) (rest := [.ref r]) (c1 := 206) (s1 := 31826) (fun q h => by show s.heap.size ≤ q; have h2 : r ≤ q := h; omega) ⟨hx, hb, hml, hown, htw⟩ (cm_init l G ids tS tE r (r + 1) rfl) (cwI 0 htw gL_law_X6_init rfl rfl rfl (htw _ (List.mem_of_getElem? (i := 5) rfl)) (htw _ (List.mem_of_getElem? (i := 79) rfl)) (htw _ (List.mem_of_getElem? (i := 80) rfl)) rfl (by decide +kernel) ⟨Nat.le_of_ble_eq_true rfl, Nat.le_of_ble_eq_true rfl⟩) hK hZ ⟨hsz2, hh⟩ hS rfl hl.1 rfl (Nat.le_of_ble_eq_true rfl) dL_law_12 ⟨Nat.le_of_ble_eq_true rfl, Nat.le_of_ble_eq_true rfl⟩ rfl rfl (fun H3 locs3 hM hz3 hk3 hS => ?_)
  refine lv_astore_n (lv' := [(2, .ref r), (1, .ref o), (0, .ref b)]) hx hb dL_law_15 rfl hl (by decide) rfl (fun ls hl => ?_)
  refine lv_iconst (v := nI 1) hx hb dL_law_16 (by decide) ?_
  refine x_newa (atype := .long) (ty := .long) (cI := ids 2) (N' := 1) (a0 := (1, .inr (.inl (fun _ => 0)))) (c1 := 207) (s1 := 31827) (q := H3.size) hx hb (htw _ (List.mem_of_getElem? (i := 6) rfl)) rfl hK 2 (cTy_nm hK).2.2 hS rfl (nI_pos (by omega)) (nI_clamp (by omega)) (by decide) (Nat.le_of_ble_eq_true rfl) (Nat.le_of_ble_eq_true rfl) dL_law_17 rfl rfl rfl (fun H4 hm4 hq4 hS => ?_)
  have hqr : r + 22 ≤ H3.size := by
    have q := (hM 21 _ rfl).lt
    have q2 : aM r 25 = r + 21 := rfl
    have q3 : aM r 25 < H3.size := q
    omega
  refine lv_astore_n (lv' := [(3, .ref H3.size), (2, .ref r), (1, .ref o), (0, .ref b)]) hx hb dL_law_19 rfl hl (by decide) rfl (fun ls hl => ?_)
  refine lv_iconst (v := nI 0) hx hb dL_law_20 (by decide) ?_
  refine lv_istore (lv' := [(4, .int (nI 0)), (3, .ref H3.size), (2, .ref r), (1, .ref o), (0, .ref b)]) hx hb dL_law_21 hl (by decide) rfl (fun ls hl => ?_)
  have hPL : lPic G ids o (H3.size + 1) tE k_init_s H4 := k_init_pic hP (by omega) (fun q h1 h2 => by rw [hm4.2 q (by omega), hk3 q (by omega) (by show ¬ r ≤ q; omega), hm.2 q (by omega)])
  have hOL : ∃ v, lOut G ids H3.size v H4 := ⟨_, _, hq4, rfl⟩
  have hML : va_P G vwCl (wm (ids 0) (ids 1) (aM r) m_init_s) H4 := fun k q h => (hM k q h).kept (hm4.2 _ (hM k q h).lt)
  have CX : lX p l s m meth c b L xs G ids tS tE o r H3.size (H3.size + 1) := ⟨hx, hb, hml, hown, htw, hX, hbl, hl0, hK, hZ, hN, by omega, by omega, hqr, rfl, hL⟩
  refine W.widen (k := 300 + 10 * 0) (n := 40000 + 4000 * 0) (by decide) (by decide) ?_
  exact law_loop CX hok h_ground h_moss h_pass h_fire h_breach h_house h_borehole h_claim h_month h_cellOf h_layerOf h_neighbour h_lakes h_houseOf h_reading h_claimOf h_claimAnew h_balance h_air (fun H locs cells slots ls hc hs hS => by
    refine lv_iconst (v := nI 1) hx hb dL_law_1340 (by decide) ?_
    refine va_forget (fun q h => hS.2.2 q h) ?_
    refine W.widen (k := 601024) (n := 7293034) hc hs ?_
    exact lw_ret hx hb hr hlocks dL_law_1341) (L + 1) 0 0 rfl (Nat.zero_le _) (by omega) H4 _ ls k_init_s m_init_s hR0 hPL hOL hML hS hl
