/-! the law from its entry -/
theorem l_arr {s : State} {args : Array Value} {ty : FieldType} (h : (Cond.arrayClass ty).before args s = true) : ∃ cA : ClassId, ArrOfT s cA ty ∧ s.vm.findClass ("[" ++ ty.toString) = some cA := by
  obtain ⟨cA, kA, comp, h1, h2, h3⟩ := Cond.arrayClass_spec h
  exact ⟨cA, fun n z => ⟨fun k h => (by cases h), kA, h2, comp, h3⟩, h1⟩
theorem l_arrO {s : State} {args : Array Value} {C : String} (h : (Cond.arrayOver (.object C)).before args s = true) : ∃ cA : ClassId, ArrOfT s cA (.object C) ∧ va_RA s cA (.object C) := by
  obtain ⟨comp, cA, kA, h1, h2, h3, h4, h5⟩ := Cond.arrayOver_spec h
  exact ⟨cA, fun n z => ⟨fun k h => (by cases h), kA, h3, comp, h4⟩, kA, comp, h3, h4, h1, h5⟩
theorem l_ids {s : State} {G : va_G} {a0 a1 a2 a3 a4 a5 : ClassId} (hc : ∀ (k : Nat) (q : vw_C), vwCl[k]? = some q → u_Kn s q.1 q.2.1 q.2.2 (G.1 k) (G.2 k)) (h0 : ArrOfT s a0 .int ∧ s.vm.findClass ("[" ++ FieldType.int.toString) = some a0) (h1 : ArrOfT s a1 .boolean ∧ s.vm.findClass ("[" ++ FieldType.boolean.toString) = some a1) (h2 : ArrOfT s a2 .long ∧ s.vm.findClass ("[" ++ FieldType.long.toString) = some a2)
    (h3 : ArrOfT s a3 (.object "Wakeground$Cell") ∧ va_RA s a3 (.object "Wakeground$Cell")) (h4 : ArrOfT s a4 (.object "Wakeground$Layer") ∧ va_RA s a4 (.object "Wakeground$Layer")) (h5 : ArrOfT s a5 (.object "java/lang/Object") ∧ va_RA s a5 (.object "java/lang/Object")) : ∃ ids : Nat → ClassId, va_K G vwCl (cTy ids) s := by
  refine ⟨fun k => if k = 0 then a0 else if k = 1 then a1 else if k = 2 then a2 else if k = 3 then a3 else if k = 4 then a4 else a5, hc, fun k q hq => ?_⟩
  match k, hq with
  | 0, hq => cases hq; exact h0
  | 1, hq => cases hq; exact h1
  | 2, hq => cases hq; exact h2
  | 3, hq => cases hq; exact h3
  | 4, hq => cases hq; exact h4
  | 5, hq => cases hq; exact h5
  | k + 6, hq => simp [cTy] at hq
set_option maxHeartbeats 4000000 in
set_option maxRecDepth 100000 in
theorem law_world {s : State} {b : Nat} (hts : ∀ w ∈ lw_tbl, w.before #[Value.ref b] s = true) (hgv : (Jvm.Cond.and given_1 narrow_1).before #[Value.ref b] s = true) : ∃ (G : va_G) (ids : Nat → ClassId) (tS tE : Nat), va_K G vwCl (cTy ids) s ∧ cST tS tE (fun q => s.heap.size ≤ q) s s.heap ∧ lNc s := by
  have hq := flat_of_before _ hgv
  have ht : ∀ (i : Nat) (w : Cond), tables_1[i]? = some w → w.before #[Value.ref b] s = true := fun i w h => hts w (List.mem_append_right _ (List.mem_of_getElem? h))
  have hA : ∀ a : Nat, a < s.heap.size → ¬ (fun q : Nat => s.heap.size ≤ q) a := fun a h => Nat.not_le.mpr h
  obtain ⟨c0, i0, k0⟩ := u_known (C := RJx4a65c) (T := TJx4a65c) (N := 3) (n := 3) hts inJx4a65c (ht 33 (.instantiable RJx4a65c 3) (by decide +kernel))
  obtain ⟨c1, i1, k1⟩ := u_known (C := RX0) (T := TX0) (N := 5) (n := 5) hts inX0 (ht 574 (.instantiable RX0 5) (by decide +kernel))
  obtain ⟨c2, i2, k2⟩ := u_known (C := RX1) (T := TX1) (N := 7) (n := 7) hts inX1 (ht 58 (.instantiable RX1 7) (by decide +kernel))
  obtain ⟨c3, i3, k3⟩ := u_known (C := RX2) (T := TX2) (N := 4) (n := 4) hts inX2 (ht 605 (.instantiable RX2 4) (by decide +kernel))
  obtain ⟨c4, i4, k4⟩ := u_known (C := RX3) (T := TX3) (N := 5) (n := 5) hts inX3 (ht 488 (.instantiable RX3 5) (by decide +kernel))
  obtain ⟨c5, i5, k5⟩ := u_known (C := RX4) (T := TX4) (N := 4) (n := 4) hts inX4 (ht 65 (.instantiable RX4 4) (by decide +kernel))
  obtain ⟨c6, i6, k6⟩ := u_known (C := RX5) (T := TX5) (N := 10) (n := 10) hts inX5 (ht 23 (.instantiable RX5 10) (by decide +kernel))
  obtain ⟨G, hc⟩ : ∃ G : va_G, ∀ (k : Nat) (q : vw_C), vwCl[k]? = some q → u_Kn s q.1 q.2.1 q.2.2 (G.1 k) (G.2 k) := by
    refine ⟨(fun k => if k = 0 then c0 else if k = 1 then c1 else if k = 2 then c2 else if k = 3 then c3 else if k = 4 then c4 else if k = 5 then c5 else c6, fun k => if k = 0 then i0 else if k = 1 then i1 else if k = 2 then i2 else if k = 3 then i3 else if k = 4 then i4 else if k = 5 then i5 else i6), ?_⟩
    intro k q hq
    match k, hq with
    | 0, hq => cases hq; exact k0
    | 1, hq => cases hq; exact k1
    | 2, hq => cases hq; exact k2
    | 3, hq => cases hq; exact k3
    | 4, hq => cases hq; exact k4
    | 5, hq => cases hq; exact k5
    | 6, hq => cases hq; exact k6
    | k + 7, hq => simp [vwCl] at hq
  obtain ⟨a0, b0⟩ := l_arr (ht 90 (.arrayClass .int) (by decide +kernel))
  obtain ⟨a1, b1⟩ := l_arr (ht 91 (.arrayClass .boolean) (by decide +kernel))
  obtain ⟨a2, b2⟩ := l_arr (ht 89 (.arrayClass .long) (by decide +kernel))
  obtain ⟨a3, b3⟩ := l_arrO (ht 31 (.arrayOver (.object "Wakeground$Cell")) (by decide +kernel))
  obtain ⟨a4, b4⟩ := l_arrO (ht 64 (.arrayOver (.object "Wakeground$Layer")) (by decide +kernel))
  obtain ⟨a5, b5⟩ := l_arrO (ht 559 (.arrayOver (.object "java/lang/Object")) (by decide +kernel))
  obtain ⟨ids, hK⟩ := l_ids hc b0 b1 b2 b3 b4 b5
  have hini5 : (Cond.initialized "Wakeground").before #[Value.ref b] s = true := ht 1 _ (by decide +kernel)
  have hiniT : (Cond.initialized "java/lang/Throwable").before #[Value.ref b] s = true := ht 7 _ (by decide +kernel)
  obtain ⟨tS, eS, hTS⟩ := va_Tof (tm := .static "Wakeground" "STEPS" "[I") (ty := .int) (N := 4) (f := fun j => .int (cpS j)) (by decide) (hq (.arrayOf (.static "Wakeground" "STEPS" "[I") .int) (by decide +kernel)) (va_eqt (hq (.eq (.length (.static "Wakeground" "STEPS" "[I")) (.int 4)) (by decide +kernel))) (fun j hj => by
    rcases (show j = 0 ∨ j = 1 ∨ j = 2 ∨ j = 3 by omega) with rfl | rfl | rfl | rfl
    · exact va_eqt (hq (.eq (.elem (.static "Wakeground" "STEPS" "[I") (.int 0)) (.int (-5))) (by decide +kernel))
    · exact va_eqt (hq (.eq (.elem (.static "Wakeground" "STEPS" "[I") (.int 1)) (.int (-1))) (by decide +kernel))
    · exact va_eqt (hq (.eq (.elem (.static "Wakeground" "STEPS" "[I") (.int 2)) (.int 1)) (by decide +kernel))
    · exact va_eqt (hq (.eq (.elem (.static "Wakeground" "STEPS" "[I") (.int 3)) (.int 5)) (by decide +kernel))) hA
  obtain ⟨tE, eE, hTE⟩ := va_Tof (tm := .static "java/util/ArrayList" "DEFAULTCAPACITY_EMPTY_ELEMENTDATA" "[Ljava/lang/Object;") (ty := .object "java/lang/Object") (N := 0) (f := fun _ => .null) (by decide) (hq (.arrayOf (.static "java/util/ArrayList" "DEFAULTCAPACITY_EMPTY_ELEMENTDATA" "[Ljava/lang/Object;") (.object "java/lang/Object")) (by decide +kernel)) (va_eqt (hq (.eq (.length (.static "java/util/ArrayList" "DEFAULTCAPACITY_EMPTY_ELEMENTDATA" "[Ljava/lang/Object;")) (.int 0)) (by decide +kernel))) (fun j hj => absurd hj (by omega)) hA
  have hWD : cWD s := by
    refine ⟨fun w hw => ?_, va_Mi.of (hq (.isRef (.mirror "[Ljava/lang/Object;")) (by decide +kernel)), va_AO.of (ht 559 (.arrayOver (.object "java/lang/Object")) (by decide +kernel)), va_AO.of (ht 31 (.arrayOver (.object "Wakeground$Cell")) (by decide +kernel)), va_AO.of (ht 64 (.arrayOver (.object "Wakeground$Layer")) (by decide +kernel))⟩
    refine va_Nw.of (xNW_tab w hw) (A := #[Value.ref b]) ?_
    unfold xNW at hw
    simp only [List.mem_cons, List.not_mem_nil, or_false] at hw
    rcases hw with rfl | rfl | rfl | rfl | rfl | rfl | rfl | rfl | rfl | rfl
    · exact ht 220 _ (by decide +kernel)
    · exact ht 286 _ (by decide +kernel)
    · exact ht 322 _ (by decide +kernel)
    · exact ht 221 _ (by decide +kernel)
    · exact ht 223 _ (by decide +kernel)
    · exact ht 225 _ (by decide +kernel)
    · exact ht 750 _ (by decide +kernel)
    · exact ht 751 _ (by decide +kernel)
    · exact ht 752 _ (by decide +kernel)
    · exact ht 756 _ (by decide +kernel)
  refine ⟨G, ids, tS, tE, hK, ⟨⟨va_Zof (ht 189 (.laysStatic "Wakeground" "STEPS" "[I") (by decide +kernel)) hini5 eS hA, hTS⟩, ⟨va_Zof (ht 45 (.laysStatic "java/util/ArrayList" "DEFAULTCAPACITY_EMPTY_ELEMENTDATA" "[Ljava/lang/Object;") (by decide +kernel)) (ht 4 _ (by decide +kernel)) eE hA, hTE⟩, vx_Zqof (ht 245 (.laysStatic "java/lang/Throwable" "UNASSIGNED_STACK" "[Ljava/lang/StackTraceElement;") (by decide +kernel)) hiniT (hq (.isRef (.static "java/lang/Throwable" "UNASSIGNED_STACK" "[Ljava/lang/StackTraceElement;")) (by decide +kernel)) hA, vx_Zqof (ht 247 (.laysStatic "java/lang/Throwable" "SUPPRESSED_SENTINEL" "Ljava/util/List;") (by decide +kernel)) hiniT (hq (.isRef (.static "java/lang/Throwable" "SUPPRESSED_SENTINEL" "Ljava/util/List;")) (by decide +kernel)) hA, hWD⟩, va_Nc.of (hq (.not (.castable "java/lang/IllegalArgumentException" "java/lang/IndexOutOfBoundsException")) (by decide +kernel)), va_Nc.of (hq (.not (.castable "java/lang/IllegalStateException" "java/lang/IndexOutOfBoundsException")) (by decide +kernel)), va_Nc.of (hq (.not (.castable "java/lang/IllegalStateException" "java/lang/IllegalArgumentException")) (by decide +kernel))⟩
