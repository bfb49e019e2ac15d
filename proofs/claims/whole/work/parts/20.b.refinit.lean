/-! the reference's constructor -/
def aL : List Nat := [0, 0, 1, 2, 3, 4, 5, 6, 7, 8, 9, 10, 11, 0, 12, 13, 14, 15, 16, 0, 17, 18, 19, 20, 0, 21, 0, 0, 0, 0, 0, 0]
/-- where the reference's object made at b keeps its arrays -/
def aM (b k : Nat) : Nat := b + (aL[k]?).getD 0
def μ0 : Sg := (fun _ _ => 0, fun k => if k = 26 then -125000 else if k = 27 then 800 else if k = 28 then 50000 else 0)
theorem aM_D (b : Nat) (cI cZ : ClassId) (σ : Sg) : va_D (fun q : Nat => b ≤ q) (wm cI cZ (aM b) σ) := by
  have hq : ∀ (k : Nat) (q : Nat × va_E), (wm cI cZ (aM b) σ)[k]? = some q → q.1 = b + k := by
    intro k q h
    rcases (show k = 0 ∨ k = 1 ∨ k = 2 ∨ k = 3 ∨ k = 4 ∨ k = 5 ∨ k = 6 ∨ k = 7 ∨ k = 8 ∨ k = 9 ∨ k = 10 ∨ k = 11 ∨ k = 12 ∨ k = 13 ∨ k = 14 ∨ k = 15 ∨ k = 16 ∨ k = 17 ∨ k = 18 ∨ k = 19 ∨ k = 20 ∨ k = 21 ∨ 22 ≤ k by omega) with rfl | rfl | rfl | rfl | rfl | rfl | rfl | rfl | rfl | rfl | rfl | rfl | rfl | rfl | rfl | rfl | rfl | rfl | rfl | rfl | rfl | rfl | h22
    · cases h; rfl
    · cases h; rfl
    · cases h; rfl
    · cases h; rfl
    · cases h; rfl
    · cases h; rfl
    · cases h; rfl
    · cases h; rfl
    · cases h; rfl
    · cases h; rfl
    · cases h; rfl
    · cases h; rfl
    · cases h; rfl
    · cases h; rfl
    · cases h; rfl
    · cases h; rfl
    · cases h; rfl
    · cases h; rfl
    · cases h; rfl
    · cases h; rfl
    · cases h; rfl
    · cases h; rfl
    · have : k < (wm cI cZ (aM b) σ).length := (List.getElem?_eq_some_iff.mp h).1
      exact absurd this (by show ¬ k < 22; omega)
  refine ⟨fun i j x y hi hj he => ?_, fun k q hk => ?_⟩
  · have h1 := hq i x hi
    have h2 := hq j y hj
    omega
  · have h1 := hq k q hk
    show b ≤ q.1
    omega
def m_init_x196_s (z196 : Sg) : Sg := z196
def m_init_x219 (i196 : Nat) (z196 : Sg) (s_3 : Sg) (s_6 : Sg) (z219 : Sg) : Sg := z219
def m_init_k285 (i196 : Nat) (i219 : Nat) (z219 : Sg) (s_11 : Sg) (x_16 : Int32) (s_20 : Sg) (s_23 : Sg) (s_26 : Sg) : Sg := s_26
def m_init_k276 (i196 : Nat) (i219 : Nat) (z219 : Sg) (s_11 : Sg) (x_16 : Int32) (s_20 : Sg) (s_23 : Sg) : Sg := (m_init_k285 i196 i219 z219 s_11 x_16 s_20 s_23 (si s_23 11 ((5 * i196) + i219) (nI (400))))
def m_init_k267 (i196 : Nat) (i219 : Nat) (z219 : Sg) (s_11 : Sg) (x_16 : Int32) (s_20 : Sg) : Sg := (m_init_k276 i196 i219 z219 s_11 x_16 s_20 (si s_20 10 ((5 * i196) + i219) ((-1000))))
def m_init_j266 (i196 : Nat) (i219 : Nat) (z219 : Sg) (s_11 : Sg) (x_16 : Int32) : Sg := (m_init_k267 i196 i219 z219 s_11 x_16 (si s_11 9 ((5 * i196) + i219) (x_16)))
def m_init_k237 (i196 : Nat) (i219 : Nat) (z219 : Sg) (s_11 : Sg) : Sg := (m_init_j266 i196 i219 z219 s_11 (if i219 = 2 then nI (3) else (if i219 = 1 then nI (2) else (if i219 = 3 then nI (2) else nI (0)))))
def m_init_b219 (i196 : Nat) (i219 : Nat) (z219 : Sg) : Sg := (m_init_k237 i196 i219 z219 (si z219 8 ((5 * i196) + i219) (nI (5))))
def m_init_k217 (i196 : Nat) (z196 : Sg) (s_3 : Sg) (s_6 : Sg) : Sg := (m_init_x219 i196 z196 s_3 s_6 (lp (m_init_b219 i196) 5 s_6))
def m_init_k210 (i196 : Nat) (z196 : Sg) (s_3 : Sg) : Sg := (m_init_k217 i196 z196 s_3 (si s_3 5 (i196) (nI (2))))
def m_init_b196  (i196 : Nat) (z196 : Sg) : Sg := (m_init_k210 i196 z196 (si z196 2 (i196) (nI (100))))
def m_init_s : Sg := (m_init_x196_s (lp (m_init_b196) 25 μ0))
set_option maxHeartbeats 4000000 in
set_option maxRecDepth 100000 in
theorem cm_init (l : Launch) (G : va_G) (ids : Nat → ClassId) (tS tE b n0 : Nat) (hbn : n0 = b + 1) : wV l yX6_init wsX6_init ({ frames := 1, cells := 21, slots := 30895, locals := 20 } : Room) G ids tS tE [.ref b] (fun H : Heap => H.size = n0 ∧ va_at G vwCl (b, .inr (7, [.int (0), .int (0), .null, .null, .null, .null, .null, .null, .null, .null, .null, .null, .null, .int (0), .null, .null, .null, .null, .null, .int (0), .null, .null, .null, .null, .int (0), .null, .long (0), .long (0), .long (0), .long (0), .long (0), .long (0)])) H) (fun H : Heap => va_P G vwCl (wm (ids 0) (ids 1) (aM b) m_init_s) H) (fun q : Nat => b ≤ q) 21 30895 := by
  unfold wV
  refine Met.ofW (cc := cX6_init) (maxL := 4) (ret := none) (by decide) rfl ?_
  intro p e s m args below meth c s₁ B hml hv
  obtain ⟨rfl, ⟨hsz, hh⟩, hK, hZ⟩ := hv
  have hx := B.exec
  have hb := B.bytes
  have hr := B.returns
  have hts := atoms_spec (ws := wsX6_init) B.pre
  have hown : s.vm.findClass RX6 = some m.cls := findClass_of_methodNamed B.named
  have hlocks := B.notSynchronized
  have hin2 := (name_of_methodNamed B.named B.method).1
  have hS : va_S (fun q : Nat => b ≤ q) s.heap s.heap [] := va_S.rf
  have hin : ∀ w ∈ wsX60, w ∈ wsX6_init := fun w h => List.mem_cons_of_mem _ (List.mem_append_right _ h)
  have hl := lv_entry ([.ref b]) (n := 4) (Nat.le_of_ble_eq_true rfl)
  rw [lg_entry_eq]
  generalize (lg_sl ([.ref b]) ++ List.replicate (4 - (lg_sl ([.ref b])).length) Slot.unset).toArray = ls at hl ⊢
  have hl : lv_has ls 4 [(0, .ref b)] := hl
  have lt_hh : b < n0 := by omega
  refine lv_aload_n hx hb dX6_init_0 rfl (lv_at hl 0 rfl) ?_
  refine W.objInit hx hb hown (hts _ (List.mem_of_getElem? (i := 1) rfl)) (hts _ (List.mem_of_getElem? (i := 2) rfl)) (hts _ (List.mem_of_getElem? (i := 3) rfl)) rfl (by rw [hml]; exact hl.1) rfl dX6_init_1 (Nat.le_of_ble_eq_true rfl) (Nat.le_of_ble_eq_true rfl) ?_
  refine lv_aload_n hx hb dX6_init_4 rfl (lv_at hl 0 rfl) ?_
  refine lv_bipush (v := nI (25)) hx hb dX6_init_5 (by decide) ?_
  refine x_newa (atype := .int) (ty := .int) (cI := ids 0) (N' := 25) (a0 := (25, .inl (fun _ => 0))) (c1 := 1) (s1 := 25) (q := n0) hx hb (hts _ (List.mem_of_getElem? (i := 4) rfl)) rfl hK 0 (cTy_nm hK).1 hS rfl (nI_pos (by omega)) (nI_clamp (by omega)) (by first | decide | (show _ * 4 ≤ _; omega)) (Nat.le_of_ble_eq_true rfl) (Nat.le_of_ble_eq_true rfl) dX6_init_7 rfl rfl hsz (fun H hm hc1 hS => ?_)
  replace hh := hh.kept (hm.2 _ hh.lt)
  replace hsz : H.size = n0 + 1 := by rw [hm.1, hsz]
  clear hm
  refine x_putF (C := RX6) (T := TX6) (N := 32) (ci := 7) (fs := [.int (0), .int (0), .null, .null, .null, .null, .null, .null, .null, .null, .null, .null, .null, .int (0), .null, .null, .null, .null, .null, .int (0), .null, .null, .null, .null, .int (0), .null, .long (0), .long (0), .long (0), .long (0), .long (0), .long (0)]) (ty := (.array .int)) (v := .ref (n0)) hx hb hts hin tyX6 tyX6_ok nmX6 hown hK hh (by first | exact rfl | (show b ≤ b; omega)) hS rfl 2 (by decide) (index := 7) (List.mem_of_getElem? (i := 5) rfl) rfl hin2 rfl (by decide +kernel) rfl rfl (Nat.le_of_ble_eq_true rfl) dX6_init_9 (fun H locs h9 ho hS => ?_)
  replace hh : va_at G vwCl (b, .inr (7, [.int (0), .int (0), .ref (n0), .null, .null, .null, .null, .null, .null, .null, .null, .null, .null, .int (0), .null, .null, .null, .null, .null, .int (0), .null, .null, .null, .null, .int (0), .null, .long (0), .long (0), .long (0), .long (0), .long (0), .long (0)])) H := h9
  replace hc1 := hc1.only ho (show n0 ≠ b by omega)
  replace hsz : H.size = n0 + 1 := ho.1.trans hsz
  clear ho
  refine lv_aload_n hx hb dX6_init_12 rfl (lv_at hl 0 rfl) ?_
  refine lv_bipush (v := nI (25)) hx hb dX6_init_13 (by decide) ?_
  refine x_newa (atype := .int) (ty := .int) (cI := ids 0) (N' := 25) (a0 := (25, .inl (fun _ => 0))) (c1 := 2) (s1 := 50) (q := n0 + 1) hx hb (hts _ (List.mem_of_getElem? (i := 4) rfl)) rfl hK 0 (cTy_nm hK).1 hS rfl (nI_pos (by omega)) (nI_clamp (by omega)) (by first | decide | (show _ * 4 ≤ _; omega)) (Nat.le_of_ble_eq_true rfl) (Nat.le_of_ble_eq_true rfl) dX6_init_15 rfl rfl hsz (fun H hm hc2 hS => ?_)
  replace hh := hh.kept (hm.2 _ hh.lt)
  replace hc1 := hc1.kept (hm.2 _ hc1.lt)
  replace hsz : H.size = n0 + 2 := by rw [hm.1, hsz]
  clear hm
  refine x_putF (C := RX6) (T := TX6) (N := 32) (ci := 7) (fs := [.int (0), .int (0), .ref (n0), .null, .null, .null, .null, .null, .null, .null, .null, .null, .null, .int (0), .null, .null, .null, .null, .null, .int (0), .null, .null, .null, .null, .int (0), .null, .long (0), .long (0), .long (0), .long (0), .long (0), .long (0)]) (ty := (.array .int)) (v := .ref (n0 + 1)) hx hb hts hin tyX6 tyX6_ok nmX6 hown hK hh (by first | exact rfl | (show b ≤ b; omega)) hS rfl 3 (by decide) (index := 13) (List.mem_of_getElem? (i := 6) rfl) rfl hin2 rfl (by decide +kernel) rfl rfl (Nat.le_of_ble_eq_true rfl) dX6_init_17 (fun H locs h9 ho hS => ?_)
  replace hh : va_at G vwCl (b, .inr (7, [.int (0), .int (0), .ref (n0), .ref (n0 + 1), .null, .null, .null, .null, .null, .null, .null, .null, .null, .int (0), .null, .null, .null, .null, .null, .int (0), .null, .null, .null, .null, .int (0), .null, .long (0), .long (0), .long (0), .long (0), .long (0), .long (0)])) H := h9
  replace hc1 := hc1.only ho (show n0 ≠ b by omega)
  replace hc2 := hc2.only ho (show n0 + 1 ≠ b by omega)
  replace hsz : H.size = n0 + 2 := ho.1.trans hsz
  clear ho
  refine lv_aload_n hx hb dX6_init_20 rfl (lv_at hl 0 rfl) ?_
  refine lv_bipush (v := nI (25)) hx hb dX6_init_21 (by decide) ?_
  refine x_newa (atype := .int) (ty := .int) (cI := ids 0) (N' := 25) (a0 := (25, .inl (fun _ => 0))) (c1 := 3) (s1 := 75) (q := n0 + 2) hx hb (hts _ (List.mem_of_getElem? (i := 4) rfl)) rfl hK 0 (cTy_nm hK).1 hS rfl (nI_pos (by omega)) (nI_clamp (by omega)) (by first | decide | (show _ * 4 ≤ _; omega)) (Nat.le_of_ble_eq_true rfl) (Nat.le_of_ble_eq_true rfl) dX6_init_23 rfl rfl hsz (fun H hm hc3 hS => ?_)
  replace hh := hh.kept (hm.2 _ hh.lt)
  replace hc1 := hc1.kept (hm.2 _ hc1.lt)
  replace hc2 := hc2.kept (hm.2 _ hc2.lt)
  replace hsz : H.size = n0 + 3 := by rw [hm.1, hsz]
  clear hm
  refine x_putF (C := RX6) (T := TX6) (N := 32) (ci := 7) (fs := [.int (0), .int (0), .ref (n0), .ref (n0 + 1), .null, .null, .null, .null, .null, .null, .null, .null, .null, .int (0), .null, .null, .null, .null, .null, .int (0), .null, .null, .null, .null, .int (0), .null, .long (0), .long (0), .long (0), .long (0), .long (0), .long (0)]) (ty := (.array .int)) (v := .ref (n0 + 2)) hx hb hts hin tyX6 tyX6_ok nmX6 hown hK hh (by first | exact rfl | (show b ≤ b; omega)) hS rfl 4 (by decide) (index := 16) (List.mem_of_getElem? (i := 7) rfl) rfl hin2 rfl (by decide +kernel) rfl rfl (Nat.le_of_ble_eq_true rfl) dX6_init_25 (fun H locs h9 ho hS => ?_)
  replace hh : va_at G vwCl (b, .inr (7, [.int (0), .int (0), .ref (n0), .ref (n0 + 1), .ref (n0 + 2), .null, .null, .null, .null, .null, .null, .null, .null, .int (0), .null, .null, .null, .null, .null, .int (0), .null, .null, .null, .null, .int (0), .null, .long (0), .long (0), .long (0), .long (0), .long (0), .long (0)])) H := h9
  replace hc1 := hc1.only ho (show n0 ≠ b by omega)
  replace hc2 := hc2.only ho (show n0 + 1 ≠ b by omega)
  replace hc3 := hc3.only ho (show n0 + 2 ≠ b by omega)
  replace hsz : H.size = n0 + 3 := ho.1.trans hsz
  clear ho
  refine lv_aload_n hx hb dX6_init_28 rfl (lv_at hl 0 rfl) ?_
  refine lv_bipush (v := nI (25)) hx hb dX6_init_29 (by decide) ?_
  refine x_newa (atype := .int) (ty := .int) (cI := ids 0) (N' := 25) (a0 := (25, .inl (fun _ => 0))) (c1 := 4) (s1 := 100) (q := n0 + 3) hx hb (hts _ (List.mem_of_getElem? (i := 4) rfl)) rfl hK 0 (cTy_nm hK).1 hS rfl (nI_pos (by omega)) (nI_clamp (by omega)) (by first | decide | (show _ * 4 ≤ _; omega)) (Nat.le_of_ble_eq_true rfl) (Nat.le_of_ble_eq_true rfl) dX6_init_31 rfl rfl hsz (fun H hm hc4 hS => ?_)
  replace hh := hh.kept (hm.2 _ hh.lt)
  replace hc1 := hc1.kept (hm.2 _ hc1.lt)
  replace hc2 := hc2.kept (hm.2 _ hc2.lt)
  replace hc3 := hc3.kept (hm.2 _ hc3.lt)
  replace hsz : H.size = n0 + 4 := by rw [hm.1, hsz]
  clear hm
  refine x_putF (C := RX6) (T := TX6) (N := 32) (ci := 7) (fs := [.int (0), .int (0), .ref (n0), .ref (n0 + 1), .ref (n0 + 2), .null, .null, .null, .null, .null, .null, .null, .null, .int (0), .null, .null, .null, .null, .null, .int (0), .null, .null, .null, .null, .int (0), .null, .long (0), .long (0), .long (0), .long (0), .long (0), .long (0)]) (ty := (.array .int)) (v := .ref (n0 + 3)) hx hb hts hin tyX6 tyX6_ok nmX6 hown hK hh (by first | exact rfl | (show b ≤ b; omega)) hS rfl 5 (by decide) (index := 19) (List.mem_of_getElem? (i := 8) rfl) rfl hin2 rfl (by decide +kernel) rfl rfl (Nat.le_of_ble_eq_true rfl) dX6_init_33 (fun H locs h9 ho hS => ?_)
  replace hh : va_at G vwCl (b, .inr (7, [.int (0), .int (0), .ref (n0), .ref (n0 + 1), .ref (n0 + 2), .ref (n0 + 3), .null, .null, .null, .null, .null, .null, .null, .int (0), .null, .null, .null, .null, .null, .int (0), .null, .null, .null, .null, .int (0), .null, .long (0), .long (0), .long (0), .long (0), .long (0), .long (0)])) H := h9
  replace hc1 := hc1.only ho (show n0 ≠ b by omega)
  replace hc2 := hc2.only ho (show n0 + 1 ≠ b by omega)
  replace hc3 := hc3.only ho (show n0 + 2 ≠ b by omega)
  replace hc4 := hc4.only ho (show n0 + 3 ≠ b by omega)
  replace hsz : H.size = n0 + 4 := ho.1.trans hsz
  clear ho
  refine lv_aload_n hx hb dX6_init_36 rfl (lv_at hl 0 rfl) ?_
  refine lv_bipush (v := nI (25)) hx hb dX6_init_37 (by decide) ?_
  refine x_newa (atype := .int) (ty := .int) (cI := ids 0) (N' := 25) (a0 := (25, .inl (fun _ => 0))) (c1 := 5) (s1 := 125) (q := n0 + 4) hx hb (hts _ (List.mem_of_getElem? (i := 4) rfl)) rfl hK 0 (cTy_nm hK).1 hS rfl (nI_pos (by omega)) (nI_clamp (by omega)) (by first | decide | (show _ * 4 ≤ _; omega)) (Nat.le_of_ble_eq_true rfl) (Nat.le_of_ble_eq_true rfl) dX6_init_39 rfl rfl hsz (fun H hm hc5 hS => ?_)
  replace hh := hh.kept (hm.2 _ hh.lt)
  replace hc1 := hc1.kept (hm.2 _ hc1.lt)
  replace hc2 := hc2.kept (hm.2 _ hc2.lt)
  replace hc3 := hc3.kept (hm.2 _ hc3.lt)
  replace hc4 := hc4.kept (hm.2 _ hc4.lt)
  replace hsz : H.size = n0 + 5 := by rw [hm.1, hsz]
  clear hm
  refine x_putF (C := RX6) (T := TX6) (N := 32) (ci := 7) (fs := [.int (0), .int (0), .ref (n0), .ref (n0 + 1), .ref (n0 + 2), .ref (n0 + 3), .null, .null, .null, .null, .null, .null, .null, .int (0), .null, .null, .null, .null, .null, .int (0), .null, .null, .null, .null, .int (0), .null, .long (0), .long (0), .long (0), .long (0), .long (0), .long (0)]) (ty := (.array .int)) (v := .ref (n0 + 4)) hx hb hts hin tyX6 tyX6_ok nmX6 hown hK hh (by first | exact rfl | (show b ≤ b; omega)) hS rfl 6 (by decide) (index := 22) (List.mem_of_getElem? (i := 9) rfl) rfl hin2 rfl (by decide +kernel) rfl rfl (Nat.le_of_ble_eq_true rfl) dX6_init_41 (fun H locs h9 ho hS => ?_)
  replace hh : va_at G vwCl (b, .inr (7, [.int (0), .int (0), .ref (n0), .ref (n0 + 1), .ref (n0 + 2), .ref (n0 + 3), .ref (n0 + 4), .null, .null, .null, .null, .null, .null, .int (0), .null, .null, .null, .null, .null, .int (0), .null, .null, .null, .null, .int (0), .null, .long (0), .long (0), .long (0), .long (0), .long (0), .long (0)])) H := h9
  replace hc1 := hc1.only ho (show n0 ≠ b by omega)
  replace hc2 := hc2.only ho (show n0 + 1 ≠ b by omega)
  replace hc3 := hc3.only ho (show n0 + 2 ≠ b by omega)
  replace hc4 := hc4.only ho (show n0 + 3 ≠ b by omega)
  replace hc5 := hc5.only ho (show n0 + 4 ≠ b by omega)
  replace hsz : H.size = n0 + 5 := ho.1.trans hsz
  clear ho
  refine lv_aload_n hx hb dX6_init_44 rfl (lv_at hl 0 rfl) ?_
  refine lv_bipush (v := nI (25)) hx hb dX6_init_45 (by decide) ?_
  refine x_newa (atype := .int) (ty := .int) (cI := ids 0) (N' := 25) (a0 := (25, .inl (fun _ => 0))) (c1 := 6) (s1 := 150) (q := n0 + 5) hx hb (hts _ (List.mem_of_getElem? (i := 4) rfl)) rfl hK 0 (cTy_nm hK).1 hS rfl (nI_pos (by omega)) (nI_clamp (by omega)) (by first | decide | (show _ * 4 ≤ _; omega)) (Nat.le_of_ble_eq_true rfl) (Nat.le_of_ble_eq_true rfl) dX6_init_47 rfl rfl hsz (fun H hm hc6 hS => ?_)
  replace hh := hh.kept (hm.2 _ hh.lt)
  replace hc1 := hc1.kept (hm.2 _ hc1.lt)
  replace hc2 := hc2.kept (hm.2 _ hc2.lt)
  replace hc3 := hc3.kept (hm.2 _ hc3.lt)
  replace hc4 := hc4.kept (hm.2 _ hc4.lt)
  replace hc5 := hc5.kept (hm.2 _ hc5.lt)
  replace hsz : H.size = n0 + 6 := by rw [hm.1, hsz]
  clear hm
  refine x_putF (C := RX6) (T := TX6) (N := 32) (ci := 7) (fs := [.int (0), .int (0), .ref (n0), .ref (n0 + 1), .ref (n0 + 2), .ref (n0 + 3), .ref (n0 + 4), .null, .null, .null, .null, .null, .null, .int (0), .null, .null, .null, .null, .null, .int (0), .null, .null, .null, .null, .int (0), .null, .long (0), .long (0), .long (0), .long (0), .long (0), .long (0)]) (ty := (.array .int)) (v := .ref (n0 + 5)) hx hb hts hin tyX6 tyX6_ok nmX6 hown hK hh (by first | exact rfl | (show b ≤ b; omega)) hS rfl 7 (by decide) (index := 25) (List.mem_of_getElem? (i := 10) rfl) rfl hin2 rfl (by decide +kernel) rfl rfl (Nat.le_of_ble_eq_true rfl) dX6_init_49 (fun H locs h9 ho hS => ?_)
  replace hh : va_at G vwCl (b, .inr (7, [.int (0), .int (0), .ref (n0), .ref (n0 + 1), .ref (n0 + 2), .ref (n0 + 3), .ref (n0 + 4), .ref (n0 + 5), .null, .null, .null, .null, .null, .int (0), .null, .null, .null, .null, .null, .int (0), .null, .null, .null, .null, .int (0), .null, .long (0), .long (0), .long (0), .long (0), .long (0), .long (0)])) H := h9
  replace hc1 := hc1.only ho (show n0 ≠ b by omega)
  replace hc2 := hc2.only ho (show n0 + 1 ≠ b by omega)
  replace hc3 := hc3.only ho (show n0 + 2 ≠ b by omega)
  replace hc4 := hc4.only ho (show n0 + 3 ≠ b by omega)
  replace hc5 := hc5.only ho (show n0 + 4 ≠ b by omega)
  replace hc6 := hc6.only ho (show n0 + 5 ≠ b by omega)
  replace hsz : H.size = n0 + 6 := ho.1.trans hsz
  clear ho
  refine lv_aload_n hx hb dX6_init_52 rfl (lv_at hl 0 rfl) ?_
  refine lv_bipush (v := nI (125)) hx hb dX6_init_53 (by decide) ?_
  refine x_newa (atype := .int) (ty := .int) (cI := ids 0) (N' := 125) (a0 := (125, .inl (fun _ => 0))) (c1 := 7) (s1 := 275) (q := n0 + 6) hx hb (hts _ (List.mem_of_getElem? (i := 4) rfl)) rfl hK 0 (cTy_nm hK).1 hS rfl (nI_pos (by omega)) (nI_clamp (by omega)) (by first | decide | (show _ * 4 ≤ _; omega)) (Nat.le_of_ble_eq_true rfl) (Nat.le_of_ble_eq_true rfl) dX6_init_55 rfl rfl hsz (fun H hm hc7 hS => ?_)
  replace hh := hh.kept (hm.2 _ hh.lt)
  replace hc1 := hc1.kept (hm.2 _ hc1.lt)
  replace hc2 := hc2.kept (hm.2 _ hc2.lt)
  replace hc3 := hc3.kept (hm.2 _ hc3.lt)
  replace hc4 := hc4.kept (hm.2 _ hc4.lt)
  replace hc5 := hc5.kept (hm.2 _ hc5.lt)
  replace hc6 := hc6.kept (hm.2 _ hc6.lt)
  replace hsz : H.size = n0 + 7 := by rw [hm.1, hsz]
  clear hm
  refine x_putF (C := RX6) (T := TX6) (N := 32) (ci := 7) (fs := [.int (0), .int (0), .ref (n0), .ref (n0 + 1), .ref (n0 + 2), .ref (n0 + 3), .ref (n0 + 4), .ref (n0 + 5), .null, .null, .null, .null, .null, .int (0), .null, .null, .null, .null, .null, .int (0), .null, .null, .null, .null, .int (0), .null, .long (0), .long (0), .long (0), .long (0), .long (0), .long (0)]) (ty := (.array .int)) (v := .ref (n0 + 6)) hx hb hts hin tyX6 tyX6_ok nmX6 hown hK hh (by first | exact rfl | (show b ≤ b; omega)) hS rfl 8 (by decide) (index := 28) (List.mem_of_getElem? (i := 11) rfl) rfl hin2 rfl (by decide +kernel) rfl rfl (Nat.le_of_ble_eq_true rfl) dX6_init_57 (fun H locs h9 ho hS => ?_)
  replace hh : va_at G vwCl (b, .inr (7, [.int (0), .int (0), .ref (n0), .ref (n0 + 1), .ref (n0 + 2), .ref (n0 + 3), .ref (n0 + 4), .ref (n0 + 5), .ref (n0 + 6), .null, .null, .null, .null, .int (0), .null, .null, .null, .null, .null, .int (0), .null, .null, .null, .null, .int (0), .null, .long (0), .long (0), .long (0), .long (0), .long (0), .long (0)])) H := h9
  replace hc1 := hc1.only ho (show n0 ≠ b by omega)
  replace hc2 := hc2.only ho (show n0 + 1 ≠ b by omega)
  replace hc3 := hc3.only ho (show n0 + 2 ≠ b by omega)
  replace hc4 := hc4.only ho (show n0 + 3 ≠ b by omega)
  replace hc5 := hc5.only ho (show n0 + 4 ≠ b by omega)
  replace hc6 := hc6.only ho (show n0 + 5 ≠ b by omega)
  replace hc7 := hc7.only ho (show n0 + 6 ≠ b by omega)
  replace hsz : H.size = n0 + 7 := ho.1.trans hsz
  clear ho
  refine lv_aload_n hx hb dX6_init_60 rfl (lv_at hl 0 rfl) ?_
  refine lv_bipush (v := nI (125)) hx hb dX6_init_61 (by decide) ?_
  refine x_newa (atype := .int) (ty := .int) (cI := ids 0) (N' := 125) (a0 := (125, .inl (fun _ => 0))) (c1 := 8) (s1 := 400) (q := n0 + 7) hx hb (hts _ (List.mem_of_getElem? (i := 4) rfl)) rfl hK 0 (cTy_nm hK).1 hS rfl (nI_pos (by omega)) (nI_clamp (by omega)) (by first | decide | (show _ * 4 ≤ _; omega)) (Nat.le_of_ble_eq_true rfl) (Nat.le_of_ble_eq_true rfl) dX6_init_63 rfl rfl hsz (fun H hm hc8 hS => ?_)
  replace hh := hh.kept (hm.2 _ hh.lt)
  replace hc1 := hc1.kept (hm.2 _ hc1.lt)
  replace hc2 := hc2.kept (hm.2 _ hc2.lt)
  replace hc3 := hc3.kept (hm.2 _ hc3.lt)
  replace hc4 := hc4.kept (hm.2 _ hc4.lt)
  replace hc5 := hc5.kept (hm.2 _ hc5.lt)
  replace hc6 := hc6.kept (hm.2 _ hc6.lt)
  replace hc7 := hc7.kept (hm.2 _ hc7.lt)
  replace hsz : H.size = n0 + 8 := by rw [hm.1, hsz]
  clear hm
  refine x_putF (C := RX6) (T := TX6) (N := 32) (ci := 7) (fs := [.int (0), .int (0), .ref (n0), .ref (n0 + 1), .ref (n0 + 2), .ref (n0 + 3), .ref (n0 + 4), .ref (n0 + 5), .ref (n0 + 6), .null, .null, .null, .null, .int (0), .null, .null, .null, .null, .null, .int (0), .null, .null, .null, .null, .int (0), .null, .long (0), .long (0), .long (0), .long (0), .long (0), .long (0)]) (ty := (.array .int)) (v := .ref (n0 + 7)) hx hb hts hin tyX6 tyX6_ok nmX6 hown hK hh (by first | exact rfl | (show b ≤ b; omega)) hS rfl 9 (by decide) (index := 31) (List.mem_of_getElem? (i := 12) rfl) rfl hin2 rfl (by decide +kernel) rfl rfl (Nat.le_of_ble_eq_true rfl) dX6_init_65 (fun H locs h9 ho hS => ?_)
  replace hh : va_at G vwCl (b, .inr (7, [.int (0), .int (0), .ref (n0), .ref (n0 + 1), .ref (n0 + 2), .ref (n0 + 3), .ref (n0 + 4), .ref (n0 + 5), .ref (n0 + 6), .ref (n0 + 7), .null, .null, .null, .int (0), .null, .null, .null, .null, .null, .int (0), .null, .null, .null, .null, .int (0), .null, .long (0), .long (0), .long (0), .long (0), .long (0), .long (0)])) H := h9
  replace hc1 := hc1.only ho (show n0 ≠ b by omega)
  replace hc2 := hc2.only ho (show n0 + 1 ≠ b by omega)
  replace hc3 := hc3.only ho (show n0 + 2 ≠ b by omega)
  replace hc4 := hc4.only ho (show n0 + 3 ≠ b by omega)
  replace hc5 := hc5.only ho (show n0 + 4 ≠ b by omega)
  replace hc6 := hc6.only ho (show n0 + 5 ≠ b by omega)
  replace hc7 := hc7.only ho (show n0 + 6 ≠ b by omega)
  replace hc8 := hc8.only ho (show n0 + 7 ≠ b by omega)
  replace hsz : H.size = n0 + 8 := ho.1.trans hsz
  clear ho
  refine lv_aload_n hx hb dX6_init_68 rfl (lv_at hl 0 rfl) ?_
  refine lv_bipush (v := nI (125)) hx hb dX6_init_69 (by decide) ?_
  refine x_newa (atype := .int) (ty := .int) (cI := ids 0) (N' := 125) (a0 := (125, .inl (fun _ => 0))) (c1 := 9) (s1 := 525) (q := n0 + 8) hx hb (hts _ (List.mem_of_getElem? (i := 4) rfl)) rfl hK 0 (cTy_nm hK).1 hS rfl (nI_pos (by omega)) (nI_clamp (by omega)) (by first | decide | (show _ * 4 ≤ _; omega)) (Nat.le_of_ble_eq_true rfl) (Nat.le_of_ble_eq_true rfl) dX6_init_71 rfl rfl hsz (fun H hm hc9 hS => ?_)
  replace hh := hh.kept (hm.2 _ hh.lt)
  replace hc1 := hc1.kept (hm.2 _ hc1.lt)
  replace hc2 := hc2.kept (hm.2 _ hc2.lt)
  replace hc3 := hc3.kept (hm.2 _ hc3.lt)
  replace hc4 := hc4.kept (hm.2 _ hc4.lt)
  replace hc5 := hc5.kept (hm.2 _ hc5.lt)
  replace hc6 := hc6.kept (hm.2 _ hc6.lt)
  replace hc7 := hc7.kept (hm.2 _ hc7.lt)
  replace hc8 := hc8.kept (hm.2 _ hc8.lt)
  replace hsz : H.size = n0 + 9 := by rw [hm.1, hsz]
  clear hm
  refine x_putF (C := RX6) (T := TX6) (N := 32) (ci := 7) (fs := [.int (0), .int (0), .ref (n0), .ref (n0 + 1), .ref (n0 + 2), .ref (n0 + 3), .ref (n0 + 4), .ref (n0 + 5), .ref (n0 + 6), .ref (n0 + 7), .null, .null, .null, .int (0), .null, .null, .null, .null, .null, .int (0), .null, .null, .null, .null, .int (0), .null, .long (0), .long (0), .long (0), .long (0), .long (0), .long (0)]) (ty := (.array .int)) (v := .ref (n0 + 8)) hx hb hts hin tyX6 tyX6_ok nmX6 hown hK hh (by first | exact rfl | (show b ≤ b; omega)) hS rfl 10 (by decide) (index := 34) (List.mem_of_getElem? (i := 13) rfl) rfl hin2 rfl (by decide +kernel) rfl rfl (Nat.le_of_ble_eq_true rfl) dX6_init_73 (fun H locs h9 ho hS => ?_)
  replace hh : va_at G vwCl (b, .inr (7, [.int (0), .int (0), .ref (n0), .ref (n0 + 1), .ref (n0 + 2), .ref (n0 + 3), .ref (n0 + 4), .ref (n0 + 5), .ref (n0 + 6), .ref (n0 + 7), .ref (n0 + 8), .null, .null, .int (0), .null, .null, .null, .null, .null, .int (0), .null, .null, .null, .null, .int (0), .null, .long (0), .long (0), .long (0), .long (0), .long (0), .long (0)])) H := h9
  replace hc1 := hc1.only ho (show n0 ≠ b by omega)
  replace hc2 := hc2.only ho (show n0 + 1 ≠ b by omega)
  replace hc3 := hc3.only ho (show n0 + 2 ≠ b by omega)
  replace hc4 := hc4.only ho (show n0 + 3 ≠ b by omega)
  replace hc5 := hc5.only ho (show n0 + 4 ≠ b by omega)
  replace hc6 := hc6.only ho (show n0 + 5 ≠ b by omega)
  replace hc7 := hc7.only ho (show n0 + 6 ≠ b by omega)
  replace hc8 := hc8.only ho (show n0 + 7 ≠ b by omega)
  replace hc9 := hc9.only ho (show n0 + 8 ≠ b by omega)
  replace hsz : H.size = n0 + 9 := ho.1.trans hsz
  clear ho
  refine lv_aload_n hx hb dX6_init_76 rfl (lv_at hl 0 rfl) ?_
  refine lv_bipush (v := nI (125)) hx hb dX6_init_77 (by decide) ?_
  refine x_newa (atype := .int) (ty := .int) (cI := ids 0) (N' := 125) (a0 := (125, .inl (fun _ => 0))) (c1 := 10) (s1 := 650) (q := n0 + 9) hx hb (hts _ (List.mem_of_getElem? (i := 4) rfl)) rfl hK 0 (cTy_nm hK).1 hS rfl (nI_pos (by omega)) (nI_clamp (by omega)) (by first | decide | (show _ * 4 ≤ _; omega)) (Nat.le_of_ble_eq_true rfl) (Nat.le_of_ble_eq_true rfl) dX6_init_79 rfl rfl hsz (fun H hm hc10 hS => ?_)
  replace hh := hh.kept (hm.2 _ hh.lt)
  replace hc1 := hc1.kept (hm.2 _ hc1.lt)
  replace hc2 := hc2.kept (hm.2 _ hc2.lt)
  replace hc3 := hc3.kept (hm.2 _ hc3.lt)
  replace hc4 := hc4.kept (hm.2 _ hc4.lt)
  replace hc5 := hc5.kept (hm.2 _ hc5.lt)
  replace hc6 := hc6.kept (hm.2 _ hc6.lt)
  replace hc7 := hc7.kept (hm.2 _ hc7.lt)
  replace hc8 := hc8.kept (hm.2 _ hc8.lt)
  replace hc9 := hc9.kept (hm.2 _ hc9.lt)
  replace hsz : H.size = n0 + 10 := by rw [hm.1, hsz]
  clear hm
  refine x_putF (C := RX6) (T := TX6) (N := 32) (ci := 7) (fs := [.int (0), .int (0), .ref (n0), .ref (n0 + 1), .ref (n0 + 2), .ref (n0 + 3), .ref (n0 + 4), .ref (n0 + 5), .ref (n0 + 6), .ref (n0 + 7), .ref (n0 + 8), .null, .null, .int (0), .null, .null, .null, .null, .null, .int (0), .null, .null, .null, .null, .int (0), .null, .long (0), .long (0), .long (0), .long (0), .long (0), .long (0)]) (ty := (.array .int)) (v := .ref (n0 + 9)) hx hb hts hin tyX6 tyX6_ok nmX6 hown hK hh (by first | exact rfl | (show b ≤ b; omega)) hS rfl 11 (by decide) (index := 37) (List.mem_of_getElem? (i := 14) rfl) rfl hin2 rfl (by decide +kernel) rfl rfl (Nat.le_of_ble_eq_true rfl) dX6_init_81 (fun H locs h9 ho hS => ?_)
  replace hh : va_at G vwCl (b, .inr (7, [.int (0), .int (0), .ref (n0), .ref (n0 + 1), .ref (n0 + 2), .ref (n0 + 3), .ref (n0 + 4), .ref (n0 + 5), .ref (n0 + 6), .ref (n0 + 7), .ref (n0 + 8), .ref (n0 + 9), .null, .int (0), .null, .null, .null, .null, .null, .int (0), .null, .null, .null, .null, .int (0), .null, .long (0), .long (0), .long (0), .long (0), .long (0), .long (0)])) H := h9
  replace hc1 := hc1.only ho (show n0 ≠ b by omega)
  replace hc2 := hc2.only ho (show n0 + 1 ≠ b by omega)
  replace hc3 := hc3.only ho (show n0 + 2 ≠ b by omega)
  replace hc4 := hc4.only ho (show n0 + 3 ≠ b by omega)
  replace hc5 := hc5.only ho (show n0 + 4 ≠ b by omega)
  replace hc6 := hc6.only ho (show n0 + 5 ≠ b by omega)
  replace hc7 := hc7.only ho (show n0 + 6 ≠ b by omega)
  replace hc8 := hc8.only ho (show n0 + 7 ≠ b by omega)
  replace hc9 := hc9.only ho (show n0 + 8 ≠ b by omega)
  replace hc10 := hc10.only ho (show n0 + 9 ≠ b by omega)
  replace hsz : H.size = n0 + 10 := ho.1.trans hsz
  clear ho
  refine lv_aload_n hx hb dX6_init_84 rfl (lv_at hl 0 rfl) ?_
  refine lv_bipush (v := nI (125)) hx hb dX6_init_85 (by decide) ?_
  refine x_newa (atype := .int) (ty := .int) (cI := ids 0) (N' := 125) (a0 := (125, .inl (fun _ => 0))) (c1 := 11) (s1 := 775) (q := n0 + 10) hx hb (hts _ (List.mem_of_getElem? (i := 4) rfl)) rfl hK 0 (cTy_nm hK).1 hS rfl (nI_pos (by omega)) (nI_clamp (by omega)) (by first | decide | (show _ * 4 ≤ _; omega)) (Nat.le_of_ble_eq_true rfl) (Nat.le_of_ble_eq_true rfl) dX6_init_87 rfl rfl hsz (fun H hm hc11 hS => ?_)
  replace hh := hh.kept (hm.2 _ hh.lt)
  replace hc1 := hc1.kept (hm.2 _ hc1.lt)
  replace hc2 := hc2.kept (hm.2 _ hc2.lt)
  replace hc3 := hc3.kept (hm.2 _ hc3.lt)
  replace hc4 := hc4.kept (hm.2 _ hc4.lt)
  replace hc5 := hc5.kept (hm.2 _ hc5.lt)
  replace hc6 := hc6.kept (hm.2 _ hc6.lt)
  replace hc7 := hc7.kept (hm.2 _ hc7.lt)
  replace hc8 := hc8.kept (hm.2 _ hc8.lt)
  replace hc9 := hc9.kept (hm.2 _ hc9.lt)
  replace hc10 := hc10.kept (hm.2 _ hc10.lt)
  replace hsz : H.size = n0 + 11 := by rw [hm.1, hsz]
  clear hm
  refine x_putF (C := RX6) (T := TX6) (N := 32) (ci := 7) (fs := [.int (0), .int (0), .ref (n0), .ref (n0 + 1), .ref (n0 + 2), .ref (n0 + 3), .ref (n0 + 4), .ref (n0 + 5), .ref (n0 + 6), .ref (n0 + 7), .ref (n0 + 8), .ref (n0 + 9), .null, .int (0), .null, .null, .null, .null, .null, .int (0), .null, .null, .null, .null, .int (0), .null, .long (0), .long (0), .long (0), .long (0), .long (0), .long (0)]) (ty := (.array .int)) (v := .ref (n0 + 10)) hx hb hts hin tyX6 tyX6_ok nmX6 hown hK hh (by first | exact rfl | (show b ≤ b; omega)) hS rfl 12 (by decide) (index := 40) (List.mem_of_getElem? (i := 15) rfl) rfl hin2 rfl (by decide +kernel) rfl rfl (Nat.le_of_ble_eq_true rfl) dX6_init_89 (fun H locs h9 ho hS => ?_)
  replace hh : va_at G vwCl (b, .inr (7, [.int (0), .int (0), .ref (n0), .ref (n0 + 1), .ref (n0 + 2), .ref (n0 + 3), .ref (n0 + 4), .ref (n0 + 5), .ref (n0 + 6), .ref (n0 + 7), .ref (n0 + 8), .ref (n0 + 9), .ref (n0 + 10), .int (0), .null, .null, .null, .null, .null, .int (0), .null, .null, .null, .null, .int (0), .null, .long (0), .long (0), .long (0), .long (0), .long (0), .long (0)])) H := h9
  replace hc1 := hc1.only ho (show n0 ≠ b by omega)
  replace hc2 := hc2.only ho (show n0 + 1 ≠ b by omega)
  replace hc3 := hc3.only ho (show n0 + 2 ≠ b by omega)
  replace hc4 := hc4.only ho (show n0 + 3 ≠ b by omega)
  replace hc5 := hc5.only ho (show n0 + 4 ≠ b by omega)
  replace hc6 := hc6.only ho (show n0 + 5 ≠ b by omega)
  replace hc7 := hc7.only ho (show n0 + 6 ≠ b by omega)
  replace hc8 := hc8.only ho (show n0 + 7 ≠ b by omega)
  replace hc9 := hc9.only ho (show n0 + 8 ≠ b by omega)
  replace hc10 := hc10.only ho (show n0 + 9 ≠ b by omega)
  replace hc11 := hc11.only ho (show n0 + 10 ≠ b by omega)
  replace hsz : H.size = n0 + 11 := ho.1.trans hsz
  clear ho
  refine lv_aload_n hx hb dX6_init_92 rfl (lv_at hl 0 rfl) ?_
  refine lv_bipush (v := nI (10)) hx hb dX6_init_93 (by decide) ?_
  refine x_newa (atype := .int) (ty := .int) (cI := ids 0) (N' := 10) (a0 := (10, .inl (fun _ => 0))) (c1 := 12) (s1 := 785) (q := n0 + 11) hx hb (hts _ (List.mem_of_getElem? (i := 4) rfl)) rfl hK 0 (cTy_nm hK).1 hS rfl (nI_pos (by omega)) (nI_clamp (by omega)) (by first | decide | (show _ * 4 ≤ _; omega)) (Nat.le_of_ble_eq_true rfl) (Nat.le_of_ble_eq_true rfl) dX6_init_95 rfl rfl hsz (fun H hm hc12 hS => ?_)
  replace hh := hh.kept (hm.2 _ hh.lt)
  replace hc1 := hc1.kept (hm.2 _ hc1.lt)
  replace hc2 := hc2.kept (hm.2 _ hc2.lt)
  replace hc3 := hc3.kept (hm.2 _ hc3.lt)
  replace hc4 := hc4.kept (hm.2 _ hc4.lt)
  replace hc5 := hc5.kept (hm.2 _ hc5.lt)
  replace hc6 := hc6.kept (hm.2 _ hc6.lt)
  replace hc7 := hc7.kept (hm.2 _ hc7.lt)
  replace hc8 := hc8.kept (hm.2 _ hc8.lt)
  replace hc9 := hc9.kept (hm.2 _ hc9.lt)
  replace hc10 := hc10.kept (hm.2 _ hc10.lt)
  replace hc11 := hc11.kept (hm.2 _ hc11.lt)
  replace hsz : H.size = n0 + 12 := by rw [hm.1, hsz]
  clear hm
  refine x_putF (C := RX6) (T := TX6) (N := 32) (ci := 7) (fs := [.int (0), .int (0), .ref (n0), .ref (n0 + 1), .ref (n0 + 2), .ref (n0 + 3), .ref (n0 + 4), .ref (n0 + 5), .ref (n0 + 6), .ref (n0 + 7), .ref (n0 + 8), .ref (n0 + 9), .ref (n0 + 10), .int (0), .null, .null, .null, .null, .null, .int (0), .null, .null, .null, .null, .int (0), .null, .long (0), .long (0), .long (0), .long (0), .long (0), .long (0)]) (ty := (.array .int)) (v := .ref (n0 + 11)) hx hb hts hin tyX6 tyX6_ok nmX6 hown hK hh (by first | exact rfl | (show b ≤ b; omega)) hS rfl 14 (by decide) (index := 43) (List.mem_of_getElem? (i := 16) rfl) rfl hin2 rfl (by decide +kernel) rfl rfl (Nat.le_of_ble_eq_true rfl) dX6_init_97 (fun H locs h9 ho hS => ?_)
  replace hh : va_at G vwCl (b, .inr (7, [.int (0), .int (0), .ref (n0), .ref (n0 + 1), .ref (n0 + 2), .ref (n0 + 3), .ref (n0 + 4), .ref (n0 + 5), .ref (n0 + 6), .ref (n0 + 7), .ref (n0 + 8), .ref (n0 + 9), .ref (n0 + 10), .int (0), .ref (n0 + 11), .null, .null, .null, .null, .int (0), .null, .null, .null, .null, .int (0), .null, .long (0), .long (0), .long (0), .long (0), .long (0), .long (0)])) H := h9
  replace hc1 := hc1.only ho (show n0 ≠ b by omega)
  replace hc2 := hc2.only ho (show n0 + 1 ≠ b by omega)
  replace hc3 := hc3.only ho (show n0 + 2 ≠ b by omega)
  replace hc4 := hc4.only ho (show n0 + 3 ≠ b by omega)
  replace hc5 := hc5.only ho (show n0 + 4 ≠ b by omega)
  replace hc6 := hc6.only ho (show n0 + 5 ≠ b by omega)
  replace hc7 := hc7.only ho (show n0 + 6 ≠ b by omega)
  replace hc8 := hc8.only ho (show n0 + 7 ≠ b by omega)
  replace hc9 := hc9.only ho (show n0 + 8 ≠ b by omega)
  replace hc10 := hc10.only ho (show n0 + 9 ≠ b by omega)
  replace hc11 := hc11.only ho (show n0 + 10 ≠ b by omega)
  replace hc12 := hc12.only ho (show n0 + 11 ≠ b by omega)
  replace hsz : H.size = n0 + 12 := ho.1.trans hsz
  clear ho
  refine lv_aload_n hx hb dX6_init_100 rfl (lv_at hl 0 rfl) ?_
  refine lv_bipush (v := nI (10)) hx hb dX6_init_101 (by decide) ?_
  refine x_newa (atype := .int) (ty := .int) (cI := ids 0) (N' := 10) (a0 := (10, .inl (fun _ => 0))) (c1 := 13) (s1 := 795) (q := n0 + 12) hx hb (hts _ (List.mem_of_getElem? (i := 4) rfl)) rfl hK 0 (cTy_nm hK).1 hS rfl (nI_pos (by omega)) (nI_clamp (by omega)) (by first | decide | (show _ * 4 ≤ _; omega)) (Nat.le_of_ble_eq_true rfl) (Nat.le_of_ble_eq_true rfl) dX6_init_103 rfl rfl hsz (fun H hm hc13 hS => ?_)
  replace hh := hh.kept (hm.2 _ hh.lt)
  replace hc1 := hc1.kept (hm.2 _ hc1.lt)
  replace hc2 := hc2.kept (hm.2 _ hc2.lt)
  replace hc3 := hc3.kept (hm.2 _ hc3.lt)
  replace hc4 := hc4.kept (hm.2 _ hc4.lt)
  replace hc5 := hc5.kept (hm.2 _ hc5.lt)
  replace hc6 := hc6.kept (hm.2 _ hc6.lt)
  replace hc7 := hc7.kept (hm.2 _ hc7.lt)
  replace hc8 := hc8.kept (hm.2 _ hc8.lt)
  replace hc9 := hc9.kept (hm.2 _ hc9.lt)
  replace hc10 := hc10.kept (hm.2 _ hc10.lt)
  replace hc11 := hc11.kept (hm.2 _ hc11.lt)
  replace hc12 := hc12.kept (hm.2 _ hc12.lt)
  replace hsz : H.size = n0 + 13 := by rw [hm.1, hsz]
  clear hm
  refine x_putF (C := RX6) (T := TX6) (N := 32) (ci := 7) (fs := [.int (0), .int (0), .ref (n0), .ref (n0 + 1), .ref (n0 + 2), .ref (n0 + 3), .ref (n0 + 4), .ref (n0 + 5), .ref (n0 + 6), .ref (n0 + 7), .ref (n0 + 8), .ref (n0 + 9), .ref (n0 + 10), .int (0), .ref (n0 + 11), .null, .null, .null, .null, .int (0), .null, .null, .null, .null, .int (0), .null, .long (0), .long (0), .long (0), .long (0), .long (0), .long (0)]) (ty := (.array .int)) (v := .ref (n0 + 12)) hx hb hts hin tyX6 tyX6_ok nmX6 hown hK hh (by first | exact rfl | (show b ≤ b; omega)) hS rfl 15 (by decide) (index := 46) (List.mem_of_getElem? (i := 17) rfl) rfl hin2 rfl (by decide +kernel) rfl rfl (Nat.le_of_ble_eq_true rfl) dX6_init_105 (fun H locs h9 ho hS => ?_)
  replace hh : va_at G vwCl (b, .inr (7, [.int (0), .int (0), .ref (n0), .ref (n0 + 1), .ref (n0 + 2), .ref (n0 + 3), .ref (n0 + 4), .ref (n0 + 5), .ref (n0 + 6), .ref (n0 + 7), .ref (n0 + 8), .ref (n0 + 9), .ref (n0 + 10), .int (0), .ref (n0 + 11), .ref (n0 + 12), .null, .null, .null, .int (0), .null, .null, .null, .null, .int (0), .null, .long (0), .long (0), .long (0), .long (0), .long (0), .long (0)])) H := h9
  replace hc1 := hc1.only ho (show n0 ≠ b by omega)
  replace hc2 := hc2.only ho (show n0 + 1 ≠ b by omega)
  replace hc3 := hc3.only ho (show n0 + 2 ≠ b by omega)
  replace hc4 := hc4.only ho (show n0 + 3 ≠ b by omega)
  replace hc5 := hc5.only ho (show n0 + 4 ≠ b by omega)
  replace hc6 := hc6.only ho (show n0 + 5 ≠ b by omega)
  replace hc7 := hc7.only ho (show n0 + 6 ≠ b by omega)
  replace hc8 := hc8.only ho (show n0 + 7 ≠ b by omega)
  replace hc9 := hc9.only ho (show n0 + 8 ≠ b by omega)
  replace hc10 := hc10.only ho (show n0 + 9 ≠ b by omega)
  replace hc11 := hc11.only ho (show n0 + 10 ≠ b by omega)
  replace hc12 := hc12.only ho (show n0 + 11 ≠ b by omega)
  replace hc13 := hc13.only ho (show n0 + 12 ≠ b by omega)
  replace hsz : H.size = n0 + 13 := ho.1.trans hsz
  clear ho
  refine lv_aload_n hx hb dX6_init_108 rfl (lv_at hl 0 rfl) ?_
  refine lv_bipush (v := nI (10)) hx hb dX6_init_109 (by decide) ?_
  refine x_newa (atype := .boolean) (ty := .boolean) (cI := ids 1) (N' := 10) (a0 := (10, .inl (fun _ => 0))) (c1 := 14) (s1 := 805) (q := n0 + 13) hx hb (hts _ (List.mem_of_getElem? (i := 18) rfl)) rfl hK 1 (cTy_nm hK).2.1 hS rfl (nI_pos (by omega)) (nI_clamp (by omega)) (by first | decide | (show _ * 4 ≤ _; omega)) (Nat.le_of_ble_eq_true rfl) (Nat.le_of_ble_eq_true rfl) dX6_init_111 rfl rfl hsz (fun H hm hc14 hS => ?_)
  replace hh := hh.kept (hm.2 _ hh.lt)
  replace hc1 := hc1.kept (hm.2 _ hc1.lt)
  replace hc2 := hc2.kept (hm.2 _ hc2.lt)
  replace hc3 := hc3.kept (hm.2 _ hc3.lt)
  replace hc4 := hc4.kept (hm.2 _ hc4.lt)
  replace hc5 := hc5.kept (hm.2 _ hc5.lt)
  replace hc6 := hc6.kept (hm.2 _ hc6.lt)
  replace hc7 := hc7.kept (hm.2 _ hc7.lt)
  replace hc8 := hc8.kept (hm.2 _ hc8.lt)
  replace hc9 := hc9.kept (hm.2 _ hc9.lt)
  replace hc10 := hc10.kept (hm.2 _ hc10.lt)
  replace hc11 := hc11.kept (hm.2 _ hc11.lt)
  replace hc12 := hc12.kept (hm.2 _ hc12.lt)
  replace hc13 := hc13.kept (hm.2 _ hc13.lt)
  replace hsz : H.size = n0 + 14 := by rw [hm.1, hsz]
  clear hm
  refine x_putF (C := RX6) (T := TX6) (N := 32) (ci := 7) (fs := [.int (0), .int (0), .ref (n0), .ref (n0 + 1), .ref (n0 + 2), .ref (n0 + 3), .ref (n0 + 4), .ref (n0 + 5), .ref (n0 + 6), .ref (n0 + 7), .ref (n0 + 8), .ref (n0 + 9), .ref (n0 + 10), .int (0), .ref (n0 + 11), .ref (n0 + 12), .null, .null, .null, .int (0), .null, .null, .null, .null, .int (0), .null, .long (0), .long (0), .long (0), .long (0), .long (0), .long (0)]) (ty := (.array .boolean)) (v := .ref (n0 + 13)) hx hb hts hin tyX6 tyX6_ok nmX6 hown hK hh (by first | exact rfl | (show b ≤ b; omega)) hS rfl 16 (by decide) (index := 49) (List.mem_of_getElem? (i := 19) rfl) rfl hin2 rfl (by decide +kernel) rfl rfl (Nat.le_of_ble_eq_true rfl) dX6_init_113 (fun H locs h9 ho hS => ?_)
  replace hh : va_at G vwCl (b, .inr (7, [.int (0), .int (0), .ref (n0), .ref (n0 + 1), .ref (n0 + 2), .ref (n0 + 3), .ref (n0 + 4), .ref (n0 + 5), .ref (n0 + 6), .ref (n0 + 7), .ref (n0 + 8), .ref (n0 + 9), .ref (n0 + 10), .int (0), .ref (n0 + 11), .ref (n0 + 12), .ref (n0 + 13), .null, .null, .int (0), .null, .null, .null, .null, .int (0), .null, .long (0), .long (0), .long (0), .long (0), .long (0), .long (0)])) H := h9
  replace hc1 := hc1.only ho (show n0 ≠ b by omega)
  replace hc2 := hc2.only ho (show n0 + 1 ≠ b by omega)
  replace hc3 := hc3.only ho (show n0 + 2 ≠ b by omega)
  replace hc4 := hc4.only ho (show n0 + 3 ≠ b by omega)
  replace hc5 := hc5.only ho (show n0 + 4 ≠ b by omega)
  replace hc6 := hc6.only ho (show n0 + 5 ≠ b by omega)
  replace hc7 := hc7.only ho (show n0 + 6 ≠ b by omega)
  replace hc8 := hc8.only ho (show n0 + 7 ≠ b by omega)
  replace hc9 := hc9.only ho (show n0 + 8 ≠ b by omega)
  replace hc10 := hc10.only ho (show n0 + 9 ≠ b by omega)
  replace hc11 := hc11.only ho (show n0 + 10 ≠ b by omega)
  replace hc12 := hc12.only ho (show n0 + 11 ≠ b by omega)
  replace hc13 := hc13.only ho (show n0 + 12 ≠ b by omega)
  replace hc14 := hc14.only ho (show n0 + 13 ≠ b by omega)
  replace hsz : H.size = n0 + 14 := ho.1.trans hsz
  clear ho
  refine lv_aload_n hx hb dX6_init_116 rfl (lv_at hl 0 rfl) ?_
  refine lv_bipush (v := nI (10)) hx hb dX6_init_117 (by decide) ?_
  refine x_newa (atype := .int) (ty := .int) (cI := ids 0) (N' := 10) (a0 := (10, .inl (fun _ => 0))) (c1 := 15) (s1 := 815) (q := n0 + 14) hx hb (hts _ (List.mem_of_getElem? (i := 4) rfl)) rfl hK 0 (cTy_nm hK).1 hS rfl (nI_pos (by omega)) (nI_clamp (by omega)) (by first | decide | (show _ * 4 ≤ _; omega)) (Nat.le_of_ble_eq_true rfl) (Nat.le_of_ble_eq_true rfl) dX6_init_119 rfl rfl hsz (fun H hm hc15 hS => ?_)
  replace hh := hh.kept (hm.2 _ hh.lt)
  replace hc1 := hc1.kept (hm.2 _ hc1.lt)
  replace hc2 := hc2.kept (hm.2 _ hc2.lt)
  replace hc3 := hc3.kept (hm.2 _ hc3.lt)
  replace hc4 := hc4.kept (hm.2 _ hc4.lt)
  replace hc5 := hc5.kept (hm.2 _ hc5.lt)
  replace hc6 := hc6.kept (hm.2 _ hc6.lt)
  replace hc7 := hc7.kept (hm.2 _ hc7.lt)
  replace hc8 := hc8.kept (hm.2 _ hc8.lt)
  replace hc9 := hc9.kept (hm.2 _ hc9.lt)
  replace hc10 := hc10.kept (hm.2 _ hc10.lt)
  replace hc11 := hc11.kept (hm.2 _ hc11.lt)
  replace hc12 := hc12.kept (hm.2 _ hc12.lt)
  replace hc13 := hc13.kept (hm.2 _ hc13.lt)
  replace hc14 := hc14.kept (hm.2 _ hc14.lt)
  replace hsz : H.size = n0 + 15 := by rw [hm.1, hsz]
  clear hm
  refine x_putF (C := RX6) (T := TX6) (N := 32) (ci := 7) (fs := [.int (0), .int (0), .ref (n0), .ref (n0 + 1), .ref (n0 + 2), .ref (n0 + 3), .ref (n0 + 4), .ref (n0 + 5), .ref (n0 + 6), .ref (n0 + 7), .ref (n0 + 8), .ref (n0 + 9), .ref (n0 + 10), .int (0), .ref (n0 + 11), .ref (n0 + 12), .ref (n0 + 13), .null, .null, .int (0), .null, .null, .null, .null, .int (0), .null, .long (0), .long (0), .long (0), .long (0), .long (0), .long (0)]) (ty := (.array .int)) (v := .ref (n0 + 14)) hx hb hts hin tyX6 tyX6_ok nmX6 hown hK hh (by first | exact rfl | (show b ≤ b; omega)) hS rfl 17 (by decide) (index := 53) (List.mem_of_getElem? (i := 20) rfl) rfl hin2 rfl (by decide +kernel) rfl rfl (Nat.le_of_ble_eq_true rfl) dX6_init_121 (fun H locs h9 ho hS => ?_)
  replace hh : va_at G vwCl (b, .inr (7, [.int (0), .int (0), .ref (n0), .ref (n0 + 1), .ref (n0 + 2), .ref (n0 + 3), .ref (n0 + 4), .ref (n0 + 5), .ref (n0 + 6), .ref (n0 + 7), .ref (n0 + 8), .ref (n0 + 9), .ref (n0 + 10), .int (0), .ref (n0 + 11), .ref (n0 + 12), .ref (n0 + 13), .ref (n0 + 14), .null, .int (0), .null, .null, .null, .null, .int (0), .null, .long (0), .long (0), .long (0), .long (0), .long (0), .long (0)])) H := h9
  replace hc1 := hc1.only ho (show n0 ≠ b by omega)
  replace hc2 := hc2.only ho (show n0 + 1 ≠ b by omega)
  replace hc3 := hc3.only ho (show n0 + 2 ≠ b by omega)
  replace hc4 := hc4.only ho (show n0 + 3 ≠ b by omega)
  replace hc5 := hc5.only ho (show n0 + 4 ≠ b by omega)
  replace hc6 := hc6.only ho (show n0 + 5 ≠ b by omega)
  replace hc7 := hc7.only ho (show n0 + 6 ≠ b by omega)
  replace hc8 := hc8.only ho (show n0 + 7 ≠ b by omega)
  replace hc9 := hc9.only ho (show n0 + 8 ≠ b by omega)
  replace hc10 := hc10.only ho (show n0 + 9 ≠ b by omega)
  replace hc11 := hc11.only ho (show n0 + 10 ≠ b by omega)
  replace hc12 := hc12.only ho (show n0 + 11 ≠ b by omega)
  replace hc13 := hc13.only ho (show n0 + 12 ≠ b by omega)
  replace hc14 := hc14.only ho (show n0 + 13 ≠ b by omega)
  replace hc15 := hc15.only ho (show n0 + 14 ≠ b by omega)
  replace hsz : H.size = n0 + 15 := ho.1.trans hsz
  clear ho
  refine lv_aload_n hx hb dX6_init_124 rfl (lv_at hl 0 rfl) ?_
  refine lv_bipush (v := nI (10)) hx hb dX6_init_125 (by decide) ?_
  refine x_newa (atype := .int) (ty := .int) (cI := ids 0) (N' := 10) (a0 := (10, .inl (fun _ => 0))) (c1 := 16) (s1 := 825) (q := n0 + 15) hx hb (hts _ (List.mem_of_getElem? (i := 4) rfl)) rfl hK 0 (cTy_nm hK).1 hS rfl (nI_pos (by omega)) (nI_clamp (by omega)) (by first | decide | (show _ * 4 ≤ _; omega)) (Nat.le_of_ble_eq_true rfl) (Nat.le_of_ble_eq_true rfl) dX6_init_127 rfl rfl hsz (fun H hm hc16 hS => ?_)
  replace hh := hh.kept (hm.2 _ hh.lt)
  replace hc1 := hc1.kept (hm.2 _ hc1.lt)
  replace hc2 := hc2.kept (hm.2 _ hc2.lt)
  replace hc3 := hc3.kept (hm.2 _ hc3.lt)
  replace hc4 := hc4.kept (hm.2 _ hc4.lt)
  replace hc5 := hc5.kept (hm.2 _ hc5.lt)
  replace hc6 := hc6.kept (hm.2 _ hc6.lt)
  replace hc7 := hc7.kept (hm.2 _ hc7.lt)
  replace hc8 := hc8.kept (hm.2 _ hc8.lt)
  replace hc9 := hc9.kept (hm.2 _ hc9.lt)
  replace hc10 := hc10.kept (hm.2 _ hc10.lt)
  replace hc11 := hc11.kept (hm.2 _ hc11.lt)
  replace hc12 := hc12.kept (hm.2 _ hc12.lt)
  replace hc13 := hc13.kept (hm.2 _ hc13.lt)
  replace hc14 := hc14.kept (hm.2 _ hc14.lt)
  replace hc15 := hc15.kept (hm.2 _ hc15.lt)
  replace hsz : H.size = n0 + 16 := by rw [hm.1, hsz]
  clear hm
  refine x_putF (C := RX6) (T := TX6) (N := 32) (ci := 7) (fs := [.int (0), .int (0), .ref (n0), .ref (n0 + 1), .ref (n0 + 2), .ref (n0 + 3), .ref (n0 + 4), .ref (n0 + 5), .ref (n0 + 6), .ref (n0 + 7), .ref (n0 + 8), .ref (n0 + 9), .ref (n0 + 10), .int (0), .ref (n0 + 11), .ref (n0 + 12), .ref (n0 + 13), .ref (n0 + 14), .null, .int (0), .null, .null, .null, .null, .int (0), .null, .long (0), .long (0), .long (0), .long (0), .long (0), .long (0)]) (ty := (.array .int)) (v := .ref (n0 + 15)) hx hb hts hin tyX6 tyX6_ok nmX6 hown hK hh (by first | exact rfl | (show b ≤ b; omega)) hS rfl 18 (by decide) (index := 56) (List.mem_of_getElem? (i := 21) rfl) rfl hin2 rfl (by decide +kernel) rfl rfl (Nat.le_of_ble_eq_true rfl) dX6_init_129 (fun H locs h9 ho hS => ?_)
  replace hh : va_at G vwCl (b, .inr (7, [.int (0), .int (0), .ref (n0), .ref (n0 + 1), .ref (n0 + 2), .ref (n0 + 3), .ref (n0 + 4), .ref (n0 + 5), .ref (n0 + 6), .ref (n0 + 7), .ref (n0 + 8), .ref (n0 + 9), .ref (n0 + 10), .int (0), .ref (n0 + 11), .ref (n0 + 12), .ref (n0 + 13), .ref (n0 + 14), .ref (n0 + 15), .int (0), .null, .null, .null, .null, .int (0), .null, .long (0), .long (0), .long (0), .long (0), .long (0), .long (0)])) H := h9
  replace hc1 := hc1.only ho (show n0 ≠ b by omega)
  replace hc2 := hc2.only ho (show n0 + 1 ≠ b by omega)
  replace hc3 := hc3.only ho (show n0 + 2 ≠ b by omega)
  replace hc4 := hc4.only ho (show n0 + 3 ≠ b by omega)
  replace hc5 := hc5.only ho (show n0 + 4 ≠ b by omega)
  replace hc6 := hc6.only ho (show n0 + 5 ≠ b by omega)
  replace hc7 := hc7.only ho (show n0 + 6 ≠ b by omega)
  replace hc8 := hc8.only ho (show n0 + 7 ≠ b by omega)
  replace hc9 := hc9.only ho (show n0 + 8 ≠ b by omega)
  replace hc10 := hc10.only ho (show n0 + 9 ≠ b by omega)
  replace hc11 := hc11.only ho (show n0 + 10 ≠ b by omega)
  replace hc12 := hc12.only ho (show n0 + 11 ≠ b by omega)
  replace hc13 := hc13.only ho (show n0 + 12 ≠ b by omega)
  replace hc14 := hc14.only ho (show n0 + 13 ≠ b by omega)
  replace hc15 := hc15.only ho (show n0 + 14 ≠ b by omega)
  replace hc16 := hc16.only ho (show n0 + 15 ≠ b by omega)
  replace hsz : H.size = n0 + 16 := ho.1.trans hsz
  clear ho
  refine lv_aload_n hx hb dX6_init_132 rfl (lv_at hl 0 rfl) ?_
  refine lv_bipush (v := nI (10)) hx hb dX6_init_133 (by decide) ?_
  refine x_newa (atype := .int) (ty := .int) (cI := ids 0) (N' := 10) (a0 := (10, .inl (fun _ => 0))) (c1 := 17) (s1 := 835) (q := n0 + 16) hx hb (hts _ (List.mem_of_getElem? (i := 4) rfl)) rfl hK 0 (cTy_nm hK).1 hS rfl (nI_pos (by omega)) (nI_clamp (by omega)) (by first | decide | (show _ * 4 ≤ _; omega)) (Nat.le_of_ble_eq_true rfl) (Nat.le_of_ble_eq_true rfl) dX6_init_135 rfl rfl hsz (fun H hm hc17 hS => ?_)
  replace hh := hh.kept (hm.2 _ hh.lt)
  replace hc1 := hc1.kept (hm.2 _ hc1.lt)
  replace hc2 := hc2.kept (hm.2 _ hc2.lt)
  replace hc3 := hc3.kept (hm.2 _ hc3.lt)
  replace hc4 := hc4.kept (hm.2 _ hc4.lt)
  replace hc5 := hc5.kept (hm.2 _ hc5.lt)
  replace hc6 := hc6.kept (hm.2 _ hc6.lt)
  replace hc7 := hc7.kept (hm.2 _ hc7.lt)
  replace hc8 := hc8.kept (hm.2 _ hc8.lt)
  replace hc9 := hc9.kept (hm.2 _ hc9.lt)
  replace hc10 := hc10.kept (hm.2 _ hc10.lt)
  replace hc11 := hc11.kept (hm.2 _ hc11.lt)
  replace hc12 := hc12.kept (hm.2 _ hc12.lt)
  replace hc13 := hc13.kept (hm.2 _ hc13.lt)
  replace hc14 := hc14.kept (hm.2 _ hc14.lt)
  replace hc15 := hc15.kept (hm.2 _ hc15.lt)
  replace hc16 := hc16.kept (hm.2 _ hc16.lt)
  replace hsz : H.size = n0 + 17 := by rw [hm.1, hsz]
  clear hm
  refine x_putF (C := RX6) (T := TX6) (N := 32) (ci := 7) (fs := [.int (0), .int (0), .ref (n0), .ref (n0 + 1), .ref (n0 + 2), .ref (n0 + 3), .ref (n0 + 4), .ref (n0 + 5), .ref (n0 + 6), .ref (n0 + 7), .ref (n0 + 8), .ref (n0 + 9), .ref (n0 + 10), .int (0), .ref (n0 + 11), .ref (n0 + 12), .ref (n0 + 13), .ref (n0 + 14), .ref (n0 + 15), .int (0), .null, .null, .null, .null, .int (0), .null, .long (0), .long (0), .long (0), .long (0), .long (0), .long (0)]) (ty := (.array .int)) (v := .ref (n0 + 16)) hx hb hts hin tyX6 tyX6_ok nmX6 hown hK hh (by first | exact rfl | (show b ≤ b; omega)) hS rfl 20 (by decide) (index := 59) (List.mem_of_getElem? (i := 22) rfl) rfl hin2 rfl (by decide +kernel) rfl rfl (Nat.le_of_ble_eq_true rfl) dX6_init_137 (fun H locs h9 ho hS => ?_)
  replace hh : va_at G vwCl (b, .inr (7, [.int (0), .int (0), .ref (n0), .ref (n0 + 1), .ref (n0 + 2), .ref (n0 + 3), .ref (n0 + 4), .ref (n0 + 5), .ref (n0 + 6), .ref (n0 + 7), .ref (n0 + 8), .ref (n0 + 9), .ref (n0 + 10), .int (0), .ref (n0 + 11), .ref (n0 + 12), .ref (n0 + 13), .ref (n0 + 14), .ref (n0 + 15), .int (0), .ref (n0 + 16), .null, .null, .null, .int (0), .null, .long (0), .long (0), .long (0), .long (0), .long (0), .long (0)])) H := h9
  replace hc1 := hc1.only ho (show n0 ≠ b by omega)
  replace hc2 := hc2.only ho (show n0 + 1 ≠ b by omega)
  replace hc3 := hc3.only ho (show n0 + 2 ≠ b by omega)
  replace hc4 := hc4.only ho (show n0 + 3 ≠ b by omega)
  replace hc5 := hc5.only ho (show n0 + 4 ≠ b by omega)
  replace hc6 := hc6.only ho (show n0 + 5 ≠ b by omega)
  replace hc7 := hc7.only ho (show n0 + 6 ≠ b by omega)
  replace hc8 := hc8.only ho (show n0 + 7 ≠ b by omega)
  replace hc9 := hc9.only ho (show n0 + 8 ≠ b by omega)
  replace hc10 := hc10.only ho (show n0 + 9 ≠ b by omega)
  replace hc11 := hc11.only ho (show n0 + 10 ≠ b by omega)
  replace hc12 := hc12.only ho (show n0 + 11 ≠ b by omega)
  replace hc13 := hc13.only ho (show n0 + 12 ≠ b by omega)
  replace hc14 := hc14.only ho (show n0 + 13 ≠ b by omega)
  replace hc15 := hc15.only ho (show n0 + 14 ≠ b by omega)
  replace hc16 := hc16.only ho (show n0 + 15 ≠ b by omega)
  replace hc17 := hc17.only ho (show n0 + 16 ≠ b by omega)
  replace hsz : H.size = n0 + 17 := ho.1.trans hsz
  clear ho
  refine lv_aload_n hx hb dX6_init_140 rfl (lv_at hl 0 rfl) ?_
  refine lv_bipush (v := nI (10)) hx hb dX6_init_141 (by decide) ?_
  refine x_newa (atype := .int) (ty := .int) (cI := ids 0) (N' := 10) (a0 := (10, .inl (fun _ => 0))) (c1 := 18) (s1 := 845) (q := n0 + 17) hx hb (hts _ (List.mem_of_getElem? (i := 4) rfl)) rfl hK 0 (cTy_nm hK).1 hS rfl (nI_pos (by omega)) (nI_clamp (by omega)) (by first | decide | (show _ * 4 ≤ _; omega)) (Nat.le_of_ble_eq_true rfl) (Nat.le_of_ble_eq_true rfl) dX6_init_143 rfl rfl hsz (fun H hm hc18 hS => ?_)
  replace hh := hh.kept (hm.2 _ hh.lt)
  replace hc1 := hc1.kept (hm.2 _ hc1.lt)
  replace hc2 := hc2.kept (hm.2 _ hc2.lt)
  replace hc3 := hc3.kept (hm.2 _ hc3.lt)
  replace hc4 := hc4.kept (hm.2 _ hc4.lt)
  replace hc5 := hc5.kept (hm.2 _ hc5.lt)
  replace hc6 := hc6.kept (hm.2 _ hc6.lt)
  replace hc7 := hc7.kept (hm.2 _ hc7.lt)
  replace hc8 := hc8.kept (hm.2 _ hc8.lt)
  replace hc9 := hc9.kept (hm.2 _ hc9.lt)
  replace hc10 := hc10.kept (hm.2 _ hc10.lt)
  replace hc11 := hc11.kept (hm.2 _ hc11.lt)
  replace hc12 := hc12.kept (hm.2 _ hc12.lt)
  replace hc13 := hc13.kept (hm.2 _ hc13.lt)
  replace hc14 := hc14.kept (hm.2 _ hc14.lt)
  replace hc15 := hc15.kept (hm.2 _ hc15.lt)
  replace hc16 := hc16.kept (hm.2 _ hc16.lt)
  replace hc17 := hc17.kept (hm.2 _ hc17.lt)
  replace hsz : H.size = n0 + 18 := by rw [hm.1, hsz]
  clear hm
  refine x_putF (C := RX6) (T := TX6) (N := 32) (ci := 7) (fs := [.int (0), .int (0), .ref (n0), .ref (n0 + 1), .ref (n0 + 2), .ref (n0 + 3), .ref (n0 + 4), .ref (n0 + 5), .ref (n0 + 6), .ref (n0 + 7), .ref (n0 + 8), .ref (n0 + 9), .ref (n0 + 10), .int (0), .ref (n0 + 11), .ref (n0 + 12), .ref (n0 + 13), .ref (n0 + 14), .ref (n0 + 15), .int (0), .ref (n0 + 16), .null, .null, .null, .int (0), .null, .long (0), .long (0), .long (0), .long (0), .long (0), .long (0)]) (ty := (.array .int)) (v := .ref (n0 + 17)) hx hb hts hin tyX6 tyX6_ok nmX6 hown hK hh (by first | exact rfl | (show b ≤ b; omega)) hS rfl 21 (by decide) (index := 62) (List.mem_of_getElem? (i := 23) rfl) rfl hin2 rfl (by decide +kernel) rfl rfl (Nat.le_of_ble_eq_true rfl) dX6_init_145 (fun H locs h9 ho hS => ?_)
  replace hh : va_at G vwCl (b, .inr (7, [.int (0), .int (0), .ref (n0), .ref (n0 + 1), .ref (n0 + 2), .ref (n0 + 3), .ref (n0 + 4), .ref (n0 + 5), .ref (n0 + 6), .ref (n0 + 7), .ref (n0 + 8), .ref (n0 + 9), .ref (n0 + 10), .int (0), .ref (n0 + 11), .ref (n0 + 12), .ref (n0 + 13), .ref (n0 + 14), .ref (n0 + 15), .int (0), .ref (n0 + 16), .ref (n0 + 17), .null, .null, .int (0), .null, .long (0), .long (0), .long (0), .long (0), .long (0), .long (0)])) H := h9
  replace hc1 := hc1.only ho (show n0 ≠ b by omega)
  replace hc2 := hc2.only ho (show n0 + 1 ≠ b by omega)
  replace hc3 := hc3.only ho (show n0 + 2 ≠ b by omega)
  replace hc4 := hc4.only ho (show n0 + 3 ≠ b by omega)
  replace hc5 := hc5.only ho (show n0 + 4 ≠ b by omega)
  replace hc6 := hc6.only ho (show n0 + 5 ≠ b by omega)
  replace hc7 := hc7.only ho (show n0 + 6 ≠ b by omega)
  replace hc8 := hc8.only ho (show n0 + 7 ≠ b by omega)
  replace hc9 := hc9.only ho (show n0 + 8 ≠ b by omega)
  replace hc10 := hc10.only ho (show n0 + 9 ≠ b by omega)
  replace hc11 := hc11.only ho (show n0 + 10 ≠ b by omega)
  replace hc12 := hc12.only ho (show n0 + 11 ≠ b by omega)
  replace hc13 := hc13.only ho (show n0 + 12 ≠ b by omega)
  replace hc14 := hc14.only ho (show n0 + 13 ≠ b by omega)
  replace hc15 := hc15.only ho (show n0 + 14 ≠ b by omega)
  replace hc16 := hc16.only ho (show n0 + 15 ≠ b by omega)
  replace hc17 := hc17.only ho (show n0 + 16 ≠ b by omega)
  replace hc18 := hc18.only ho (show n0 + 17 ≠ b by omega)
  replace hsz : H.size = n0 + 18 := ho.1.trans hsz
  clear ho
  refine lv_aload_n hx hb dX6_init_148 rfl (lv_at hl 0 rfl) ?_
  refine lv_bipush (v := nI (10)) hx hb dX6_init_149 (by decide) ?_
  refine x_newa (atype := .int) (ty := .int) (cI := ids 0) (N' := 10) (a0 := (10, .inl (fun _ => 0))) (c1 := 19) (s1 := 855) (q := n0 + 18) hx hb (hts _ (List.mem_of_getElem? (i := 4) rfl)) rfl hK 0 (cTy_nm hK).1 hS rfl (nI_pos (by omega)) (nI_clamp (by omega)) (by first | decide | (show _ * 4 ≤ _; omega)) (Nat.le_of_ble_eq_true rfl) (Nat.le_of_ble_eq_true rfl) dX6_init_151 rfl rfl hsz (fun H hm hc19 hS => ?_)
  replace hh := hh.kept (hm.2 _ hh.lt)
  replace hc1 := hc1.kept (hm.2 _ hc1.lt)
  replace hc2 := hc2.kept (hm.2 _ hc2.lt)
  replace hc3 := hc3.kept (hm.2 _ hc3.lt)
  replace hc4 := hc4.kept (hm.2 _ hc4.lt)
  replace hc5 := hc5.kept (hm.2 _ hc5.lt)
  replace hc6 := hc6.kept (hm.2 _ hc6.lt)
  replace hc7 := hc7.kept (hm.2 _ hc7.lt)
  replace hc8 := hc8.kept (hm.2 _ hc8.lt)
  replace hc9 := hc9.kept (hm.2 _ hc9.lt)
  replace hc10 := hc10.kept (hm.2 _ hc10.lt)
  replace hc11 := hc11.kept (hm.2 _ hc11.lt)
  replace hc12 := hc12.kept (hm.2 _ hc12.lt)
  replace hc13 := hc13.kept (hm.2 _ hc13.lt)
  replace hc14 := hc14.kept (hm.2 _ hc14.lt)
  replace hc15 := hc15.kept (hm.2 _ hc15.lt)
  replace hc16 := hc16.kept (hm.2 _ hc16.lt)
  replace hc17 := hc17.kept (hm.2 _ hc17.lt)
  replace hc18 := hc18.kept (hm.2 _ hc18.lt)
  replace hsz : H.size = n0 + 19 := by rw [hm.1, hsz]
  clear hm
  refine x_putF (C := RX6) (T := TX6) (N := 32) (ci := 7) (fs := [.int (0), .int (0), .ref (n0), .ref (n0 + 1), .ref (n0 + 2), .ref (n0 + 3), .ref (n0 + 4), .ref (n0 + 5), .ref (n0 + 6), .ref (n0 + 7), .ref (n0 + 8), .ref (n0 + 9), .ref (n0 + 10), .int (0), .ref (n0 + 11), .ref (n0 + 12), .ref (n0 + 13), .ref (n0 + 14), .ref (n0 + 15), .int (0), .ref (n0 + 16), .ref (n0 + 17), .null, .null, .int (0), .null, .long (0), .long (0), .long (0), .long (0), .long (0), .long (0)]) (ty := (.array .int)) (v := .ref (n0 + 18)) hx hb hts hin tyX6 tyX6_ok nmX6 hown hK hh (by first | exact rfl | (show b ≤ b; omega)) hS rfl 22 (by decide) (index := 65) (List.mem_of_getElem? (i := 24) rfl) rfl hin2 rfl (by decide +kernel) rfl rfl (Nat.le_of_ble_eq_true rfl) dX6_init_153 (fun H locs h9 ho hS => ?_)
  replace hh : va_at G vwCl (b, .inr (7, [.int (0), .int (0), .ref (n0), .ref (n0 + 1), .ref (n0 + 2), .ref (n0 + 3), .ref (n0 + 4), .ref (n0 + 5), .ref (n0 + 6), .ref (n0 + 7), .ref (n0 + 8), .ref (n0 + 9), .ref (n0 + 10), .int (0), .ref (n0 + 11), .ref (n0 + 12), .ref (n0 + 13), .ref (n0 + 14), .ref (n0 + 15), .int (0), .ref (n0 + 16), .ref (n0 + 17), .ref (n0 + 18), .null, .int (0), .null, .long (0), .long (0), .long (0), .long (0), .long (0), .long (0)])) H := h9
  replace hc1 := hc1.only ho (show n0 ≠ b by omega)
  replace hc2 := hc2.only ho (show n0 + 1 ≠ b by omega)
  replace hc3 := hc3.only ho (show n0 + 2 ≠ b by omega)
  replace hc4 := hc4.only ho (show n0 + 3 ≠ b by omega)
  replace hc5 := hc5.only ho (show n0 + 4 ≠ b by omega)
  replace hc6 := hc6.only ho (show n0 + 5 ≠ b by omega)
  replace hc7 := hc7.only ho (show n0 + 6 ≠ b by omega)
  replace hc8 := hc8.only ho (show n0 + 7 ≠ b by omega)
  replace hc9 := hc9.only ho (show n0 + 8 ≠ b by omega)
  replace hc10 := hc10.only ho (show n0 + 9 ≠ b by omega)
  replace hc11 := hc11.only ho (show n0 + 10 ≠ b by omega)
  replace hc12 := hc12.only ho (show n0 + 11 ≠ b by omega)
  replace hc13 := hc13.only ho (show n0 + 12 ≠ b by omega)
  replace hc14 := hc14.only ho (show n0 + 13 ≠ b by omega)
  replace hc15 := hc15.only ho (show n0 + 14 ≠ b by omega)
  replace hc16 := hc16.only ho (show n0 + 15 ≠ b by omega)
  replace hc17 := hc17.only ho (show n0 + 16 ≠ b by omega)
  replace hc18 := hc18.only ho (show n0 + 17 ≠ b by omega)
  replace hc19 := hc19.only ho (show n0 + 18 ≠ b by omega)
  replace hsz : H.size = n0 + 19 := ho.1.trans hsz
  clear ho
  refine lv_aload_n hx hb dX6_init_156 rfl (lv_at hl 0 rfl) ?_
  refine lv_sipush (v := nI (30000)) hx hb dX6_init_157 (by decide) ?_
  refine x_newa (atype := .int) (ty := .int) (cI := ids 0) (N' := 30000) (a0 := (30000, .inl (fun _ => 0))) (c1 := 20) (s1 := 30855) (q := n0 + 19) hx hb (hts _ (List.mem_of_getElem? (i := 4) rfl)) rfl hK 0 (cTy_nm hK).1 hS rfl (nI_pos (by omega)) (nI_clamp (by omega)) (by first | decide | (show _ * 4 ≤ _; omega)) (Nat.le_of_ble_eq_true rfl) (Nat.le_of_ble_eq_true rfl) dX6_init_160 rfl rfl hsz (fun H hm hc20 hS => ?_)
  replace hh := hh.kept (hm.2 _ hh.lt)
  replace hc1 := hc1.kept (hm.2 _ hc1.lt)
  replace hc2 := hc2.kept (hm.2 _ hc2.lt)
  replace hc3 := hc3.kept (hm.2 _ hc3.lt)
  replace hc4 := hc4.kept (hm.2 _ hc4.lt)
  replace hc5 := hc5.kept (hm.2 _ hc5.lt)
  replace hc6 := hc6.kept (hm.2 _ hc6.lt)
  replace hc7 := hc7.kept (hm.2 _ hc7.lt)
  replace hc8 := hc8.kept (hm.2 _ hc8.lt)
  replace hc9 := hc9.kept (hm.2 _ hc9.lt)
  replace hc10 := hc10.kept (hm.2 _ hc10.lt)
  replace hc11 := hc11.kept (hm.2 _ hc11.lt)
  replace hc12 := hc12.kept (hm.2 _ hc12.lt)
  replace hc13 := hc13.kept (hm.2 _ hc13.lt)
  replace hc14 := hc14.kept (hm.2 _ hc14.lt)
  replace hc15 := hc15.kept (hm.2 _ hc15.lt)
  replace hc16 := hc16.kept (hm.2 _ hc16.lt)
  replace hc17 := hc17.kept (hm.2 _ hc17.lt)
  replace hc18 := hc18.kept (hm.2 _ hc18.lt)
  replace hc19 := hc19.kept (hm.2 _ hc19.lt)
  replace hsz : H.size = n0 + 20 := by rw [hm.1, hsz]
  clear hm
  refine x_putF (C := RX6) (T := TX6) (N := 32) (ci := 7) (fs := [.int (0), .int (0), .ref (n0), .ref (n0 + 1), .ref (n0 + 2), .ref (n0 + 3), .ref (n0 + 4), .ref (n0 + 5), .ref (n0 + 6), .ref (n0 + 7), .ref (n0 + 8), .ref (n0 + 9), .ref (n0 + 10), .int (0), .ref (n0 + 11), .ref (n0 + 12), .ref (n0 + 13), .ref (n0 + 14), .ref (n0 + 15), .int (0), .ref (n0 + 16), .ref (n0 + 17), .ref (n0 + 18), .null, .int (0), .null, .long (0), .long (0), .long (0), .long (0), .long (0), .long (0)]) (ty := (.array .int)) (v := .ref (n0 + 19)) hx hb hts hin tyX6 tyX6_ok nmX6 hown hK hh (by first | exact rfl | (show b ≤ b; omega)) hS rfl 23 (by decide) (index := 68) (List.mem_of_getElem? (i := 25) rfl) rfl hin2 rfl (by decide +kernel) rfl rfl (Nat.le_of_ble_eq_true rfl) dX6_init_162 (fun H locs h9 ho hS => ?_)
  replace hh : va_at G vwCl (b, .inr (7, [.int (0), .int (0), .ref (n0), .ref (n0 + 1), .ref (n0 + 2), .ref (n0 + 3), .ref (n0 + 4), .ref (n0 + 5), .ref (n0 + 6), .ref (n0 + 7), .ref (n0 + 8), .ref (n0 + 9), .ref (n0 + 10), .int (0), .ref (n0 + 11), .ref (n0 + 12), .ref (n0 + 13), .ref (n0 + 14), .ref (n0 + 15), .int (0), .ref (n0 + 16), .ref (n0 + 17), .ref (n0 + 18), .ref (n0 + 19), .int (0), .null, .long (0), .long (0), .long (0), .long (0), .long (0), .long (0)])) H := h9
  replace hc1 := hc1.only ho (show n0 ≠ b by omega)
  replace hc2 := hc2.only ho (show n0 + 1 ≠ b by omega)
  replace hc3 := hc3.only ho (show n0 + 2 ≠ b by omega)
  replace hc4 := hc4.only ho (show n0 + 3 ≠ b by omega)
  replace hc5 := hc5.only ho (show n0 + 4 ≠ b by omega)
  replace hc6 := hc6.only ho (show n0 + 5 ≠ b by omega)
  replace hc7 := hc7.only ho (show n0 + 6 ≠ b by omega)
  replace hc8 := hc8.only ho (show n0 + 7 ≠ b by omega)
  replace hc9 := hc9.only ho (show n0 + 8 ≠ b by omega)
  replace hc10 := hc10.only ho (show n0 + 9 ≠ b by omega)
  replace hc11 := hc11.only ho (show n0 + 10 ≠ b by omega)
  replace hc12 := hc12.only ho (show n0 + 11 ≠ b by omega)
  replace hc13 := hc13.only ho (show n0 + 12 ≠ b by omega)
  replace hc14 := hc14.only ho (show n0 + 13 ≠ b by omega)
  replace hc15 := hc15.only ho (show n0 + 14 ≠ b by omega)
  replace hc16 := hc16.only ho (show n0 + 15 ≠ b by omega)
  replace hc17 := hc17.only ho (show n0 + 16 ≠ b by omega)
  replace hc18 := hc18.only ho (show n0 + 17 ≠ b by omega)
  replace hc19 := hc19.only ho (show n0 + 18 ≠ b by omega)
  replace hc20 := hc20.only ho (show n0 + 19 ≠ b by omega)
  replace hsz : H.size = n0 + 20 := ho.1.trans hsz
  clear ho
  refine lv_aload_n hx hb dX6_init_165 rfl (lv_at hl 0 rfl) ?_
  refine lv_bipush (v := nI (40)) hx hb dX6_init_166 (by decide) ?_
  refine x_newa (atype := .int) (ty := .int) (cI := ids 0) (N' := 40) (a0 := (40, .inl (fun _ => 0))) (c1 := 21) (s1 := 30895) (q := n0 + 20) hx hb (hts _ (List.mem_of_getElem? (i := 4) rfl)) rfl hK 0 (cTy_nm hK).1 hS rfl (nI_pos (by omega)) (nI_clamp (by omega)) (by first | decide | (show _ * 4 ≤ _; omega)) (Nat.le_of_ble_eq_true rfl) (Nat.le_of_ble_eq_true rfl) dX6_init_168 rfl rfl hsz (fun H hm hc21 hS => ?_)
  replace hh := hh.kept (hm.2 _ hh.lt)
  replace hc1 := hc1.kept (hm.2 _ hc1.lt)
  replace hc2 := hc2.kept (hm.2 _ hc2.lt)
  replace hc3 := hc3.kept (hm.2 _ hc3.lt)
  replace hc4 := hc4.kept (hm.2 _ hc4.lt)
  replace hc5 := hc5.kept (hm.2 _ hc5.lt)
  replace hc6 := hc6.kept (hm.2 _ hc6.lt)
  replace hc7 := hc7.kept (hm.2 _ hc7.lt)
  replace hc8 := hc8.kept (hm.2 _ hc8.lt)
  replace hc9 := hc9.kept (hm.2 _ hc9.lt)
  replace hc10 := hc10.kept (hm.2 _ hc10.lt)
  replace hc11 := hc11.kept (hm.2 _ hc11.lt)
  replace hc12 := hc12.kept (hm.2 _ hc12.lt)
  replace hc13 := hc13.kept (hm.2 _ hc13.lt)
  replace hc14 := hc14.kept (hm.2 _ hc14.lt)
  replace hc15 := hc15.kept (hm.2 _ hc15.lt)
  replace hc16 := hc16.kept (hm.2 _ hc16.lt)
  replace hc17 := hc17.kept (hm.2 _ hc17.lt)
  replace hc18 := hc18.kept (hm.2 _ hc18.lt)
  replace hc19 := hc19.kept (hm.2 _ hc19.lt)
  replace hc20 := hc20.kept (hm.2 _ hc20.lt)
  replace hsz : H.size = n0 + 21 := by rw [hm.1, hsz]
  clear hm
  refine x_putF (C := RX6) (T := TX6) (N := 32) (ci := 7) (fs := [.int (0), .int (0), .ref (n0), .ref (n0 + 1), .ref (n0 + 2), .ref (n0 + 3), .ref (n0 + 4), .ref (n0 + 5), .ref (n0 + 6), .ref (n0 + 7), .ref (n0 + 8), .ref (n0 + 9), .ref (n0 + 10), .int (0), .ref (n0 + 11), .ref (n0 + 12), .ref (n0 + 13), .ref (n0 + 14), .ref (n0 + 15), .int (0), .ref (n0 + 16), .ref (n0 + 17), .ref (n0 + 18), .ref (n0 + 19), .int (0), .null, .long (0), .long (0), .long (0), .long (0), .long (0), .long (0)]) (ty := (.array .int)) (v := .ref (n0 + 20)) hx hb hts hin tyX6 tyX6_ok nmX6 hown hK hh (by first | exact rfl | (show b ≤ b; omega)) hS rfl 25 (by decide) (index := 71) (List.mem_of_getElem? (i := 26) rfl) rfl hin2 rfl (by decide +kernel) rfl rfl (Nat.le_of_ble_eq_true rfl) dX6_init_170 (fun H locs h9 ho hS => ?_)
  replace hh : va_at G vwCl (b, .inr (7, [.int (0), .int (0), .ref (n0), .ref (n0 + 1), .ref (n0 + 2), .ref (n0 + 3), .ref (n0 + 4), .ref (n0 + 5), .ref (n0 + 6), .ref (n0 + 7), .ref (n0 + 8), .ref (n0 + 9), .ref (n0 + 10), .int (0), .ref (n0 + 11), .ref (n0 + 12), .ref (n0 + 13), .ref (n0 + 14), .ref (n0 + 15), .int (0), .ref (n0 + 16), .ref (n0 + 17), .ref (n0 + 18), .ref (n0 + 19), .int (0), .ref (n0 + 20), .long (0), .long (0), .long (0), .long (0), .long (0), .long (0)])) H := h9
  replace hc1 := hc1.only ho (show n0 ≠ b by omega)
  replace hc2 := hc2.only ho (show n0 + 1 ≠ b by omega)
  replace hc3 := hc3.only ho (show n0 + 2 ≠ b by omega)
  replace hc4 := hc4.only ho (show n0 + 3 ≠ b by omega)
  replace hc5 := hc5.only ho (show n0 + 4 ≠ b by omega)
  replace hc6 := hc6.only ho (show n0 + 5 ≠ b by omega)
  replace hc7 := hc7.only ho (show n0 + 6 ≠ b by omega)
  replace hc8 := hc8.only ho (show n0 + 7 ≠ b by omega)
  replace hc9 := hc9.only ho (show n0 + 8 ≠ b by omega)
  replace hc10 := hc10.only ho (show n0 + 9 ≠ b by omega)
  replace hc11 := hc11.only ho (show n0 + 10 ≠ b by omega)
  replace hc12 := hc12.only ho (show n0 + 11 ≠ b by omega)
  replace hc13 := hc13.only ho (show n0 + 12 ≠ b by omega)
  replace hc14 := hc14.only ho (show n0 + 13 ≠ b by omega)
  replace hc15 := hc15.only ho (show n0 + 14 ≠ b by omega)
  replace hc16 := hc16.only ho (show n0 + 15 ≠ b by omega)
  replace hc17 := hc17.only ho (show n0 + 16 ≠ b by omega)
  replace hc18 := hc18.only ho (show n0 + 17 ≠ b by omega)
  replace hc19 := hc19.only ho (show n0 + 18 ≠ b by omega)
  replace hc20 := hc20.only ho (show n0 + 19 ≠ b by omega)
  replace hc21 := hc21.only ho (show n0 + 20 ≠ b by omega)
  replace hsz : H.size = n0 + 21 := ho.1.trans hsz
  clear ho
  refine lv_aload_n hx hb dX6_init_173 rfl (lv_at hl 0 rfl) ?_
  refine lv_ldc2 (own := RX6) (v := -125000) hx hb hown (hts _ (List.mem_of_getElem? (i := 27) rfl)) dX6_init_174 ?_
  refine x_put (C := RX6) (T := TX6) (N := 32) (ci := 7) (fs := [.int (0), .int (0), .ref (n0), .ref (n0 + 1), .ref (n0 + 2), .ref (n0 + 3), .ref (n0 + 4), .ref (n0 + 5), .ref (n0 + 6), .ref (n0 + 7), .ref (n0 + 8), .ref (n0 + 9), .ref (n0 + 10), .int (0), .ref (n0 + 11), .ref (n0 + 12), .ref (n0 + 13), .ref (n0 + 14), .ref (n0 + 15), .int (0), .ref (n0 + 16), .ref (n0 + 17), .ref (n0 + 18), .ref (n0 + 19), .int (0), .ref (n0 + 20), .long (0), .long (0), .long (0), .long (0), .long (0), .long (0)]) (ty := .long) (v := .long ((-125000 : Int64))) hx hb hts hin tyX6 tyX6_ok nmX6 hown hK hh (by first | exact rfl | (show b ≤ b; omega)) hS rfl 26 (by decide) (index := 76) (List.mem_of_getElem? (i := 28) rfl) rfl (by decide +kernel) rfl rfl (Nat.le_of_ble_eq_true rfl) dX6_init_177 (fun H locs h9 ho hS => ?_)
  replace hh : va_at G vwCl (b, .inr (7, [.int (0), .int (0), .ref (n0), .ref (n0 + 1), .ref (n0 + 2), .ref (n0 + 3), .ref (n0 + 4), .ref (n0 + 5), .ref (n0 + 6), .ref (n0 + 7), .ref (n0 + 8), .ref (n0 + 9), .ref (n0 + 10), .int (0), .ref (n0 + 11), .ref (n0 + 12), .ref (n0 + 13), .ref (n0 + 14), .ref (n0 + 15), .int (0), .ref (n0 + 16), .ref (n0 + 17), .ref (n0 + 18), .ref (n0 + 19), .int (0), .ref (n0 + 20), .long ((-125000 : Int64)), .long (0), .long (0), .long (0), .long (0), .long (0)])) H := h9
  replace hc1 := hc1.only ho (show n0 ≠ b by omega)
  replace hc2 := hc2.only ho (show n0 + 1 ≠ b by omega)
  replace hc3 := hc3.only ho (show n0 + 2 ≠ b by omega)
  replace hc4 := hc4.only ho (show n0 + 3 ≠ b by omega)
  replace hc5 := hc5.only ho (show n0 + 4 ≠ b by omega)
  replace hc6 := hc6.only ho (show n0 + 5 ≠ b by omega)
  replace hc7 := hc7.only ho (show n0 + 6 ≠ b by omega)
  replace hc8 := hc8.only ho (show n0 + 7 ≠ b by omega)
  replace hc9 := hc9.only ho (show n0 + 8 ≠ b by omega)
  replace hc10 := hc10.only ho (show n0 + 9 ≠ b by omega)
  replace hc11 := hc11.only ho (show n0 + 10 ≠ b by omega)
  replace hc12 := hc12.only ho (show n0 + 11 ≠ b by omega)
  replace hc13 := hc13.only ho (show n0 + 12 ≠ b by omega)
  replace hc14 := hc14.only ho (show n0 + 13 ≠ b by omega)
  replace hc15 := hc15.only ho (show n0 + 14 ≠ b by omega)
  replace hc16 := hc16.only ho (show n0 + 15 ≠ b by omega)
  replace hc17 := hc17.only ho (show n0 + 16 ≠ b by omega)
  replace hc18 := hc18.only ho (show n0 + 17 ≠ b by omega)
  replace hc19 := hc19.only ho (show n0 + 18 ≠ b by omega)
  replace hc20 := hc20.only ho (show n0 + 19 ≠ b by omega)
  replace hc21 := hc21.only ho (show n0 + 20 ≠ b by omega)
  replace hsz : H.size = n0 + 21 := ho.1.trans hsz
  clear ho
  refine lv_aload_n hx hb dX6_init_180 rfl (lv_at hl 0 rfl) ?_
  refine lv_ldc2 (own := RX6) (v := 800) hx hb hown (hts _ (List.mem_of_getElem? (i := 29) rfl)) dX6_init_181 ?_
  refine x_put (C := RX6) (T := TX6) (N := 32) (ci := 7) (fs := [.int (0), .int (0), .ref (n0), .ref (n0 + 1), .ref (n0 + 2), .ref (n0 + 3), .ref (n0 + 4), .ref (n0 + 5), .ref (n0 + 6), .ref (n0 + 7), .ref (n0 + 8), .ref (n0 + 9), .ref (n0 + 10), .int (0), .ref (n0 + 11), .ref (n0 + 12), .ref (n0 + 13), .ref (n0 + 14), .ref (n0 + 15), .int (0), .ref (n0 + 16), .ref (n0 + 17), .ref (n0 + 18), .ref (n0 + 19), .int (0), .ref (n0 + 20), .long ((-125000 : Int64)), .long (0), .long (0), .long (0), .long (0), .long (0)]) (ty := .long) (v := .long ((800 : Int64))) hx hb hts hin tyX6 tyX6_ok nmX6 hown hK hh (by first | exact rfl | (show b ≤ b; omega)) hS rfl 27 (by decide) (index := 82) (List.mem_of_getElem? (i := 30) rfl) rfl (by decide +kernel) rfl rfl (Nat.le_of_ble_eq_true rfl) dX6_init_184 (fun H locs h9 ho hS => ?_)
  replace hh : va_at G vwCl (b, .inr (7, [.int (0), .int (0), .ref (n0), .ref (n0 + 1), .ref (n0 + 2), .ref (n0 + 3), .ref (n0 + 4), .ref (n0 + 5), .ref (n0 + 6), .ref (n0 + 7), .ref (n0 + 8), .ref (n0 + 9), .ref (n0 + 10), .int (0), .ref (n0 + 11), .ref (n0 + 12), .ref (n0 + 13), .ref (n0 + 14), .ref (n0 + 15), .int (0), .ref (n0 + 16), .ref (n0 + 17), .ref (n0 + 18), .ref (n0 + 19), .int (0), .ref (n0 + 20), .long ((-125000 : Int64)), .long ((800 : Int64)), .long (0), .long (0), .long (0), .long (0)])) H := h9
  replace hc1 := hc1.only ho (show n0 ≠ b by omega)
  replace hc2 := hc2.only ho (show n0 + 1 ≠ b by omega)
  replace hc3 := hc3.only ho (show n0 + 2 ≠ b by omega)
  replace hc4 := hc4.only ho (show n0 + 3 ≠ b by omega)
  replace hc5 := hc5.only ho (show n0 + 4 ≠ b by omega)
  replace hc6 := hc6.only ho (show n0 + 5 ≠ b by omega)
  replace hc7 := hc7.only ho (show n0 + 6 ≠ b by omega)
  replace hc8 := hc8.only ho (show n0 + 7 ≠ b by omega)
  replace hc9 := hc9.only ho (show n0 + 8 ≠ b by omega)
  replace hc10 := hc10.only ho (show n0 + 9 ≠ b by omega)
  replace hc11 := hc11.only ho (show n0 + 10 ≠ b by omega)
  replace hc12 := hc12.only ho (show n0 + 11 ≠ b by omega)
  replace hc13 := hc13.only ho (show n0 + 12 ≠ b by omega)
  replace hc14 := hc14.only ho (show n0 + 13 ≠ b by omega)
  replace hc15 := hc15.only ho (show n0 + 14 ≠ b by omega)
  replace hc16 := hc16.only ho (show n0 + 15 ≠ b by omega)
  replace hc17 := hc17.only ho (show n0 + 16 ≠ b by omega)
  replace hc18 := hc18.only ho (show n0 + 17 ≠ b by omega)
  replace hc19 := hc19.only ho (show n0 + 18 ≠ b by omega)
  replace hc20 := hc20.only ho (show n0 + 19 ≠ b by omega)
  replace hc21 := hc21.only ho (show n0 + 20 ≠ b by omega)
  replace hsz : H.size = n0 + 21 := ho.1.trans hsz
  clear ho
  refine lv_aload_n hx hb dX6_init_187 rfl (lv_at hl 0 rfl) ?_
  refine lv_ldc2 (own := RX6) (v := 50000) hx hb hown (hts _ (List.mem_of_getElem? (i := 31) rfl)) dX6_init_188 ?_
  refine x_put (C := RX6) (T := TX6) (N := 32) (ci := 7) (fs := [.int (0), .int (0), .ref (n0), .ref (n0 + 1), .ref (n0 + 2), .ref (n0 + 3), .ref (n0 + 4), .ref (n0 + 5), .ref (n0 + 6), .ref (n0 + 7), .ref (n0 + 8), .ref (n0 + 9), .ref (n0 + 10), .int (0), .ref (n0 + 11), .ref (n0 + 12), .ref (n0 + 13), .ref (n0 + 14), .ref (n0 + 15), .int (0), .ref (n0 + 16), .ref (n0 + 17), .ref (n0 + 18), .ref (n0 + 19), .int (0), .ref (n0 + 20), .long ((-125000 : Int64)), .long ((800 : Int64)), .long (0), .long (0), .long (0), .long (0)]) (ty := .long) (v := .long ((50000 : Int64))) hx hb hts hin tyX6 tyX6_ok nmX6 hown hK hh (by first | exact rfl | (show b ≤ b; omega)) hS rfl 28 (by decide) (index := 87) (List.mem_of_getElem? (i := 32) rfl) rfl (by decide +kernel) rfl rfl (Nat.le_of_ble_eq_true rfl) dX6_init_191 (fun H locs h9 ho hS => ?_)
  replace hh : va_at G vwCl (b, .inr (7, [.int (0), .int (0), .ref (n0), .ref (n0 + 1), .ref (n0 + 2), .ref (n0 + 3), .ref (n0 + 4), .ref (n0 + 5), .ref (n0 + 6), .ref (n0 + 7), .ref (n0 + 8), .ref (n0 + 9), .ref (n0 + 10), .int (0), .ref (n0 + 11), .ref (n0 + 12), .ref (n0 + 13), .ref (n0 + 14), .ref (n0 + 15), .int (0), .ref (n0 + 16), .ref (n0 + 17), .ref (n0 + 18), .ref (n0 + 19), .int (0), .ref (n0 + 20), .long ((-125000 : Int64)), .long ((800 : Int64)), .long ((50000 : Int64)), .long (0), .long (0), .long (0)])) H := h9
  replace hc1 := hc1.only ho (show n0 ≠ b by omega)
  replace hc2 := hc2.only ho (show n0 + 1 ≠ b by omega)
  replace hc3 := hc3.only ho (show n0 + 2 ≠ b by omega)
  replace hc4 := hc4.only ho (show n0 + 3 ≠ b by omega)
  replace hc5 := hc5.only ho (show n0 + 4 ≠ b by omega)
  replace hc6 := hc6.only ho (show n0 + 5 ≠ b by omega)
  replace hc7 := hc7.only ho (show n0 + 6 ≠ b by omega)
  replace hc8 := hc8.only ho (show n0 + 7 ≠ b by omega)
  replace hc9 := hc9.only ho (show n0 + 8 ≠ b by omega)
  replace hc10 := hc10.only ho (show n0 + 9 ≠ b by omega)
  replace hc11 := hc11.only ho (show n0 + 10 ≠ b by omega)
  replace hc12 := hc12.only ho (show n0 + 11 ≠ b by omega)
  replace hc13 := hc13.only ho (show n0 + 12 ≠ b by omega)
  replace hc14 := hc14.only ho (show n0 + 13 ≠ b by omega)
  replace hc15 := hc15.only ho (show n0 + 14 ≠ b by omega)
  replace hc16 := hc16.only ho (show n0 + 15 ≠ b by omega)
  replace hc17 := hc17.only ho (show n0 + 16 ≠ b by omega)
  replace hc18 := hc18.only ho (show n0 + 17 ≠ b by omega)
  replace hc19 := hc19.only ho (show n0 + 18 ≠ b by omega)
  replace hc20 := hc20.only ho (show n0 + 19 ≠ b by omega)
  replace hc21 := hc21.only ho (show n0 + 20 ≠ b by omega)
  replace hsz : H.size = n0 + 21 := ho.1.trans hsz
  clear ho
  subst hbn
  obtain ⟨a, ha⟩ : ∃ a : Nat → Nat, a = aM b := ⟨_, rfl⟩
  obtain ⟨cI, hcI⟩ : ∃ x : ClassId, x = ids 0 := ⟨_, rfl⟩
  obtain ⟨cZ, hcZ⟩ : ∃ x : ClassId, x = ids 1 := ⟨_, rfl⟩
  have hK : va_K G vwCl (mTy cI cZ) s := by rw [hcI, hcZ]; exact hK.sub [0, 1] rfl
  have hP : va_P G vwCl (wm cI cZ a μ0) H := by
    rw [ha, hcI, hcZ]
    intro k q h
    rcases (show k = 0 ∨ k = 1 ∨ k = 2 ∨ k = 3 ∨ k = 4 ∨ k = 5 ∨ k = 6 ∨ k = 7 ∨ k = 8 ∨ k = 9 ∨ k = 10 ∨ k = 11 ∨ k = 12 ∨ k = 13 ∨ k = 14 ∨ k = 15 ∨ k = 16 ∨ k = 17 ∨ k = 18 ∨ k = 19 ∨ k = 20 ∨ k = 21 ∨ 22 ≤ k by omega) with rfl | rfl | rfl | rfl | rfl | rfl | rfl | rfl | rfl | rfl | rfl | rfl | rfl | rfl | rfl | rfl | rfl | rfl | rfl | rfl | rfl | rfl | h22
    · cases h; exact hh
    · cases h; exact hc1
    · cases h; exact hc2
    · cases h; exact hc3
    · cases h; exact hc4
    · cases h; exact hc5
    · cases h; exact hc6
    · cases h; exact hc7
    · cases h; exact hc8
    · cases h; exact hc9
    · cases h; exact hc10
    · cases h; exact hc11
    · cases h; exact hc12
    · cases h; exact hc13
    · cases h; exact hc14
    · cases h; exact hc15
    · cases h; exact hc16
    · cases h; exact hc17
    · cases h; exact hc18
    · cases h; exact hc19
    · cases h; exact hc20
    · cases h; exact hc21
    · have : k < (wm (ids 0) (ids 1) (aM b) μ0).length := (List.getElem?_eq_some_iff.mp h).1
      exact absurd this (by show ¬ k < 22; omega)
  have hD : va_D (fun q : Nat => b ≤ q) (wm cI cZ a μ0) := by rw [ha]; exact aM_D b cI cZ μ0
  have hl : lv_has ls 4 [(0, .ref (a 0))] := by rw [ha]; exact hl
  clear hh hc1 hc2 hc3 hc4 hc5 hc6 hc7 hc8 hc9 hc10 hc11 hc12 hc13 hc14 hc15 hc16 hc17 hc18 hc19 hc20 hc21
  refine w_named (fun WW hWW => ?_)
  refine lv_iconst (v := nI (0)) hx hb dX6_init_194 (by decide) ?_
  refine lv_istore_n (lv' := [(1, .int (nI (0))), (0, .ref (a 0))]) hx hb dX6_init_195 rfl hl (by decide) rfl (fun ls hl => ?_)
  have L196 : ∀ (n196 i196 : Nat), i196 ≤ 25 → 25 + 1 ≤ i196 + n196 → ∀ (z196 : Sg), z196 = lp (m_init_b196) i196 μ0 → ∀ (H : Heap) (locs : List Loc), va_P G vwCl (wm cI cZ a z196) H → va_D (fun q : Nat => b ≤ q) (wm cI cZ a z196) → va_S (fun q : Nat => b ≤ q) s.heap H locs → ∀ (ls : Array Slot), lv_has ls 4 [(1, .int (nI (i196))), (0, .ref (a 0))] → WW H locs 21 30895 (F0 m 196 ls []) := by
    intro n196
    induction n196 with
    | zero => intro i196 h1 h2; exact absurd h2 (by omega)
    | succ n196 ih196 =>
      intro i196 hi196 hn196 z196 hz196  H locs hP hD hS ls hl
      refine (hWW _ _ _ _ _).mpr ?_
      refine lv_iload_n hx hb dX6_init_196 rfl (lv_at hl 0 rfl) ?_
      refine lv_bipush (v := nI (25)) hx hb dX6_init_197 (by decide) ?_
      refine n_icmp_ge (x := i196) (y := 25) (tgt := 297) hx hb (by omega) (by omega) dX6_init_199 (by decide) (fun c_1 => ?_) (fun c_1 => ?_)
      · have hiN : 25 = i196 := by omega
        subst hiN
        have hR_2 : m_init_s = m_init_x196_s z196 := (by have q_ := hz196.symm; subst q_; unfold m_init_s; rfl)
        have hsp : z196 = m_init_s := (Eq.trans (by unfold m_init_x196_s; rfl) hR_2.symm)
        rw [hsp] at hP
        exact w_vret (Pic1 := fun H : Heap => va_P G vwCl (wm (ids 0) (ids 1) (aM b) m_init_s) H) hx hb hr hlocks (Nat.le_of_ble_eq_true rfl) (Nat.le_of_ble_eq_true rfl) (by show va_P G vwCl (wm (ids 0) (ids 1) (aM b) m_init_s) H; rw [← hcI, ← hcZ, ← ha]; exact hP) hS dX6_init_297
      · refine lv_aload_n hx hb dX6_init_202 rfl (lv_at hl 1 rfl) ?_
        refine m_get (v := .ref (a 2)) hx hb hts hin hown hK hP 2 (by decide) rfl (index := 7) (List.mem_of_getElem? (i := 5) rfl) dX6_init_203 ?_
        refine lv_iload_n hx hb dX6_init_206 rfl (lv_at hl 0 rfl) ?_
        refine lv_bipush (v := nI (100)) hx hb dX6_init_207 (by decide) ?_
        refine m_ast (j := i196) (v := nI (100)) hx hb hK hP hD hS 1 2 rfl rfl (by decide) (by omega) dX6_init_209 (fun H locs hP hD hS => ?_)
        obtain ⟨s_3, e_4⟩ : ∃ z : Sg, z = (si z196 2 (i196) (nI (100))) := ⟨_, rfl⟩
        rw [← e_4] at hP hD
        have hR_5 : m_init_b196 i196 z196 = m_init_k210 i196 z196 s_3 := (by have q_ := e_4.symm; subst q_; unfold m_init_b196; rfl)
        refine lv_aload_n hx hb dX6_init_210 rfl (lv_at hl 1 rfl) ?_
        refine m_get (v := .ref (a 5)) hx hb hts hin hown hK hP 5 (by decide) rfl (index := 19) (List.mem_of_getElem? (i := 8) rfl) dX6_init_211 ?_
        refine lv_iload_n hx hb dX6_init_214 rfl (lv_at hl 0 rfl) ?_
        refine lv_iconst (v := nI (2)) hx hb dX6_init_215 (by decide) ?_
        refine m_ast (j := i196) (v := nI (2)) hx hb hK hP hD hS 4 5 rfl rfl (by decide) (by omega) dX6_init_216 (fun H locs hP hD hS => ?_)
        obtain ⟨s_6, e_7⟩ : ∃ z : Sg, z = (si s_3 5 (i196) (nI (2))) := ⟨_, rfl⟩
        rw [← e_7] at hP hD
        have hR_8 : m_init_b196 i196 z196 = m_init_k217 i196 z196 s_3 s_6 := (Eq.trans hR_5 (by have q_ := e_7.symm; subst q_; unfold m_init_k210; rfl))
        refine lv_iconst (v := nI (0)) hx hb dX6_init_217 (by decide) ?_
        refine lv_istore_n (lv' := [(2, .int (nI (0))), (1, .int (nI (i196))), (0, .ref (a 0))]) hx hb dX6_init_218 rfl hl (by decide) rfl (fun ls hl => ?_)
        have L219 : ∀ (n219 i219 : Nat), i219 ≤ 5 → 5 + 1 ≤ i219 + n219 → ∀ (z219 : Sg), z219 = lp (m_init_b219 i196) i219 s_6 → ∀ (H : Heap) (locs : List Loc), va_P G vwCl (wm cI cZ a z219) H → va_D (fun q : Nat => b ≤ q) (wm cI cZ a z219) → va_S (fun q : Nat => b ≤ q) s.heap H locs → ∀ (ls : Array Slot), lv_has ls 4 [(2, .int (nI (i219))), (1, .int (nI (i196))), (0, .ref (a 0))] → WW H locs 21 30895 (F0 m 219 ls []) := by
          intro n219
          induction n219 with
          | zero => intro i219 h1 h2; exact absurd h2 (by omega)
          | succ n219 ih219 =>
            intro i219 hi219 hn219 z219 hz219  H locs hP hD hS ls hl
            refine (hWW _ _ _ _ _).mpr ?_
            refine lv_iload_n hx hb dX6_init_219 rfl (lv_at hl 0 rfl) ?_
            refine lv_iconst (v := nI (5)) hx hb dX6_init_220 (by decide) ?_
            refine n_icmp_ge (x := i219) (y := 5) (tgt := 291) hx hb (by omega) (by omega) dX6_init_221 (by decide) (fun c_9 => ?_) (fun c_9 => ?_)
            · have hiN : 5 = i219 := by omega
              subst hiN
              have hR_10 : m_init_b196 i196 z196 = m_init_x219 i196 z196 s_3 s_6 z219 := (Eq.trans hR_8 (by have q_ := hz219.symm; subst q_; unfold m_init_k217; rfl))
              refine n_iinc (x := i196) (dN := 1) (k := 1) (lv' := [(1, .int (nI (i196 + 1))), (2, .int (nI (5))), (0, .ref (a 0))]) hx hb dX6_init_291 hl rfl (by decide) rfl (fun ls hl => ?_)
              refine lv_goto (tgt := 196) hx hb dX6_init_294 (by decide) ?_
              exact (hWW _ _ _ _ _).mp (ih196 (i196 + 1) (by omega) (by omega) (z219) (by show _ = m_init_b196 i196 (lp (m_init_b196) i196 μ0); rw [← hz196]; exact (Eq.trans (by unfold m_init_x219; rfl) hR_10.symm))  _ _ hP hD hS _ (lv_sub hl [0, 2] rfl))
            · refine lv_iconst (v := nI (5)) hx hb dX6_init_224 (by decide) ?_
              refine lv_iload_n hx hb dX6_init_225 rfl (lv_at hl 1 rfl) ?_
              refine n_mul (x := 5) (y := i196) hx hb dX6_init_226 ?_
              refine lv_iload_n hx hb dX6_init_227 rfl (lv_at hl 0 rfl) ?_
              refine n_add (x := 5 * i196) (y := i219) hx hb dX6_init_228 ?_
              refine lv_istore_n (lv' := [(3, .int (nI ((5 * i196) + i219))), (2, .int (nI (i219))), (1, .int (nI (i196))), (0, .ref (a 0))]) hx hb dX6_init_229 rfl hl (by decide) rfl (fun ls hl => ?_)
              refine lv_aload_n hx hb dX6_init_230 rfl (lv_at hl 3 rfl) ?_
              refine m_get (v := .ref (a 8)) hx hb hts hin hown hK hP 8 (by decide) rfl (index := 28) (List.mem_of_getElem? (i := 11) rfl) dX6_init_231 ?_
              refine lv_iload_n hx hb dX6_init_234 rfl (lv_at hl 0 rfl) ?_
              refine lv_iconst (v := nI (5)) hx hb dX6_init_235 (by decide) ?_
              refine m_ast (j := (5 * i196) + i219) (v := nI (5)) hx hb hK hP hD hS 7 8 rfl rfl (by decide) (by omega) dX6_init_236 (fun H locs hP hD hS => ?_)
              obtain ⟨s_11, e_12⟩ : ∃ z : Sg, z = (si z219 8 ((5 * i196) + i219) (nI (5))) := ⟨_, rfl⟩
              rw [← e_12] at hP hD
              have hR_13 : m_init_b219 i196 i219 z219 = m_init_k237 i196 i219 z219 s_11 := (by have q_ := e_12.symm; subst q_; unfold m_init_b219; rfl)
              refine lv_aload_n hx hb dX6_init_237 rfl (lv_at hl 3 rfl) ?_
              refine m_get (v := .ref (a 9)) hx hb hts hin hown hK hP 9 (by decide) rfl (index := 31) (List.mem_of_getElem? (i := 12) rfl) dX6_init_238 ?_
              refine lv_iload_n hx hb dX6_init_241 rfl (lv_at hl 0 rfl) ?_
              refine lv_iload_n hx hb dX6_init_242 rfl (lv_at hl 1 rfl) ?_
              refine lv_iconst (v := nI (2)) hx hb dX6_init_243 (by decide) ?_
              have J266_17 : ∀ (x_16 : Int32), x_16 = (if i219 = 2 then nI (3) else (if i219 = 1 then nI (2) else (if i219 = 3 then nI (2) else nI (0)))) → ∀ (H : Heap) (locs : List Loc), va_P G vwCl (wm cI cZ a s_11) H → va_D (fun q : Nat => b ≤ q) (wm cI cZ a s_11) → va_S (fun q : Nat => b ≤ q) s.heap H locs → ∀ (ls : Array Slot), lv_has ls 4 [(3, .int (nI ((5 * i196) + i219))), (2, .int (nI (i219))), (1, .int (nI (i196))), (0, .ref (a 0))] → WW H locs 21 30895 (F0 m 266 ls [.int (x_16), .int (nI ((5 * i196) + i219)), .ref (a 9)]) := by
                intro x_16 h_18 H locs hP hD hS ls hl
                refine (hWW _ _ _ _ _).mpr ?_
                have hR_19 : m_init_b219 i196 i219 z219 = m_init_j266 i196 i219 z219 s_11 x_16 := (Eq.trans hR_13 (by have q_ := h_18.symm; subst q_; unfold m_init_k237; rfl))
                refine m_ast (j := (5 * i196) + i219) (v := x_16) hx hb hK hP hD hS 8 9 rfl rfl (by decide) (by omega) dX6_init_266 (fun H locs hP hD hS => ?_)
                obtain ⟨s_20, e_21⟩ : ∃ z : Sg, z = (si s_11 9 ((5 * i196) + i219) (x_16)) := ⟨_, rfl⟩
                rw [← e_21] at hP hD
                have hR_22 : m_init_b219 i196 i219 z219 = m_init_k267 i196 i219 z219 s_11 x_16 s_20 := (Eq.trans hR_19 (by have q_ := e_21.symm; subst q_; unfold m_init_j266; rfl))
                refine lv_aload_n hx hb dX6_init_267 rfl (lv_at hl 3 rfl) ?_
                refine m_get (v := .ref (a 10)) hx hb hts hin hown hK hP 10 (by decide) rfl (index := 34) (List.mem_of_getElem? (i := 13) rfl) dX6_init_268 ?_
                refine lv_iload_n hx hb dX6_init_271 rfl (lv_at hl 0 rfl) ?_
                refine lv_sipush (v := (-1000)) hx hb dX6_init_272 (by decide) ?_
                refine m_ast (j := (5 * i196) + i219) (v := (-1000)) hx hb hK hP hD hS 9 10 rfl rfl (by decide) (by omega) dX6_init_275 (fun H locs hP hD hS => ?_)
                obtain ⟨s_23, e_24⟩ : ∃ z : Sg, z = (si s_20 10 ((5 * i196) + i219) ((-1000))) := ⟨_, rfl⟩
                rw [← e_24] at hP hD
                have hR_25 : m_init_b219 i196 i219 z219 = m_init_k276 i196 i219 z219 s_11 x_16 s_20 s_23 := (Eq.trans hR_22 (by have q_ := e_24.symm; subst q_; unfold m_init_k267; rfl))
                refine lv_aload_n hx hb dX6_init_276 rfl (lv_at hl 3 rfl) ?_
                refine m_get (v := .ref (a 11)) hx hb hts hin hown hK hP 11 (by decide) rfl (index := 37) (List.mem_of_getElem? (i := 14) rfl) dX6_init_277 ?_
                refine lv_iload_n hx hb dX6_init_280 rfl (lv_at hl 0 rfl) ?_
                refine lv_sipush (v := nI (400)) hx hb dX6_init_281 (by decide) ?_
                refine m_ast (j := (5 * i196) + i219) (v := nI (400)) hx hb hK hP hD hS 10 11 rfl rfl (by decide) (by omega) dX6_init_284 (fun H locs hP hD hS => ?_)
                obtain ⟨s_26, e_27⟩ : ∃ z : Sg, z = (si s_23 11 ((5 * i196) + i219) (nI (400))) := ⟨_, rfl⟩
                rw [← e_27] at hP hD
                have hR_28 : m_init_b219 i196 i219 z219 = m_init_k285 i196 i219 z219 s_11 x_16 s_20 s_23 s_26 := (Eq.trans hR_25 (by have q_ := e_27.symm; subst q_; unfold m_init_k276; rfl))
                refine n_iinc (x := i219) (dN := 1) (k := 1) (lv' := [(2, .int (nI (i219 + 1))), (3, .int (nI ((5 * i196) + i219))), (1, .int (nI (i196))), (0, .ref (a 0))]) hx hb dX6_init_285 hl rfl (by decide) rfl (fun ls hl => ?_)
                refine lv_goto (tgt := 219) hx hb dX6_init_288 (by decide) ?_
                exact (hWW _ _ _ _ _).mp (ih219 (i219 + 1) (by omega) (by omega) (s_26) (by show _ = m_init_b219 i196 i219 (lp (m_init_b219 i196) i219 s_6); rw [← hz219]; exact (Eq.trans (by unfold m_init_k285; rfl) hR_28.symm))  _ _ hP hD hS _ (lv_sub hl [0, 2, 3] rfl))
              refine n_icmp_ne (x := i219) (y := 2) (tgt := 251) hx hb (by omega) (by omega) dX6_init_244 (by decide) (fun c_14 => ?_) (fun c_14 => ?_)
              · refine lv_iload_n hx hb dX6_init_251 rfl (lv_at hl 1 rfl) ?_
                refine lv_iconst (v := nI (1)) hx hb dX6_init_252 (by decide) ?_
                refine n_icmp_eq (x := i219) (y := 1) (tgt := 261) hx hb (by omega) (by omega) dX6_init_253 (by decide) (fun c_29 => ?_) (fun c_29 => ?_)
                · refine lv_iconst (v := nI (2)) hx hb dX6_init_261 (by decide) ?_
                  refine lv_goto (tgt := 266) hx hb dX6_init_262 (by decide) ?_
                  exact (hWW _ _ _ _ _).mp (J266_17 _ (by simp only [if_neg c_14, if_pos c_29]) _ _ hP hD hS _ (lv_sub hl [0, 1, 2, 3] rfl))
                · refine lv_iload_n hx hb dX6_init_256 rfl (lv_at hl 1 rfl) ?_
                  refine lv_iconst (v := nI (3)) hx hb dX6_init_257 (by decide) ?_
                  refine n_icmp_ne (x := i219) (y := 3) (tgt := 265) hx hb (by omega) (by omega) dX6_init_258 (by decide) (fun c_30 => ?_) (fun c_30 => ?_)
                  · refine lv_iconst (v := nI (0)) hx hb dX6_init_265 (by decide) ?_
                    exact (hWW _ _ _ _ _).mp (J266_17 _ (by simp only [if_neg c_14, if_neg c_29, if_neg c_30]) _ _ hP hD hS _ (lv_sub hl [0, 1, 2, 3] rfl))
                  · refine lv_iconst (v := nI (2)) hx hb dX6_init_261 (by decide) ?_
                    refine lv_goto (tgt := 266) hx hb dX6_init_262 (by decide) ?_
                    exact (hWW _ _ _ _ _).mp (J266_17 _ (by simp only [if_neg c_14, if_neg c_29, if_pos c_30]) _ _ hP hD hS _ (lv_sub hl [0, 1, 2, 3] rfl))
              · refine lv_iconst (v := nI (3)) hx hb dX6_init_247 (by decide) ?_
                refine lv_goto (tgt := 266) hx hb dX6_init_248 (by decide) ?_
                exact (hWW _ _ _ _ _).mp (J266_17 _ (by simp only [if_pos c_14]) _ _ hP hD hS _ (lv_sub hl [0, 1, 2, 3] rfl))
        exact (hWW _ _ _ _ _).mp (L219 (5 + 1) 0 (Nat.zero_le _) (by omega) s_6 rfl  _ _ hP hD hS _ (lv_sub hl [0, 1, 2] rfl))
  exact (hWW _ _ _ _ _).mp (L196 (25 + 1) 0 (Nat.zero_le _) (by omega) μ0 rfl  _ _ hP hD hS _ (lv_sub hl [0, 1] rfl))
