def c_wakeCarbon_x4 (σ : Sg) (i : Nat) (z4 : Int32 × Sg) : Int32 := z4.1
def c_wakeCarbon_x4_s (σ : Sg) (i : Nat) (z4 : Int32 × Sg) : Sg := z4.2
def c_wakeCarbon_k23 (i : Nat) (i4 : Nat) (z4 : Int32 × Sg) (s_4 : Sg) : Int32 × Sg := ((z4.1) + ((l_wakeCarbon z4.2 (5 * i + i4))), s_4)
def c_wakeCarbon_b4 (i : Nat) (i4 : Nat) (z4 : Int32 × Sg) : Int32 × Sg := (c_wakeCarbon_k23 i i4 z4 (l_wakeCarbon_s z4.2 (5 * i + i4)))
def c_wakeCarbon (σ : Sg) (i : Nat) : Int32 := (c_wakeCarbon_x4 σ i (lp (c_wakeCarbon_b4 i) 5 (nI (0), σ)))
def c_wakeCarbon_s (σ : Sg) (i : Nat) : Sg := (c_wakeCarbon_x4_s σ i (lp (c_wakeCarbon_b4 i) 5 (nI (0), σ)))
set_option maxHeartbeats 4000000 in
set_option maxRecDepth 100000 in
theorem cc_wakeCarbon (l : Launch) (G : va_G) (ids : Nat → ClassId) (b i : Nat) (σ : Sg) : xI l yX1_wakeCarbon wsX1_wakeCarbon ({ frames := 3, cells := 0, slots := 0, locals := 63 } : Room) G ids [.ref (b)] (XBP G ids b i σ) (c_wakeCarbon σ i) (XBP G ids b i (c_wakeCarbon_s σ i)) (bA b) := by
  unfold xI
  refine Met.ofW (cc := cX1_wakeCarbon) (maxL := 3) (ret := (some .int)) (by decide) rfl ?_
  intro p e s m args below meth c s₁ B hml hv
  obtain ⟨rfl, hP, hK⟩ := hv
  have hx := B.exec
  have hb := B.bytes
  have hr := B.returns
  have hts := atoms_spec (ws := wsX1_wakeCarbon) B.pre
  have hown : s.vm.findClass RX1 = some m.cls := findClass_of_methodNamed B.named
  have hlocks := B.notSynchronized
  have hS : va_S (bA b) s.heap s.heap [] := va_S.rf
  have hin_wsX10 : ∀ w ∈ wsX10, w ∈ wsX1_wakeCarbon := fun w h => List.mem_cons_of_mem _ (List.mem_append_left _ (List.mem_append_right _ h))
  have hin_wsX40 : ∀ w ∈ wsX40, w ∈ wsX1_wakeCarbon := fun w h => List.mem_cons_of_mem _ (List.mem_append_right _ h)
  have hl := lv_entry ([.ref (b)]) (n := 3) (Nat.le_of_ble_eq_true rfl)
  rw [lg_entry_eq]
  generalize (lg_sl ([.ref (b)]) ++ List.replicate (3 - (lg_sl ([.ref (b)])).length) Slot.unset).toArray = ls at hl ⊢
  have hl : lv_has ls 3 [(0, .ref (b))] := hl
  refine w_named (fun WW hWW => ?_)
  refine lv_iconst (v := nI (0)) hx hb dX1_wakeCarbon_0 (by decide) ?_
  refine lv_istore_n (lv' := [(1, .int (nI (0))), (0, .ref (b))]) hx hb dX1_wakeCarbon_1 rfl hl (by decide) rfl (fun ls hl => ?_)
  refine lv_iconst (v := nI (0)) hx hb dX1_wakeCarbon_2 (by decide) ?_
  refine lv_istore_n (lv' := [(2, .int (nI (0))), (1, .int (nI (0))), (0, .ref (b))]) hx hb dX1_wakeCarbon_3 rfl hl (by decide) rfl (fun ls hl => ?_)
  have L4 : ∀ (n4 i4 : Nat), i4 ≤ 5 → 5 + 1 ≤ i4 + n4 → ∀ (z4 : Int32 × Sg), z4 = lp (c_wakeCarbon_b4 i) i4 (nI (0), σ) → ∀ (H : Heap) (locs : List Loc), XBP G ids b i z4.2 H → va_S (bA b) s.heap H locs → ∀ (ls : Array Slot), lv_has ls 3 [(2, .int (nI (i4))), (1, .int (z4.1)), (0, .ref (b))] → WW H locs 0 0 (F0 m 4 ls []) := by
    intro n4
    induction n4 with
    | zero => intro i4 h1 h2; exact absurd h2 (by omega)
    | succ n4 ih4 =>
      intro i4 hi4 hn4 z4 hz4  H locs hP hS ls hl
      refine (hWW _ _ _ _ _).mpr ?_
      refine lv_iload_n hx hb dX1_wakeCarbon_4 rfl (lv_at hl 0 rfl) ?_
      refine lv_aload_n hx hb dX1_wakeCarbon_5 rfl (lv_at hl 2 rfl) ?_
      refine x_get (C := RX1) (T := TX1) (N := 7) (ci := 2) (fs := (cfs b i z4.2)) (v := .ref (b + 1)) hx hb hts hin_wsX10 hown hK hP.1 rfl 0 (by decide) (index := 14) (List.mem_of_getElem? (i := 1) rfl) rfl dX1_wakeCarbon_6 ?_
      refine x_alen hx hb hK 4 rfl hP.2.1 (n := 5) rfl dX1_wakeCarbon_9 ?_
      refine n_icmp_ge (x := i4) (y := 5) (tgt := 31) hx hb (by omega) (by omega) dX1_wakeCarbon_10 (by decide) (fun c_1 => ?_) (fun c_1 => ?_)
      · have hiN : 5 = i4 := by omega
        subst hiN
        have hR_2 : c_wakeCarbon σ i = c_wakeCarbon_x4 σ i z4 := (by have q_ := hz4.symm; subst q_; unfold c_wakeCarbon; rfl)
        have hR_3 : c_wakeCarbon_s σ i = c_wakeCarbon_x4_s σ i z4 := (by have q_ := hz4.symm; subst q_; unfold c_wakeCarbon_s; rfl)
        refine lv_iload_n hx hb dX1_wakeCarbon_31 rfl (lv_at hl 1 rfl) ?_
        have hsp : z4.2 = c_wakeCarbon_s σ i := (Eq.trans (by unfold c_wakeCarbon_x4_s; rfl) hR_3.symm)
        rw [hsp] at hP
        exact x_iret (v := z4.1) hx hb hr hlocks hP hS dX1_wakeCarbon_32 (Eq.trans (by unfold c_wakeCarbon_x4; rfl) hR_2.symm)
      · refine lv_iload_n hx hb dX1_wakeCarbon_13 rfl (lv_at hl 1 rfl) ?_
        refine lv_aload_n hx hb dX1_wakeCarbon_14 rfl (lv_at hl 2 rfl) ?_
        refine x_get (C := RX1) (T := TX1) (N := 7) (ci := 2) (fs := (cfs b i z4.2)) (v := .ref (b + 1)) hx hb hts hin_wsX10 hown hK hP.1 rfl 0 (by decide) (index := 14) (List.mem_of_getElem? (i := 1) rfl) rfl dX1_wakeCarbon_15 ?_
        refine lv_iload_n hx hb dX1_wakeCarbon_18 rfl (lv_at hl 0 rfl) ?_
        refine x_aald (r := b + 2 + i4) hx hb hK 4 rfl hP.2.1 (vp_in_nI (by omega) (by decide)) (by rw [nI_clamp (by omega)]) dX1_wakeCarbon_19 ?_
        refine x_callI (As := []) (rest := [.int (z4.1)]) (fun q h => by subst h; unfold bA; omega) ⟨hx, hb, hml, hown, hts⟩ (cl_wakeCarbon l G ids (b + 2 + i4) (5 * i + i4) z4.2) (cwV 0 hts gX1_wakeCarbon_X4_wakeCarbon rfl rfl rfl (by decide +kernel) ⟨Nat.le_of_ble_eq_true rfl, Nat.le_of_ble_eq_true rfl⟩) hK (hP.2.2 i4 (by omega)) rfl (hP.2.2 i4 (by omega)) hS rfl hl.1 rfl (Nat.le_of_ble_eq_true rfl) dX1_wakeCarbon_20 ⟨Nat.zero_le _, Nat.zero_le _⟩ (fun H locs hP1 _ hk1 hS => ?_)
        replace hP := hP.join (by omega) hP1 hk1 (l_wakeCarbon_same)
        obtain ⟨s_4, e_5⟩ : ∃ z : Sg, z = (l_wakeCarbon_s z4.2 (5 * i + i4)) := ⟨_, rfl⟩
        rw [← e_5] at hP
        have hR_6 : c_wakeCarbon_b4 i i4 z4 = c_wakeCarbon_k23 i i4 z4 s_4 := (by have q_ := e_5.symm; subst q_; unfold c_wakeCarbon_b4; rfl)
        refine lv_iadd (x := z4.1) (y := (l_wakeCarbon z4.2 (5 * i + i4))) hx hb dX1_wakeCarbon_23 ?_
        refine lv_istore_n (lv' := [(1, .int ((z4.1) + ((l_wakeCarbon z4.2 (5 * i + i4))))), (2, .int (nI (i4))), (0, .ref (b))]) hx hb dX1_wakeCarbon_24 rfl hl (by decide) rfl (fun ls hl => ?_)
        refine n_iinc (x := i4) (dN := 1) (k := 1) (lv' := [(2, .int (nI (i4 + 1))), (1, .int ((z4.1) + ((l_wakeCarbon z4.2 (5 * i + i4))))), (0, .ref (b))]) hx hb dX1_wakeCarbon_25 hl rfl (by decide) rfl (fun ls hl => ?_)
        refine lv_goto (tgt := 4) hx hb dX1_wakeCarbon_28 (by decide) ?_
        exact (hWW _ _ _ _ _).mp (ih4 (i4 + 1) (by omega) (by omega) (((z4.1) + ((l_wakeCarbon z4.2 (5 * i + i4))), s_4)) (by show _ = c_wakeCarbon_b4 i i4 (lp (c_wakeCarbon_b4 i) i4 (nI (0), σ)); rw [← hz4]; exact (Eq.trans (by unfold c_wakeCarbon_k23; rfl) hR_6.symm))  _ _ hP hS _ (lv_sub hl [0, 1, 2] rfl))
  exact (hWW _ _ _ _ _).mp (L4 (5 + 1) 0 (Nat.zero_le _) (by omega) (nI (0), σ) rfl  _ _ hP hS _ (lv_sub hl [0, 1, 2] rfl))
