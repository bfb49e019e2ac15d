def k_borehole_k54 (σ : Sg) (cell : Int32) (dr : Int32) (x_7 : Int32) (s_14 : Sg) : Int32 := ((s_14.1 19 0)) - (nI (1))
def k_borehole_k54_s (σ : Sg) (cell : Int32) (dr : Int32) (x_7 : Int32) (s_14 : Sg) : Sg := s_14
def k_borehole_j31 (σ : Sg) (cell : Int32) (dr : Int32) (x_7 : Int32) : Int32 := (k_borehole_k54 σ cell dr x_7 (gB σ (cell) (dr) (nI ((σ.1 1 0).toNatClampNeg))))
def k_borehole_j31_s (σ : Sg) (cell : Int32) (dr : Int32) (x_7 : Int32) : Sg := (k_borehole_k54_s σ cell dr x_7 (gB σ (cell) (dr) (nI ((σ.1 1 0).toNatClampNeg))))
def k_borehole (σ : Sg) (cell : Int32) (dr : Int32) : Int32 := (k_borehole_j31 σ cell dr (if nI (10) ≤ (σ.1 19 0) then nI (0) else nI (1)))
def k_borehole_s (σ : Sg) (cell : Int32) (dr : Int32) : Sg := (k_borehole_j31_s σ cell dr (if nI (10) ≤ (σ.1 19 0) then nI (0) else nI (1)))
def kx_borehole (σ : Sg) (cell : Int32) (dr : Int32) : Nat := xs (xIx (cell) (nI (25))) (xs (xRg (dr) ((-12)) (nI (12))) (xs (xSt ((if nI (10) ≤ (σ.1 19 0) then nI (0) else nI (1)))) (0)))
set_option maxHeartbeats 4000000 in
set_option maxRecDepth 100000 in
theorem cx_borehole (l : Launch) (hl0 : l.stackTraces = false) (G : va_G) (ids : Nat → ClassId) (o z tS tE : Nat) (d : Nat → Nat → Nat) (w : Nat → Nat) (σ : Sg) (cell : Int32) (dr : Int32) (hO : cOK σ) (hW0 : wOK σ w) : zJ l yX5_borehole wsX5_borehole ({ frames := 8, cells := 6, slots := 3083, locals := 161 } : Room) G ids tS tE [.ref (o), .int (cell), .int (dr)] o z d w σ (kx_borehole σ cell dr) (k_borehole σ cell dr) (k_borehole_s σ cell dr) 6 3083 := by
  unfold zJ
  refine vx_ofW (cc := cX5_borehole) (maxL := 3) (ret := (some .int)) (by decide) rfl ?_
  intro p e s m args below meth c s₁ B hml hno hv
  obtain ⟨rfl, ⟨hP, hz0⟩, hK, hZ⟩ := hv
  have hx := B.exec
  have hb := B.bytes
  have hr := B.returns
  have hts := atoms_spec (ws := wsX5_borehole) B.pre
  have hown : s.vm.findClass RX5 = some m.cls := findClass_of_methodNamed B.named
  have hlocks := B.notSynchronized
  have hS : va_S (cpG o z) s.heap s.heap [] := va_S.rf
  have hin_wsX50 : ∀ w ∈ wsX50, w ∈ wsX5_borehole := fun w h => List.mem_cons_of_mem _ (List.mem_append_left _ (List.mem_append_left _ (List.mem_append_left _ (List.mem_append_left _ (List.mem_append_left _ (List.mem_append_right _ h))))))
  have hin_wsX00 : ∀ w ∈ wsX00, w ∈ wsX5_borehole := fun w h => List.mem_cons_of_mem _ (List.mem_append_left _ (List.mem_append_left _ (List.mem_append_left _ (List.mem_append_left _ (List.mem_append_right _ h)))))
  have hin_wsJx4a65c0 : ∀ w ∈ wsJx4a65c0, w ∈ wsX5_borehole := fun w h => List.mem_cons_of_mem _ (List.mem_append_left _ (List.mem_append_left _ (List.mem_append_left _ (List.mem_append_right _ h))))
  have hl := lv_entry ([.ref (o), .int (cell), .int (dr)]) (n := 3) (Nat.le_of_ble_eq_true rfl)
  rw [lg_entry_eq]
  generalize (lg_sl ([.ref (o), .int (cell), .int (dr)]) ++ List.replicate (3 - (lg_sl ([.ref (o), .int (cell), .int (dr)])).length) Slot.unset).toArray = ls at hl ⊢
  have hl : lv_has ls 3 [(0, .ref (o)), (1, .int (cell)), (2, .int (dr))] := hl
  refine w_named (fun WW hWW => ?_)
  refine lv_iload_n hx hb dX5_borehole_0 rfl (lv_at hl 1 rfl) ?_
  refine lv_bipush (v := nI (25)) hx hb dX5_borehole_1 (by decide) ?_
  refine p_need (As := [.int (cell), .int (nI (25))]) (rest := []) (X := xIx (cell) (nI (25))) (c1 := 1) (s1 := 6) ⟨hx, hb, hml, hown, hts⟩ (ck_needIndex l hl0 tS tE (cell) (nI (25))) (va_cwS 2 hts gX5_borehole_X5_needIndex rfl rfl rfl (by decide +kernel) ⟨Nat.le_of_ble_eq_true rfl, Nat.le_of_ble_eq_true rfl⟩) hno hlocks hZ hP hS rfl hl.1 rfl (Nat.le_of_ble_eq_true rfl) dX5_borehole_3 ⟨Nat.le_of_ble_eq_true rfl, Nat.le_of_ble_eq_true rfl⟩ rfl rfl (Nat.le_of_ble_eq_true rfl) (Nat.le_of_ble_eq_true rfl) (fun hq_2 => by unfold kx_borehole; simp only [xs, if_neg hq_2]) (fun hX_1 H locs hP hS => ?_)
  refine lv_iload_n hx hb dX5_borehole_6 rfl (lv_at hl 2 rfl) ?_
  refine lv_bipush (v := (-12)) hx hb dX5_borehole_7 (by decide) ?_
  refine lv_bipush (v := nI (12)) hx hb dX5_borehole_9 (by decide) ?_
  refine p_need (As := [.int (dr), .int ((-12)), .int (nI (12))]) (rest := []) (X := xRg (dr) ((-12)) (nI (12))) (c1 := 2) (s1 := 12) ⟨hx, hb, hml, hown, hts⟩ (ck_needRange l hl0 tS tE (dr) ((-12)) (nI (12))) (va_cwS 3 hts gX5_borehole_X5_needRange rfl rfl rfl (by decide +kernel) ⟨Nat.le_of_ble_eq_true rfl, Nat.le_of_ble_eq_true rfl⟩) hno hlocks hZ hP hS rfl hl.1 rfl (Nat.le_of_ble_eq_true rfl) dX5_borehole_11 ⟨Nat.le_of_ble_eq_true rfl, Nat.le_of_ble_eq_true rfl⟩ rfl rfl (Nat.le_of_ble_eq_true rfl) (Nat.le_of_ble_eq_true rfl) (fun hq_4 => by unfold kx_borehole; simp only [xs, if_pos hX_1, if_neg hq_4]) (fun hX_3 H locs hP hS => ?_)
  refine lv_aload_n hx hb dX5_borehole_14 rfl (lv_at hl 0 rfl) ?_
  refine x_get (C := RX5) (T := TX5) (N := 10) (ci := 6) (fs := (cpOf o σ)) (v := .ref (o + 3)) hx hb hts hin_wsX50 hown hK hP.main rfl 2 (by decide) (index := 22) (List.mem_of_getElem? (i := 1) rfl) rfl dX5_borehole_15 ?_
  refine p_size (L := 1) (rest := []) (by decide) rfl ⟨hx, hb, hml, hown, hts⟩ (cwV 0 hts gX5_borehole_Jx4a65c_size_8abf5 rfl rfl rfl (by decide +kernel) ⟨Nat.le_of_ble_eq_true rfl, Nat.le_of_ble_eq_true rfl⟩) hK hP hS hl.1 (v := (σ.1 19 0)) rfl (Nat.le_of_ble_eq_true rfl) dX5_borehole_18 ⟨Nat.le_of_ble_eq_true rfl, Nat.le_of_ble_eq_true rfl⟩ (fun H locs hP hS => ?_)
  refine lv_bipush (v := nI (10)) hx hb dX5_borehole_21 (by decide) ?_
  have J31_8 : ∀ (x_7 : Int32), x_7 = (if nI (10) ≤ (σ.1 19 0) then nI (0) else nI (1)) → ∀ (H : Heap) (locs : List Loc), CPic G ids o z tE d w σ H → va_S (cpG o z) s.heap H locs → ∀ (ls : Array Slot), lv_has ls 3 [(0, .ref (o)), (1, .int (cell)), (2, .int (dr))] → WW H locs 2 12 (F0 m 31 ls [.int (x_7)]) := by
    intro x_7 h_9 H locs hP hS ls hl
    refine (hWW _ _ _ _ _).mpr ?_
    have hR_10 : k_borehole σ cell dr = k_borehole_j31 σ cell dr x_7 := (by have q_ := h_9.symm; subst q_; unfold k_borehole; rfl)
    have hR_11 : k_borehole_s σ cell dr = k_borehole_j31_s σ cell dr x_7 := (by have q_ := h_9.symm; subst q_; unfold k_borehole_s; rfl)
    refine p_need (As := [.int (x_7)]) (rest := []) (X := xSt (x_7)) (c1 := 3) (s1 := 18) ⟨hx, hb, hml, hown, hts⟩ (ck_needState l hl0 tS tE (x_7)) (va_cwS 1 hts gX5_borehole_X5_needState rfl rfl rfl (by decide +kernel) ⟨Nat.le_of_ble_eq_true rfl, Nat.le_of_ble_eq_true rfl⟩) hno hlocks hZ hP hS rfl hl.1 rfl (Nat.le_of_ble_eq_true rfl) dX5_borehole_31 ⟨Nat.le_of_ble_eq_true rfl, Nat.le_of_ble_eq_true rfl⟩ rfl rfl (Nat.le_of_ble_eq_true rfl) (Nat.le_of_ble_eq_true rfl) (fun hq_13 => by have q_ := h_9.symm; subst q_; unfold kx_borehole; simp only [xs, if_pos hX_1, if_pos hX_3, if_neg hq_13]) (fun hX_12 H locs hP hS => ?_)
    have hXz : (kx_borehole σ cell dr) = 0 := by have q_ := h_9.symm; subst q_; unfold kx_borehole; simp only [xs, if_pos hX_1, if_pos hX_3, if_pos hX_12]
    refine lv_aload_n hx hb dX5_borehole_34 rfl (lv_at hl 0 rfl) ?_
    refine x_get (C := RX5) (T := TX5) (N := 10) (ci := 6) (fs := (cpOf o σ)) (v := .ref (o + 3)) hx hb hts hin_wsX50 hown hK hP.main rfl 2 (by decide) (index := 22) (List.mem_of_getElem? (i := 1) rfl) rfl dX5_borehole_35 ?_
    obtain ⟨n1, hn1⟩ : ∃ n : Nat, H.size = n := ⟨_, rfl⟩
    have hzn : z ≤ n1 := by have q1 := hS.1; omega
    have hlt : ∀ y, cpU σ y → cpA o d y < n1 := fun y hy => by have q2 := hP.lt hy; omega
    have hfr : ∀ y, cpU σ y → cpA o d y ≠ n1 := fun y hy => Nat.ne_of_lt (hlt y hy)
    refine x_new (C := RX0) (T := TX0) (N := 5) (ci := 1) (fs := [.int (0), .int (0), .int (0), .null, .int (0)]) (c1 := 4) (s1 := 23) (q := n1) hx hb hts hin_wsX00 tyX0 tyX0_ok hown (List.mem_of_getElem? (i := 2) rfl) (List.mem_of_getElem? (i := 3) rfl) (List.mem_of_getElem? (i := 4) rfl) hK hS rfl (fun j hj => by rcases (show j = 0 ∨ j = 1 ∨ j = 2 ∨ j = 3 ∨ j = 4 by omega) with rfl | rfl | rfl | rfl | rfl <;> rfl) (Nat.le_of_ble_eq_true rfl) (Nat.le_of_ble_eq_true rfl) dX5_borehole_38 rfl rfl hn1 (fun H hm hx_ hS => ?_)
    replace hP := hP.keep (fun q hq _ => hm.2 q hq)
    have hsz : H.size = n1 + 1 := by rw [hm.1, hn1]
    clear hm
    refine lv_dup hx hb dX5_borehole_41 rfl ?_
    refine lv_iload_n hx hb dX5_borehole_42 rfl (lv_at hl 1 rfl) ?_
    refine lv_iload_n hx hb dX5_borehole_43 rfl (lv_at hl 2 rfl) ?_
    refine lv_aload_n hx hb dX5_borehole_44 rfl (lv_at hl 0 rfl) ?_
    refine x_get (C := RX5) (T := TX5) (N := 10) (ci := 6) (fs := (cpOf o σ)) (v := .int ((σ.1 1 0))) hx hb hts hin_wsX50 hown hK hP.main rfl 4 (by decide) (index := 82) (List.mem_of_getElem? (i := 5) rfl) rfl dX5_borehole_45 ?_
    have hml_ := vp_lt hO.2.2.2.1
    refine W.eq (g2 := F0 m 48 ls (.int (nI ((σ.1 1 0).toNatClampNeg)) :: .int (dr) :: .int (cell) :: .ref (n1) :: .ref (n1) :: .ref (o + 3) :: [])) (congrArg (fun v => F0 m 48 ls (Value.int v :: .int (dr) :: .int (cell) :: .ref (n1) :: .ref (n1) :: .ref (o + 3) :: [])) (vp_self hO.2.2.2.1)) ?_
    refine w_init (As := [.int (cell), .int (dr), .int (nI ((σ.1 1 0).toNatClampNeg))]) (rest := [.ref (n1), .ref (o + 3)]) (c1 := 5) (s1 := 3023) (fun q h => by rw [show q = n1 from h]; exact Or.inr hzn) ⟨hx, hb, hml, hown, hts⟩ (cn_X0_init l G ids tS tE n1 (n1 + 1) ((σ.1 1 0).toNatClampNeg) (cell) (dr) (by omega)) (cwI 3 hts gX5_borehole_X0_init rfl rfl rfl (hts _ (List.mem_of_getElem? (i := 4) rfl)) (hts _ (List.mem_of_getElem? (i := 28) rfl)) (hts _ (List.mem_of_getElem? (i := 29) rfl)) rfl (by decide +kernel) ⟨Nat.le_of_ble_eq_true rfl, Nat.le_of_ble_eq_true rfl⟩) hK hZ ⟨hsz, hx_⟩ hS rfl hl.1 rfl (Nat.le_of_ble_eq_true rfl) dX5_borehole_48 ⟨Nat.le_of_ble_eq_true rfl, Nat.le_of_ble_eq_true rfl⟩ rfl rfl (fun H locs hP1 _ hk1 hS => ?_)
    obtain ⟨hsz, hx_, hy_⟩ := hP1
    replace hP := hP.keepx hfr hk1
    have hy2 : va_at G vwCl (n1 + 1, .inl (ids 0, 5 * (600 - (nI ((σ.1 1 0).toNatClampNeg)).toNatClampNeg), .inl (fun _ => 0))) H := by rw [nI_clamp (by omega)]; exact hy_
    have hW1 : wOK σ w := hW0
    have hn40 : cpN σ 1 < 40 := by have q := vp_lt hO.2.1; show (σ.1 19 0).toNatClampNeg < 40; omega
    have hcnt : σ.1 19 0 = nI (cpN σ 1) := vp_self hO.2.1
    have hn1H : n1 < H.size := hx_.lt
    refine p_add (L := 1) (x := n1) (rest := []) (c1 := 6) (s1 := 3083) (by decide) rfl ⟨hx, hb, hml, hown, hts⟩ (cwV 1 hts gX5_borehole_Jx4a65c_add_9ea2d rfl rfl rfl (by decide +kernel) ⟨Nat.le_of_ble_eq_true rfl, Nat.le_of_ble_eq_true rfl⟩) (cwV 1 hts gX5_borehole_Jx4a65c_add_9ea2d rfl rfl rfl (by decide +kernel) ⟨Nat.le_of_ble_eq_true rfl, Nat.le_of_ble_eq_true rfl⟩) (cwV 1 hts gX5_borehole_Jx4a65c_add_9ea2d rfl rfl rfl (by decide +kernel) ⟨Nat.le_of_ble_eq_true rfl, Nat.le_of_ble_eq_true rfl⟩) hK hZ hP (hW1 1 (by decide)) hn40 hcnt hx_ hfr (by have q1 := hS.1; omega) hS hl.1 (Nat.le_of_ble_eq_true rfl) dX5_borehole_51 ⟨Nat.le_of_ble_eq_true rfl, Nat.le_of_ble_eq_true rfl⟩ rfl rfl (fun H1 locs1 r9 k9 hlst hrow hkk hr9 hz9 hk9 hS => ?_)
    have hr0 : cpN σ 1 ≠ 0 → d 0 1 < n1 := fun h0 => hlt (0, 1) (cpU_0 (by decide) h0)
    have hxr : n1 ≠ r9 := Or.elim hr9 (fun h1 => by have q3 := hr0 h1.1; have q4 := h1.2; omega) (fun h1 => by omega)
    have hr8 : cpN σ 1 ≠ 0 ∧ r9 = d 0 1 ∨ n1 ≤ r9 := hr9.imp id (fun h => by omega)
    replace hx_ := hx_.kept (hk9 n1 hn1H (by have q4 := hP.2.2.2.1; omega) (fun h0 => by have q3 := hr0 h0; omega))
    replace hy2 := hy2.kept (hk9 (n1 + 1) (by omega) (by have q4 := hP.2.2.2.1; omega) (fun h0 => by have q3 := hr0 h0; omega))
    have hyr : n1 + 1 ≠ r9 := Or.elim hr9 (fun h1 => by have q3 := hr0 h1.1; have q4 := h1.2; omega) (fun h1 => by omega)
    have hW2 : wOK (gB σ (cell) (dr) (nI ((σ.1 1 0).toNatClampNeg))) (fun M => if M = 1 then k9 else w M) := wOK_grow hW1 (fun M h1 h2 => gB_M h1 h2) hkk.2.1
    replace hP := hP.addB (r' := r9) (k' := k9) (x := n1) (y := n1 + 1) (n1 := n1) hn40 hlst hrow hkk hr8 hk9 hlt hzn hx_ hy2 ⟨Nat.le_refl _, hxr⟩ ⟨by omega, hyr⟩ (by omega)
    clear hk9 hlst hrow hr9 hr8 hr0
    obtain ⟨s_14, e_15⟩ : ∃ z : Sg, z = (gB σ (cell) (dr) (nI ((σ.1 1 0).toNatClampNeg))) := ⟨_, rfl⟩
    rw [← e_15] at hP
    have hR_16 : k_borehole σ cell dr = k_borehole_k54 σ cell dr x_7 s_14 := (Eq.trans hR_10 (by have q_ := e_15.symm; subst q_; unfold k_borehole_j31; rfl))
    have hR_17 : k_borehole_s σ cell dr = k_borehole_k54_s σ cell dr x_7 s_14 := (Eq.trans hR_11 (by have q_ := e_15.symm; subst q_; unfold k_borehole_j31_s; rfl))
    refine lv_pop hx hb dX5_borehole_54 rfl ?_
    refine lv_aload_n hx hb dX5_borehole_55 rfl (lv_at hl 0 rfl) ?_
    refine x_get (C := RX5) (T := TX5) (N := 10) (ci := 6) (fs := (cpOf o s_14)) (v := .ref (o + 3)) hx hb hts hin_wsX50 hown hK hP.main rfl 2 (by decide) (index := 22) (List.mem_of_getElem? (i := 1) rfl) rfl dX5_borehole_56 ?_
    refine p_size (L := 1) (rest := []) (by decide) rfl ⟨hx, hb, hml, hown, hts⟩ (cwV 0 hts gX5_borehole_Jx4a65c_size_8abf5 rfl rfl rfl (by decide +kernel) ⟨Nat.le_of_ble_eq_true rfl, Nat.le_of_ble_eq_true rfl⟩) hK hP hS hl.1 (v := (s_14.1 19 0)) rfl (Nat.le_of_ble_eq_true rfl) dX5_borehole_59 ⟨Nat.le_of_ble_eq_true rfl, Nat.le_of_ble_eq_true rfl⟩ (fun H locs hP hS => ?_)
    refine lv_iconst (v := nI (1)) hx hb dX5_borehole_62 (by decide) ?_
    refine lv_isub (x := (s_14.1 19 0)) (y := nI (1)) hx hb dX5_borehole_63 ?_
    have hsp : s_14 = k_borehole_s σ cell dr := (Eq.trans (by unfold k_borehole_k54_s; rfl) hR_17.symm)
    rw [← e_15] at hW2
    rw [hsp] at hP hW2
    exact z_jret (v := ((s_14.1 19 0)) - (nI (1))) hx hb hr hlocks hXz (Nat.le_of_ble_eq_true rfl) (Nat.le_of_ble_eq_true rfl) hP hW2 hS dX5_borehole_64 (Eq.trans (by unfold k_borehole_k54; rfl) hR_16.symm)
  refine lv_icmp_ge (x := (σ.1 19 0)) (y := nI (10)) (tgt := 30) hx hb dX5_borehole_23 (by decide) (fun c_5 => ?_) (fun c_5 => ?_)
  · refine lv_iconst (v := nI (0)) hx hb dX5_borehole_30 (by decide) ?_
    exact (hWW _ _ _ _ _).mp (J31_8 _ (by simp only [if_pos c_5]) _ _ hP hS _ (lv_sub hl [0, 1, 2] rfl))
  · refine lv_iconst (v := nI (1)) hx hb dX5_borehole_26 (by decide) ?_
    refine lv_goto (tgt := 31) hx hb dX5_borehole_27 (by decide) ?_
    exact (hWW _ _ _ _ _).mp (J31_8 _ (by simp only [if_neg c_5]) _ _ hP hS _ (lv_sub hl [0, 1, 2] rfl))
