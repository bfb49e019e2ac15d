def k_claim_k75 (σ : Sg) (house : Int32) (x_5 : Int32) (s_12 : Sg) : Int32 := ((s_12.1 24 0)) - (nI (1))
def k_claim_k75_s (σ : Sg) (house : Int32) (x_5 : Int32) (s_12 : Sg) : Sg := s_12
def k_claim_j28 (σ : Sg) (house : Int32) (x_5 : Int32) : Int32 := (k_claim_k75 σ house x_5 (gC σ (house) ((σ.1 17 (house).toNatClampNeg)) ((σ.1 1 0)) ((k_claimAmount σ ((house).toNatClampNeg) (σ.1 17 ((house).toNatClampNeg)) (σ.1 1 0)))))
def k_claim_j28_s (σ : Sg) (house : Int32) (x_5 : Int32) : Sg := (k_claim_k75_s σ house x_5 (gC σ (house) ((σ.1 17 (house).toNatClampNeg)) ((σ.1 1 0)) ((k_claimAmount σ ((house).toNatClampNeg) (σ.1 17 ((house).toNatClampNeg)) (σ.1 1 0)))))
def k_claim (σ : Sg) (house : Int32) : Int32 := (k_claim_j28 σ house (if nI (40) ≤ (σ.1 24 0) then nI (0) else nI (1)))
def k_claim_s (σ : Sg) (house : Int32) : Sg := (k_claim_j28_s σ house (if nI (40) ≤ (σ.1 24 0) then nI (0) else nI (1)))
def kx_claim (σ : Sg) (house : Int32) : Nat := xs (xIx (house) ((σ.1 13 0))) (xs (xSt ((if nI (40) ≤ (σ.1 24 0) then nI (0) else nI (1)))) (0))
set_option maxHeartbeats 4000000 in
set_option maxRecDepth 100000 in
theorem cx_claim (l : Launch) (hl0 : l.stackTraces = false) (G : va_G) (ids : Nat → ClassId) (o z tS tE : Nat) (d : Nat → Nat → Nat) (w : Nat → Nat) (σ : Sg) (house : Int32) (hO : cOK σ) (hW0 : wOK σ w) : zJ l yX5_claim wsX5_claim ({ frames := 8, cells := 4, slots := 76, locals := 161 } : Room) G ids tS tE [.ref (o), .int (house)] o z d w σ (kx_claim σ house) (k_claim σ house) (k_claim_s σ house) 4 76 := by
  unfold zJ
  refine vx_ofW (cc := cX5_claim) (maxL := 3) (ret := (some .int)) (by decide) rfl ?_
  intro p e s m args below meth c s₁ B hml hno hv
  obtain ⟨rfl, ⟨hP, hz0⟩, hK, hZ⟩ := hv
  have hx := B.exec
  have hb := B.bytes
  have hr := B.returns
  have hts := atoms_spec (ws := wsX5_claim) B.pre
  have hown : s.vm.findClass RX5 = some m.cls := findClass_of_methodNamed B.named
  have hlocks := B.notSynchronized
  have hS : va_S (cpG o z) s.heap s.heap [] := va_S.rf
  have hin_wsX50 : ∀ w ∈ wsX50, w ∈ wsX5_claim := fun w h => List.mem_cons_of_mem _ (List.mem_append_left _ (List.mem_append_left _ (List.mem_append_left _ (List.mem_append_left _ (List.mem_append_left _ (List.mem_append_left _ (List.mem_append_right _ h)))))))
  have hin_wsX20 : ∀ w ∈ wsX20, w ∈ wsX5_claim := fun w h => List.mem_cons_of_mem _ (List.mem_append_left _ (List.mem_append_left _ (List.mem_append_left _ (List.mem_append_left _ (List.mem_append_left _ (List.mem_append_right _ h))))))
  have hin_wsX30 : ∀ w ∈ wsX30, w ∈ wsX5_claim := fun w h => List.mem_cons_of_mem _ (List.mem_append_left _ (List.mem_append_left _ (List.mem_append_left _ (List.mem_append_left _ (List.mem_append_right _ h)))))
  have hin_wsJx4a65c0 : ∀ w ∈ wsJx4a65c0, w ∈ wsX5_claim := fun w h => List.mem_cons_of_mem _ (List.mem_append_left _ (List.mem_append_left _ (List.mem_append_left _ (List.mem_append_right _ h))))
  have hin_wsX00 : ∀ w ∈ wsX00, w ∈ wsX5_claim := fun w h => List.mem_cons_of_mem _ (List.mem_append_left _ (List.mem_append_left _ (List.mem_append_right _ h)))
  have hl := lv_entry ([.ref (o), .int (house)]) (n := 3) (Nat.le_of_ble_eq_true rfl)
  rw [lg_entry_eq]
  generalize (lg_sl ([.ref (o), .int (house)]) ++ List.replicate (3 - (lg_sl ([.ref (o), .int (house)])).length) Slot.unset).toArray = ls at hl ⊢
  have hl : lv_has ls 3 [(0, .ref (o)), (1, .int (house))] := hl
  refine w_named (fun WW hWW => ?_)
  refine lv_iload_n hx hb dX5_claim_0 rfl (lv_at hl 1 rfl) ?_
  refine lv_aload_n hx hb dX5_claim_1 rfl (lv_at hl 0 rfl) ?_
  refine x_get (C := RX5) (T := TX5) (N := 10) (ci := 6) (fs := (cpOf o σ)) (v := .ref (o + 2)) hx hb hts hin_wsX50 hown hK hP.main rfl 1 (by decide) (index := 18) (List.mem_of_getElem? (i := 1) rfl) rfl dX5_claim_2 ?_
  refine p_size (L := 0) (rest := [.int (house)]) (by decide) rfl ⟨hx, hb, hml, hown, hts⟩ (cwV 0 hts gX5_claim_Jx4a65c_size_8abf5 rfl rfl rfl (by decide +kernel) ⟨Nat.le_of_ble_eq_true rfl, Nat.le_of_ble_eq_true rfl⟩) hK hP hS hl.1 (v := (σ.1 13 0)) rfl (Nat.le_of_ble_eq_true rfl) dX5_claim_5 ⟨Nat.le_of_ble_eq_true rfl, Nat.le_of_ble_eq_true rfl⟩ (fun H locs hP hS => ?_)
  refine p_need (As := [.int (house), .int ((σ.1 13 0))]) (rest := []) (X := xIx (house) ((σ.1 13 0))) (c1 := 1) (s1 := 6) ⟨hx, hb, hml, hown, hts⟩ (ck_needIndex l hl0 tS tE (house) ((σ.1 13 0))) (va_cwS 2 hts gX5_claim_X5_needIndex rfl rfl rfl (by decide +kernel) ⟨Nat.le_of_ble_eq_true rfl, Nat.le_of_ble_eq_true rfl⟩) hno hlocks hZ hP hS rfl hl.1 rfl (Nat.le_of_ble_eq_true rfl) dX5_claim_8 ⟨Nat.le_of_ble_eq_true rfl, Nat.le_of_ble_eq_true rfl⟩ rfl rfl (Nat.le_of_ble_eq_true rfl) (Nat.le_of_ble_eq_true rfl) (fun hq_2 => by unfold kx_claim; simp only [xs, if_neg hq_2]) (fun hX_1 H locs hP hS => ?_)
  have hidx := hX_1
  refine lv_aload_n hx hb dX5_claim_11 rfl (lv_at hl 0 rfl) ?_
  refine x_get (C := RX5) (T := TX5) (N := 10) (ci := 6) (fs := (cpOf o σ)) (v := .ref (o + 4)) hx hb hts hin_wsX50 hown hK hP.main rfl 3 (by decide) (index := 25) (List.mem_of_getElem? (i := 2) rfl) rfl dX5_claim_12 ?_
  refine p_size (L := 2) (rest := []) (by decide) rfl ⟨hx, hb, hml, hown, hts⟩ (cwV 0 hts gX5_claim_Jx4a65c_size_8abf5 rfl rfl rfl (by decide +kernel) ⟨Nat.le_of_ble_eq_true rfl, Nat.le_of_ble_eq_true rfl⟩) hK hP hS hl.1 (v := (σ.1 24 0)) rfl (Nat.le_of_ble_eq_true rfl) dX5_claim_15 ⟨Nat.le_of_ble_eq_true rfl, Nat.le_of_ble_eq_true rfl⟩ (fun H locs hP hS => ?_)
  refine lv_bipush (v := nI (40)) hx hb dX5_claim_18 (by decide) ?_
  have J28_6 : ∀ (x_5 : Int32), x_5 = (if nI (40) ≤ (σ.1 24 0) then nI (0) else nI (1)) → ∀ (H : Heap) (locs : List Loc), CPic G ids o z tE d w σ H → va_S (cpG o z) s.heap H locs → ∀ (ls : Array Slot), lv_has ls 3 [(0, .ref (o)), (1, .int (house))] → WW H locs 1 6 (F0 m 28 ls [.int (x_5)]) := by
    intro x_5 h_7 H locs hP hS ls hl
    refine (hWW _ _ _ _ _).mpr ?_
    have hR_8 : k_claim σ house = k_claim_j28 σ house x_5 := (by have q_ := h_7.symm; subst q_; unfold k_claim; rfl)
    have hR_9 : k_claim_s σ house = k_claim_j28_s σ house x_5 := (by have q_ := h_7.symm; subst q_; unfold k_claim_s; rfl)
    refine p_need (As := [.int (x_5)]) (rest := []) (X := xSt (x_5)) (c1 := 2) (s1 := 12) ⟨hx, hb, hml, hown, hts⟩ (ck_needState l hl0 tS tE (x_5)) (va_cwS 1 hts gX5_claim_X5_needState rfl rfl rfl (by decide +kernel) ⟨Nat.le_of_ble_eq_true rfl, Nat.le_of_ble_eq_true rfl⟩) hno hlocks hZ hP hS rfl hl.1 rfl (Nat.le_of_ble_eq_true rfl) dX5_claim_28 ⟨Nat.le_of_ble_eq_true rfl, Nat.le_of_ble_eq_true rfl⟩ rfl rfl (Nat.le_of_ble_eq_true rfl) (Nat.le_of_ble_eq_true rfl) (fun hq_11 => by have q_ := h_7.symm; subst q_; unfold kx_claim; simp only [xs, if_pos hX_1, if_neg hq_11]) (fun hX_10 H locs hP hS => ?_)
    have hn2 := hX_10
    have hXz : (kx_claim σ house) = 0 := by have q_ := h_7.symm; subst q_; unfold kx_claim; simp only [xs, if_pos hX_1, if_pos hX_10]
    have hlt40 := lt40 h_7 (xSt_ne hn2) hO.2.2.1
    refine lv_aload_n hx hb dX5_claim_31 rfl (lv_at hl 0 rfl) ?_
    refine x_get (C := RX5) (T := TX5) (N := 10) (ci := 6) (fs := (cpOf o σ)) (v := .ref (o + 2)) hx hb hts hin_wsX50 hown hK hP.main rfl 1 (by decide) (index := 18) (List.mem_of_getElem? (i := 1) rfl) rfl dX5_claim_32 ?_
    refine lv_iload_n hx hb dX5_claim_35 rfl (lv_at hl 1 rfl) ?_
    have hh := xIx_inI hO.1 hidx
    have hj := vp_lt hh
    refine W.eq (g2 := F0 m 36 ls (.int (nI ((house).toNatClampNeg)) :: .ref (o + 2) :: [])) (congrArg (fun v => F0 m 36 ls (Value.int v :: .ref (o + 2) :: [])) (vp_self hh)) ?_
    refine p_getL (L := 0) (j := (house).toNatClampNeg) (kd := 1) (rest := []) (by decide) rfl rfl ⟨hx, hb, hml, hown, hts⟩ (cwV 1 hts gX5_claim_Jx4a65c_get_915e3 rfl rfl rfl (by decide +kernel) ⟨Nat.le_of_ble_eq_true rfl, Nat.le_of_ble_eq_true rfl⟩) hK hP hS (vp_self hO.1) hj hl.1 (Nat.le_of_ble_eq_true rfl) dX5_claim_36 ⟨Nat.le_of_ble_eq_true rfl, Nat.le_of_ble_eq_true rfl⟩ (fun H locs hP hS => ?_)
    refine x_cast hx hb hown (hts _ (List.mem_of_getElem? (i := 3) rfl)) hK (hP.house hj) rfl dX5_claim_39 ?_
    refine lv_astore_n (lv' := [(2, .ref (d 1 ((house).toNatClampNeg))), (0, .ref (o)), (1, .int (house))]) hx hb dX5_claim_42 rfl hl (by decide) rfl (fun ls hl => ?_)
    refine lv_aload_n hx hb dX5_claim_43 rfl (lv_at hl 1 rfl) ?_
    refine x_get (C := RX5) (T := TX5) (N := 10) (ci := 6) (fs := (cpOf o σ)) (v := .ref (o + 4)) hx hb hts hin_wsX50 hown hK hP.main rfl 3 (by decide) (index := 25) (List.mem_of_getElem? (i := 2) rfl) rfl dX5_claim_44 ?_
    obtain ⟨n1, hn1⟩ : ∃ n : Nat, H.size = n := ⟨_, rfl⟩
    have hzn : z ≤ n1 := by have q1 := hS.1; omega
    have hlt : ∀ y, cpU σ y → cpA o d y < n1 := fun y hy => by have q2 := hP.lt hy; omega
    have hfr : ∀ y, cpU σ y → cpA o d y ≠ n1 := fun y hy => Nat.ne_of_lt (hlt y hy)
    refine x_new (C := RX2) (T := TX2) (N := 4) (ci := 3) (fs := [.null, .int (0), .int (0), .int (0)]) (c1 := 3) (s1 := 16) (q := n1) hx hb hts hin_wsX20 tyX2 tyX2_ok hown (List.mem_of_getElem? (i := 4) rfl) (List.mem_of_getElem? (i := 5) rfl) (List.mem_of_getElem? (i := 6) rfl) hK hS rfl (fun j hj => by rcases (show j = 0 ∨ j = 1 ∨ j = 2 ∨ j = 3 by omega) with rfl | rfl | rfl | rfl <;> rfl) (Nat.le_of_ble_eq_true rfl) (Nat.le_of_ble_eq_true rfl) dX5_claim_47 rfl rfl hn1 (fun H hm hx_ hS => ?_)
    replace hP := hP.keep (fun q hq _ => hm.2 q hq)
    have hsz : H.size = n1 + 1 := by rw [hm.1, hn1]
    clear hm
    refine lv_dup hx hb dX5_claim_50 rfl ?_
    refine lv_aload_n hx hb dX5_claim_51 rfl (lv_at hl 0 rfl) ?_
    refine lv_aload_n hx hb dX5_claim_52 rfl (lv_at hl 1 rfl) ?_
    refine x_get (C := RX5) (T := TX5) (N := 10) (ci := 6) (fs := (cpOf o σ)) (v := .int ((σ.1 1 0))) hx hb hts hin_wsX50 hown hK hP.main rfl 4 (by decide) (index := 82) (List.mem_of_getElem? (i := 7) rfl) rfl dX5_claim_53 ?_
    refine lv_aload_n hx hb dX5_claim_56 rfl (lv_at hl 1 rfl) ?_
    refine lv_aload_n hx hb dX5_claim_57 rfl (lv_at hl 0 rfl) ?_
    refine lv_aload_n hx hb dX5_claim_58 rfl (lv_at hl 0 rfl) ?_
    refine x_get (C := RX3) (T := TX3) (N := 5) (ci := 4) (fs := _) (v := .int ((σ.1 17 ((house).toNatClampNeg)))) hx hb hts hin_wsX30 hown hK (hP.house hj) rfl 4 (by decide) (index := 135) (List.mem_of_getElem? (i := 8) rfl) rfl dX5_claim_59 ?_
    refine lv_aload_n hx hb dX5_claim_62 rfl (lv_at hl 1 rfl) ?_
    refine x_get (C := RX5) (T := TX5) (N := 10) (ci := 6) (fs := (cpOf o σ)) (v := .int ((σ.1 1 0))) hx hb hts hin_wsX50 hown hK hP.main rfl 4 (by decide) (index := 82) (List.mem_of_getElem? (i := 7) rfl) rfl dX5_claim_63 ?_
    refine y_callIF (As := [.ref (d 1 ((house).toNatClampNeg)), .int ((σ.1 17 ((house).toNatClampNeg))), .int ((σ.1 1 0))]) (rest := [.int ((σ.1 1 0)), .ref (d 1 ((house).toNatClampNeg)), .ref (n1), .ref (n1), .ref (o + 4)]) ⟨hx, hb, hml, hown, hts⟩ (ck_claimAmount l G ids o z tS tE d w σ ((house).toNatClampNeg) (σ.1 17 ((house).toNatClampNeg)) (σ.1 1 0) hO hj (hO.2.2.2.2.1 _ hj).2.2.1 hO.2.2.2.1 (hO.2.2.2.2.1 _ hj).2.2.2) (cwV 3 hts gX5_claim_X5_claimAmount rfl rfl rfl (by decide +kernel) ⟨Nat.le_of_ble_eq_true rfl, Nat.le_of_ble_eq_true rfl⟩) hK hZ hP.main rfl hP hS rfl hl.1 rfl (Nat.le_of_ble_eq_true rfl) dX5_claim_66 ⟨Nat.le_of_ble_eq_true rfl, Nat.le_of_ble_eq_true rfl⟩ (fun H locs hP _ hk hS => ?_)
    replace hx_ := hx_.kept (hk _ hx_.lt)
    have hsz : H.size = H.size := rfl
    refine w_init (As := [.ref (d 1 ((house).toNatClampNeg)), .int ((σ.1 1 0)), .int ((k_claimAmount σ ((house).toNatClampNeg) (σ.1 17 ((house).toNatClampNeg)) (σ.1 1 0)))]) (rest := [.ref (n1), .ref (o + 4)]) (c1 := 3) (s1 := 16) (fun q h => by rw [show q = n1 from h]; exact Or.inr hzn) ⟨hx, hb, hml, hown, hts⟩ (cn_X2_init l G ids tS tE n1 (d 1 (house).toNatClampNeg) H.size (σ.1 14 (house).toNatClampNeg) (σ.1 15 (house).toNatClampNeg) (σ.1 16 (house).toNatClampNeg) (σ.1 18 (house).toNatClampNeg) (σ.1 17 (house).toNatClampNeg) ((σ.1 1 0)) ((k_claimAmount σ ((house).toNatClampNeg) (σ.1 17 ((house).toNatClampNeg)) (σ.1 1 0))) (hfr (1, (house).toNatClampNeg) hj)) (cwI 3 hts gX5_claim_X2_init rfl rfl rfl (hts _ (List.mem_of_getElem? (i := 6) rfl)) (hts _ (List.mem_of_getElem? (i := 77) rfl)) (hts _ (List.mem_of_getElem? (i := 78) rfl)) rfl (by decide +kernel) ⟨Nat.le_of_ble_eq_true rfl, Nat.le_of_ble_eq_true rfl⟩) hK hZ ⟨rfl, hx_, hP.house hj⟩ hS rfl hl.1 rfl (Nat.le_of_ble_eq_true rfl) dX5_claim_69 ⟨Nat.le_of_ble_eq_true rfl, Nat.le_of_ble_eq_true rfl⟩ rfl rfl (fun H locs hP1 _ hk1 hS => ?_)
    obtain ⟨_, hx_, _⟩ := hP1
    replace hP := hP.keepx hfr hk1
    have hW1 : wOK σ w := hW0
    have hn40 : cpN σ 2 < 40 := hlt40
    have hcnt : σ.1 24 0 = nI (cpN σ 2) := vp_self hO.2.2.1
    have hn1H : n1 < H.size := hx_.lt
    refine p_add (L := 2) (x := n1) (rest := []) (c1 := 4) (s1 := 76) (by decide) rfl ⟨hx, hb, hml, hown, hts⟩ (cwV 1 hts gX5_claim_Jx4a65c_add_9ea2d rfl rfl rfl (by decide +kernel) ⟨Nat.le_of_ble_eq_true rfl, Nat.le_of_ble_eq_true rfl⟩) (cwV 1 hts gX5_claim_Jx4a65c_add_9ea2d rfl rfl rfl (by decide +kernel) ⟨Nat.le_of_ble_eq_true rfl, Nat.le_of_ble_eq_true rfl⟩) (cwV 1 hts gX5_claim_Jx4a65c_add_9ea2d rfl rfl rfl (by decide +kernel) ⟨Nat.le_of_ble_eq_true rfl, Nat.le_of_ble_eq_true rfl⟩) hK hZ hP (hW1 2 (by decide)) hn40 hcnt hx_ hfr (by have q1 := hS.1; omega) hS hl.1 (Nat.le_of_ble_eq_true rfl) dX5_claim_72 ⟨Nat.le_of_ble_eq_true rfl, Nat.le_of_ble_eq_true rfl⟩ rfl rfl (fun H1 locs1 r9 k9 hlst hrow hkk hr9 hz9 hk9 hS => ?_)
    have hr0 : cpN σ 2 ≠ 0 → d 0 2 < n1 := fun h0 => hlt (0, 2) (cpU_0 (by decide) h0)
    have hxr : n1 ≠ r9 := Or.elim hr9 (fun h1 => by have q3 := hr0 h1.1; have q4 := h1.2; omega) (fun h1 => by omega)
    have hr8 : cpN σ 2 ≠ 0 ∧ r9 = d 0 2 ∨ n1 ≤ r9 := hr9.imp id (fun h => by omega)
    replace hx_ := hx_.kept (hk9 n1 hn1H (by have q4 := hP.2.2.2.1; omega) (fun h0 => by have q3 := hr0 h0; omega))
    have hW2 : wOK (gC σ (house) ((σ.1 17 (house).toNatClampNeg)) ((σ.1 1 0)) ((k_claimAmount σ ((house).toNatClampNeg) (σ.1 17 ((house).toNatClampNeg)) (σ.1 1 0)))) (fun M => if M = 2 then k9 else w M) := wOK_grow hW1 (fun M h1 h2 => gC_M h1 h2) hkk.2.1
    replace hP := hP.addC (r' := r9) (k' := k9) (x := n1) (n1 := n1) hn40 hlst hrow hkk hr8 hk9 hlt hzn hx_ ⟨Nat.le_refl _, hxr⟩
    clear hk9 hlst hrow hr9 hr8 hr0
    obtain ⟨s_12, e_13⟩ : ∃ z : Sg, z = (gC σ (house) ((σ.1 17 (house).toNatClampNeg)) ((σ.1 1 0)) ((k_claimAmount σ ((house).toNatClampNeg) (σ.1 17 ((house).toNatClampNeg)) (σ.1 1 0)))) := ⟨_, rfl⟩
    rw [← e_13] at hP
    have hR_14 : k_claim σ house = k_claim_k75 σ house x_5 s_12 := (Eq.trans hR_8 (by have q_ := e_13.symm; subst q_; unfold k_claim_j28; rfl))
    have hR_15 : k_claim_s σ house = k_claim_k75_s σ house x_5 s_12 := (Eq.trans hR_9 (by have q_ := e_13.symm; subst q_; unfold k_claim_j28_s; rfl))
    refine lv_pop hx hb dX5_claim_75 rfl ?_
    refine lv_aload_n hx hb dX5_claim_76 rfl (lv_at hl 1 rfl) ?_
    refine x_get (C := RX5) (T := TX5) (N := 10) (ci := 6) (fs := (cpOf o s_12)) (v := .ref (o + 4)) hx hb hts hin_wsX50 hown hK hP.main rfl 3 (by decide) (index := 25) (List.mem_of_getElem? (i := 2) rfl) rfl dX5_claim_77 ?_
    refine p_size (L := 2) (rest := []) (by decide) rfl ⟨hx, hb, hml, hown, hts⟩ (cwV 0 hts gX5_claim_Jx4a65c_size_8abf5 rfl rfl rfl (by decide +kernel) ⟨Nat.le_of_ble_eq_true rfl, Nat.le_of_ble_eq_true rfl⟩) hK hP hS hl.1 (v := (s_12.1 24 0)) rfl (Nat.le_of_ble_eq_true rfl) dX5_claim_80 ⟨Nat.le_of_ble_eq_true rfl, Nat.le_of_ble_eq_true rfl⟩ (fun H locs hP hS => ?_)
    refine lv_iconst (v := nI (1)) hx hb dX5_claim_83 (by decide) ?_
    refine lv_isub (x := (s_12.1 24 0)) (y := nI (1)) hx hb dX5_claim_84 ?_
    have hsp : s_12 = k_claim_s σ house := (Eq.trans (by unfold k_claim_k75_s; rfl) hR_15.symm)
    rw [← e_13] at hW2
    rw [hsp] at hP hW2
    exact z_jret (v := ((s_12.1 24 0)) - (nI (1))) hx hb hr hlocks hXz (Nat.le_of_ble_eq_true rfl) (Nat.le_of_ble_eq_true rfl) hP hW2 hS dX5_claim_85 (Eq.trans (by unfold k_claim_k75; rfl) hR_14.symm)
  refine lv_icmp_ge (x := (σ.1 24 0)) (y := nI (40)) (tgt := 27) hx hb dX5_claim_20 (by decide) (fun c_3 => ?_) (fun c_3 => ?_)
  · refine lv_iconst (v := nI (0)) hx hb dX5_claim_27 (by decide) ?_
    exact (hWW _ _ _ _ _).mp (J28_6 _ (by simp only [if_pos c_3]) _ _ hP hS _ (lv_sub hl [0, 1] rfl))
  · refine lv_iconst (v := nI (1)) hx hb dX5_claim_23 (by decide) ?_
    refine lv_goto (tgt := 28) hx hb dX5_claim_24 (by decide) ?_
    exact (hWW _ _ _ _ _).mp (J28_6 _ (by simp only [if_neg c_3]) _ _ hP hS _ (lv_sub hl [0, 1] rfl))
