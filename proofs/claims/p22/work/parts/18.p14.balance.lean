def k_balance (σ : Sg) (kind : Int32) (what : Int32) : Int64 := (if what = nI (0) then (k_amountInLand σ kind) else (if what = nI (1) then (σ.2 (26 + ((kind).toNatClampNeg))) else (if what = nI (2) then (k_amountLeft σ kind) else (((σ.2 (26 + ((kind).toNatClampNeg)))) - ((k_amountInLand σ kind))) - ((k_amountLeft σ kind)))))
def kx_balance (σ : Sg) (kind : Int32) (what : Int32) : Nat := xs (xRg (kind) (nI (0)) (nI (2))) (xs (xRg (what) (nI (0)) (nI (3))) (0))
set_option maxHeartbeats 4000000 in
set_option maxRecDepth 100000 in
theorem cx_balance (l : Launch) (hl0 : l.stackTraces = false) (G : va_G) (ids : Nat → ClassId) (o z tS tE : Nat) (d : Nat → Nat → Nat) (w : Nat → Nat) (σ : Sg) (kind : Int32) (what : Int32) : zL l yX5_balance wsX5_balance ({ frames := 7, cells := 2, slots := 12, locals := 122 } : Room) G ids tS tE [.ref (o), .int (kind), .int (what)] (CPic G ids o z tE d w σ) (kx_balance σ kind what) (k_balance σ kind what) (CPic G ids o z tE d w σ) (cpG o z) 2 12 := by
  unfold zL
  refine vx_ofW (cc := cX5_balance) (maxL := 3) (ret := (some .long)) (by decide) rfl ?_
  intro p e s m args below meth c s₁ B hml hno hv
  obtain ⟨rfl, hP, hK, hZ⟩ := hv
  have hx := B.exec
  have hb := B.bytes
  have hr := B.returns
  have hts := atoms_spec (ws := wsX5_balance) B.pre
  have hown : s.vm.findClass RX5 = some m.cls := findClass_of_methodNamed B.named
  have hlocks := B.notSynchronized
  have hS : va_S (cpG o z) s.heap s.heap [] := va_S.rf
  have hin_wsX50 : ∀ w ∈ wsX50, w ∈ wsX5_balance := fun w h => List.mem_cons_of_mem _ (List.mem_append_left _ (List.mem_append_left _ (List.mem_append_left _ (List.mem_append_right _ h))))
  have hin_wsX10 : ∀ w ∈ wsX10, w ∈ wsX5_balance := fun w h => List.mem_cons_of_mem _ (List.mem_append_left _ (List.mem_append_left _ (List.mem_append_right _ h)))
  have hin_wsX40 : ∀ w ∈ wsX40, w ∈ wsX5_balance := fun w h => List.mem_cons_of_mem _ (List.mem_append_left _ (List.mem_append_right _ h))
  have hl := lv_entry ([.ref (o), .int (kind), .int (what)]) (n := 3) (Nat.le_of_ble_eq_true rfl)
  rw [lg_entry_eq]
  generalize (lg_sl ([.ref (o), .int (kind), .int (what)]) ++ List.replicate (3 - (lg_sl ([.ref (o), .int (kind), .int (what)])).length) Slot.unset).toArray = ls at hl ⊢
  have hl : lv_has ls 3 [(0, .ref (o)), (1, .int (kind)), (2, .int (what))] := hl
  refine w_named (fun WW hWW => ?_)
  refine lv_iload_n hx hb dX5_balance_0 rfl (lv_at hl 1 rfl) ?_
  refine lv_iconst (v := nI (0)) hx hb dX5_balance_1 (by decide) ?_
  refine lv_iconst (v := nI (2)) hx hb dX5_balance_2 (by decide) ?_
  refine p_need (As := [.int (kind), .int (nI (0)), .int (nI (2))]) (rest := []) (X := xRg (kind) (nI (0)) (nI (2))) (c1 := 1) (s1 := 6) ⟨hx, hb, hml, hown, hts⟩ (ck_needRange l hl0 tS tE (kind) (nI (0)) (nI (2))) (va_cwS 3 hts gX5_balance_X5_needRange rfl rfl rfl (by decide +kernel) ⟨Nat.le_of_ble_eq_true rfl, Nat.le_of_ble_eq_true rfl⟩) hno hlocks hZ hP hS rfl hl.1 rfl (Nat.le_of_ble_eq_true rfl) dX5_balance_3 ⟨Nat.le_of_ble_eq_true rfl, Nat.le_of_ble_eq_true rfl⟩ rfl rfl (Nat.le_of_ble_eq_true rfl) (Nat.le_of_ble_eq_true rfl) (fun hq_2 => by unfold kx_balance; simp only [xs, if_neg hq_2]) (fun hX_1 H locs hP hS => ?_)
  have hkind := hX_1
  refine lv_iload_n hx hb dX5_balance_6 rfl (lv_at hl 2 rfl) ?_
  refine lv_iconst (v := nI (0)) hx hb dX5_balance_7 (by decide) ?_
  refine lv_iconst (v := nI (3)) hx hb dX5_balance_8 (by decide) ?_
  refine p_need (As := [.int (what), .int (nI (0)), .int (nI (3))]) (rest := []) (X := xRg (what) (nI (0)) (nI (3))) (c1 := 2) (s1 := 12) ⟨hx, hb, hml, hown, hts⟩ (ck_needRange l hl0 tS tE (what) (nI (0)) (nI (3))) (va_cwS 3 hts gX5_balance_X5_needRange rfl rfl rfl (by decide +kernel) ⟨Nat.le_of_ble_eq_true rfl, Nat.le_of_ble_eq_true rfl⟩) hno hlocks hZ hP hS rfl hl.1 rfl (Nat.le_of_ble_eq_true rfl) dX5_balance_9 ⟨Nat.le_of_ble_eq_true rfl, Nat.le_of_ble_eq_true rfl⟩ rfl rfl (Nat.le_of_ble_eq_true rfl) (Nat.le_of_ble_eq_true rfl) (fun hq_4 => by unfold kx_balance; simp only [xs, if_pos hX_1, if_neg hq_4]) (fun hX_3 H locs hP hS => ?_)
  have hXz : (kx_balance σ kind what) = 0 := by unfold kx_balance; simp only [xs, if_pos hX_1, if_pos hX_3]
  refine lv_iload_n hx hb dX5_balance_12 rfl (lv_at hl 2 rfl) ?_
  by_cases t_5 : what = nI (0)
  · refine lv_tableIn (x := what) (off := 27) (tgt := 40) hx hb dX5_balance_13 (by rw [t_5]; decide) (by rw [t_5]; decide) (by rw [t_5]; rfl) (by decide) ?_
    refine lv_aload_n hx hb dX5_balance_40 rfl (lv_at hl 0 rfl) ?_
    refine lv_iload_n hx hb dX5_balance_41 rfl (lv_at hl 1 rfl) ?_
    refine y_callL (As := [.int (kind)]) (rest := []) ⟨hx, hb, hml, hown, hts⟩ (ck_amountInLand l G ids o z tS tE d w σ kind) (cwV 1 hts gX5_balance_X5_amountInLand rfl rfl rfl (by decide +kernel) ⟨Nat.le_of_ble_eq_true rfl, Nat.le_of_ble_eq_true rfl⟩) hK hZ hP.main rfl hP hS rfl hl.1 rfl (Nat.le_of_ble_eq_true rfl) dX5_balance_42 ⟨Nat.le_of_ble_eq_true rfl, Nat.le_of_ble_eq_true rfl⟩ (fun H locs hP hS => ?_)
    exact z_lret (v := (k_amountInLand σ kind)) hx hb hr hlocks hXz (Nat.le_of_ble_eq_true rfl) (Nat.le_of_ble_eq_true rfl) hP hS dX5_balance_45 (by unfold k_balance; simp only [if_pos t_5])
  by_cases t_6 : what = nI (1)
  · refine lv_tableIn (x := what) (off := 33) (tgt := 46) hx hb dX5_balance_13 (by rw [t_6]; decide) (by rw [t_6]; decide) (by rw [t_6]; rfl) (by decide) ?_
    refine lv_aload_n hx hb dX5_balance_46 rfl (lv_at hl 0 rfl) ?_
    refine x_get (C := RX5) (T := TX5) (N := 10) (ci := 6) (fs := (cpOf o σ)) (v := .ref (o + 5)) hx hb hts hin_wsX50 hown hK hP.main rfl 5 (by decide) (index := 28) (List.mem_of_getElem? (i := 1) rfl) rfl dX5_balance_47 ?_
    refine lv_iload_n hx hb dX5_balance_50 rfl (lv_at hl 1 rfl) ?_
    refine x_lald (v := (σ.2 (26 + ((kind).toNatClampNeg)))) hx hb hK hP.came (xRg_in0 (n := 2) (by decide) hkind) (if_pos (vp_lt (xRg_in0 (n := 2) (by decide) hkind))) dX5_balance_51 ?_
    exact z_lret (v := (σ.2 (26 + ((kind).toNatClampNeg)))) hx hb hr hlocks hXz (Nat.le_of_ble_eq_true rfl) (Nat.le_of_ble_eq_true rfl) hP hS dX5_balance_52 (by unfold k_balance; simp only [if_neg t_5, if_pos t_6])
  by_cases t_7 : what = nI (2)
  · refine lv_tableIn (x := what) (off := 40) (tgt := 53) hx hb dX5_balance_13 (by rw [t_7]; decide) (by rw [t_7]; decide) (by rw [t_7]; rfl) (by decide) ?_
    refine lv_aload_n hx hb dX5_balance_53 rfl (lv_at hl 0 rfl) ?_
    refine lv_iload_n hx hb dX5_balance_54 rfl (lv_at hl 1 rfl) ?_
    refine y_callL (As := [.int (kind)]) (rest := []) ⟨hx, hb, hml, hown, hts⟩ (ck_amountLeft l G ids o z tS tE d w σ kind) (cwV 1 hts gX5_balance_X5_amountLeft rfl rfl rfl (by decide +kernel) ⟨Nat.le_of_ble_eq_true rfl, Nat.le_of_ble_eq_true rfl⟩) hK hZ hP.main rfl hP hS rfl hl.1 rfl (Nat.le_of_ble_eq_true rfl) dX5_balance_55 ⟨Nat.le_of_ble_eq_true rfl, Nat.le_of_ble_eq_true rfl⟩ (fun H locs hP hS => ?_)
    exact z_lret (v := (k_amountLeft σ kind)) hx hb hr hlocks hXz (Nat.le_of_ble_eq_true rfl) (Nat.le_of_ble_eq_true rfl) hP hS dX5_balance_58 (by unfold k_balance; simp only [if_neg t_5, if_neg t_6, if_pos t_7])
  refine lv_tableOut (x := what) (tgt := 59) hx hb dX5_balance_13 (by have n_0 := i_ne (k := 0) t_5 (by decide); have n_1 := i_ne (k := 1) t_6 (by decide); have n_2 := i_ne (k := 2) t_7 (by decide); omega) (by decide) ?_
  refine lv_aload_n hx hb dX5_balance_59 rfl (lv_at hl 0 rfl) ?_
  refine x_get (C := RX5) (T := TX5) (N := 10) (ci := 6) (fs := (cpOf o σ)) (v := .ref (o + 5)) hx hb hts hin_wsX50 hown hK hP.main rfl 5 (by decide) (index := 28) (List.mem_of_getElem? (i := 1) rfl) rfl dX5_balance_60 ?_
  refine lv_iload_n hx hb dX5_balance_63 rfl (lv_at hl 1 rfl) ?_
  refine x_lald (v := (σ.2 (26 + ((kind).toNatClampNeg)))) hx hb hK hP.came (xRg_in0 (n := 2) (by decide) hkind) (if_pos (vp_lt (xRg_in0 (n := 2) (by decide) hkind))) dX5_balance_64 ?_
  refine lv_aload_n hx hb dX5_balance_65 rfl (lv_at hl 0 rfl) ?_
  refine lv_iload_n hx hb dX5_balance_66 rfl (lv_at hl 1 rfl) ?_
  refine y_callL (As := [.int (kind)]) (rest := [.long ((σ.2 (26 + ((kind).toNatClampNeg))))]) ⟨hx, hb, hml, hown, hts⟩ (ck_amountInLand l G ids o z tS tE d w σ kind) (cwV 1 hts gX5_balance_X5_amountInLand rfl rfl rfl (by decide +kernel) ⟨Nat.le_of_ble_eq_true rfl, Nat.le_of_ble_eq_true rfl⟩) hK hZ hP.main rfl hP hS rfl hl.1 rfl (Nat.le_of_ble_eq_true rfl) dX5_balance_67 ⟨Nat.le_of_ble_eq_true rfl, Nat.le_of_ble_eq_true rfl⟩ (fun H locs hP hS => ?_)
  refine lv_lsub hx hb dX5_balance_70 ?_
  refine lv_aload_n hx hb dX5_balance_71 rfl (lv_at hl 0 rfl) ?_
  refine lv_iload_n hx hb dX5_balance_72 rfl (lv_at hl 1 rfl) ?_
  refine y_callL (As := [.int (kind)]) (rest := [.long (((σ.2 (26 + ((kind).toNatClampNeg)))) - ((k_amountInLand σ kind)))]) ⟨hx, hb, hml, hown, hts⟩ (ck_amountLeft l G ids o z tS tE d w σ kind) (cwV 1 hts gX5_balance_X5_amountLeft rfl rfl rfl (by decide +kernel) ⟨Nat.le_of_ble_eq_true rfl, Nat.le_of_ble_eq_true rfl⟩) hK hZ hP.main rfl hP hS rfl hl.1 rfl (Nat.le_of_ble_eq_true rfl) dX5_balance_73 ⟨Nat.le_of_ble_eq_true rfl, Nat.le_of_ble_eq_true rfl⟩ (fun H locs hP hS => ?_)
  refine lv_lsub hx hb dX5_balance_76 ?_
  exact z_lret (v := (((σ.2 (26 + ((kind).toNatClampNeg)))) - ((k_amountInLand σ kind))) - ((k_amountLeft σ kind))) hx hb hr hlocks hXz (Nat.le_of_ble_eq_true rfl) (Nat.le_of_ble_eq_true rfl) hP hS dX5_balance_77 (by unfold k_balance; simp only [if_neg t_5, if_neg t_6, if_neg t_7])
