def k_monthsReadThawed_x8 (σ : Sg) (h : Nat) (until_ : Int32) (z8 : Int32) : Int32 := z8
def k_monthsReadThawed_j27 (σ : Sg) (h : Nat) (i8 : Nat) (z8 : Int32) (y_5 : Int32) : Int32 := y_5
def k_monthsReadThawed_b8 (σ : Sg) (h : Nat) (i8 : Nat) (z8 : Int32) : Int32 := (k_monthsReadThawed_j27 σ h i8 z8 (if (k_wasReadThawed σ h (nI ((σ.1 18 h).toNatClampNeg + i8))) = 0 then z8 else (z8) + Int32.ofInt (1)))
def k_monthsReadThawed (σ : Sg) (h : Nat) (until_ : Int32) : Int32 := (k_monthsReadThawed_x8 σ h until_ (lp (k_monthsReadThawed_b8 σ h) ((until_).toNatClampNeg - (σ.1 18 h).toNatClampNeg) (nI (0))))
set_option maxHeartbeats 4000000 in
set_option maxRecDepth 100000 in
theorem ck_monthsReadThawed (l : Launch) (G : va_G) (ids : Nat → ClassId) (o z tS tE : Nat) (d : Nat → Nat → Nat) (w : Nat → Nat) (σ : Sg) (h : Nat) (until_ : Int32) (hO : cOK σ) (hh : h < cpN σ 0) (h18 : vp_in (σ.1 18 h) 601) (hu : vp_in until_ 601) (hbu : (σ.1 18 h).toNatClampNeg ≤ until_.toNatClampNeg) : yI l yX5_monthsReadThawed wsX5_monthsReadThawed ({ frames := 4, cells := 0, slots := 0, locals := 88 } : Room) G ids tS tE [.ref (o), .ref (d 1 h), .int (until_)] (CPic G ids o z tE d w σ) (k_monthsReadThawed σ h until_) (CPic G ids o z tE d w σ) (fun _ : Nat => False) := by
  unfold yI
  refine Met.ofW (cc := cX5_monthsReadThawed) (maxL := 5) (ret := (some .int)) (by decide) rfl ?_
  intro p e s m args below meth c s₁ B hml hv
  obtain ⟨rfl, hP, hK, hZ⟩ := hv
  have hx := B.exec
  have hb := B.bytes
  have hr := B.returns
  have hts := atoms_spec (ws := wsX5_monthsReadThawed) B.pre
  have hown : s.vm.findClass RX5 = some m.cls := findClass_of_methodNamed B.named
  have hlocks := B.notSynchronized
  have hS : va_S (fun _ : Nat => False) s.heap s.heap [] := va_S.rf
  have hin_wsX30 : ∀ w ∈ wsX30, w ∈ wsX5_monthsReadThawed := fun w h => List.mem_cons_of_mem _ (List.mem_append_left _ (List.mem_append_left _ (List.mem_append_left _ (List.mem_append_right _ h))))
  have hin_wsX50 : ∀ w ∈ wsX50, w ∈ wsX5_monthsReadThawed := fun w h => List.mem_cons_of_mem _ (List.mem_append_left _ (List.mem_append_left _ (List.mem_append_right _ h)))
  have hin_wsX00 : ∀ w ∈ wsX00, w ∈ wsX5_monthsReadThawed := fun w h => List.mem_cons_of_mem _ (List.mem_append_left _ (List.mem_append_right _ h))
  have hin_wsJx4a65c0 : ∀ w ∈ wsJx4a65c0, w ∈ wsX5_monthsReadThawed := fun w h => List.mem_cons_of_mem _ (List.mem_append_right _ h)
  have hl := lv_entry ([.ref (o), .ref (d 1 h), .int (until_)]) (n := 5) (Nat.le_of_ble_eq_true rfl)
  rw [lg_entry_eq]
  generalize (lg_sl ([.ref (o), .ref (d 1 h), .int (until_)]) ++ List.replicate (5 - (lg_sl ([.ref (o), .ref (d 1 h), .int (until_)])).length) Slot.unset).toArray = ls at hl ⊢
  have hl : lv_has ls 5 [(0, .ref (o)), (1, .ref (d 1 h)), (2, .int (until_))] := hl
  refine w_named (fun WW hWW => ?_)
  have hul := vp_lt hu
  have hbl := vp_lt h18
  refine lv_iconst (v := nI (0)) hx hb dX5_monthsReadThawed_0 (by decide) ?_
  refine lv_istore_n (lv' := [(3, .int (nI (0))), (0, .ref (o)), (1, .ref (d 1 h)), (2, .int (until_))]) hx hb dX5_monthsReadThawed_1 rfl hl (by decide) rfl (fun ls hl => ?_)
  refine lv_aload_n hx hb dX5_monthsReadThawed_2 rfl (lv_at hl 2 rfl) ?_
  refine x_get (C := RX3) (T := TX3) (N := 5) (ci := 4) (fs := _) (v := .int ((σ.1 18 h))) hx hb hts hin_wsX30 hown hK (hP.house hh) rfl 3 (by decide) (index := 186) (List.mem_of_getElem? (i := 1) rfl) rfl dX5_monthsReadThawed_3 ?_
  refine W.eq (g2 := F0 m 6 ls (.int (nI ((σ.1 18 h).toNatClampNeg)) :: [])) (congrArg (fun v => F0 m 6 ls (Value.int v :: [])) (vp_self h18)) ?_
  refine lv_istore (lv' := [(4, .int (nI ((σ.1 18 h).toNatClampNeg))), (3, .int (nI (0))), (0, .ref (o)), (1, .ref (d 1 h)), (2, .int (until_))]) hx hb dX5_monthsReadThawed_6 hl (by decide) rfl (fun ls hl => ?_)
  have L8 : ∀ (n8 i8 : Nat), i8 ≤ (until_).toNatClampNeg - (σ.1 18 h).toNatClampNeg → ((until_).toNatClampNeg - (σ.1 18 h).toNatClampNeg) + 1 ≤ i8 + n8 → ∀ (z8 : Int32), z8 = lp (k_monthsReadThawed_b8 σ h) i8 (nI (0)) → ∀ (H : Heap) (locs : List Loc), CPic G ids o z tE d w σ H → va_S (fun _ : Nat => False) s.heap H locs → ∀ (ls : Array Slot), lv_has ls 5 [(4, .int (nI ((σ.1 18 h).toNatClampNeg + i8))), (3, .int (z8)), (0, .ref (o)), (1, .ref (d 1 h)), (2, .int (until_))] → WW H locs 0 0 (F0 m 8 ls []) := by
    intro n8
    induction n8 with
    | zero => intro i8 h1 h2; exact absurd h2 (by omega)
    | succ n8 ih8 =>
      intro i8 hi8 hn8 z8 hz8  H locs hP hS ls hl
      refine (hWW _ _ _ _ _).mpr ?_
      refine lv_iload hx hb dX5_monthsReadThawed_8 (lv_at hl 0 rfl) ?_
      refine lv_iload_n hx hb dX5_monthsReadThawed_10 rfl (lv_at hl 4 rfl) ?_
      refine W.eq (g2 := F0 m 11 ls (.int (nI ((until_).toNatClampNeg)) :: .int (nI ((σ.1 18 h).toNatClampNeg + i8)) :: [])) (congrArg (fun v => F0 m 11 ls (Value.int v :: .int (nI ((σ.1 18 h).toNatClampNeg + i8)) :: [])) (vp_self hu)) ?_
      refine n_icmp_ge (x := (σ.1 18 h).toNatClampNeg + i8) (y := (until_).toNatClampNeg) (tgt := 33) hx hb (by omega) (by omega) dX5_monthsReadThawed_11 (by decide) (fun c_1 => ?_) (fun c_1 => ?_)
      · have hiN : (until_).toNatClampNeg - (σ.1 18 h).toNatClampNeg = i8 := by omega
        subst hiN
        have hR_2 : k_monthsReadThawed σ h until_ = k_monthsReadThawed_x8 σ h until_ z8 := (by have q_ := hz8.symm; subst q_; unfold k_monthsReadThawed; rfl)
        refine lv_iload_n hx hb dX5_monthsReadThawed_33 rfl (lv_at hl 1 rfl) ?_
        exact x_iret (v := z8) hx hb hr hlocks hP hS dX5_monthsReadThawed_34 (Eq.trans (by unfold k_monthsReadThawed_x8; rfl) hR_2.symm)
      · refine lv_aload_n hx hb dX5_monthsReadThawed_14 rfl (lv_at hl 2 rfl) ?_
        refine lv_aload_n hx hb dX5_monthsReadThawed_15 rfl (lv_at hl 3 rfl) ?_
        refine lv_iload hx hb dX5_monthsReadThawed_16 (lv_at hl 0 rfl) ?_
        refine y_callI (As := [.ref (d 1 h), .int (nI ((σ.1 18 h).toNatClampNeg + i8))]) (rest := []) ⟨hx, hb, hml, hown, hts⟩ (ck_wasReadThawed l G ids o z tS tE d w σ h (nI ((σ.1 18 h).toNatClampNeg + i8)) hO hh) (cwV 2 hts gX5_monthsReadThawed_X5_wasReadThawed rfl rfl rfl (by decide +kernel) ⟨Nat.le_of_ble_eq_true rfl, Nat.le_of_ble_eq_true rfl⟩) hK hZ hP.main rfl hP hS rfl hl.1 rfl (Nat.le_of_ble_eq_true rfl) dX5_monthsReadThawed_18 ⟨Nat.zero_le _, Nat.zero_le _⟩ (fun H locs hP hS => ?_)
        have J27_6 : ∀ (y_5 : Int32), y_5 = (if (k_wasReadThawed σ h (nI ((σ.1 18 h).toNatClampNeg + i8))) = 0 then z8 else (z8) + Int32.ofInt (1)) → ∀ (H : Heap) (locs : List Loc), CPic G ids o z tE d w σ H → va_S (fun _ : Nat => False) s.heap H locs → ∀ (ls : Array Slot), lv_has ls 5 [(4, .int (nI ((σ.1 18 h).toNatClampNeg + i8))), (3, .int (y_5)), (0, .ref (o)), (1, .ref (d 1 h)), (2, .int (until_))] → WW H locs 0 0 (F0 m 27 ls []) := by
          intro y_5 h_7 H locs hP hS ls hl
          refine (hWW _ _ _ _ _).mpr ?_
          have hR_8 : k_monthsReadThawed_b8 σ h i8 z8 = k_monthsReadThawed_j27 σ h i8 z8 y_5 := (by have q_ := h_7.symm; subst q_; unfold k_monthsReadThawed_b8; rfl)
          refine n_iinc (x := (σ.1 18 h).toNatClampNeg + i8) (dN := 1) (k := 0) (lv' := [(4, .int (nI ((σ.1 18 h).toNatClampNeg + i8 + 1))), (3, .int (y_5)), (0, .ref (o)), (1, .ref (d 1 h)), (2, .int (until_))]) hx hb dX5_monthsReadThawed_27 hl rfl (by decide) rfl (fun ls hl => ?_)
          refine lv_goto (tgt := 8) hx hb dX5_monthsReadThawed_30 (by decide) ?_
          exact (hWW _ _ _ _ _).mp (ih8 (i8 + 1) (by omega) (by omega) (y_5) (by show _ = k_monthsReadThawed_b8 σ h i8 (lp (k_monthsReadThawed_b8 σ h) i8 (nI (0))); rw [← hz8]; exact (Eq.trans (by unfold k_monthsReadThawed_j27; rfl) hR_8.symm))  _ _ hP hS _ (lv_sub hl [0, 1, 2, 3, 4] rfl))
        refine lv_if_eq (x := (k_wasReadThawed σ h (nI ((σ.1 18 h).toNatClampNeg + i8)))) (tgt := 27) hx hb dX5_monthsReadThawed_21 (by decide) (fun c_3 => ?_) (fun c_3 => ?_)
        · exact (hWW _ _ _ _ _).mp (J27_6 _ (by simp only [if_pos c_3]) _ _ hP hS _ (lv_sub hl [0, 1, 2, 3, 4] rfl))
        · refine lv_iinc (v := (z8) + Int32.ofInt (1)) (lv' := [(3, .int ((z8) + Int32.ofInt (1))), (4, .int (nI ((σ.1 18 h).toNatClampNeg + i8))), (0, .ref (o)), (1, .ref (d 1 h)), (2, .int (until_))]) hx hb dX5_monthsReadThawed_24 hl (k := 1) rfl rfl (by decide) rfl (fun ls hl => ?_)
          exact (hWW _ _ _ _ _).mp (J27_6 _ (by simp only [if_neg c_3]) _ _ hP hS _ (lv_sub hl [1, 0, 2, 3, 4] rfl))
  exact (hWW _ _ _ _ _).mp (L8 ((until_).toNatClampNeg - (σ.1 18 h).toNatClampNeg + 1) 0 (Nat.zero_le _) (by omega) (nI (0)) rfl  _ _ hP hS _ (lv_sub hl [0, 1, 2, 3, 4] rfl))
