def h_hasRead_j26 (σ : Sg) (b : Nat) (month : Int32) (x_3 : Int32) : Int32 := x_3
def h_hasRead (σ : Sg) (b : Nat) (month : Int32) : Int32 := (h_hasRead_j26 σ b month (if month < (σ.1 22 b) then nI (0) else (if ((σ.1 22 b)) + ((σ.1 35 b)) ≤ month then nI (0) else nI (1))))
/-- what the class's own methods lean on -/
def cOK (σ : Sg) : Prop := vp_in (σ.1 13 0) 11 ∧ vp_in (σ.1 19 0) 11 ∧ vp_in (σ.1 24 0) 41 ∧ vp_in (σ.1 1 0) 601 ∧ (∀ h, h < (σ.1 13 0).toNatClampNeg → vp_in (σ.1 14 h) 25 ∧ vp_in (σ.1 15 h) 5 ∧ vp_in (σ.1 18 h) 601 ∧ (σ.1 18 h).toNatClampNeg ≤ (σ.1 1 0).toNatClampNeg) ∧ ∀ b, b < (σ.1 19 0).toNatClampNeg → vp_in (σ.1 20 b) 25
theorem cOK_of {σ σ' : Sg} (h : ∀ k, (k = 1 ∨ k = 13 ∨ k = 14 ∨ k = 15 ∨ k = 18 ∨ k = 19 ∨ k = 20 ∨ k = 24) → σ'.1 k = σ.1 k) (hO : cOK σ) : cOK σ' := by
  unfold cOK
  rw [h 13 (by decide), h 19 (by decide), h 24 (by decide), h 1 (by decide), h 14 (by decide), h 15 (by decide), h 18 (by decide), h 20 (by decide)]
  exact hO
theorem cOK_m {σ : Sg} (hO : mOK σ) : cOK σ := ⟨hO.1, hO.2.1, hO.2.2.1, hO.2.2.2.1, hO.2.2.2.2.1, hO.2.2.2.2.2.1⟩
set_option maxHeartbeats 4000000 in
set_option maxRecDepth 100000 in
theorem ch_hasRead (l : Launch) (G : va_G) (ids : Nat → ClassId) (o z tS tE : Nat) (d : Nat → Nat → Nat) (w : Nat → Nat) (σ : Sg) (b : Nat) (month : Int32) (hb0 : b < cpN σ 1) : yI l yX0_hasRead wsX0_hasRead ({ frames := 0, cells := 0, slots := 0, locals := 0 } : Room) G ids tS tE [.ref (d 2 b), .int (month)] (CPic G ids o z tE d w σ) (h_hasRead σ b month) (CPic G ids o z tE d w σ) (fun _ : Nat => False) := by
  unfold yI
  refine Met.ofW (cc := cX0_hasRead) (maxL := 2) (ret := (some .boolean)) (by decide) rfl ?_
  intro p e s m args below meth c s₁ B hml hv
  obtain ⟨rfl, hP, hK, hZ⟩ := hv
  have hx := B.exec
  have hb := B.bytes
  have hr := B.returns
  have hts := atoms_spec (ws := wsX0_hasRead) B.pre
  have hown : s.vm.findClass RX0 = some m.cls := findClass_of_methodNamed B.named
  have hlocks := B.notSynchronized
  have hS : va_S (fun _ : Nat => False) s.heap s.heap [] := va_S.rf
  have hin_wsX00 : ∀ w ∈ wsX00, w ∈ wsX0_hasRead := fun w h => List.mem_cons_of_mem _ (List.mem_append_right _ h)
  have hl := lv_entry ([.ref (d 2 b), .int (month)]) (n := 2) (Nat.le_of_ble_eq_true rfl)
  rw [lg_entry_eq]
  generalize (lg_sl ([.ref (d 2 b), .int (month)]) ++ List.replicate (2 - (lg_sl ([.ref (d 2 b), .int (month)])).length) Slot.unset).toArray = ls at hl ⊢
  have hl : lv_has ls 2 [(0, .ref (d 2 b)), (1, .int (month))] := hl
  refine w_named (fun WW hWW => ?_)
  refine lv_iload_n hx hb dX0_hasRead_0 rfl (lv_at hl 1 rfl) ?_
  refine lv_aload_n hx hb dX0_hasRead_1 rfl (lv_at hl 0 rfl) ?_
  refine x_get (C := RX0) (T := TX0) (N := 5) (ci := 1) (fs := _) (v := .int ((σ.1 22 b))) hx hb hts hin_wsX00 hown hK (hP.hole hb0) rfl 2 (by decide) (index := 18) (List.mem_of_getElem? (i := 1) rfl) rfl dX0_hasRead_2 ?_
  have J26_4 : ∀ (x_3 : Int32), x_3 = (if month < (σ.1 22 b) then nI (0) else (if ((σ.1 22 b)) + ((σ.1 35 b)) ≤ month then nI (0) else nI (1))) → ∀ (H : Heap) (locs : List Loc), CPic G ids o z tE d w σ H → va_S (fun _ : Nat => False) s.heap H locs → ∀ (ls : Array Slot), lv_has ls 2 [(0, .ref (d 2 b)), (1, .int (month))] → WW H locs 0 0 (F0 m 26 ls [.int (x_3)]) := by
    intro x_3 h_5 H locs hP hS ls hl
    refine (hWW _ _ _ _ _).mpr ?_
    have hR_6 : h_hasRead σ b month = h_hasRead_j26 σ b month x_3 := (by have q_ := h_5.symm; subst q_; unfold h_hasRead; rfl)
    exact x_zret (v := x_3) hx hb hr hlocks (z_nar (by rw [h_5]; (repeat' split) <;> first | exact Or.inl rfl | exact Or.inr rfl)) hP hS dX0_hasRead_26 (Eq.trans (by unfold h_hasRead_j26; rfl) hR_6.symm)
  refine lv_icmp_lt (x := month) (y := (σ.1 22 b)) (tgt := 25) hx hb dX0_hasRead_5 (by decide) (fun c_1 => ?_) (fun c_1 => ?_)
  · refine lv_iconst (v := nI (0)) hx hb dX0_hasRead_25 (by decide) ?_
    exact (hWW _ _ _ _ _).mp (J26_4 _ (by simp only [if_pos c_1]) _ _ hP hS _ (lv_sub hl [0, 1] rfl))
  · refine lv_iload_n hx hb dX0_hasRead_8 rfl (lv_at hl 1 rfl) ?_
    refine lv_aload_n hx hb dX0_hasRead_9 rfl (lv_at hl 0 rfl) ?_
    refine x_get (C := RX0) (T := TX0) (N := 5) (ci := 1) (fs := _) (v := .int ((σ.1 22 b))) hx hb hts hin_wsX00 hown hK (hP.hole hb0) rfl 2 (by decide) (index := 18) (List.mem_of_getElem? (i := 1) rfl) rfl dX0_hasRead_10 ?_
    refine lv_aload_n hx hb dX0_hasRead_13 rfl (lv_at hl 0 rfl) ?_
    refine x_get (C := RX0) (T := TX0) (N := 5) (ci := 1) (fs := _) (v := .int ((σ.1 35 b))) hx hb hts hin_wsX00 hown hK (hP.hole hb0) rfl 4 (by decide) (index := 31) (List.mem_of_getElem? (i := 2) rfl) rfl dX0_hasRead_14 ?_
    refine lv_iadd (x := (σ.1 22 b)) (y := (σ.1 35 b)) hx hb dX0_hasRead_17 ?_
    refine lv_icmp_ge (x := month) (y := ((σ.1 22 b)) + ((σ.1 35 b))) (tgt := 25) hx hb dX0_hasRead_18 (by decide) (fun c_7 => ?_) (fun c_7 => ?_)
    · refine lv_iconst (v := nI (0)) hx hb dX0_hasRead_25 (by decide) ?_
      exact (hWW _ _ _ _ _).mp (J26_4 _ (by simp only [if_neg c_1, if_pos c_7]) _ _ hP hS _ (lv_sub hl [0, 1] rfl))
    · refine lv_iconst (v := nI (1)) hx hb dX0_hasRead_21 (by decide) ?_
      refine lv_goto (tgt := 26) hx hb dX0_hasRead_22 (by decide) ?_
      exact (hWW _ _ _ _ _).mp (J26_4 _ (by simp only [if_neg c_1, if_neg c_7]) _ _ hP hS _ (lv_sub hl [0, 1] rfl))
