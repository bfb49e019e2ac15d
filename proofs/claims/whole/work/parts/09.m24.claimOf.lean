def m_claimOf_j36 (σ : Sg) (k : Int32) (x_3 : Int32) (s_8 : Sg) (x_14 : Int32) : Int32 := x_14
def m_claimOf_j36_s (σ : Sg) (k : Int32) (x_3 : Int32) (s_8 : Sg) (x_14 : Int32) : Sg := s_8
def m_claimOf_k23 (σ : Sg) (k : Int32) (x_3 : Int32) (s_8 : Sg) : Int32 := (m_claimOf_j36 σ k x_3 s_8 (if (m_refused σ x_3) = 0 then (s_8.1 25 ((k).toNatClampNeg)) else nI (0)))
def m_claimOf_k23_s (σ : Sg) (k : Int32) (x_3 : Int32) (s_8 : Sg) : Sg := (m_claimOf_j36_s σ k x_3 s_8 (if (m_refused σ x_3) = 0 then (s_8.1 25 ((k).toNatClampNeg)) else nI (0)))
def m_claimOf_j20 (σ : Sg) (k : Int32) (x_3 : Int32) : Int32 := (m_claimOf_k23 σ k x_3 (m_refused_s σ x_3))
def m_claimOf_j20_s (σ : Sg) (k : Int32) (x_3 : Int32) : Sg := (m_claimOf_k23_s σ k x_3 (m_refused_s σ x_3))
def m_claimOf (σ : Sg) (k : Int32) : Int32 := (m_claimOf_j20 σ k (if (m_within k (nI (0)) (((σ.1 24 0)) - (nI (1)))) = 0 then nI (1) else nI (0)))
def m_claimOf_s (σ : Sg) (k : Int32) : Sg := (m_claimOf_j20_s σ k (if (m_within k (nI (0)) (((σ.1 24 0)) - (nI (1)))) = 0 then nI (1) else nI (0)))
set_option maxHeartbeats 4000000 in
set_option maxRecDepth 100000 in
theorem cm_claimOf (l : Launch) (G : va_G) (cI cZ : ClassId) (a : Nat → Nat) (σ : Sg) (k : Int32) (hO : mOK σ) : mI l yX6_claimOf wsX6_claimOf ({ frames := 1, cells := 0, slots := 0, locals := 22 } : Room) G cI cZ a σ [.int (k)] (m_claimOf σ k) (m_claimOf_s σ k) := by
  unfold mI
  refine Met.ofW (cc := cX6_claimOf) (maxL := 2) (ret := (some .int)) (by decide) rfl ?_
  intro p e s m args below meth c s₁ B hml hv
  obtain ⟨rfl, hP, hK, hD⟩ := hv
  have hx := B.exec
  have hb := B.bytes
  have hr := B.returns
  have hts := atoms_spec (ws := wsX6_claimOf) B.pre
  have hown : s.vm.findClass RX6 = some m.cls := findClass_of_methodNamed B.named
  have hlocks := B.notSynchronized
  have hS : va_S (mA a) s.heap s.heap [] := va_S.rf
  have hin : ∀ w ∈ wsX60, w ∈ wsX6_claimOf := fun w h => List.mem_cons_of_mem _ (List.mem_append_right _ h)
  have hl := lv_entry ([.ref (a 0), .int (k)]) (n := 2) (Nat.le_of_ble_eq_true rfl)
  rw [lg_entry_eq]
  generalize (lg_sl ([.ref (a 0), .int (k)]) ++ List.replicate (2 - (lg_sl ([.ref (a 0), .int (k)])).length) Slot.unset).toArray = ls at hl ⊢
  have hl : lv_has ls 2 [(0, .ref (a 0)), (1, .int (k))] := hl
  refine w_named (fun WW hWW => ?_)
  have hP : va_P G vwCl (wm cI cZ a σ) s.heap := hP
  have h24 := vp_lt hO.2.2.1
  refine lv_aload_n hx hb dX6_claimOf_0 rfl (lv_at hl 0 rfl) ?_
  refine lv_iload_n hx hb dX6_claimOf_1 rfl (lv_at hl 1 rfl) ?_
  refine lv_iconst (v := nI (0)) hx hb dX6_claimOf_2 (by decide) ?_
  refine lv_aload_n hx hb dX6_claimOf_3 rfl (lv_at hl 0 rfl) ?_
  refine m_get (v := .int ((σ.1 24 0))) hx hb hts hin hown hK hP 24 (by decide) rfl (index := 177) (List.mem_of_getElem? (i := 1) rfl) dX6_claimOf_4 ?_
  refine lv_iconst (v := nI (1)) hx hb dX6_claimOf_7 (by decide) ?_
  refine lv_isub (x := (σ.1 24 0)) (y := nI (1)) hx hb dX6_claimOf_8 ?_
  refine m_callS (As := [.int (k), .int (nI (0)), .int (((σ.1 24 0)) - (nI (1)))]) (rest := [.ref (a 0)]) ⟨hx, hb, hml, hown, hts⟩ (cm_within l k (nI (0)) (((σ.1 24 0)) - (nI (1))) ) (va_cwS 3 hts gX6_claimOf_X6_within rfl rfl rfl (by decide +kernel) ⟨Nat.le_of_ble_eq_true rfl, Nat.le_of_ble_eq_true rfl⟩) hP hS rfl hl.1 rfl (Nat.le_of_ble_eq_true rfl) dX6_claimOf_9 ⟨Nat.zero_le _, Nat.zero_le _⟩ (fun H locs hP hS => ?_)
  have J20_4 : ∀ (x_3 : Int32), x_3 = (if (m_within k (nI (0)) (((σ.1 24 0)) - (nI (1)))) = 0 then nI (1) else nI (0)) → ∀ (H : Heap) (locs : List Loc), va_P G vwCl (wm cI cZ a σ) H → va_D (mA a) (wm cI cZ a σ) → va_S (mA a) s.heap H locs → ∀ (ls : Array Slot), lv_has ls 2 [(0, .ref (a 0)), (1, .int (k))] → WW H locs 0 0 (F0 m 20 ls [.int (x_3), .ref (a 0)]) := by
    intro x_3 h_5 H locs hP hD hS ls hl
    refine (hWW _ _ _ _ _).mpr ?_
    have hR_6 : m_claimOf σ k = m_claimOf_j20 σ k x_3 := (by have q_ := h_5.symm; subst q_; unfold m_claimOf; rfl)
    have hR_7 : m_claimOf_s σ k = m_claimOf_j20_s σ k x_3 := (by have q_ := h_5.symm; subst q_; unfold m_claimOf_s; rfl)
    refine m_callI (As := [.int (x_3)]) (rest := []) (fun _ h => h) ⟨hx, hb, hml, hown, hts⟩ (cm_refused l G cI cZ a σ  x_3 ) (cwV 1 hts gX6_claimOf_X6_refused rfl rfl rfl (by decide +kernel) ⟨Nat.le_of_ble_eq_true rfl, Nat.le_of_ble_eq_true rfl⟩) hK hP hD hS rfl hl.1 rfl (Nat.le_of_ble_eq_true rfl) dX6_claimOf_20 ⟨Nat.zero_le _, Nat.zero_le _⟩ (fun H locs hP hD _ _ hS => ?_)
    obtain ⟨s_8, e_9⟩ : ∃ z : Sg, z = (m_refused_s σ x_3) := ⟨_, rfl⟩
    rw [← e_9] at hP hD
    have hR_10 : m_claimOf σ k = m_claimOf_k23 σ k x_3 s_8 := (Eq.trans hR_6 (by have q_ := e_9.symm; subst q_; unfold m_claimOf_j20; rfl))
    have hR_11 : m_claimOf_s σ k = m_claimOf_k23_s σ k x_3 s_8 := (Eq.trans hR_7 (by have q_ := e_9.symm; subst q_; unfold m_claimOf_j20_s; rfl))
    have J36_15 : ∀ (x_14 : Int32), x_14 = (if (m_refused σ x_3) = 0 then (s_8.1 25 ((k).toNatClampNeg)) else nI (0)) → ∀ (H : Heap) (locs : List Loc), va_P G vwCl (wm cI cZ a s_8) H → va_D (mA a) (wm cI cZ a s_8) → va_S (mA a) s.heap H locs → ∀ (ls : Array Slot), lv_has ls 2 [(0, .ref (a 0)), (1, .int (k))] → WW H locs 0 0 (F0 m 36 ls [.int (x_14)]) := by
      intro x_14 h_16 H locs hP hD hS ls hl
      refine (hWW _ _ _ _ _).mpr ?_
      have hR_17 : m_claimOf σ k = m_claimOf_j36 σ k x_3 s_8 x_14 := (Eq.trans hR_10 (by have q_ := h_16.symm; subst q_; unfold m_claimOf_k23; rfl))
      have hR_18 : m_claimOf_s σ k = m_claimOf_j36_s σ k x_3 s_8 x_14 := (Eq.trans hR_11 (by have q_ := h_16.symm; subst q_; unfold m_claimOf_k23_s; rfl))
      exact m_iret (v := x_14) hx hb hr hlocks hP hK hD hS dX6_claimOf_36 (Eq.trans (by unfold m_claimOf_j36; rfl) hR_17.symm) (Eq.trans (by unfold m_claimOf_j36_s; rfl) hR_18.symm)
    refine lv_if_eq (x := (m_refused σ x_3)) (tgt := 30) hx hb dX6_claimOf_23 (by decide) (fun c_12 => ?_) (fun c_12 => ?_)
    · have hq : vp_in k 40 := vp_wide (w_below hO.2.2.1 (by decide) (ck_b h_5 (m_refused_0 c_12))) (by omega)
      refine lv_aload_n hx hb dX6_claimOf_30 rfl (lv_at hl 0 rfl) ?_
      refine m_get (v := .ref (a 25)) hx hb hts hin hown hK hP 25 (by decide) rfl (index := 71) (List.mem_of_getElem? (i := 2) rfl) dX6_claimOf_31 ?_
      refine lv_iload_n hx hb dX6_claimOf_34 rfl (lv_at hl 1 rfl) ?_
      refine m_aldI (j := k) hx hb hK hP 21 25 rfl (hq) dX6_claimOf_35 ?_
      refine W.eq (g2 := F0 m 36 ls [.int ((s_8.1 25 ((k).toNatClampNeg)))]) rfl ?_
      exact (hWW _ _ _ _ _).mp (J36_15 _ (by simp only [if_pos c_12]) _ _ hP hD hS _ (lv_sub hl [0, 1] rfl))
    · refine lv_iconst (v := nI (0)) hx hb dX6_claimOf_26 (by decide) ?_
      refine lv_goto (tgt := 36) hx hb dX6_claimOf_27 (by decide) ?_
      exact (hWW _ _ _ _ _).mp (J36_15 _ (by simp only [if_neg c_12]) _ _ hP hD hS _ (lv_sub hl [0, 1] rfl))
  refine lv_if_eq (x := (m_within k (nI (0)) (((σ.1 24 0)) - (nI (1))))) (tgt := 19) hx hb dX6_claimOf_12 (by decide) (fun c_1 => ?_) (fun c_1 => ?_)
  · refine lv_iconst (v := nI (1)) hx hb dX6_claimOf_19 (by decide) ?_
    exact (hWW _ _ _ _ _).mp (J20_4 _ (by simp only [if_pos c_1]) _ _ hP hD hS _ (lv_sub hl [0, 1] rfl))
  · refine lv_iconst (v := nI (0)) hx hb dX6_claimOf_15 (by decide) ?_
    refine lv_goto (tgt := 20) hx hb dX6_claimOf_16 (by decide) ?_
    exact (hWW _ _ _ _ _).mp (J20_4 _ (by simp only [if_neg c_1]) _ _ hP hD hS _ (lv_sub hl [0, 1] rfl))
