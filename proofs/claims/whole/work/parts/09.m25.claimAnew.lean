def m_claimAnew_k5 (σ : Sg) (k : Int32) (s_1 : Sg) : Int32 := (m_claimOf σ k)
def m_claimAnew_k5_s (σ : Sg) (k : Int32) (s_1 : Sg) : Sg := s_1
def m_claimAnew (σ : Sg) (k : Int32) : Int32 := (m_claimAnew_k5 σ k (m_claimOf_s σ k))
def m_claimAnew_s (σ : Sg) (k : Int32) : Sg := (m_claimAnew_k5_s σ k (m_claimOf_s σ k))
set_option maxHeartbeats 4000000 in
set_option maxRecDepth 100000 in
theorem cm_claimAnew (l : Launch) (G : va_G) (cI cZ : ClassId) (a : Nat → Nat) (σ : Sg) (k : Int32) (hO : mOK σ) : mI l yX6_claimAnew wsX6_claimAnew ({ frames := 2, cells := 0, slots := 0, locals := 43 } : Room) G cI cZ a σ [.int (k)] (m_claimAnew σ k) (m_claimAnew_s σ k) := by
  unfold mI
  refine Met.ofW (cc := cX6_claimAnew) (maxL := 2) (ret := (some .int)) (by decide) rfl ?_
  intro p e s m args below meth c s₁ B hml hv
  obtain ⟨rfl, hP, hK, hD⟩ := hv
  have hx := B.exec
  have hb := B.bytes
  have hr := B.returns
  have hts := atoms_spec (ws := wsX6_claimAnew) B.pre
  have hown : s.vm.findClass RX6 = some m.cls := findClass_of_methodNamed B.named
  have hlocks := B.notSynchronized
  have hS : va_S (mA a) s.heap s.heap [] := va_S.rf
  have hin : ∀ w ∈ wsX60, w ∈ wsX6_claimAnew := fun w h => List.mem_cons_of_mem _ (List.mem_append_right _ h)
  have hl := lv_entry ([.ref (a 0), .int (k)]) (n := 2) (Nat.le_of_ble_eq_true rfl)
  rw [lg_entry_eq]
  generalize (lg_sl ([.ref (a 0), .int (k)]) ++ List.replicate (2 - (lg_sl ([.ref (a 0), .int (k)])).length) Slot.unset).toArray = ls at hl ⊢
  have hl : lv_has ls 2 [(0, .ref (a 0)), (1, .int (k))] := hl
  refine w_named (fun WW hWW => ?_)
  have hP : va_P G vwCl (wm cI cZ a σ) s.heap := hP
  refine lv_aload_n hx hb dX6_claimAnew_0 rfl (lv_at hl 0 rfl) ?_
  refine lv_iload_n hx hb dX6_claimAnew_1 rfl (lv_at hl 1 rfl) ?_
  refine m_callI (As := [.int (k)]) (rest := []) (fun _ h => h) ⟨hx, hb, hml, hown, hts⟩ (cm_claimOf l G cI cZ a σ  k hO) (cwV 1 hts gX6_claimAnew_X6_claimOf rfl rfl rfl (by decide +kernel) ⟨Nat.le_of_ble_eq_true rfl, Nat.le_of_ble_eq_true rfl⟩) hK hP hD hS rfl hl.1 rfl (Nat.le_of_ble_eq_true rfl) dX6_claimAnew_2 ⟨Nat.zero_le _, Nat.zero_le _⟩ (fun H locs hP hD _ _ hS => ?_)
  obtain ⟨s_1, e_2⟩ : ∃ z : Sg, z = (m_claimOf_s σ k) := ⟨_, rfl⟩
  rw [← e_2] at hP hD
  have hR_3 : m_claimAnew σ k = m_claimAnew_k5 σ k s_1 := (by have q_ := e_2.symm; subst q_; unfold m_claimAnew; rfl)
  have hR_4 : m_claimAnew_s σ k = m_claimAnew_k5_s σ k s_1 := (by have q_ := e_2.symm; subst q_; unfold m_claimAnew_s; rfl)
  exact m_iret (v := (m_claimOf σ k)) hx hb hr hlocks hP hK hD hS dX6_claimAnew_5 (Eq.trans (by unfold m_claimAnew_k5; rfl) hR_3.symm) (Eq.trans (by unfold m_claimAnew_k5_s; rfl) hR_4.symm)
