def m_month_k5 (σ : Sg) (s_1 : Sg) : Int32 := (s_1.1 1 0)
def m_month_k5_s (σ : Sg) (s_1 : Sg) : Sg := s_1
def m_month (σ : Sg) : Int32 := (m_month_k5 σ (si σ 0 (0) (nI (0))))
def m_month_s (σ : Sg) : Sg := (m_month_k5_s σ (si σ 0 (0) (nI (0))))
set_option maxHeartbeats 4000000 in
set_option maxRecDepth 100000 in
theorem cm_month (l : Launch) (G : va_G) (cI cZ : ClassId) (a : Nat → Nat) (σ : Sg)  : mI l yX6_month wsX6_month ({ frames := 0, cells := 0, slots := 0, locals := 0 } : Room) G cI cZ a σ [] (m_month σ) (m_month_s σ) := by
  unfold mI
  refine Met.ofW (cc := cX6_month) (maxL := 1) (ret := (some .int)) (by decide) rfl ?_
  intro p e s m args below meth c s₁ B hml hv
  obtain ⟨rfl, hP, hK, hD⟩ := hv
  have hx := B.exec
  have hb := B.bytes
  have hr := B.returns
  have hts := atoms_spec (ws := wsX6_month) B.pre
  have hown : s.vm.findClass RX6 = some m.cls := findClass_of_methodNamed B.named
  have hlocks := B.notSynchronized
  have hS : va_S (mA a) s.heap s.heap [] := va_S.rf
  have hin : ∀ w ∈ wsX60, w ∈ wsX6_month := fun w h => List.mem_cons_of_mem _ (List.mem_append_right _ h)
  have hl := lv_entry ([.ref (a 0)]) (n := 1) (Nat.le_of_ble_eq_true rfl)
  rw [lg_entry_eq]
  generalize (lg_sl ([.ref (a 0)]) ++ List.replicate (1 - (lg_sl ([.ref (a 0)])).length) Slot.unset).toArray = ls at hl ⊢
  have hl : lv_has ls 1 [(0, .ref (a 0))] := hl
  refine w_named (fun WW hWW => ?_)
  have hP : va_P G vwCl (wm cI cZ a σ) s.heap := hP
  refine lv_aload_n hx hb dX6_month_0 rfl (lv_at hl 0 rfl) ?_
  refine lv_iconst (v := nI (0)) hx hb dX6_month_1 (by decide) ?_
  refine m_putI (v := nI (0)) hx hb hts hin hown hK hP hD hS 0 (by decide) rfl (by decide +kernel) rfl (index := 90) (List.mem_of_getElem? (i := 1) rfl) dX6_month_2 (fun H locs hP hD hS => ?_)
  obtain ⟨s_1, e_2⟩ : ∃ z : Sg, z = (si σ 0 (0) (nI (0))) := ⟨_, rfl⟩
  rw [← e_2] at hP hD
  have hR_3 : m_month σ = m_month_k5 σ s_1 := (by have q_ := e_2.symm; subst q_; unfold m_month; rfl)
  have hR_4 : m_month_s σ = m_month_k5_s σ s_1 := (by have q_ := e_2.symm; subst q_; unfold m_month_s; rfl)
  refine lv_aload_n hx hb dX6_month_5 rfl (lv_at hl 0 rfl) ?_
  refine m_get (v := .int ((s_1.1 1 0))) hx hb hts hin hown hK hP 1 (by decide) rfl (index := 109) (List.mem_of_getElem? (i := 2) rfl) dX6_month_6 ?_
  exact m_iret (v := (s_1.1 1 0)) hx hb hr hlocks hP hK hD hS dX6_month_9 (Eq.trans (by unfold m_month_k5; rfl) hR_3.symm) (Eq.trans (by unfold m_month_k5_s; rfl) hR_4.symm)
