def k_month (σ : Sg) : Int32 := (σ.1 1 0)
set_option maxHeartbeats 4000000 in
set_option maxRecDepth 100000 in
theorem ck_month (l : Launch) (G : va_G) (ids : Nat → ClassId) (o z tS tE : Nat) (d : Nat → Nat → Nat) (w : Nat → Nat) (σ : Sg) : yI l yX5_month wsX5_month ({ frames := 0, cells := 0, slots := 0, locals := 0 } : Room) G ids tS tE [.ref (o)] (CPic G ids o z tE d w σ) (k_month σ) (CPic G ids o z tE d w σ) (cpG o z) := by
  unfold yI
  refine Met.ofW (cc := cX5_month) (maxL := 1) (ret := (some .int)) (by decide) rfl ?_
  intro p e s m args below meth c s₁ B hml hv
  obtain ⟨rfl, hP, hK, hZ⟩ := hv
  have hx := B.exec
  have hb := B.bytes
  have hr := B.returns
  have hts := atoms_spec (ws := wsX5_month) B.pre
  have hown : s.vm.findClass RX5 = some m.cls := findClass_of_methodNamed B.named
  have hlocks := B.notSynchronized
  have hS : va_S (cpG o z) s.heap s.heap [] := va_S.rf
  have hin_wsX50 : ∀ w ∈ wsX50, w ∈ wsX5_month := fun w h => List.mem_cons_of_mem _ (List.mem_append_right _ h)
  have hl := lv_entry ([.ref (o)]) (n := 1) (Nat.le_of_ble_eq_true rfl)
  rw [lg_entry_eq]
  generalize (lg_sl ([.ref (o)]) ++ List.replicate (1 - (lg_sl ([.ref (o)])).length) Slot.unset).toArray = ls at hl ⊢
  have hl : lv_has ls 1 [(0, .ref (o))] := hl
  refine w_named (fun WW hWW => ?_)
  refine lv_aload_n hx hb dX5_month_0 rfl (lv_at hl 0 rfl) ?_
  refine x_get (C := RX5) (T := TX5) (N := 10) (ci := 6) (fs := (cpOf o σ)) (v := .int ((σ.1 1 0))) hx hb hts hin_wsX50 hown hK hP.main rfl 4 (by decide) (index := 82) (List.mem_of_getElem? (i := 1) rfl) rfl dX5_month_1 ?_
  exact x_iret (v := (σ.1 1 0)) hx hb hr hlocks hP hS dX5_month_4 (by unfold k_month; rfl)
