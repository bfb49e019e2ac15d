def m_pass_x76 (σ : Sg) (months : Int32) (air : Int32) (snow : Int32) (x_3 : Int32) (x_10 : Int32) (s_15 : Sg) (z76 : Sg) : Int32 := (z76.1 1 0)
def m_pass_x76_s (σ : Sg) (months : Int32) (air : Int32) (snow : Int32) (x_3 : Int32) (x_10 : Int32) (s_15 : Sg) (z76 : Sg) : Sg := z76
def m_pass_k88 (air : Int32) (snow : Int32) (i76 : Nat) (z76 : Sg) (s_23 : Sg) : Sg := s_23
def m_pass_b76 (air snow : Int32) (i76 : Nat) (z76 : Sg) : Sg := (m_pass_k88 air snow i76 z76 (m_passOne_s z76 air snow))
def m_pass_k68 (σ : Sg) (months : Int32) (air : Int32) (snow : Int32) (x_3 : Int32) (x_10 : Int32) (s_15 : Sg) : Int32 := (if (m_refused σ x_10) = 0 then (m_pass_x76 σ months air snow x_3 x_10 s_15 (lp (m_pass_b76 air snow) ((months).toNatClampNeg) s_15)) else nI (0))
def m_pass_k68_s (σ : Sg) (months : Int32) (air : Int32) (snow : Int32) (x_3 : Int32) (x_10 : Int32) (s_15 : Sg) : Sg := (if (m_refused σ x_10) = 0 then (m_pass_x76_s σ months air snow x_3 x_10 s_15 (lp (m_pass_b76 air snow) ((months).toNatClampNeg) s_15)) else s_15)
def m_pass_j65 (σ : Sg) (months : Int32) (air : Int32) (snow : Int32) (x_3 : Int32) (x_10 : Int32) : Int32 := (m_pass_k68 σ months air snow x_3 x_10 (m_refused_s σ x_10))
def m_pass_j65_s (σ : Sg) (months : Int32) (air : Int32) (snow : Int32) (x_3 : Int32) (x_10 : Int32) : Sg := (m_pass_k68_s σ months air snow x_3 x_10 (m_refused_s σ x_10))
def m_pass_j36 (σ : Sg) (months : Int32) (air : Int32) (snow : Int32) (x_3 : Int32) : Int32 := (m_pass_j65 σ months air snow x_3 (if x_3 = 0 then nI (1) else (if ((σ.1 1 0)) + (months) ≤ nI (600) then nI (0) else nI (2))))
def m_pass_j36_s (σ : Sg) (months : Int32) (air : Int32) (snow : Int32) (x_3 : Int32) : Sg := (m_pass_j65_s σ months air snow x_3 (if x_3 = 0 then nI (1) else (if ((σ.1 1 0)) + (months) ≤ nI (600) then nI (0) else nI (2))))
def m_pass (σ : Sg) (months : Int32) (air : Int32) (snow : Int32) : Int32 := (m_pass_j36 σ months air snow (if (m_within months (nI (1)) (nI (24))) = 0 then nI (0) else (if (m_within air (-50) (nI (30))) = 0 then nI (0) else (if (m_within snow (nI (0)) (nI (9))) = 0 then nI (0) else nI (1)))))
def m_pass_s (σ : Sg) (months : Int32) (air : Int32) (snow : Int32) : Sg := (m_pass_j36_s σ months air snow (if (m_within months (nI (1)) (nI (24))) = 0 then nI (0) else (if (m_within air (-50) (nI (30))) = 0 then nI (0) else (if (m_within snow (nI (0)) (nI (9))) = 0 then nI (0) else nI (1)))))
theorem m_passOne_k (k : Nat) (hk : k = 5 ∨ 13 ≤ k ∧ k ≠ 17 ∧ k ≠ 23) {σ : Sg} {air snow : Int32} : (m_passOne_s σ air snow).1 k = σ.1 k := by
  simp only [m_passOne_k267_s, m_passOne_x169_s, m_passOne_x180, m_passOne_k245, m_passOne_x116_s, m_passOne_k161, m_passOne_j159, m_passOne_x96_s, m_passOne_k108, m_passOne_j94_s, m_passOne_x67_s, m_passOne_k78, m_passOne_x48_s, m_passOne_k59, m_passOne_k46_s, m_passOne_x2_s, m_passOne_k35, m_passOne_j34, m_passOne_s]
  simp only [si, if_neg (show ¬ k = 1 by omega)]
  rw [m_p169 k (by omega), m_p116 k (by omega), m_p96 k (by omega), m_pcr k (by omega), m_p67 k (by omega), m_p48 k (by omega), m_heat_k k (by omega), m_p2 k (by omega)]
theorem m_passOne_4 {σ : Sg} {air snow : Int32} : (m_passOne_s σ air snow).1 4 = (lp (m_passOne_b2 air snow) 25 σ).1 4 := by
  simp only [m_passOne_k267_s, m_passOne_x169_s, m_passOne_x180, m_passOne_k245, m_passOne_x116_s, m_passOne_k161, m_passOne_j159, m_passOne_x96_s, m_passOne_k108, m_passOne_j94_s, m_passOne_x67_s, m_passOne_k78, m_passOne_x48_s, m_passOne_k59, m_passOne_k46_s, m_passOne_x2_s, m_passOne_k35, m_passOne_j34, m_passOne_s]
  simp only [si, if_neg (show ¬ (4 : Nat) = 1 by decide)]
  rw [m_p169 4 (by decide), m_p116 4 (by decide), m_p96 4 (by decide), m_pcr 4 (by decide), m_p67 4 (by decide), m_p48 4 (by decide), m_heat_k 4 (by decide)]
theorem m_passOne_1 {σ : Sg} {air snow : Int32} : (m_passOne_s σ air snow).1 1 0 = σ.1 1 0 + nI 1 := by
  simp only [m_passOne_k267_s, m_passOne_x169_s, m_passOne_x180, m_passOne_k245, m_passOne_x116_s, m_passOne_k161, m_passOne_j159, m_passOne_x96_s, m_passOne_k108, m_passOne_j94_s, m_passOne_x67_s, m_passOne_k78, m_passOne_x48_s, m_passOne_k59, m_passOne_k46_s, m_passOne_x2_s, m_passOne_k35, m_passOne_j34, m_passOne_s]
  simp only [si, upd, if_true]
  rw [m_p169 1 (by decide), m_p116 1 (by decide), m_p96 1 (by decide), m_pcr 1 (by decide), m_p67 1 (by decide), m_p48 1 (by decide), m_heat_k 1 (by decide), m_p2 1 (by decide)]
theorem m_passOne_ok {σ : Sg} {air snow : Int32} (hO : mOK σ) (hm : vp_in (σ.1 1 0) 600) (hs : vp_in snow 10) : mOK (m_passOne_s σ air snow) := by
  have hk : ∀ k, (k = 5 ∨ 13 ≤ k ∧ k ≠ 17 ∧ k ≠ 23) → (m_passOne_s σ air snow).1 k = σ.1 k := fun k h => m_passOne_k k h
  have h4 := (m_ok_snow (air := air) hO hs 25 (Nat.le_refl _)).2.2.2.2.2.2
  unfold mOK
  rw [hk 13 (by decide), hk 19 (by decide), hk 24 (by decide), hk 14 (by decide), hk 15 (by decide), hk 18 (by decide), hk 20 (by decide), hk 5 (by decide), m_passOne_1, m_passOne_4]
  have e := vp_self hm
  have hl := vp_lt hm
  have e2 : (σ.1 1 0 + nI 1).toNatClampNeg = (σ.1 1 0).toNatClampNeg + 1 := by
    conv => lhs; rw [e]
    rw [nI_add, nI_clamp (by omega)]
  have h1 : vp_in (σ.1 1 0 + nI 1) 601 := by rw [e, nI_add]; exact vp_in_nI (by omega) (by decide)
  refine ⟨hO.1, hO.2.1, hO.2.2.1, h1, fun h hh => ?_, hO.2.2.2.2.2.1, fun c hc => ⟨(h4 c hc).1, (hO.2.2.2.2.2.2 c hc).2⟩⟩
  obtain ⟨g1, g2, g3, g4⟩ := hO.2.2.2.2.1 h hh
  exact ⟨g1, g2, g3, by omega⟩
theorem m_pass_inv {σ : Sg} {air snow : Int32} {n : Nat} (hO : mOK σ) (hn : (σ.1 1 0).toNatClampNeg + n ≤ 600) (hs : vp_in snow 10) (i : Nat) (hi : i ≤ n) : mOK (lp (m_pass_b76 air snow) i σ) ∧ (lp (m_pass_b76 air snow) i σ).1 1 0 = nI ((σ.1 1 0).toNatClampNeg + i) := by
  refine lp_invB (P := fun i (z : Sg) => mOK z ∧ z.1 1 0 = nI ((σ.1 1 0).toNatClampNeg + i)) (N := n) ⟨hO, vp_self hO.2.2.2.1⟩ ?_ i hi
  intro i z hi ⟨h1, h2⟩
  simp only [m_pass_b76, m_pass_x76, m_pass_x76_s, m_pass_k88, m_pass_k68, m_pass_k68_s, m_pass_j65, m_pass_j65_s, m_pass_j36, m_pass_j36_s, m_pass, m_pass_s]
  have hm : vp_in (z.1 1 0) 600 := by rw [h2]; exact vp_in_nI (by omega) (by decide)
  exact ⟨m_passOne_ok h1 hm hs, by rw [m_passOne_1, h2, nI_add]; rfl⟩
theorem ck_pass {P Q : Prop} [Decidable P] [Decidable Q] {x : Int32} (hx : x = if P then nI 1 else (if Q then nI 0 else nI 2)) (h : x = 0) : ¬ P ∧ Q := by
  subst hx
  by_cases hP : P
  · rw [if_pos hP] at h; exact absurd h n1_ne
  · rw [if_neg hP] at h
    refine ⟨hP, ?_⟩
    by_cases hQ : Q
    · exact hQ
    · rw [if_neg hQ] at h; exact absurd h n2_ne
theorem m_pass_le {x y : Int32} (hx : vp_in x 601) (hy : vp_in y 25) (h : x + y ≤ nI 600) : x.toNatClampNeg + y.toNatClampNeg ≤ 600 := by
  have e1 := vp_self hx
  have e2 := vp_self hy
  have l1 := vp_lt hx
  have l2 := vp_lt hy
  rw [e1, e2, nI_add] at h
  exact (nI_leI (by omega) (by decide)).mp h
theorem w_in1 {v : Int32} {n : Nat} (h : ¬ m_within v (nI 1) (nI n) = 0) (hn : n < 2 ^ 31) : vp_in v (n + 1) := by
  obtain ⟨h1, h2⟩ := w_within h
  rw [nI_toInt (by omega)] at h1
  rw [nI_toInt hn] at h2
  exact vp_in_iff.mpr ⟨by omega, by omega⟩
set_option maxHeartbeats 4000000 in
set_option maxRecDepth 100000 in
theorem cm_pass (l : Launch) (G : va_G) (cI cZ : ClassId) (a : Nat → Nat) (σ : Sg) (months : Int32) (air : Int32) (snow : Int32) (hO : mOK σ) : mI l yX6_pass wsX6_pass ({ frames := 4, cells := 0, slots := 0, locals := 88 } : Room) G cI cZ a σ [.int (months), .int (air), .int (snow)] (m_pass σ months air snow) (m_pass_s σ months air snow) := by
  unfold mI
  refine Met.ofW (cc := cX6_pass) (maxL := 6) (ret := (some .int)) (by decide) rfl ?_
  intro p e s m args below meth c s₁ B hml hv
  obtain ⟨rfl, hP, hK, hD⟩ := hv
  have hx := B.exec
  have hb := B.bytes
  have hr := B.returns
  have hts := atoms_spec (ws := wsX6_pass) B.pre
  have hown : s.vm.findClass RX6 = some m.cls := findClass_of_methodNamed B.named
  have hlocks := B.notSynchronized
  have hS : va_S (mA a) s.heap s.heap [] := va_S.rf
  have hin : ∀ w ∈ wsX60, w ∈ wsX6_pass := fun w h => List.mem_cons_of_mem _ (List.mem_append_right _ h)
  have hl := lv_entry ([.ref (a 0), .int (months), .int (air), .int (snow)]) (n := 6) (Nat.le_of_ble_eq_true rfl)
  rw [lg_entry_eq]
  generalize (lg_sl ([.ref (a 0), .int (months), .int (air), .int (snow)]) ++ List.replicate (6 - (lg_sl ([.ref (a 0), .int (months), .int (air), .int (snow)])).length) Slot.unset).toArray = ls at hl ⊢
  have hl : lv_has ls 6 [(0, .ref (a 0)), (1, .int (months)), (2, .int (air)), (3, .int (snow))] := hl
  refine w_named (fun WW hWW => ?_)
  have hP : va_P G vwCl (wm cI cZ a σ) s.heap := hP
  refine lv_iload_n hx hb dX6_pass_0 rfl (lv_at hl 1 rfl) ?_
  refine lv_iconst (v := nI (1)) hx hb dX6_pass_1 (by decide) ?_
  refine lv_bipush (v := nI (24)) hx hb dX6_pass_2 (by decide) ?_
  refine m_callS (As := [.int (months), .int (nI (1)), .int (nI (24))]) (rest := []) ⟨hx, hb, hml, hown, hts⟩ (cm_within l months (nI (1)) (nI (24)) ) (va_cwS 3 hts gX6_pass_X6_within rfl rfl rfl (by decide +kernel) ⟨Nat.le_of_ble_eq_true rfl, Nat.le_of_ble_eq_true rfl⟩) hP hS rfl hl.1 rfl (Nat.le_of_ble_eq_true rfl) dX6_pass_4 ⟨Nat.zero_le _, Nat.zero_le _⟩ (fun H locs hP hS => ?_)
  have J36_4 : ∀ (x_3 : Int32), x_3 = (if (m_within months (nI (1)) (nI (24))) = 0 then nI (0) else (if (m_within air (-50) (nI (30))) = 0 then nI (0) else (if (m_within snow (nI (0)) (nI (9))) = 0 then nI (0) else nI (1)))) → ∀ (H : Heap) (locs : List Loc), va_P G vwCl (wm cI cZ a σ) H → va_D (mA a) (wm cI cZ a σ) → va_S (mA a) s.heap H locs → ∀ (ls : Array Slot), lv_has ls 6 [(0, .ref (a 0)), (1, .int (months)), (2, .int (air)), (3, .int (snow))] → WW H locs 0 0 (F0 m 36 ls [.int (x_3)]) := by
    intro x_3 h_5 H locs hP hD hS ls hl
    refine (hWW _ _ _ _ _).mpr ?_
    have hR_6 : m_pass σ months air snow = m_pass_j36 σ months air snow x_3 := (by have q_ := h_5.symm; subst q_; unfold m_pass; rfl)
    have hR_7 : m_pass_s σ months air snow = m_pass_j36_s σ months air snow x_3 := (by have q_ := h_5.symm; subst q_; unfold m_pass_s; rfl)
    refine lv_istore (lv' := [(4, .int (x_3)), (0, .ref (a 0)), (1, .int (months)), (2, .int (air)), (3, .int (snow))]) hx hb dX6_pass_36 hl (by decide) rfl (fun ls hl => ?_)
    refine lv_aload_n hx hb dX6_pass_38 rfl (lv_at hl 1 rfl) ?_
    refine lv_iload hx hb dX6_pass_39 (lv_at hl 0 rfl) ?_
    have J65_11 : ∀ (x_10 : Int32), x_10 = (if x_3 = 0 then nI (1) else (if ((σ.1 1 0)) + (months) ≤ nI (600) then nI (0) else nI (2))) → ∀ (H : Heap) (locs : List Loc), va_P G vwCl (wm cI cZ a σ) H → va_D (mA a) (wm cI cZ a σ) → va_S (mA a) s.heap H locs → ∀ (ls : Array Slot), lv_has ls 6 [(4, .int (x_3)), (0, .ref (a 0)), (1, .int (months)), (2, .int (air)), (3, .int (snow))] → WW H locs 0 0 (F0 m 65 ls [.int (x_10), .ref (a 0)]) := by
      intro x_10 h_12 H locs hP hD hS ls hl
      refine (hWW _ _ _ _ _).mpr ?_
      have hR_13 : m_pass σ months air snow = m_pass_j65 σ months air snow x_3 x_10 := (Eq.trans hR_6 (by have q_ := h_12.symm; subst q_; unfold m_pass_j36; rfl))
      have hR_14 : m_pass_s σ months air snow = m_pass_j65_s σ months air snow x_3 x_10 := (Eq.trans hR_7 (by have q_ := h_12.symm; subst q_; unfold m_pass_j36_s; rfl))
      refine m_callI (As := [.int (x_10)]) (rest := []) (fun _ h => h) ⟨hx, hb, hml, hown, hts⟩ (cm_refused l G cI cZ a σ  x_10 ) (cwV 1 hts gX6_pass_X6_refused rfl rfl rfl (by decide +kernel) ⟨Nat.le_of_ble_eq_true rfl, Nat.le_of_ble_eq_true rfl⟩) hK hP hD hS rfl hl.1 rfl (Nat.le_of_ble_eq_true rfl) dX6_pass_65 ⟨Nat.zero_le _, Nat.zero_le _⟩ (fun H locs hP hD _ _ hS => ?_)
      obtain ⟨s_15, e_16⟩ : ∃ z : Sg, z = (m_refused_s σ x_10) := ⟨_, rfl⟩
      rw [← e_16] at hP hD
      have hR_17 : m_pass σ months air snow = m_pass_k68 σ months air snow x_3 x_10 s_15 := (Eq.trans hR_13 (by have q_ := e_16.symm; subst q_; unfold m_pass_j65; rfl))
      have hR_18 : m_pass_s σ months air snow = m_pass_k68_s σ months air snow x_3 x_10 s_15 := (Eq.trans hR_14 (by have q_ := e_16.symm; subst q_; unfold m_pass_j65_s; rfl))
      refine lv_if_eq (x := (m_refused σ x_10)) (tgt := 73) hx hb dX6_pass_68 (by decide) (fun c_19 => ?_) (fun c_19 => ?_)
      · have q0 := ck_pass h_12 (m_refused_0 c_19)
        have q1 := ck_3 h_5 q0.1
        have hmo : vp_in months 25 := w_in1 (n := 24) q1.1 (by decide)
        have hs : vp_in snow 10 := w_in (n := 9) q1.2.2 (by decide)
        have hml9 := vp_lt hmo
        have hO9 : mOK s_15 := by rw [e_16]; exact hO
        have h10 : (s_15).1 1 0 = σ.1 1 0 := by rw [e_16]; rfl
        have hle : ((s_15).1 1 0).toNatClampNeg + (months).toNatClampNeg ≤ 600 := by rw [h10]; exact m_pass_le hO.2.2.2.1 hmo q0.2
        refine lv_iconst (v := nI (0)) hx hb dX6_pass_73 (by decide) ?_
        refine lv_istore (lv' := [(5, .int (nI (0))), (4, .int (x_3)), (0, .ref (a 0)), (1, .int (months)), (2, .int (air)), (3, .int (snow))]) hx hb dX6_pass_74 hl (by decide) rfl (fun ls hl => ?_)
        have L76 : ∀ (n76 i76 : Nat), i76 ≤ (months).toNatClampNeg → ((months).toNatClampNeg) + 1 ≤ i76 + n76 → ∀ (z76 : Sg), z76 = lp (m_pass_b76 air snow) i76 s_15 → ∀ (H : Heap) (locs : List Loc), va_P G vwCl (wm cI cZ a z76) H → va_D (mA a) (wm cI cZ a z76) → va_S (mA a) s.heap H locs → ∀ (ls : Array Slot), lv_has ls 6 [(5, .int (nI (i76))), (4, .int (x_3)), (0, .ref (a 0)), (1, .int (months)), (2, .int (air)), (3, .int (snow))] → WW H locs 0 0 (F0 m 76 ls []) := by
          intro n76
          induction n76 with
          | zero => intro i76 h1 h2; exact absurd h2 (by omega)
          | succ n76 ih76 =>
            intro i76 hi76 hn76 z76 hz76  H locs hP hD hS ls hl
            refine (hWW _ _ _ _ _).mpr ?_
            have hv := m_pass_inv (air := air) (snow := snow) hO9 hle hs i76 hi76
            rw [← hz76] at hv
            refine lv_iload hx hb dX6_pass_76 (lv_at hl 0 rfl) ?_
            refine lv_iload_n hx hb dX6_pass_78 rfl (lv_at hl 3 rfl) ?_
            refine W.eq (g2 := F0 m 79 ls (.int (nI ((months).toNatClampNeg)) :: .int (nI (i76)) :: [])) (congrArg (fun v => F0 m 79 ls (Value.int v :: .int (nI (i76)) :: [])) (vp_self hmo)) ?_
            refine n_icmp_ge (x := i76) (y := (months).toNatClampNeg) (tgt := 94) hx hb (by omega) (by omega) dX6_pass_79 (by decide) (fun c_20 => ?_) (fun c_20 => ?_)
            · have hiN : (months).toNatClampNeg = i76 := by omega
              subst hiN
              have hR_21 : m_pass σ months air snow = m_pass_x76 σ months air snow x_3 x_10 s_15 z76 := (Eq.trans hR_17 (by have q_ := hz76.symm; subst q_; unfold m_pass_k68; simp only [if_pos c_19]))
              have hR_22 : m_pass_s σ months air snow = m_pass_x76_s σ months air snow x_3 x_10 s_15 z76 := (Eq.trans hR_18 (by have q_ := hz76.symm; subst q_; unfold m_pass_k68_s; simp only [if_pos c_19]))
              refine lv_aload_n hx hb dX6_pass_94 rfl (lv_at hl 2 rfl) ?_
              refine m_get (v := .int ((z76.1 1 0))) hx hb hts hin hown hK hP 1 (by decide) rfl (index := 109) (List.mem_of_getElem? (i := 1) rfl) dX6_pass_95 ?_
              exact m_iret (v := (z76.1 1 0)) hx hb hr hlocks hP hK hD hS dX6_pass_98 (Eq.trans (by unfold m_pass_x76; rfl) hR_21.symm) (Eq.trans (by unfold m_pass_x76_s; rfl) hR_22.symm)
            · refine lv_aload_n hx hb dX6_pass_82 rfl (lv_at hl 2 rfl) ?_
              refine lv_iload_n hx hb dX6_pass_83 rfl (lv_at hl 4 rfl) ?_
              refine lv_iload_n hx hb dX6_pass_84 rfl (lv_at hl 5 rfl) ?_
              refine m_callV (As := [.int (air), .int (snow)]) (rest := []) (fun _ h => h) ⟨hx, hb, hml, hown, hts⟩ (cm_passOne l G cI cZ a z76  air snow hv.1 (by rw [hv.2]; exact vp_in_nI (by omega) (by decide)) hs) (cwV 2 hts gX6_pass_X6_passOne rfl rfl rfl (by decide +kernel) ⟨Nat.le_of_ble_eq_true rfl, Nat.le_of_ble_eq_true rfl⟩) hK hP hD hS rfl hl.1 rfl (Nat.le_of_ble_eq_true rfl) dX6_pass_85 ⟨Nat.zero_le _, Nat.zero_le _⟩ (fun H locs hP hD _ _ hS => ?_)
              obtain ⟨s_23, e_24⟩ : ∃ z : Sg, z = (m_passOne_s z76 air snow) := ⟨_, rfl⟩
              rw [← e_24] at hP hD
              have hR_25 : m_pass_b76 air snow i76 z76 = m_pass_k88 air snow i76 z76 s_23 := (by have q_ := e_24.symm; subst q_; unfold m_pass_b76; rfl)
              refine n_iinc (x := i76) (dN := 1) (k := 0) (lv' := [(5, .int (nI (i76 + 1))), (4, .int (x_3)), (0, .ref (a 0)), (1, .int (months)), (2, .int (air)), (3, .int (snow))]) hx hb dX6_pass_88 hl rfl (by decide) rfl (fun ls hl => ?_)
              refine lv_goto (tgt := 76) hx hb dX6_pass_91 (by decide) ?_
              exact (hWW _ _ _ _ _).mp (ih76 (i76 + 1) (by omega) (by omega) (s_23) (by show _ = m_pass_b76 air snow i76 (lp (m_pass_b76 air snow) i76 s_15); rw [← hz76]; exact (Eq.trans (by unfold m_pass_k88; rfl) hR_25.symm))  _ _ hP hD hS _ (lv_sub hl [0, 1, 2, 3, 4, 5] rfl))
        exact (hWW _ _ _ _ _).mp (L76 ((months).toNatClampNeg + 1) 0 (Nat.zero_le _) (by omega) s_15 rfl  _ _ hP hD hS _ (lv_sub hl [0, 1, 2, 3, 4, 5] rfl))
      · refine lv_iconst (v := nI (0)) hx hb dX6_pass_71 (by decide) ?_
        exact m_iret (v := nI (0)) hx hb hr hlocks hP hK hD hS dX6_pass_72 (Eq.trans (by unfold m_pass_k68; simp only [if_neg c_19]) hR_17.symm) (Eq.trans (by unfold m_pass_k68_s; simp only [if_neg c_19]) hR_18.symm)
    refine lv_if_ne (x := x_3) (tgt := 48) hx hb dX6_pass_41 (by decide) (fun c_8 => ?_) (fun c_8 => ?_)
    · refine lv_aload_n hx hb dX6_pass_48 rfl (lv_at hl 1 rfl) ?_
      refine m_get (v := .int ((σ.1 1 0))) hx hb hts hin hown hK hP 1 (by decide) rfl (index := 109) (List.mem_of_getElem? (i := 1) rfl) dX6_pass_49 ?_
      refine lv_iload_n hx hb dX6_pass_52 rfl (lv_at hl 2 rfl) ?_
      refine lv_iadd (x := (σ.1 1 0)) (y := months) hx hb dX6_pass_53 ?_
      refine lv_sipush (v := nI (600)) hx hb dX6_pass_54 (by decide) ?_
      refine lv_icmp_le (x := ((σ.1 1 0)) + (months)) (y := nI (600)) (tgt := 64) hx hb dX6_pass_57 (by decide) (fun c_26 => ?_) (fun c_26 => ?_)
      · refine lv_iconst (v := nI (0)) hx hb dX6_pass_64 (by decide) ?_
        exact (hWW _ _ _ _ _).mp (J65_11 _ (by simp only [if_neg c_8, if_pos c_26]) _ _ hP hD hS _ (lv_sub hl [0, 1, 2, 3, 4] rfl))
      · refine lv_iconst (v := nI (2)) hx hb dX6_pass_60 (by decide) ?_
        refine lv_goto (tgt := 65) hx hb dX6_pass_61 (by decide) ?_
        exact (hWW _ _ _ _ _).mp (J65_11 _ (by simp only [if_neg c_8, if_neg c_26]) _ _ hP hD hS _ (lv_sub hl [0, 1, 2, 3, 4] rfl))
    · refine lv_iconst (v := nI (1)) hx hb dX6_pass_44 (by decide) ?_
      refine lv_goto (tgt := 65) hx hb dX6_pass_45 (by decide) ?_
      exact (hWW _ _ _ _ _).mp (J65_11 _ (by simp only [if_pos c_8]) _ _ hP hD hS _ (lv_sub hl [0, 1, 2, 3, 4] rfl))
  refine lv_if_eq (x := (m_within months (nI (1)) (nI (24)))) (tgt := 35) hx hb dX6_pass_7 (by decide) (fun c_1 => ?_) (fun c_1 => ?_)
  · refine lv_iconst (v := nI (0)) hx hb dX6_pass_35 (by decide) ?_
    exact (hWW _ _ _ _ _).mp (J36_4 _ (by simp only [if_pos c_1]) _ _ hP hD hS _ (lv_sub hl [0, 1, 2, 3] rfl))
  · refine lv_iload_n hx hb dX6_pass_10 rfl (lv_at hl 2 rfl) ?_
    refine lv_bipush (v := (-50)) hx hb dX6_pass_11 (by decide) ?_
    refine lv_bipush (v := nI (30)) hx hb dX6_pass_13 (by decide) ?_
    refine m_callS (As := [.int (air), .int ((-50)), .int (nI (30))]) (rest := []) ⟨hx, hb, hml, hown, hts⟩ (cm_within l air (-50) (nI (30)) ) (va_cwS 3 hts gX6_pass_X6_within rfl rfl rfl (by decide +kernel) ⟨Nat.le_of_ble_eq_true rfl, Nat.le_of_ble_eq_true rfl⟩) hP hS rfl hl.1 rfl (Nat.le_of_ble_eq_true rfl) dX6_pass_15 ⟨Nat.zero_le _, Nat.zero_le _⟩ (fun H locs hP hS => ?_)
    refine lv_if_eq (x := (m_within air (-50) (nI (30)))) (tgt := 35) hx hb dX6_pass_18 (by decide) (fun c_27 => ?_) (fun c_27 => ?_)
    · refine lv_iconst (v := nI (0)) hx hb dX6_pass_35 (by decide) ?_
      exact (hWW _ _ _ _ _).mp (J36_4 _ (by simp only [if_neg c_1, if_pos c_27]) _ _ hP hD hS _ (lv_sub hl [0, 1, 2, 3] rfl))
    · refine lv_iload_n hx hb dX6_pass_21 rfl (lv_at hl 3 rfl) ?_
      refine lv_iconst (v := nI (0)) hx hb dX6_pass_22 (by decide) ?_
      refine lv_bipush (v := nI (9)) hx hb dX6_pass_23 (by decide) ?_
      refine m_callS (As := [.int (snow), .int (nI (0)), .int (nI (9))]) (rest := []) ⟨hx, hb, hml, hown, hts⟩ (cm_within l snow (nI (0)) (nI (9)) ) (va_cwS 3 hts gX6_pass_X6_within rfl rfl rfl (by decide +kernel) ⟨Nat.le_of_ble_eq_true rfl, Nat.le_of_ble_eq_true rfl⟩) hP hS rfl hl.1 rfl (Nat.le_of_ble_eq_true rfl) dX6_pass_25 ⟨Nat.zero_le _, Nat.zero_le _⟩ (fun H locs hP hS => ?_)
      refine lv_if_eq (x := (m_within snow (nI (0)) (nI (9)))) (tgt := 35) hx hb dX6_pass_28 (by decide) (fun c_28 => ?_) (fun c_28 => ?_)
      · refine lv_iconst (v := nI (0)) hx hb dX6_pass_35 (by decide) ?_
        exact (hWW _ _ _ _ _).mp (J36_4 _ (by simp only [if_neg c_1, if_neg c_27, if_pos c_28]) _ _ hP hD hS _ (lv_sub hl [0, 1, 2, 3] rfl))
      · refine lv_iconst (v := nI (1)) hx hb dX6_pass_31 (by decide) ?_
        refine lv_goto (tgt := 36) hx hb dX6_pass_32 (by decide) ?_
        exact (hWW _ _ _ _ _).mp (J36_4 _ (by simp only [if_neg c_1, if_neg c_27, if_neg c_28]) _ _ hP hD hS _ (lv_sub hl [0, 1, 2, 3] rfl))
