def m_heat_x194_s (σ : Sg) (air : Int32) (z2 : Sg) (z27 : Sg) (z194 : Sg) : Sg := z194
def m_heat_k234 (air : Int32) (i194 : Nat) (z194 : Sg) (x_9 : Int32) (s_13 : Sg) : Sg := s_13
def m_heat_j231 (air : Int32) (i194 : Nat) (z194 : Sg) (x_9 : Int32) : Sg := (m_heat_k234 air i194 z194 x_9 (m_bring_s z194 ((nI (5)) * ((z194.1 14 i194))) x_9))
def m_heat_b194 (air : Int32) (i194 : Nat) (z194 : Sg) : Sg := (m_heat_j231 air i194 z194 (if (z194.1 16 i194) = 0 then nI (300) else (if 0 ≤ air then nI (300) else nI (0))))
def m_heat_x27_s (σ : Sg) (air : Int32) (z2 : Sg) (z27 : Sg) : Sg := (m_heat_x194_s σ air z2 z27 (lp (m_heat_b194 air) ((σ.1 13 0).toNatClampNeg) z27))
def m_heat_k186 (air : Int32) (i27 : Nat) (z27 : Sg) (x_19 : Int32) (x_25 : Int32) (s_29 : Sg) (z111 : Sg) (s_34 : Sg) : Sg := s_34
def m_heat_x111 (air : Int32) (i27 : Nat) (z27 : Sg) (x_19 : Int32) (x_25 : Int32) (s_29 : Sg) (z111 : Sg) : Sg := (m_heat_k186 air i27 z27 x_19 x_25 s_29 z111 (m_bring_s z111 (nI ((5 * i27) + 4)) (nI (10))))
def m_heat_k169 (i27 : Nat) (i111 : Nat) (z111 : Sg) (s_37 : Sg) (s_40 : Sg) : Sg := s_40
def m_heat_k155 (i27 : Nat) (i111 : Nat) (z111 : Sg) (s_37 : Sg) : Sg := (m_heat_k169 i27 i111 z111 s_37 (si s_37 10 ((5 * i27 + i111) + 1) (((s_37.1 10 ((5 * i27 + i111) + 1))) + ((nI (20)) * (((z111.1 12 (5 * i27 + i111))) - ((z111.1 12 ((5 * i27 + i111) + 1))))))))
def m_heat_b111 (i27 : Nat) (i111 : Nat) (z111 : Sg) : Sg := (m_heat_k155 i27 i111 z111 (si z111 10 (5 * i27 + i111) (((z111.1 10 (5 * i27 + i111))) - ((nI (20)) * (((z111.1 12 (5 * i27 + i111))) - ((z111.1 12 ((5 * i27 + i111) + 1))))))))
def m_heat_k106 (air : Int32) (i27 : Nat) (z27 : Sg) (x_19 : Int32) (x_25 : Int32) (s_29 : Sg) : Sg := (m_heat_x111 air i27 z27 x_19 x_25 s_29 (lp (m_heat_b111 i27) 4 s_29))
def m_heat_j84 (air : Int32) (i27 : Nat) (z27 : Sg) (x_19 : Int32) (x_25 : Int32) : Sg := (m_heat_k106 air i27 z27 x_19 x_25 (m_bring_s z27 (nI (5 * i27)) ((x_19) * ((x_25) - ((z27.1 12 (5 * i27)))))))
def m_heat_j66 (air : Int32) (i27 : Nat) (z27 : Sg) (x_19 : Int32) : Sg := (m_heat_j84 air i27 z27 x_19 (if (m_isLake z27 (nI (i27))) = 0 then air else (m_greater (nI (0)) air)))
def m_heat_b27 (air : Int32) (i27 : Nat) (z27 : Sg) : Sg := (m_heat_j66 air i27 z27 (if (m_isLake z27 (nI (i27))) = 0 then (nI (60)) / (((nI (2)) + ((z27.1 4 i27))) + ((nI (2)) * ((z27.1 5 i27)))) else nI (30)))
def m_heat_x2_s (σ : Sg) (air : Int32) (z2 : Sg) : Sg := (m_heat_x27_s σ air z2 (lp (m_heat_b27 air) 25 z2))
def m_heat_k19 (i2 : Nat) (z2 : Sg) (s_43 : Sg) : Sg := s_43
def m_heat_b2  (i2 : Nat) (z2 : Sg) : Sg := (m_heat_k19 i2 z2 (si z2 12 (i2) ((m_degreesOf z2 (nI (i2))))))
def m_heat_s (σ : Sg) (air : Int32) : Sg := (m_heat_x2_s σ air (lp (m_heat_b2) 125 σ))
theorem m_bring_k {σ : Sg} {x v : Int32} {k : Nat} (hk : k ≠ 10) : (m_bring_s σ x v).1 k = σ.1 k := by simp [m_bring_k21_s, m_bring_k10_s, m_bring_s, si, sl, hk]
theorem m_heat_k2 (k : Nat) (hk : k ≠ 12) (n : Nat) (z : Sg) : (lp (m_heat_b2) n z).1 k = z.1 k := lp_kp (fun i z => by simp [m_heat_b2, m_heat_x194_s, m_heat_k234, m_heat_j231, m_heat_x27_s, m_heat_k186, m_heat_x111, m_heat_k169, m_heat_k155, m_heat_k106, m_heat_j84, m_heat_j66, m_heat_x2_s, m_heat_k19, m_heat_s, si, hk]) n z
theorem m_heat_k111 (k : Nat) (hk : k ≠ 10) (c n : Nat) (z : Sg) : (lp (m_heat_b111 c) n z).1 k = z.1 k := lp_kp (fun i z => by simp [m_heat_b111, m_heat_x194_s, m_heat_k234, m_heat_j231, m_heat_x27_s, m_heat_k186, m_heat_x111, m_heat_k169, m_heat_k155, m_heat_k106, m_heat_j84, m_heat_j66, m_heat_x2_s, m_heat_k19, m_heat_s, si, hk]) n z
theorem m_heat_k27 (k : Nat) (hk : k ≠ 10) {air : Int32} (n : Nat) (z : Sg) : (lp (m_heat_b27 air) n z).1 k = z.1 k := lp_kp (fun i z => by simp [m_heat_b27, m_heat_x194_s, m_heat_k234, m_heat_j231, m_heat_x27_s, m_heat_k186, m_heat_x111, m_heat_k169, m_heat_k155, m_heat_k106, m_heat_j84, m_heat_j66, m_heat_x2_s, m_heat_k19, m_heat_s, si, sl, hk, m_bring_k hk, m_heat_k111 k hk]) n z
theorem m_heat_k194 (k : Nat) (hk : k ≠ 10) {air : Int32} (n : Nat) (z : Sg) : (lp (m_heat_b194 air) n z).1 k = z.1 k := lp_kp (fun i z => by simp [m_heat_b194, m_heat_x194_s, m_heat_k234, m_heat_j231, m_heat_x27_s, m_heat_k186, m_heat_x111, m_heat_k169, m_heat_k155, m_heat_k106, m_heat_j84, m_heat_j66, m_heat_x2_s, m_heat_k19, m_heat_s, si, sl, hk, m_bring_k hk]) n z
set_option maxHeartbeats 4000000 in
set_option maxRecDepth 100000 in
theorem cm_heat (l : Launch) (G : va_G) (cI cZ : ClassId) (a : Nat → Nat) (σ : Sg) (air : Int32) (hO : mOK σ) : mV l yX6_heat wsX6_heat ({ frames := 1, cells := 0, slots := 0, locals := 22 } : Room) G cI cZ a σ [.int (air)] (m_heat_s σ air) := by
  unfold mV
  refine Met.ofW (cc := cX6_heat) (maxL := 7) (ret := none) (by decide) rfl ?_
  intro p e s m args below meth c s₁ B hml hv
  obtain ⟨rfl, hP, hK, hD⟩ := hv
  have hx := B.exec
  have hb := B.bytes
  have hr := B.returns
  have hts := atoms_spec (ws := wsX6_heat) B.pre
  have hown : s.vm.findClass RX6 = some m.cls := findClass_of_methodNamed B.named
  have hlocks := B.notSynchronized
  have hS : va_S (mA a) s.heap s.heap [] := va_S.rf
  have hin : ∀ w ∈ wsX60, w ∈ wsX6_heat := fun w h => List.mem_cons_of_mem _ (List.mem_append_right _ h)
  have hl := lv_entry ([.ref (a 0), .int (air)]) (n := 7) (Nat.le_of_ble_eq_true rfl)
  rw [lg_entry_eq]
  generalize (lg_sl ([.ref (a 0), .int (air)]) ++ List.replicate (7 - (lg_sl ([.ref (a 0), .int (air)])).length) Slot.unset).toArray = ls at hl ⊢
  have hl : lv_has ls 7 [(0, .ref (a 0)), (1, .int (air))] := hl
  refine w_named (fun WW hWW => ?_)
  have hP : va_P G vwCl (wm cI cZ a σ) s.heap := hP
  have h13 := vp_lt hO.1
  have e13 := vp_self hO.1
  refine lv_iconst (v := nI (0)) hx hb dX6_heat_0 (by decide) ?_
  refine lv_istore_n (lv' := [(2, .int (nI (0))), (0, .ref (a 0)), (1, .int (air))]) hx hb dX6_heat_1 rfl hl (by decide) rfl (fun ls hl => ?_)
  have L2 : ∀ (n2 i2 : Nat), i2 ≤ 125 → 125 + 1 ≤ i2 + n2 → ∀ (z2 : Sg), z2 = lp (m_heat_b2) i2 σ → ∀ (H : Heap) (locs : List Loc), va_P G vwCl (wm cI cZ a z2) H → va_D (mA a) (wm cI cZ a z2) → va_S (mA a) s.heap H locs → ∀ (ls : Array Slot), lv_has ls 7 [(2, .int (nI (i2))), (0, .ref (a 0)), (1, .int (air))] → WW H locs 0 0 (F0 m 2 ls []) := by
    intro n2
    induction n2 with
    | zero => intro i2 h1 h2; exact absurd h2 (by omega)
    | succ n2 ih2 =>
      intro i2 hi2 hn2 z2 hz2  H locs hP hD hS ls hl
      refine (hWW _ _ _ _ _).mpr ?_
      refine lv_iload_n hx hb dX6_heat_2 rfl (lv_at hl 0 rfl) ?_
      refine lv_bipush (v := nI (125)) hx hb dX6_heat_3 (by decide) ?_
      refine n_icmp_ge (x := i2) (y := 125) (tgt := 25) hx hb (by omega) (by omega) dX6_heat_5 (by decide) (fun c_1 => ?_) (fun c_1 => ?_)
      · have hiN : 125 = i2 := by omega
        subst hiN
        have hR_2 : m_heat_s σ air = m_heat_x2_s σ air z2 := (by have q_ := hz2.symm; subst q_; unfold m_heat_s; rfl)
        refine lv_iconst (v := nI (0)) hx hb dX6_heat_25 (by decide) ?_
        refine lv_istore_n (lv' := [(2, .int (nI (0))), (0, .ref (a 0)), (1, .int (air))]) hx hb dX6_heat_26 rfl hl (by decide) rfl (fun ls hl => ?_)
        have L27 : ∀ (n27 i27 : Nat), i27 ≤ 25 → 25 + 1 ≤ i27 + n27 → ∀ (z27 : Sg), z27 = lp (m_heat_b27 air) i27 z2 → ∀ (H : Heap) (locs : List Loc), va_P G vwCl (wm cI cZ a z27) H → va_D (mA a) (wm cI cZ a z27) → va_S (mA a) s.heap H locs → ∀ (ls : Array Slot), lv_has ls 7 [(2, .int (nI (i27))), (0, .ref (a 0)), (1, .int (air))] → WW H locs 0 0 (F0 m 27 ls []) := by
          intro n27
          induction n27 with
          | zero => intro i27 h1 h2; exact absurd h2 (by omega)
          | succ n27 ih27 =>
            intro i27 hi27 hn27 z27 hz27  H locs hP hD hS ls hl
            refine (hWW _ _ _ _ _).mpr ?_
            have k4 : ∀ k, (k = 4 ∨ k = 5) → z27.1 k = σ.1 k := fun k hk => by rw [hz27, m_heat_k27 k (by omega), hz2]; exact m_heat_k2 k (by omega) _ _
            refine lv_iload_n hx hb dX6_heat_27 rfl (lv_at hl 0 rfl) ?_
            refine lv_bipush (v := nI (25)) hx hb dX6_heat_28 (by decide) ?_
            refine n_icmp_ge (x := i27) (y := 25) (tgt := 192) hx hb (by omega) (by omega) dX6_heat_30 (by decide) (fun c_3 => ?_) (fun c_3 => ?_)
            · have hiN : 25 = i27 := by omega
              subst hiN
              have hR_4 : m_heat_s σ air = m_heat_x27_s σ air z2 z27 := (Eq.trans hR_2 (by have q_ := hz27.symm; subst q_; unfold m_heat_x2_s; rfl))
              refine lv_iconst (v := nI (0)) hx hb dX6_heat_192 (by decide) ?_
              refine lv_istore_n (lv' := [(2, .int (nI (0))), (0, .ref (a 0)), (1, .int (air))]) hx hb dX6_heat_193 rfl hl (by decide) rfl (fun ls hl => ?_)
              have L194 : ∀ (n194 i194 : Nat), i194 ≤ (σ.1 13 0).toNatClampNeg → ((σ.1 13 0).toNatClampNeg) + 1 ≤ i194 + n194 → ∀ (z194 : Sg), z194 = lp (m_heat_b194 air) i194 z27 → ∀ (H : Heap) (locs : List Loc), va_P G vwCl (wm cI cZ a z194) H → va_D (mA a) (wm cI cZ a z194) → va_S (mA a) s.heap H locs → ∀ (ls : Array Slot), lv_has ls 7 [(2, .int (nI (i194))), (0, .ref (a 0)), (1, .int (air))] → WW H locs 0 0 (F0 m 194 ls []) := by
                intro n194
                induction n194 with
                | zero => intro i194 h1 h2; exact absurd h2 (by omega)
                | succ n194 ih194 =>
                  intro i194 hi194 hn194 z194 hz194  H locs hP hD hS ls hl
                  refine (hWW _ _ _ _ _).mpr ?_
                  have k13 : ∀ k, (k = 13 ∨ k = 14) → z194.1 k = σ.1 k := fun k hk => by rw [hz194, m_heat_k194 k (by omega), hz27, m_heat_k27 k (by omega), hz2]; exact m_heat_k2 k (by omega) _ _
                  refine lv_iload_n hx hb dX6_heat_194 rfl (lv_at hl 0 rfl) ?_
                  refine lv_aload_n hx hb dX6_heat_195 rfl (lv_at hl 1 rfl) ?_
                  refine m_get (v := .int ((z194.1 13 0))) hx hb hts hin hown hK hP 13 (by decide) rfl (index := 132) (List.mem_of_getElem? (i := 5) rfl) dX6_heat_196 ?_
                  refine W.eq (g2 := F0 m 199 ls (.int (nI ((σ.1 13 0).toNatClampNeg)) :: .int (nI (i194)) :: [])) (congrArg (fun v => F0 m 199 ls (Value.int v :: .int (nI (i194)) :: [])) ((by rw [k13 13 (by omega)]; exact e13))) ?_
                  refine n_icmp_ge (x := i194) (y := (σ.1 13 0).toNatClampNeg) (tgt := 240) hx hb (by omega) (by omega) dX6_heat_199 (by decide) (fun c_5 => ?_) (fun c_5 => ?_)
                  · have hiN : (σ.1 13 0).toNatClampNeg = i194 := by omega
                    subst hiN
                    have hR_6 : m_heat_s σ air = m_heat_x194_s σ air z2 z27 z194 := (Eq.trans hR_4 (by have q_ := hz194.symm; subst q_; unfold m_heat_x27_s; rfl))
                    exact m_vret hx hb hr hlocks hP hK hD hS dX6_heat_240 (Eq.trans (by unfold m_heat_x194_s; rfl) hR_6.symm)
                  · refine lv_aload_n hx hb dX6_heat_202 rfl (lv_at hl 1 rfl) ?_
                    refine lv_iconst (v := nI (5)) hx hb dX6_heat_203 (by decide) ?_
                    refine lv_aload_n hx hb dX6_heat_204 rfl (lv_at hl 1 rfl) ?_
                    refine m_get (v := .ref (a 14)) hx hb hts hin hown hK hP 14 (by decide) rfl (index := 43) (List.mem_of_getElem? (i := 6) rfl) dX6_heat_205 ?_
                    refine lv_iload_n hx hb dX6_heat_208 rfl (lv_at hl 0 rfl) ?_
                    refine m_ald (j := i194) hx hb hK hP 12 14 rfl (by decide) (by omega) dX6_heat_209 ?_
                    refine W.eq (g2 := F0 m 210 ls [.int ((z194.1 14 i194)), .int (nI (5)), .ref (a 0)]) rfl ?_
                    refine lv_imul (x := nI (5)) (y := (z194.1 14 i194)) hx hb dX6_heat_210 ?_
                    refine lv_aload_n hx hb dX6_heat_211 rfl (lv_at hl 1 rfl) ?_
                    refine m_get (v := .ref (a 16)) hx hb hts hin hown hK hP 16 (by decide) rfl (index := 49) (List.mem_of_getElem? (i := 7) rfl) dX6_heat_212 ?_
                    refine lv_iload_n hx hb dX6_heat_215 rfl (lv_at hl 0 rfl) ?_
                    refine m_zald (j := i194) hx hb hK hP 14 16 rfl (by decide) (by omega) dX6_heat_216 ?_
                    refine W.eq (g2 := F0 m 217 ls [.int ((z194.1 16 i194)), .int ((nI (5)) * ((z194.1 14 i194))), .ref (a 0)]) rfl ?_
                    have J231_10 : ∀ (x_9 : Int32), x_9 = (if (z194.1 16 i194) = 0 then nI (300) else (if 0 ≤ air then nI (300) else nI (0))) → ∀ (H : Heap) (locs : List Loc), va_P G vwCl (wm cI cZ a z194) H → va_D (mA a) (wm cI cZ a z194) → va_S (mA a) s.heap H locs → ∀ (ls : Array Slot), lv_has ls 7 [(2, .int (nI (i194))), (0, .ref (a 0)), (1, .int (air))] → WW H locs 0 0 (F0 m 231 ls [.int (x_9), .int ((nI (5)) * ((z194.1 14 i194))), .ref (a 0)]) := by
                      intro x_9 h_11 H locs hP hD hS ls hl
                      refine (hWW _ _ _ _ _).mpr ?_
                      have hR_12 : m_heat_b194 air i194 z194 = m_heat_j231 air i194 z194 x_9 := (by have q_ := h_11.symm; subst q_; unfold m_heat_b194; rfl)
                      refine m_callV (As := [.int ((nI (5)) * ((z194.1 14 i194))), .int (x_9)]) (rest := []) (fun _ h => h) ⟨hx, hb, hml, hown, hts⟩ (cm_bring l G cI cZ a z194  ((nI (5)) * ((z194.1 14 i194))) x_9 (by rw [k13 14 (by omega)]; exact vp_5 (hO.2.2.2.2.1 i194 (by omega)).1)) (cwV 2 hts gX6_heat_X6_bring rfl rfl rfl (by decide +kernel) ⟨Nat.le_of_ble_eq_true rfl, Nat.le_of_ble_eq_true rfl⟩) hK hP hD hS rfl hl.1 rfl (Nat.le_of_ble_eq_true rfl) dX6_heat_231 ⟨Nat.zero_le _, Nat.zero_le _⟩ (fun H locs hP hD _ _ hS => ?_)
                      obtain ⟨s_13, e_14⟩ : ∃ z : Sg, z = (m_bring_s z194 ((nI (5)) * ((z194.1 14 i194))) x_9) := ⟨_, rfl⟩
                      rw [← e_14] at hP hD
                      have hR_15 : m_heat_b194 air i194 z194 = m_heat_k234 air i194 z194 x_9 s_13 := (Eq.trans hR_12 (by have q_ := e_14.symm; subst q_; unfold m_heat_j231; rfl))
                      refine n_iinc (x := i194) (dN := 1) (k := 0) (lv' := [(2, .int (nI (i194 + 1))), (0, .ref (a 0)), (1, .int (air))]) hx hb dX6_heat_234 hl rfl (by decide) rfl (fun ls hl => ?_)
                      refine lv_goto (tgt := 194) hx hb dX6_heat_237 (by decide) ?_
                      exact (hWW _ _ _ _ _).mp (ih194 (i194 + 1) (by omega) (by omega) (s_13) (by show _ = m_heat_b194 air i194 (lp (m_heat_b194 air) i194 z27); rw [← hz194]; exact (Eq.trans (by unfold m_heat_k234; rfl) hR_15.symm))  _ _ hP hD hS _ (lv_sub hl [0, 1, 2] rfl))
                    refine lv_if_eq (x := (z194.1 16 i194)) (tgt := 228) hx hb dX6_heat_217 (by decide) (fun c_7 => ?_) (fun c_7 => ?_)
                    · refine lv_sipush (v := nI (300)) hx hb dX6_heat_228 (by decide) ?_
                      exact (hWW _ _ _ _ _).mp (J231_10 _ (by simp only [if_pos c_7]) _ _ hP hD hS _ (lv_sub hl [0, 1, 2] rfl))
                    · refine lv_iload_n hx hb dX6_heat_220 rfl (lv_at hl 2 rfl) ?_
                      refine lv_if_ge (x := air) (tgt := 228) hx hb dX6_heat_221 (by decide) (fun c_16 => ?_) (fun c_16 => ?_)
                      · refine lv_sipush (v := nI (300)) hx hb dX6_heat_228 (by decide) ?_
                        exact (hWW _ _ _ _ _).mp (J231_10 _ (by simp only [if_neg c_7, if_pos c_16]) _ _ hP hD hS _ (lv_sub hl [0, 1, 2] rfl))
                      · refine lv_iconst (v := nI (0)) hx hb dX6_heat_224 (by decide) ?_
                        refine lv_goto (tgt := 231) hx hb dX6_heat_225 (by decide) ?_
                        exact (hWW _ _ _ _ _).mp (J231_10 _ (by simp only [if_neg c_7, if_neg c_16]) _ _ hP hD hS _ (lv_sub hl [0, 1, 2] rfl))
              exact (hWW _ _ _ _ _).mp (L194 ((σ.1 13 0).toNatClampNeg + 1) 0 (Nat.zero_le _) (by omega) z27 rfl  _ _ hP hD hS _ (lv_sub hl [0, 1, 2] rfl))
            · refine lv_aload_n hx hb dX6_heat_33 rfl (lv_at hl 1 rfl) ?_
              refine lv_iload_n hx hb dX6_heat_34 rfl (lv_at hl 0 rfl) ?_
              refine m_callI (As := [.int (nI (i27))]) (rest := []) (fun _ h => h) ⟨hx, hb, hml, hown, hts⟩ (cm_isLake l G cI cZ a z27  (nI (i27)) (vp_in_nI (by omega) (by decide))) (cwV 1 hts gX6_heat_X6_isLake rfl rfl rfl (by decide +kernel) ⟨Nat.le_of_ble_eq_true rfl, Nat.le_of_ble_eq_true rfl⟩) hK hP hD hS rfl hl.1 rfl (Nat.le_of_ble_eq_true rfl) dX6_heat_35 ⟨Nat.zero_le _, Nat.zero_le _⟩ (fun H locs hP hD _ _ hS => ?_)
              have J66_20 : ∀ (x_19 : Int32), x_19 = (if (m_isLake z27 (nI (i27))) = 0 then (nI (60)) / (((nI (2)) + ((z27.1 4 i27))) + ((nI (2)) * ((z27.1 5 i27)))) else nI (30)) → ∀ (H : Heap) (locs : List Loc), va_P G vwCl (wm cI cZ a z27) H → va_D (mA a) (wm cI cZ a z27) → va_S (mA a) s.heap H locs → ∀ (ls : Array Slot), lv_has ls 7 [(2, .int (nI (i27))), (0, .ref (a 0)), (1, .int (air))] → WW H locs 0 0 (F0 m 66 ls [.int (x_19)]) := by
                intro x_19 h_21 H locs hP hD hS ls hl
                refine (hWW _ _ _ _ _).mpr ?_
                have hR_22 : m_heat_b27 air i27 z27 = m_heat_j66 air i27 z27 x_19 := (by have q_ := h_21.symm; subst q_; unfold m_heat_b27; rfl)
                refine lv_istore_n (lv' := [(3, .int (x_19)), (2, .int (nI (i27))), (0, .ref (a 0)), (1, .int (air))]) hx hb dX6_heat_66 rfl hl (by decide) rfl (fun ls hl => ?_)
                refine lv_aload_n hx hb dX6_heat_67 rfl (lv_at hl 2 rfl) ?_
                refine lv_iload_n hx hb dX6_heat_68 rfl (lv_at hl 1 rfl) ?_
                refine m_callI (As := [.int (nI (i27))]) (rest := []) (fun _ h => h) ⟨hx, hb, hml, hown, hts⟩ (cm_isLake l G cI cZ a z27  (nI (i27)) (vp_in_nI (by omega) (by decide))) (cwV 1 hts gX6_heat_X6_isLake rfl rfl rfl (by decide +kernel) ⟨Nat.le_of_ble_eq_true rfl, Nat.le_of_ble_eq_true rfl⟩) hK hP hD hS rfl hl.1 rfl (Nat.le_of_ble_eq_true rfl) dX6_heat_69 ⟨Nat.zero_le _, Nat.zero_le _⟩ (fun H locs hP hD _ _ hS => ?_)
                have J84_26 : ∀ (x_25 : Int32), x_25 = (if (m_isLake z27 (nI (i27))) = 0 then air else (m_greater (nI (0)) air)) → ∀ (H : Heap) (locs : List Loc), va_P G vwCl (wm cI cZ a z27) H → va_D (mA a) (wm cI cZ a z27) → va_S (mA a) s.heap H locs → ∀ (ls : Array Slot), lv_has ls 7 [(3, .int (x_19)), (2, .int (nI (i27))), (0, .ref (a 0)), (1, .int (air))] → WW H locs 0 0 (F0 m 84 ls [.int (x_25)]) := by
                  intro x_25 h_27 H locs hP hD hS ls hl
                  refine (hWW _ _ _ _ _).mpr ?_
                  have hR_28 : m_heat_b27 air i27 z27 = m_heat_j84 air i27 z27 x_19 x_25 := (Eq.trans hR_22 (by have q_ := h_27.symm; subst q_; unfold m_heat_j66; rfl))
                  refine lv_istore (lv' := [(4, .int (x_25)), (3, .int (x_19)), (2, .int (nI (i27))), (0, .ref (a 0)), (1, .int (air))]) hx hb dX6_heat_84 hl (by decide) rfl (fun ls hl => ?_)
                  refine lv_aload_n hx hb dX6_heat_86 rfl (lv_at hl 3 rfl) ?_
                  refine lv_iconst (v := nI (5)) hx hb dX6_heat_87 (by decide) ?_
                  refine lv_iload_n hx hb dX6_heat_88 rfl (lv_at hl 2 rfl) ?_
                  refine n_mul (x := 5) (y := i27) hx hb dX6_heat_89 ?_
                  refine lv_iload_n hx hb dX6_heat_90 rfl (lv_at hl 1 rfl) ?_
                  refine lv_iload hx hb dX6_heat_91 (lv_at hl 0 rfl) ?_
                  refine lv_aload_n hx hb dX6_heat_93 rfl (lv_at hl 3 rfl) ?_
                  refine m_get (v := .ref (a 12)) hx hb hts hin hown hK hP 12 (by decide) rfl (index := 40) (List.mem_of_getElem? (i := 1) rfl) dX6_heat_94 ?_
                  refine lv_iconst (v := nI (5)) hx hb dX6_heat_97 (by decide) ?_
                  refine lv_iload_n hx hb dX6_heat_98 rfl (lv_at hl 2 rfl) ?_
                  refine n_mul (x := 5) (y := i27) hx hb dX6_heat_99 ?_
                  refine m_ald (j := 5 * i27) hx hb hK hP 11 12 rfl (by decide) (by omega) dX6_heat_100 ?_
                  refine W.eq (g2 := F0 m 101 ls [.int ((z27.1 12 (5 * i27))), .int (x_25), .int (x_19), .int (nI (5 * i27)), .ref (a 0)]) rfl ?_
                  refine lv_isub (x := x_25) (y := (z27.1 12 (5 * i27))) hx hb dX6_heat_101 ?_
                  refine lv_imul (x := x_19) (y := (x_25) - ((z27.1 12 (5 * i27)))) hx hb dX6_heat_102 ?_
                  refine m_callV (As := [.int (nI (5 * i27)), .int ((x_19) * ((x_25) - ((z27.1 12 (5 * i27)))))]) (rest := []) (fun _ h => h) ⟨hx, hb, hml, hown, hts⟩ (cm_bring l G cI cZ a z27  (nI (5 * i27)) ((x_19) * ((x_25) - ((z27.1 12 (5 * i27))))) (vp_in_nI (by omega) (by decide))) (cwV 2 hts gX6_heat_X6_bring rfl rfl rfl (by decide +kernel) ⟨Nat.le_of_ble_eq_true rfl, Nat.le_of_ble_eq_true rfl⟩) hK hP hD hS rfl hl.1 rfl (Nat.le_of_ble_eq_true rfl) dX6_heat_103 ⟨Nat.zero_le _, Nat.zero_le _⟩ (fun H locs hP hD _ _ hS => ?_)
                  obtain ⟨s_29, e_30⟩ : ∃ z : Sg, z = (m_bring_s z27 (nI (5 * i27)) ((x_19) * ((x_25) - ((z27.1 12 (5 * i27)))))) := ⟨_, rfl⟩
                  rw [← e_30] at hP hD
                  have hR_31 : m_heat_b27 air i27 z27 = m_heat_k106 air i27 z27 x_19 x_25 s_29 := (Eq.trans hR_28 (by have q_ := e_30.symm; subst q_; unfold m_heat_j84; rfl))
                  refine lv_iconst (v := nI (5)) hx hb dX6_heat_106 (by decide) ?_
                  refine lv_iload_n hx hb dX6_heat_107 rfl (lv_at hl 2 rfl) ?_
                  refine n_mul (x := 5) (y := i27) hx hb dX6_heat_108 ?_
                  refine lv_istore (lv' := [(5, .int (nI (5 * i27))), (4, .int (x_25)), (3, .int (x_19)), (2, .int (nI (i27))), (0, .ref (a 0)), (1, .int (air))]) hx hb dX6_heat_109 hl (by decide) rfl (fun ls hl => ?_)
                  have L111 : ∀ (n111 i111 : Nat), i111 ≤ 4 → 4 + 1 ≤ i111 + n111 → ∀ (z111 : Sg), z111 = lp (m_heat_b111 i27) i111 s_29 → ∀ (H : Heap) (locs : List Loc), va_P G vwCl (wm cI cZ a z111) H → va_D (mA a) (wm cI cZ a z111) → va_S (mA a) s.heap H locs → ∀ (ls : Array Slot), lv_has ls 7 [(5, .int (nI (5 * i27 + i111))), (4, .int (x_25)), (3, .int (x_19)), (2, .int (nI (i27))), (0, .ref (a 0)), (1, .int (air))] → WW H locs 0 0 (F0 m 111 ls []) := by
                    intro n111
                    induction n111 with
                    | zero => intro i111 h1 h2; exact absurd h2 (by omega)
                    | succ n111 ih111 =>
                      intro i111 hi111 hn111 z111 hz111  H locs hP hD hS ls hl
                      refine (hWW _ _ _ _ _).mpr ?_
                      refine lv_iload hx hb dX6_heat_111 (lv_at hl 0 rfl) ?_
                      refine lv_iconst (v := nI (5)) hx hb dX6_heat_113 (by decide) ?_
                      refine lv_iload_n hx hb dX6_heat_114 rfl (lv_at hl 3 rfl) ?_
                      refine n_mul (x := 5) (y := i27) hx hb dX6_heat_115 ?_
                      refine lv_iconst (v := nI (4)) hx hb dX6_heat_116 (by decide) ?_
                      refine n_add (x := 5 * i27) (y := 4) hx hb dX6_heat_117 ?_
                      refine n_icmp_ge (x := 5 * i27 + i111) (y := (5 * i27) + 4) (tgt := 175) hx hb (by omega) (by omega) dX6_heat_118 (by decide) (fun c_32 => ?_) (fun c_32 => ?_)
                      · have hiN : 4 = i111 := by omega
                        subst hiN
                        have hR_33 : m_heat_b27 air i27 z27 = m_heat_x111 air i27 z27 x_19 x_25 s_29 z111 := (Eq.trans hR_31 (by have q_ := hz111.symm; subst q_; unfold m_heat_k106; rfl))
                        refine lv_aload_n hx hb dX6_heat_175 rfl (lv_at hl 4 rfl) ?_
                        refine lv_iconst (v := nI (5)) hx hb dX6_heat_176 (by decide) ?_
                        refine lv_iload_n hx hb dX6_heat_177 rfl (lv_at hl 3 rfl) ?_
                        refine n_mul (x := 5) (y := i27) hx hb dX6_heat_178 ?_
                        refine lv_iconst (v := nI (4)) hx hb dX6_heat_179 (by decide) ?_
                        refine n_add (x := 5 * i27) (y := 4) hx hb dX6_heat_180 ?_
                        refine lv_bipush (v := nI (10)) hx hb dX6_heat_181 (by decide) ?_
                        refine m_callV (As := [.int (nI ((5 * i27) + 4)), .int (nI (10))]) (rest := []) (fun _ h => h) ⟨hx, hb, hml, hown, hts⟩ (cm_bring l G cI cZ a z111  (nI ((5 * i27) + 4)) (nI (10)) (vp_in_nI (by omega) (by decide))) (cwV 2 hts gX6_heat_X6_bring rfl rfl rfl (by decide +kernel) ⟨Nat.le_of_ble_eq_true rfl, Nat.le_of_ble_eq_true rfl⟩) hK hP hD hS rfl hl.1 rfl (Nat.le_of_ble_eq_true rfl) dX6_heat_183 ⟨Nat.zero_le _, Nat.zero_le _⟩ (fun H locs hP hD _ _ hS => ?_)
                        obtain ⟨s_34, e_35⟩ : ∃ z : Sg, z = (m_bring_s z111 (nI ((5 * i27) + 4)) (nI (10))) := ⟨_, rfl⟩
                        rw [← e_35] at hP hD
                        have hR_36 : m_heat_b27 air i27 z27 = m_heat_k186 air i27 z27 x_19 x_25 s_29 z111 s_34 := (Eq.trans hR_33 (by have q_ := e_35.symm; subst q_; unfold m_heat_x111; rfl))
                        refine n_iinc (x := i27) (dN := 1) (k := 3) (lv' := [(2, .int (nI (i27 + 1))), (5, .int (nI (5 * i27 + 4))), (4, .int (x_25)), (3, .int (x_19)), (0, .ref (a 0)), (1, .int (air))]) hx hb dX6_heat_186 hl rfl (by decide) rfl (fun ls hl => ?_)
                        refine lv_goto (tgt := 27) hx hb dX6_heat_189 (by decide) ?_
                        exact (hWW _ _ _ _ _).mp (ih27 (i27 + 1) (by omega) (by omega) (s_34) (by show _ = m_heat_b27 air i27 (lp (m_heat_b27 air) i27 z2); rw [← hz27]; exact (Eq.trans (by unfold m_heat_k186; rfl) hR_36.symm))  _ _ hP hD hS _ (lv_sub hl [0, 4, 5] rfl))
                      · refine lv_bipush (v := nI (20)) hx hb dX6_heat_121 (by decide) ?_
                        refine lv_aload_n hx hb dX6_heat_123 rfl (lv_at hl 4 rfl) ?_
                        refine m_get (v := .ref (a 12)) hx hb hts hin hown hK hP 12 (by decide) rfl (index := 40) (List.mem_of_getElem? (i := 1) rfl) dX6_heat_124 ?_
                        refine lv_iload hx hb dX6_heat_127 (lv_at hl 0 rfl) ?_
                        refine m_ald (j := 5 * i27 + i111) hx hb hK hP 11 12 rfl (by decide) (by omega) dX6_heat_129 ?_
                        refine W.eq (g2 := F0 m 130 ls [.int ((z111.1 12 (5 * i27 + i111))), .int (nI (20))]) rfl ?_
                        refine lv_aload_n hx hb dX6_heat_130 rfl (lv_at hl 4 rfl) ?_
                        refine m_get (v := .ref (a 12)) hx hb hts hin hown hK hP 12 (by decide) rfl (index := 40) (List.mem_of_getElem? (i := 1) rfl) dX6_heat_131 ?_
                        refine lv_iload hx hb dX6_heat_134 (lv_at hl 0 rfl) ?_
                        refine lv_iconst (v := nI (1)) hx hb dX6_heat_136 (by decide) ?_
                        refine n_add (x := 5 * i27 + i111) (y := 1) hx hb dX6_heat_137 ?_
                        refine m_ald (j := (5 * i27 + i111) + 1) hx hb hK hP 11 12 rfl (by decide) (by omega) dX6_heat_138 ?_
                        refine W.eq (g2 := F0 m 139 ls [.int ((z111.1 12 ((5 * i27 + i111) + 1))), .int ((z111.1 12 (5 * i27 + i111))), .int (nI (20))]) rfl ?_
                        refine lv_isub (x := (z111.1 12 (5 * i27 + i111))) (y := (z111.1 12 ((5 * i27 + i111) + 1))) hx hb dX6_heat_139 ?_
                        refine lv_imul (x := nI (20)) (y := ((z111.1 12 (5 * i27 + i111))) - ((z111.1 12 ((5 * i27 + i111) + 1)))) hx hb dX6_heat_140 ?_
                        refine lv_istore (lv' := [(6, .int ((nI (20)) * (((z111.1 12 (5 * i27 + i111))) - ((z111.1 12 ((5 * i27 + i111) + 1)))))), (5, .int (nI (5 * i27 + i111))), (4, .int (x_25)), (3, .int (x_19)), (2, .int (nI (i27))), (0, .ref (a 0)), (1, .int (air))]) hx hb dX6_heat_141 hl (by decide) rfl (fun ls hl => ?_)
                        refine lv_aload_n hx hb dX6_heat_143 rfl (lv_at hl 5 rfl) ?_
                        refine m_get (v := .ref (a 10)) hx hb hts hin hown hK hP 10 (by decide) rfl (index := 34) (List.mem_of_getElem? (i := 4) rfl) dX6_heat_144 ?_
                        refine lv_iload hx hb dX6_heat_147 (lv_at hl 1 rfl) ?_
                        refine lv_dup2_11 hx hb dX6_heat_149 rfl rfl ?_
                        refine m_ald (j := 5 * i27 + i111) hx hb hK hP 9 10 rfl (by decide) (by omega) dX6_heat_150 ?_
                        refine W.eq (g2 := F0 m 151 ls [.int ((z111.1 10 (5 * i27 + i111))), .int (nI (5 * i27 + i111)), .ref (a 10)]) rfl ?_
                        refine lv_iload hx hb dX6_heat_151 (lv_at hl 0 rfl) ?_
                        refine lv_isub (x := (z111.1 10 (5 * i27 + i111))) (y := (nI (20)) * (((z111.1 12 (5 * i27 + i111))) - ((z111.1 12 ((5 * i27 + i111) + 1))))) hx hb dX6_heat_153 ?_
                        refine m_ast (j := 5 * i27 + i111) (v := ((z111.1 10 (5 * i27 + i111))) - ((nI (20)) * (((z111.1 12 (5 * i27 + i111))) - ((z111.1 12 ((5 * i27 + i111) + 1)))))) hx hb hK hP hD hS 9 10 rfl rfl (by decide) (by omega) dX6_heat_154 (fun H locs hP hD hS => ?_)
                        obtain ⟨s_37, e_38⟩ : ∃ z : Sg, z = (si z111 10 (5 * i27 + i111) (((z111.1 10 (5 * i27 + i111))) - ((nI (20)) * (((z111.1 12 (5 * i27 + i111))) - ((z111.1 12 ((5 * i27 + i111) + 1))))))) := ⟨_, rfl⟩
                        rw [← e_38] at hP hD
                        have hR_39 : m_heat_b111 i27 i111 z111 = m_heat_k155 i27 i111 z111 s_37 := (by have q_ := e_38.symm; subst q_; unfold m_heat_b111; rfl)
                        refine lv_aload_n hx hb dX6_heat_155 rfl (lv_at hl 5 rfl) ?_
                        refine m_get (v := .ref (a 10)) hx hb hts hin hown hK hP 10 (by decide) rfl (index := 34) (List.mem_of_getElem? (i := 4) rfl) dX6_heat_156 ?_
                        refine lv_iload hx hb dX6_heat_159 (lv_at hl 1 rfl) ?_
                        refine lv_iconst (v := nI (1)) hx hb dX6_heat_161 (by decide) ?_
                        refine n_add (x := 5 * i27 + i111) (y := 1) hx hb dX6_heat_162 ?_
                        refine lv_dup2_11 hx hb dX6_heat_163 rfl rfl ?_
                        refine m_ald (j := (5 * i27 + i111) + 1) hx hb hK hP 9 10 rfl (by decide) (by omega) dX6_heat_164 ?_
                        refine W.eq (g2 := F0 m 165 ls [.int ((s_37.1 10 ((5 * i27 + i111) + 1))), .int (nI ((5 * i27 + i111) + 1)), .ref (a 10)]) rfl ?_
                        refine lv_iload hx hb dX6_heat_165 (lv_at hl 0 rfl) ?_
                        refine lv_iadd (x := (s_37.1 10 ((5 * i27 + i111) + 1))) (y := (nI (20)) * (((z111.1 12 (5 * i27 + i111))) - ((z111.1 12 ((5 * i27 + i111) + 1))))) hx hb dX6_heat_167 ?_
                        refine m_ast (j := (5 * i27 + i111) + 1) (v := ((s_37.1 10 ((5 * i27 + i111) + 1))) + ((nI (20)) * (((z111.1 12 (5 * i27 + i111))) - ((z111.1 12 ((5 * i27 + i111) + 1)))))) hx hb hK hP hD hS 9 10 rfl rfl (by decide) (by omega) dX6_heat_168 (fun H locs hP hD hS => ?_)
                        obtain ⟨s_40, e_41⟩ : ∃ z : Sg, z = (si s_37 10 ((5 * i27 + i111) + 1) (((s_37.1 10 ((5 * i27 + i111) + 1))) + ((nI (20)) * (((z111.1 12 (5 * i27 + i111))) - ((z111.1 12 ((5 * i27 + i111) + 1))))))) := ⟨_, rfl⟩
                        rw [← e_41] at hP hD
                        have hR_42 : m_heat_b111 i27 i111 z111 = m_heat_k169 i27 i111 z111 s_37 s_40 := (Eq.trans hR_39 (by have q_ := e_41.symm; subst q_; unfold m_heat_k155; rfl))
                        refine n_iinc (x := 5 * i27 + i111) (dN := 1) (k := 1) (lv' := [(5, .int (nI (5 * i27 + i111 + 1))), (6, .int ((nI (20)) * (((z111.1 12 (5 * i27 + i111))) - ((z111.1 12 ((5 * i27 + i111) + 1)))))), (4, .int (x_25)), (3, .int (x_19)), (2, .int (nI (i27))), (0, .ref (a 0)), (1, .int (air))]) hx hb dX6_heat_169 hl rfl (by decide) rfl (fun ls hl => ?_)
                        refine lv_goto (tgt := 111) hx hb dX6_heat_172 (by decide) ?_
                        exact (hWW _ _ _ _ _).mp (ih111 (i111 + 1) (by omega) (by omega) (s_40) (by show _ = m_heat_b111 i27 i111 (lp (m_heat_b111 i27) i111 s_29); rw [← hz111]; exact (Eq.trans (by unfold m_heat_k169; rfl) hR_42.symm))  _ _ hP hD hS _ (lv_sub hl [0, 2, 3, 4, 5, 6] rfl))
                  exact (hWW _ _ _ _ _).mp (L111 (4 + 1) 0 (Nat.zero_le _) (by omega) s_29 rfl  _ _ hP hD hS _ (lv_sub hl [0, 1, 2, 3, 4, 5] rfl))
                refine lv_if_eq (x := (m_isLake z27 (nI (i27)))) (tgt := 83) hx hb dX6_heat_72 (by decide) (fun c_23 => ?_) (fun c_23 => ?_)
                · refine lv_iload_n hx hb dX6_heat_83 rfl (lv_at hl 3 rfl) ?_
                  exact (hWW _ _ _ _ _).mp (J84_26 _ (by simp only [if_pos c_23]) _ _ hP hD hS _ (lv_sub hl [0, 1, 2, 3] rfl))
                · refine lv_iconst (v := nI (0)) hx hb dX6_heat_75 (by decide) ?_
                  refine lv_iload_n hx hb dX6_heat_76 rfl (lv_at hl 3 rfl) ?_
                  refine m_callS (As := [.int (nI (0)), .int (air)]) (rest := []) ⟨hx, hb, hml, hown, hts⟩ (cm_greater l (nI (0)) air ) (va_cwS 2 hts gX6_heat_X6_greater rfl rfl rfl (by decide +kernel) ⟨Nat.le_of_ble_eq_true rfl, Nat.le_of_ble_eq_true rfl⟩) hP hS rfl hl.1 rfl (Nat.le_of_ble_eq_true rfl) dX6_heat_77 ⟨Nat.zero_le _, Nat.zero_le _⟩ (fun H locs hP hS => ?_)
                  refine lv_goto (tgt := 84) hx hb dX6_heat_80 (by decide) ?_
                  exact (hWW _ _ _ _ _).mp (J84_26 _ (by simp only [if_neg c_23]) _ _ hP hD hS _ (lv_sub hl [0, 1, 2, 3] rfl))
              refine lv_if_eq (x := (m_isLake z27 (nI (i27)))) (tgt := 46) hx hb dX6_heat_38 (by decide) (fun c_17 => ?_) (fun c_17 => ?_)
              · refine lv_bipush (v := nI (60)) hx hb dX6_heat_46 (by decide) ?_
                refine lv_iconst (v := nI (2)) hx hb dX6_heat_48 (by decide) ?_
                refine lv_aload_n hx hb dX6_heat_49 rfl (lv_at hl 1 rfl) ?_
                refine m_get (v := .ref (a 4)) hx hb hts hin hown hK hP 4 (by decide) rfl (index := 16) (List.mem_of_getElem? (i := 2) rfl) dX6_heat_50 ?_
                refine lv_iload_n hx hb dX6_heat_53 rfl (lv_at hl 0 rfl) ?_
                refine m_ald (j := i27) hx hb hK hP 3 4 rfl (by decide) (by omega) dX6_heat_54 ?_
                refine W.eq (g2 := F0 m 55 ls [.int ((z27.1 4 i27)), .int (nI (2)), .int (nI (60))]) rfl ?_
                refine lv_iadd (x := nI (2)) (y := (z27.1 4 i27)) hx hb dX6_heat_55 ?_
                refine lv_iconst (v := nI (2)) hx hb dX6_heat_56 (by decide) ?_
                refine lv_aload_n hx hb dX6_heat_57 rfl (lv_at hl 1 rfl) ?_
                refine m_get (v := .ref (a 5)) hx hb hts hin hown hK hP 5 (by decide) rfl (index := 19) (List.mem_of_getElem? (i := 3) rfl) dX6_heat_58 ?_
                refine lv_iload_n hx hb dX6_heat_61 rfl (lv_at hl 0 rfl) ?_
                refine m_ald (j := i27) hx hb hK hP 4 5 rfl (by decide) (by omega) dX6_heat_62 ?_
                refine W.eq (g2 := F0 m 63 ls [.int ((z27.1 5 i27)), .int (nI (2)), .int ((nI (2)) + ((z27.1 4 i27))), .int (nI (60))]) rfl ?_
                refine lv_imul (x := nI (2)) (y := (z27.1 5 i27)) hx hb dX6_heat_63 ?_
                refine lv_iadd (x := (nI (2)) + ((z27.1 4 i27))) (y := (nI (2)) * ((z27.1 5 i27))) hx hb dX6_heat_64 ?_
                refine lv_idiv (x := nI (60)) (y := ((nI (2)) + ((z27.1 4 i27))) + ((nI (2)) * ((z27.1 5 i27)))) hx hb dX6_heat_65 (by rw [k4 4 (Or.inl rfl), k4 5 (Or.inr rfl)]; exact div_ne (hO.2.2.2.2.2.2 i27 (by omega)).1 (hO.2.2.2.2.2.2 i27 (by omega)).2) ?_
                exact (hWW _ _ _ _ _).mp (J66_20 _ (by simp only [if_pos c_17]) _ _ hP hD hS _ (lv_sub hl [0, 1, 2] rfl))
              · refine lv_bipush (v := nI (30)) hx hb dX6_heat_41 (by decide) ?_
                refine lv_goto (tgt := 66) hx hb dX6_heat_43 (by decide) ?_
                exact (hWW _ _ _ _ _).mp (J66_20 _ (by simp only [if_neg c_17]) _ _ hP hD hS _ (lv_sub hl [0, 1, 2] rfl))
        exact (hWW _ _ _ _ _).mp (L27 (25 + 1) 0 (Nat.zero_le _) (by omega) z2 rfl  _ _ hP hD hS _ (lv_sub hl [0, 1, 2] rfl))
      · refine lv_aload_n hx hb dX6_heat_8 rfl (lv_at hl 1 rfl) ?_
        refine m_get (v := .ref (a 12)) hx hb hts hin hown hK hP 12 (by decide) rfl (index := 40) (List.mem_of_getElem? (i := 1) rfl) dX6_heat_9 ?_
        refine lv_iload_n hx hb dX6_heat_12 rfl (lv_at hl 0 rfl) ?_
        refine lv_aload_n hx hb dX6_heat_13 rfl (lv_at hl 1 rfl) ?_
        refine lv_iload_n hx hb dX6_heat_14 rfl (lv_at hl 0 rfl) ?_
        refine m_callI (As := [.int (nI (i2))]) (rest := [.int (nI (i2)), .ref (a 12)]) (fun _ h => h) ⟨hx, hb, hml, hown, hts⟩ (cm_degreesOf l G cI cZ a z2  (nI (i2)) (vp_in_nI (by omega) (by decide))) (cwV 1 hts gX6_heat_X6_degreesOf rfl rfl rfl (by decide +kernel) ⟨Nat.le_of_ble_eq_true rfl, Nat.le_of_ble_eq_true rfl⟩) hK hP hD hS rfl hl.1 rfl (Nat.le_of_ble_eq_true rfl) dX6_heat_15 ⟨Nat.zero_le _, Nat.zero_le _⟩ (fun H locs hP hD _ _ hS => ?_)
        refine m_ast (j := i2) (v := (m_degreesOf z2 (nI (i2)))) hx hb hK hP hD hS 11 12 rfl rfl (by decide) (by omega) dX6_heat_18 (fun H locs hP hD hS => ?_)
        obtain ⟨s_43, e_44⟩ : ∃ z : Sg, z = (si z2 12 (i2) ((m_degreesOf z2 (nI (i2))))) := ⟨_, rfl⟩
        rw [← e_44] at hP hD
        have hR_45 : m_heat_b2 i2 z2 = m_heat_k19 i2 z2 s_43 := (by have q_ := e_44.symm; subst q_; unfold m_heat_b2; rfl)
        refine n_iinc (x := i2) (dN := 1) (k := 0) (lv' := [(2, .int (nI (i2 + 1))), (0, .ref (a 0)), (1, .int (air))]) hx hb dX6_heat_19 hl rfl (by decide) rfl (fun ls hl => ?_)
        refine lv_goto (tgt := 2) hx hb dX6_heat_22 (by decide) ?_
        exact (hWW _ _ _ _ _).mp (ih2 (i2 + 1) (by omega) (by omega) (s_43) (by show _ = m_heat_b2 i2 (lp (m_heat_b2) i2 σ); rw [← hz2]; exact (Eq.trans (by unfold m_heat_k19; rfl) hR_45.symm))  _ _ hP hD hS _ (lv_sub hl [0, 1, 2] rfl))
  exact (hWW _ _ _ _ _).mp (L2 (125 + 1) 0 (Nat.zero_le _) (by omega) σ rfl  _ _ hP hD hS _ (lv_sub hl [0, 1, 2] rfl))
