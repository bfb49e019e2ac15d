def m_passOne_k267_s (σ : Sg) (air : Int32) (snow : Int32) (z2 : Sg) (s_3 : Sg) (z48 : Sg) (z67 : Sg) (τ_12 : Sg) (z96 : Sg) (z116 : Sg) (z169 : Sg) (s_22 : Sg) : Sg := s_22
def m_passOne_x169_s (σ : Sg) (air : Int32) (snow : Int32) (z2 : Sg) (s_3 : Sg) (z48 : Sg) (z67 : Sg) (τ_12 : Sg) (z96 : Sg) (z116 : Sg) (z169 : Sg) : Sg := (m_passOne_k267_s σ air snow z2 s_3 z48 z67 τ_12 z96 z116 z169 (si z169 1 (0) (((z169.1 1 0)) + (nI (1)))))
def m_passOne_x180 (i169 : Nat) (z169 : Sg) (z180 : Sg) : Sg := z180
def m_passOne_k245 (i169 : Nat) (i180 : Nat) (z180 : Sg) (s_27 : Sg) : Sg := s_27
def m_passOne_b180 (i169 : Nat) (i180 : Nat) (z180 : Sg) : Sg := (m_passOne_k245 i169 i180 z180 (si z180 23 ((((nI (3000 * i169)) + ((nI (5)) * ((z180.1 1 0)))) + (nI (i180))).toNatClampNeg) (((m_degreesOf z180 (((nI (5)) * ((z180.1 20 i169))) + (nI (i180))))) + ((((z180.1 21 i169)) * ((((z180.1 1 0)) + (nI (1))) - ((z180.1 22 i169)))) / (nI (12))))))
def m_passOne_b169  (i169 : Nat) (z169 : Sg) : Sg := (m_passOne_x180 i169 z169 (lp (m_passOne_b180 i169) 5 z169))
def m_passOne_x116_s (σ : Sg) (air : Int32) (snow : Int32) (z2 : Sg) (s_3 : Sg) (z48 : Sg) (z67 : Sg) (τ_12 : Sg) (z96 : Sg) (z116 : Sg) : Sg := (m_passOne_x169_s σ air snow z2 s_3 z48 z67 τ_12 z96 z116 (lp (m_passOne_b169) ((σ.1 19 0).toNatClampNeg) z116))
def m_passOne_k161 (i116 : Nat) (z116 : Sg) (x_32 : Int32) (s_36 : Sg) : Sg := s_36
def m_passOne_j159 (i116 : Nat) (z116 : Sg) (x_32 : Int32) : Sg := (m_passOne_k161 i116 z116 x_32 (si z116 17 (i116) (((z116.1 17 i116)) + (x_32))))
def m_passOne_b116  (i116 : Nat) (z116 : Sg) : Sg := (m_passOne_j159 i116 z116 (if (z116.1 10 ((((nI (5)) * ((z116.1 14 i116))) + ((z116.1 15 i116))).toNatClampNeg)) < 0 then nI (0) else nI (1)))
def m_passOne_x96_s (σ : Sg) (air : Int32) (snow : Int32) (z2 : Sg) (s_3 : Sg) (z48 : Sg) (z67 : Sg) (τ_12 : Sg) (z96 : Sg) : Sg := (m_passOne_x116_s σ air snow z2 s_3 z48 z67 τ_12 z96 (lp (m_passOne_b116) ((σ.1 13 0).toNatClampNeg) z96))
def m_passOne_k108 (air : Int32) (i96 : Nat) (z96 : Sg) (s_39 : Sg) : Sg := s_39
def m_passOne_b96 (air : Int32) (i96 : Nat) (z96 : Sg) : Sg := (m_passOne_k108 air i96 z96 (m_wake_s z96 i96 air))
def m_passOne_j94_s (σ : Sg) (air : Int32) (snow : Int32) (z2 : Sg) (s_3 : Sg) (z48 : Sg) (z67 : Sg) (τ_12 : Sg) : Sg := (m_passOne_x96_s σ air snow z2 s_3 z48 z67 τ_12 (lp (m_passOne_b96 air) 25 τ_12))
def m_passOne_x67_s (σ : Sg) (air : Int32) (snow : Int32) (z2 : Sg) (s_3 : Sg) (z48 : Sg) (z67 : Sg) : Sg := (m_passOne_j94_s σ air snow z2 s_3 z48 z67 (if (-20) < air then z67 else (m_crack_s z67)))
def m_passOne_k78 (i67 : Nat) (z67 : Sg) (s_42 : Sg) : Sg := s_42
def m_passOne_b67  (i67 : Nat) (z67 : Sg) : Sg := (m_passOne_k78 i67 z67 (m_flow_s z67 i67))
def m_passOne_x48_s (σ : Sg) (air : Int32) (snow : Int32) (z2 : Sg) (s_3 : Sg) (z48 : Sg) : Sg := (m_passOne_x67_s σ air snow z2 s_3 z48 (lp (m_passOne_b67) 25 z48))
def m_passOne_k59 (i48 : Nat) (z48 : Sg) (s_45 : Sg) : Sg := s_45
def m_passOne_b48  (i48 : Nat) (z48 : Sg) : Sg := (m_passOne_k59 i48 z48 (m_sink_s z48 i48))
def m_passOne_k46_s (σ : Sg) (air : Int32) (snow : Int32) (z2 : Sg) (s_3 : Sg) : Sg := (m_passOne_x48_s σ air snow z2 s_3 (lp (m_passOne_b48) 125 s_3))
def m_passOne_x2_s (σ : Sg) (air : Int32) (snow : Int32) (z2 : Sg) : Sg := (m_passOne_k46_s σ air snow z2 (m_heat_s z2 air))
def m_passOne_k35 (air : Int32) (snow : Int32) (i2 : Nat) (z2 : Sg) (x_50 : Int32) (s_54 : Sg) : Sg := s_54
def m_passOne_j34 (air : Int32) (snow : Int32) (i2 : Nat) (z2 : Sg) (x_50 : Int32) : Sg := (m_passOne_k35 air snow i2 z2 x_50 (si z2 4 (i2) (x_50)))
def m_passOne_b2 (air snow : Int32) (i2 : Nat) (z2 : Sg) : Sg := (m_passOne_j34 air snow i2 z2 (if 0 ≤ air then nI (0) else (m_lesser (nI (9)) (((z2.1 4 i2)) + (snow)))))
def m_passOne_s (σ : Sg) (air : Int32) (snow : Int32) : Sg := (m_passOne_x2_s σ air snow (lp (m_passOne_b2 air snow) 25 σ))
theorem ite_k {α : Type} {β : Type} {P : Prop} [Decidable P] (f g : α → β) (k : α) : (if P then f else g) k = if P then f k else g k := by split <;> rfl
theorem m_p2 (k : Nat) (hk : k ≠ 4) {air snow : Int32} (n : Nat) (z : Sg) : (lp (m_passOne_b2 air snow) n z).1 k = z.1 k := lp_kp (fun i z => by simp [m_passOne_b2, m_passOne_k267_s, m_passOne_x169_s, m_passOne_x180, m_passOne_k245, m_passOne_x116_s, m_passOne_k161, m_passOne_j159, m_passOne_x96_s, m_passOne_k108, m_passOne_j94_s, m_passOne_x67_s, m_passOne_k78, m_passOne_x48_s, m_passOne_k59, m_passOne_k46_s, m_passOne_x2_s, m_passOne_k35, m_passOne_j34, m_passOne_s, si, hk]) n z
theorem m_heat_k (k : Nat) (hk : k ≠ 10 ∧ k ≠ 12) {σ : Sg} {air : Int32} : (m_heat_s σ air).1 k = σ.1 k := by
  simp [m_heat_x194_s, m_heat_k234, m_heat_j231, m_heat_x27_s, m_heat_k186, m_heat_x111, m_heat_k169, m_heat_k155, m_heat_k106, m_heat_j84, m_heat_j66, m_heat_x2_s, m_heat_k19, m_heat_s, si, sl, hk, m_heat_k194 k hk.1, m_heat_k27 k hk.1, m_heat_k2 k hk.2]
theorem m_p48 (k : Nat) (hk : k ≠ 2 ∧ k ≠ 3 ∧ k ≠ 9 ∧ k ≠ 10) (n : Nat) (z : Sg) : (lp (m_passOne_b48) n z).1 k = z.1 k := lp_kp (fun i z => by simp [m_passOne_b48, m_passOne_k267_s, m_passOne_x169_s, m_passOne_x180, m_passOne_k245, m_passOne_x116_s, m_passOne_k161, m_passOne_j159, m_passOne_x96_s, m_passOne_k108, m_passOne_j94_s, m_passOne_x67_s, m_passOne_k78, m_passOne_x48_s, m_passOne_k59, m_passOne_k46_s, m_passOne_x2_s, m_passOne_k35, m_passOne_j34, m_passOne_s, m_sink_k65_s, m_sink_k53_s, m_sink_k41_s, m_sink_k27_s, m_sink_s, si, sl, hk]) n z
theorem m_p67 (k : Nat) (hk : k ≠ 3) (n : Nat) (z : Sg) : (lp (m_passOne_b67) n z).1 k = z.1 k := lp_kp (fun i z => by simp [m_passOne_b67, m_passOne_k267_s, m_passOne_x169_s, m_passOne_x180, m_passOne_k245, m_passOne_x116_s, m_passOne_k161, m_passOne_j159, m_passOne_x96_s, m_passOne_k108, m_passOne_j94_s, m_passOne_x67_s, m_passOne_k78, m_passOne_x48_s, m_passOne_k59, m_passOne_k46_s, m_passOne_x2_s, m_passOne_k35, m_passOne_j34, m_passOne_s, m_flow_j152_s, m_flow_k141, m_flow_t113n, m_flow_x4_s, m_flow_j76, m_flow_j63, m_flow_s, si, sl, hk, apply_ite Prod.fst, ite_k]) n z
theorem m_crack_k (k : Nat) (hk : k ≠ 2 ∧ k ≠ 3 ∧ k ≠ 6 ∧ k ≠ 9 ∧ k ≠ 10) (z : Sg) : (m_crack_s z).1 k = z.1 k := by simp [m_crack_j132_s, m_crack_k120, m_crack_k110, m_crack_k100, m_crack_t76n, m_crack_k70_s, m_crack_x4_s, m_crack_j36, m_crack_s, si, sl, hk, apply_ite Prod.fst, ite_k]
theorem m_pcr {P : Prop} [Decidable P] (k : Nat) (hk : k ≠ 2 ∧ k ≠ 3 ∧ k ≠ 6 ∧ k ≠ 9 ∧ k ≠ 10) (z : Sg) : (if P then z else (m_crack_s z)).1 k = z.1 k := by
  split
  · rfl
  · exact m_crack_k k hk z
theorem m_wake_k4 (k : Nat) (hk : k ≠ 11) (c n : Nat) (z : Sg) : (lp (m_wake_b4 c) n z).1 k = z.1 k := lp_kp (fun i z => by simp [m_wake_b4, m_wake_j166_s, m_wake_x4_s, m_wake_j115, m_wake_j111, m_wake_k91, m_wake_j87, m_wake_k67, m_wake_t22n, m_wake_s, si, sl, hk, apply_ite Prod.fst, ite_k]) n z
theorem m_p96 (k : Nat) (hk : k ≠ 11) {air : Int32} (n : Nat) (z : Sg) : (lp (m_passOne_b96 air) n z).1 k = z.1 k := lp_kp (fun i z => by simp [m_passOne_b96, m_passOne_k267_s, m_passOne_x169_s, m_passOne_x180, m_passOne_k245, m_passOne_x116_s, m_passOne_k161, m_passOne_j159, m_passOne_x96_s, m_passOne_k108, m_passOne_j94_s, m_passOne_x67_s, m_passOne_k78, m_passOne_x48_s, m_passOne_k59, m_passOne_k46_s, m_passOne_x2_s, m_passOne_k35, m_passOne_j34, m_passOne_s, m_wake_j166_s, m_wake_x4_s, m_wake_j115, m_wake_j111, m_wake_k91, m_wake_j87, m_wake_k67, m_wake_t22n, m_wake_s, si, sl, hk, apply_ite Prod.fst, ite_k, m_wake_k4 k hk]) n z
theorem m_p116 (k : Nat) (hk : k ≠ 17) (n : Nat) (z : Sg) : (lp (m_passOne_b116) n z).1 k = z.1 k := lp_kp (fun i z => by simp [m_passOne_b116, m_passOne_k267_s, m_passOne_x169_s, m_passOne_x180, m_passOne_k245, m_passOne_x116_s, m_passOne_k161, m_passOne_j159, m_passOne_x96_s, m_passOne_k108, m_passOne_j94_s, m_passOne_x67_s, m_passOne_k78, m_passOne_x48_s, m_passOne_k59, m_passOne_k46_s, m_passOne_x2_s, m_passOne_k35, m_passOne_j34, m_passOne_s, si, hk]) n z
theorem m_p180 (k : Nat) (hk : k ≠ 23) (b n : Nat) (z : Sg) : (lp (m_passOne_b180 b) n z).1 k = z.1 k := lp_kp (fun i z => by simp [m_passOne_b180, m_passOne_k267_s, m_passOne_x169_s, m_passOne_x180, m_passOne_k245, m_passOne_x116_s, m_passOne_k161, m_passOne_j159, m_passOne_x96_s, m_passOne_k108, m_passOne_j94_s, m_passOne_x67_s, m_passOne_k78, m_passOne_x48_s, m_passOne_k59, m_passOne_k46_s, m_passOne_x2_s, m_passOne_k35, m_passOne_j34, m_passOne_s, si, hk]) n z
theorem m_p169 (k : Nat) (hk : k ≠ 23) (n : Nat) (z : Sg) : (lp (m_passOne_b169) n z).1 k = z.1 k := lp_kp (fun i z => by simp [m_passOne_b169, m_passOne_k267_s, m_passOne_x169_s, m_passOne_x180, m_passOne_k245, m_passOne_x116_s, m_passOne_k161, m_passOne_j159, m_passOne_x96_s, m_passOne_k108, m_passOne_j94_s, m_passOne_x67_s, m_passOne_k78, m_passOne_x48_s, m_passOne_k59, m_passOne_k46_s, m_passOne_x2_s, m_passOne_k35, m_passOne_j34, m_passOne_s, si, hk, m_p180 k hk]) n z
theorem m_snow_in {x y : Int32} (hx : vp_in x 10) (hy : vp_in y 10) : vp_in (m_lesser (nI 9) (x + y)) 10 := by
  obtain ⟨i, hi, rfl⟩ := vp_in_of hx (by decide)
  obtain ⟨j, hj, rfl⟩ := vp_in_of hy (by decide)
  rw [nI_add]
  unfold m_lesser
  by_cases h : nI (i + j) ≤ nI 9
  · rw [if_pos h]
    exact vp_in_nI (by have := (nI_leI (by omega) (by decide)).mp h; omega) (by decide)
  · rw [if_neg h]; exact vp_in_nI (by decide) (by decide)
theorem m_ok_snow {σ : Sg} {air snow : Int32} (hO : mOK σ) (hs : vp_in snow 10) (i : Nat) (hi : i ≤ 25) : mOK (lp (m_passOne_b2 air snow) i σ) := by
  have hk : ∀ k, k ≠ 4 → (lp (m_passOne_b2 air snow) i σ).1 k = σ.1 k := fun k h => m_p2 k h i σ
  have h4 : ∀ c, c < 25 → vp_in ((lp (m_passOne_b2 air snow) i σ).1 4 c) 10 := by
    refine lp_inv (P := fun _ (z : Sg) => ∀ c, c < 25 → vp_in (z.1 4 c) 10) (fun c hc => (hO.2.2.2.2.2.2 c hc).1) ?_ i
    intro i z hz c hc
    simp only [m_passOne_b2, m_passOne_k267_s, m_passOne_x169_s, m_passOne_x180, m_passOne_k245, m_passOne_x116_s, m_passOne_k161, m_passOne_j159, m_passOne_x96_s, m_passOne_k108, m_passOne_j94_s, m_passOne_x67_s, m_passOne_k78, m_passOne_x48_s, m_passOne_k59, m_passOne_k46_s, m_passOne_x2_s, m_passOne_k35, m_passOne_j34, m_passOne_s]
    by_cases hci : c = i
    · subst hci
      simp only [si, upd, if_true]
      by_cases ha : 0 ≤ air
      · rw [if_pos ha]; exact vp_in_nI (by decide) (by decide)
      · rw [if_neg ha]; exact m_snow_in (hz c hc) hs
    · simp only [si, upd, if_true, if_neg hci]; exact hz c hc
  unfold mOK
  rw [hk 13 (by decide), hk 19 (by decide), hk 24 (by decide), hk 1 (by decide), hk 14 (by decide), hk 15 (by decide), hk 18 (by decide), hk 20 (by decide), hk 5 (by decide)]
  exact ⟨hO.1, hO.2.1, hO.2.2.1, hO.2.2.2.1, hO.2.2.2.2.1, hO.2.2.2.2.2.1, fun c hc => ⟨h4 c hc, (hO.2.2.2.2.2.2 c hc).2⟩⟩
set_option maxHeartbeats 4000000 in
set_option maxRecDepth 100000 in
theorem cm_passOne (l : Launch) (G : va_G) (cI cZ : ClassId) (a : Nat → Nat) (σ : Sg) (air : Int32) (snow : Int32) (hO : mOK σ) (hm : vp_in (σ.1 1 0) 600) (hs : vp_in snow 10) : mV l yX6_passOne wsX6_passOne ({ frames := 3, cells := 0, slots := 0, locals := 64 } : Room) G cI cZ a σ [.int (air), .int (snow)] (m_passOne_s σ air snow) := by
  unfold mV
  refine Met.ofW (cc := cX6_passOne) (maxL := 5) (ret := none) (by decide) rfl ?_
  intro p e s m args below meth c s₁ B hml hv
  obtain ⟨rfl, hP, hK, hD⟩ := hv
  have hx := B.exec
  have hb := B.bytes
  have hr := B.returns
  have hts := atoms_spec (ws := wsX6_passOne) B.pre
  have hown : s.vm.findClass RX6 = some m.cls := findClass_of_methodNamed B.named
  have hlocks := B.notSynchronized
  have hS : va_S (mA a) s.heap s.heap [] := va_S.rf
  have hin : ∀ w ∈ wsX60, w ∈ wsX6_passOne := fun w h => List.mem_cons_of_mem _ (List.mem_append_right _ h)
  have hl := lv_entry ([.ref (a 0), .int (air), .int (snow)]) (n := 5) (Nat.le_of_ble_eq_true rfl)
  rw [lg_entry_eq]
  generalize (lg_sl ([.ref (a 0), .int (air), .int (snow)]) ++ List.replicate (5 - (lg_sl ([.ref (a 0), .int (air), .int (snow)])).length) Slot.unset).toArray = ls at hl ⊢
  have hl : lv_has ls 5 [(0, .ref (a 0)), (1, .int (air)), (2, .int (snow))] := hl
  refine w_named (fun WW hWW => ?_)
  have hP : va_P G vwCl (wm cI cZ a σ) s.heap := hP
  have h13 := vp_lt hO.1
  have e13 := vp_self hO.1
  have h19 := vp_lt hO.2.1
  have e19 := vp_self hO.2.1
  refine lv_iconst (v := nI (0)) hx hb dX6_passOne_0 (by decide) ?_
  refine lv_istore_n (lv' := [(3, .int (nI (0))), (0, .ref (a 0)), (1, .int (air)), (2, .int (snow))]) hx hb dX6_passOne_1 rfl hl (by decide) rfl (fun ls hl => ?_)
  have L2 : ∀ (n2 i2 : Nat), i2 ≤ 25 → 25 + 1 ≤ i2 + n2 → ∀ (z2 : Sg), z2 = lp (m_passOne_b2 air snow) i2 σ → ∀ (H : Heap) (locs : List Loc), va_P G vwCl (wm cI cZ a z2) H → va_D (mA a) (wm cI cZ a z2) → va_S (mA a) s.heap H locs → ∀ (ls : Array Slot), lv_has ls 5 [(3, .int (nI (i2))), (0, .ref (a 0)), (1, .int (air)), (2, .int (snow))] → WW H locs 0 0 (F0 m 2 ls []) := by
    intro n2
    induction n2 with
    | zero => intro i2 h1 h2; exact absurd h2 (by omega)
    | succ n2 ih2 =>
      intro i2 hi2 hn2 z2 hz2  H locs hP hD hS ls hl
      refine (hWW _ _ _ _ _).mpr ?_
      refine lv_iload_n hx hb dX6_passOne_2 rfl (lv_at hl 0 rfl) ?_
      refine lv_bipush (v := nI (25)) hx hb dX6_passOne_3 (by decide) ?_
      refine n_icmp_ge (x := i2) (y := 25) (tgt := 41) hx hb (by omega) (by omega) dX6_passOne_5 (by decide) (fun c_1 => ?_) (fun c_1 => ?_)
      · have hiN : 25 = i2 := by omega
        subst hiN
        have hR_2 : m_passOne_s σ air snow = m_passOne_x2_s σ air snow z2 := (by have q_ := hz2.symm; subst q_; unfold m_passOne_s; rfl)
        refine lv_aload_n hx hb dX6_passOne_41 rfl (lv_at hl 1 rfl) ?_
        refine lv_iload_n hx hb dX6_passOne_42 rfl (lv_at hl 2 rfl) ?_
        refine m_callV (As := [.int (air)]) (rest := []) (fun _ h => h) ⟨hx, hb, hml, hown, hts⟩ (cm_heat l G cI cZ a z2  air (by rw [hz2]; exact m_ok_snow hO hs 25 (Nat.le_refl _))) (cwV 1 hts gX6_passOne_X6_heat rfl rfl rfl (by decide +kernel) ⟨Nat.le_of_ble_eq_true rfl, Nat.le_of_ble_eq_true rfl⟩) hK hP hD hS rfl hl.1 rfl (Nat.le_of_ble_eq_true rfl) dX6_passOne_43 ⟨Nat.zero_le _, Nat.zero_le _⟩ (fun H locs hP hD _ _ hS => ?_)
        obtain ⟨s_3, e_4⟩ : ∃ z : Sg, z = (m_heat_s z2 air) := ⟨_, rfl⟩
        rw [← e_4] at hP hD
        have hR_5 : m_passOne_s σ air snow = m_passOne_k46_s σ air snow z2 s_3 := (Eq.trans hR_2 (by have q_ := e_4.symm; subst q_; unfold m_passOne_x2_s; rfl))
        refine lv_iconst (v := nI (0)) hx hb dX6_passOne_46 (by decide) ?_
        refine lv_istore_n (lv' := [(3, .int (nI (0))), (0, .ref (a 0)), (1, .int (air)), (2, .int (snow))]) hx hb dX6_passOne_47 rfl hl (by decide) rfl (fun ls hl => ?_)
        have L48 : ∀ (n48 i48 : Nat), i48 ≤ 125 → 125 + 1 ≤ i48 + n48 → ∀ (z48 : Sg), z48 = lp (m_passOne_b48) i48 s_3 → ∀ (H : Heap) (locs : List Loc), va_P G vwCl (wm cI cZ a z48) H → va_D (mA a) (wm cI cZ a z48) → va_S (mA a) s.heap H locs → ∀ (ls : Array Slot), lv_has ls 5 [(3, .int (nI (i48))), (0, .ref (a 0)), (1, .int (air)), (2, .int (snow))] → WW H locs 0 0 (F0 m 48 ls []) := by
          intro n48
          induction n48 with
          | zero => intro i48 h1 h2; exact absurd h2 (by omega)
          | succ n48 ih48 =>
            intro i48 hi48 hn48 z48 hz48  H locs hP hD hS ls hl
            refine (hWW _ _ _ _ _).mpr ?_
            refine lv_iload_n hx hb dX6_passOne_48 rfl (lv_at hl 0 rfl) ?_
            refine lv_bipush (v := nI (125)) hx hb dX6_passOne_49 (by decide) ?_
            refine n_icmp_ge (x := i48) (y := 125) (tgt := 65) hx hb (by omega) (by omega) dX6_passOne_51 (by decide) (fun c_6 => ?_) (fun c_6 => ?_)
            · have hiN : 125 = i48 := by omega
              subst hiN
              have hR_7 : m_passOne_s σ air snow = m_passOne_x48_s σ air snow z2 s_3 z48 := (Eq.trans hR_5 (by have q_ := hz48.symm; subst q_; unfold m_passOne_k46_s; rfl))
              refine lv_iconst (v := nI (0)) hx hb dX6_passOne_65 (by decide) ?_
              refine lv_istore_n (lv' := [(3, .int (nI (0))), (0, .ref (a 0)), (1, .int (air)), (2, .int (snow))]) hx hb dX6_passOne_66 rfl hl (by decide) rfl (fun ls hl => ?_)
              have L67 : ∀ (n67 i67 : Nat), i67 ≤ 25 → 25 + 1 ≤ i67 + n67 → ∀ (z67 : Sg), z67 = lp (m_passOne_b67) i67 z48 → ∀ (H : Heap) (locs : List Loc), va_P G vwCl (wm cI cZ a z67) H → va_D (mA a) (wm cI cZ a z67) → va_S (mA a) s.heap H locs → ∀ (ls : Array Slot), lv_has ls 5 [(3, .int (nI (i67))), (0, .ref (a 0)), (1, .int (air)), (2, .int (snow))] → WW H locs 0 0 (F0 m 67 ls []) := by
                intro n67
                induction n67 with
                | zero => intro i67 h1 h2; exact absurd h2 (by omega)
                | succ n67 ih67 =>
                  intro i67 hi67 hn67 z67 hz67  H locs hP hD hS ls hl
                  refine (hWW _ _ _ _ _).mpr ?_
                  refine lv_iload_n hx hb dX6_passOne_67 rfl (lv_at hl 0 rfl) ?_
                  refine lv_bipush (v := nI (25)) hx hb dX6_passOne_68 (by decide) ?_
                  refine n_icmp_ge (x := i67) (y := 25) (tgt := 84) hx hb (by omega) (by omega) dX6_passOne_70 (by decide) (fun c_8 => ?_) (fun c_8 => ?_)
                  · have hiN : 25 = i67 := by omega
                    subst hiN
                    have hR_9 : m_passOne_s σ air snow = m_passOne_x67_s σ air snow z2 s_3 z48 z67 := (Eq.trans hR_7 (by have q_ := hz67.symm; subst q_; unfold m_passOne_x48_s; rfl))
                    refine lv_iload_n hx hb dX6_passOne_84 rfl (lv_at hl 2 rfl) ?_
                    refine lv_bipush (v := (-20)) hx hb dX6_passOne_85 (by decide) ?_
                    have J94_13 : ∀ (τ_12 : Sg), τ_12 = (if (-20) < air then z67 else (m_crack_s z67)) → ∀ (H : Heap) (locs : List Loc), va_P G vwCl (wm cI cZ a τ_12) H → va_D (mA a) (wm cI cZ a τ_12) → va_S (mA a) s.heap H locs → ∀ (ls : Array Slot), lv_has ls 5 [(3, .int (nI (25))), (0, .ref (a 0)), (1, .int (air)), (2, .int (snow))] → WW H locs 0 0 (F0 m 94 ls []) := by
                      intro τ_12 h_14 H locs hP hD hS ls hl
                      refine (hWW _ _ _ _ _).mpr ?_
                      have hR_15 : m_passOne_s σ air snow = m_passOne_j94_s σ air snow z2 s_3 z48 z67 τ_12 := (Eq.trans hR_9 (by have q_ := h_14.symm; subst q_; unfold m_passOne_x67_s; rfl))
                      refine lv_iconst (v := nI (0)) hx hb dX6_passOne_94 (by decide) ?_
                      refine lv_istore_n (lv' := [(3, .int (nI (0))), (0, .ref (a 0)), (1, .int (air)), (2, .int (snow))]) hx hb dX6_passOne_95 rfl hl (by decide) rfl (fun ls hl => ?_)
                      have L96 : ∀ (n96 i96 : Nat), i96 ≤ 25 → 25 + 1 ≤ i96 + n96 → ∀ (z96 : Sg), z96 = lp (m_passOne_b96 air) i96 τ_12 → ∀ (H : Heap) (locs : List Loc), va_P G vwCl (wm cI cZ a z96) H → va_D (mA a) (wm cI cZ a z96) → va_S (mA a) s.heap H locs → ∀ (ls : Array Slot), lv_has ls 5 [(3, .int (nI (i96))), (0, .ref (a 0)), (1, .int (air)), (2, .int (snow))] → WW H locs 0 0 (F0 m 96 ls []) := by
                        intro n96
                        induction n96 with
                        | zero => intro i96 h1 h2; exact absurd h2 (by omega)
                        | succ n96 ih96 =>
                          intro i96 hi96 hn96 z96 hz96  H locs hP hD hS ls hl
                          refine (hWW _ _ _ _ _).mpr ?_
                          refine lv_iload_n hx hb dX6_passOne_96 rfl (lv_at hl 0 rfl) ?_
                          refine lv_bipush (v := nI (25)) hx hb dX6_passOne_97 (by decide) ?_
                          refine n_icmp_ge (x := i96) (y := 25) (tgt := 114) hx hb (by omega) (by omega) dX6_passOne_99 (by decide) (fun c_16 => ?_) (fun c_16 => ?_)
                          · have hiN : 25 = i96 := by omega
                            subst hiN
                            have hR_17 : m_passOne_s σ air snow = m_passOne_x96_s σ air snow z2 s_3 z48 z67 τ_12 z96 := (Eq.trans hR_15 (by have q_ := hz96.symm; subst q_; unfold m_passOne_j94_s; rfl))
                            refine lv_iconst (v := nI (0)) hx hb dX6_passOne_114 (by decide) ?_
                            refine lv_istore_n (lv' := [(3, .int (nI (0))), (0, .ref (a 0)), (1, .int (air)), (2, .int (snow))]) hx hb dX6_passOne_115 rfl hl (by decide) rfl (fun ls hl => ?_)
                            have L116 : ∀ (n116 i116 : Nat), i116 ≤ (σ.1 13 0).toNatClampNeg → ((σ.1 13 0).toNatClampNeg) + 1 ≤ i116 + n116 → ∀ (z116 : Sg), z116 = lp (m_passOne_b116) i116 z96 → ∀ (H : Heap) (locs : List Loc), va_P G vwCl (wm cI cZ a z116) H → va_D (mA a) (wm cI cZ a z116) → va_S (mA a) s.heap H locs → ∀ (ls : Array Slot), lv_has ls 5 [(3, .int (nI (i116))), (0, .ref (a 0)), (1, .int (air)), (2, .int (snow))] → WW H locs 0 0 (F0 m 116 ls []) := by
                              intro n116
                              induction n116 with
                              | zero => intro i116 h1 h2; exact absurd h2 (by omega)
                              | succ n116 ih116 =>
                                intro i116 hi116 hn116 z116 hz116  H locs hP hD hS ls hl
                                refine (hWW _ _ _ _ _).mpr ?_
                                have k116 : ∀ k, (k = 1 ∨ 13 ≤ k ∧ k ≠ 17) → z116.1 k = σ.1 k := fun k hk => by rw [hz116, m_p116 k (by omega), hz96, m_p96 k (by omega), h_14, m_pcr k (by omega), hz67, m_p67 k (by omega), hz48, m_p48 k (by omega), e_4, m_heat_k k (by omega), hz2]; exact m_p2 k (by omega) _ _
                                refine lv_iload_n hx hb dX6_passOne_116 rfl (lv_at hl 0 rfl) ?_
                                refine lv_aload_n hx hb dX6_passOne_117 rfl (lv_at hl 1 rfl) ?_
                                refine m_get (v := .int ((z116.1 13 0))) hx hb hts hin hown hK hP 13 (by decide) rfl (index := 132) (List.mem_of_getElem? (i := 2) rfl) dX6_passOne_118 ?_
                                refine W.eq (g2 := F0 m 121 ls (.int (nI ((σ.1 13 0).toNatClampNeg)) :: .int (nI (i116)) :: [])) (congrArg (fun v => F0 m 121 ls (Value.int v :: .int (nI (i116)) :: [])) ((by rw [k116 13 (by omega)]; exact e13))) ?_
                                refine n_icmp_ge (x := i116) (y := (σ.1 13 0).toNatClampNeg) (tgt := 167) hx hb (by omega) (by omega) dX6_passOne_121 (by decide) (fun c_18 => ?_) (fun c_18 => ?_)
                                · have hiN : (σ.1 13 0).toNatClampNeg = i116 := by omega
                                  subst hiN
                                  have hR_19 : m_passOne_s σ air snow = m_passOne_x116_s σ air snow z2 s_3 z48 z67 τ_12 z96 z116 := (Eq.trans hR_17 (by have q_ := hz116.symm; subst q_; unfold m_passOne_x96_s; rfl))
                                  refine lv_iconst (v := nI (0)) hx hb dX6_passOne_167 (by decide) ?_
                                  refine lv_istore_n (lv' := [(3, .int (nI (0))), (0, .ref (a 0)), (1, .int (air)), (2, .int (snow))]) hx hb dX6_passOne_168 rfl hl (by decide) rfl (fun ls hl => ?_)
                                  have L169 : ∀ (n169 i169 : Nat), i169 ≤ (σ.1 19 0).toNatClampNeg → ((σ.1 19 0).toNatClampNeg) + 1 ≤ i169 + n169 → ∀ (z169 : Sg), z169 = lp (m_passOne_b169) i169 z116 → ∀ (H : Heap) (locs : List Loc), va_P G vwCl (wm cI cZ a z169) H → va_D (mA a) (wm cI cZ a z169) → va_S (mA a) s.heap H locs → ∀ (ls : Array Slot), lv_has ls 5 [(3, .int (nI (i169))), (0, .ref (a 0)), (1, .int (air)), (2, .int (snow))] → WW H locs 0 0 (F0 m 169 ls []) := by
                                    intro n169
                                    induction n169 with
                                    | zero => intro i169 h1 h2; exact absurd h2 (by omega)
                                    | succ n169 ih169 =>
                                      intro i169 hi169 hn169 z169 hz169  H locs hP hD hS ls hl
                                      refine (hWW _ _ _ _ _).mpr ?_
                                      have k169 : ∀ k, (k = 1 ∨ 13 ≤ k ∧ k ≠ 17 ∧ k ≠ 23) → z169.1 k = σ.1 k := fun k hk => by rw [hz169, m_p169 k (by omega), hz116, m_p116 k (by omega), hz96, m_p96 k (by omega), h_14, m_pcr k (by omega), hz67, m_p67 k (by omega), hz48, m_p48 k (by omega), e_4, m_heat_k k (by omega), hz2]; exact m_p2 k (by omega) _ _
                                      refine lv_iload_n hx hb dX6_passOne_169 rfl (lv_at hl 0 rfl) ?_
                                      refine lv_aload_n hx hb dX6_passOne_170 rfl (lv_at hl 1 rfl) ?_
                                      refine m_get (v := .int ((z169.1 19 0))) hx hb hts hin hown hK hP 19 (by decide) rfl (index := 135) (List.mem_of_getElem? (i := 7) rfl) dX6_passOne_171 ?_
                                      refine W.eq (g2 := F0 m 174 ls (.int (nI ((σ.1 19 0).toNatClampNeg)) :: .int (nI (i169)) :: [])) (congrArg (fun v => F0 m 174 ls (Value.int v :: .int (nI (i169)) :: [])) ((by rw [k169 19 (by omega)]; exact e19))) ?_
                                      refine n_icmp_ge (x := i169) (y := (σ.1 19 0).toNatClampNeg) (tgt := 257) hx hb (by omega) (by omega) dX6_passOne_174 (by decide) (fun c_20 => ?_) (fun c_20 => ?_)
                                      · have hiN : (σ.1 19 0).toNatClampNeg = i169 := by omega
                                        subst hiN
                                        have hR_21 : m_passOne_s σ air snow = m_passOne_x169_s σ air snow z2 s_3 z48 z67 τ_12 z96 z116 z169 := (Eq.trans hR_19 (by have q_ := hz169.symm; subst q_; unfold m_passOne_x116_s; rfl))
                                        refine lv_aload_n hx hb dX6_passOne_257 rfl (lv_at hl 1 rfl) ?_
                                        refine lv_dup hx hb dX6_passOne_258 rfl ?_
                                        refine m_get (v := .int ((z169.1 1 0))) hx hb hts hin hown hK hP 1 (by decide) rfl (index := 109) (List.mem_of_getElem? (i := 9) rfl) dX6_passOne_259 ?_
                                        refine lv_iconst (v := nI (1)) hx hb dX6_passOne_262 (by decide) ?_
                                        refine lv_iadd (x := (z169.1 1 0)) (y := nI (1)) hx hb dX6_passOne_263 ?_
                                        refine m_putI (v := ((z169.1 1 0)) + (nI (1))) hx hb hts hin hown hK hP hD hS 1 (by decide) rfl (by decide +kernel) rfl (index := 109) (List.mem_of_getElem? (i := 9) rfl) dX6_passOne_264 (fun H locs hP hD hS => ?_)
                                        obtain ⟨s_22, e_23⟩ : ∃ z : Sg, z = (si z169 1 (0) (((z169.1 1 0)) + (nI (1)))) := ⟨_, rfl⟩
                                        rw [← e_23] at hP hD
                                        have hR_24 : m_passOne_s σ air snow = m_passOne_k267_s σ air snow z2 s_3 z48 z67 τ_12 z96 z116 z169 s_22 := (Eq.trans hR_21 (by have q_ := e_23.symm; subst q_; unfold m_passOne_x169_s; rfl))
                                        exact m_vret hx hb hr hlocks hP hK hD hS dX6_passOne_267 (Eq.trans (by unfold m_passOne_k267_s; rfl) hR_24.symm)
                                      · refine lv_iconst (v := nI (0)) hx hb dX6_passOne_177 (by decide) ?_
                                        refine lv_istore (lv' := [(4, .int (nI (0))), (3, .int (nI (i169))), (0, .ref (a 0)), (1, .int (air)), (2, .int (snow))]) hx hb dX6_passOne_178 hl (by decide) rfl (fun ls hl => ?_)
                                        have L180 : ∀ (n180 i180 : Nat), i180 ≤ 5 → 5 + 1 ≤ i180 + n180 → ∀ (z180 : Sg), z180 = lp (m_passOne_b180 i169) i180 z169 → ∀ (H : Heap) (locs : List Loc), va_P G vwCl (wm cI cZ a z180) H → va_D (mA a) (wm cI cZ a z180) → va_S (mA a) s.heap H locs → ∀ (ls : Array Slot), lv_has ls 5 [(4, .int (nI (i180))), (3, .int (nI (i169))), (0, .ref (a 0)), (1, .int (air)), (2, .int (snow))] → WW H locs 0 0 (F0 m 180 ls []) := by
                                          intro n180
                                          induction n180 with
                                          | zero => intro i180 h1 h2; exact absurd h2 (by omega)
                                          | succ n180 ih180 =>
                                            intro i180 hi180 hn180 z180 hz180  H locs hP hD hS ls hl
                                            refine (hWW _ _ _ _ _).mpr ?_
                                            have k180 : ∀ k, (k = 1 ∨ 13 ≤ k ∧ k ≠ 17 ∧ k ≠ 23) → z180.1 k = σ.1 k := fun k hk => by rw [hz180, m_p180 k (by omega)]; exact k169 k hk
                                            refine lv_iload hx hb dX6_passOne_180 (lv_at hl 0 rfl) ?_
                                            refine lv_iconst (v := nI (5)) hx hb dX6_passOne_182 (by decide) ?_
                                            refine n_icmp_ge (x := i180) (y := 5) (tgt := 251) hx hb (by omega) (by omega) dX6_passOne_183 (by decide) (fun c_25 => ?_) (fun c_25 => ?_)
                                            · have hiN : 5 = i180 := by omega
                                              subst hiN
                                              have hR_26 : m_passOne_b169 i169 z169 = m_passOne_x180 i169 z169 z180 := (by have q_ := hz180.symm; subst q_; unfold m_passOne_b169; rfl)
                                              refine n_iinc (x := i169) (dN := 1) (k := 1) (lv' := [(3, .int (nI (i169 + 1))), (4, .int (nI (5))), (0, .ref (a 0)), (1, .int (air)), (2, .int (snow))]) hx hb dX6_passOne_251 hl rfl (by decide) rfl (fun ls hl => ?_)
                                              refine lv_goto (tgt := 169) hx hb dX6_passOne_254 (by decide) ?_
                                              exact (hWW _ _ _ _ _).mp (ih169 (i169 + 1) (by omega) (by omega) (z180) (by show _ = m_passOne_b169 i169 (lp (m_passOne_b169) i169 z116); rw [← hz169]; exact (Eq.trans (by unfold m_passOne_x180; rfl) hR_26.symm))  _ _ hP hD hS _ (lv_sub hl [0, 2, 3, 4] rfl))
                                            · refine lv_aload_n hx hb dX6_passOne_186 rfl (lv_at hl 2 rfl) ?_
                                              refine m_get (v := .ref (a 23)) hx hb hts hin hown hK hP 23 (by decide) rfl (index := 68) (List.mem_of_getElem? (i := 8) rfl) dX6_passOne_187 ?_
                                              refine lv_sipush (v := nI (3000)) hx hb dX6_passOne_190 (by decide) ?_
                                              refine lv_iload_n hx hb dX6_passOne_193 rfl (lv_at hl 1 rfl) ?_
                                              refine n_mul (x := 3000) (y := i169) hx hb dX6_passOne_194 ?_
                                              refine lv_iconst (v := nI (5)) hx hb dX6_passOne_195 (by decide) ?_
                                              refine lv_aload_n hx hb dX6_passOne_196 rfl (lv_at hl 2 rfl) ?_
                                              refine m_get (v := .int ((z180.1 1 0))) hx hb hts hin hown hK hP 1 (by decide) rfl (index := 109) (List.mem_of_getElem? (i := 9) rfl) dX6_passOne_197 ?_
                                              refine lv_imul (x := nI (5)) (y := (z180.1 1 0)) hx hb dX6_passOne_200 ?_
                                              refine lv_iadd (x := nI (3000 * i169)) (y := (nI (5)) * ((z180.1 1 0))) hx hb dX6_passOne_201 ?_
                                              refine lv_iload hx hb dX6_passOne_202 (lv_at hl 0 rfl) ?_
                                              refine lv_iadd (x := (nI (3000 * i169)) + ((nI (5)) * ((z180.1 1 0)))) (y := nI (i180)) hx hb dX6_passOne_204 ?_
                                              refine lv_aload_n hx hb dX6_passOne_205 rfl (lv_at hl 2 rfl) ?_
                                              refine lv_iconst (v := nI (5)) hx hb dX6_passOne_206 (by decide) ?_
                                              refine lv_aload_n hx hb dX6_passOne_207 rfl (lv_at hl 2 rfl) ?_
                                              refine m_get (v := .ref (a 20)) hx hb hts hin hown hK hP 20 (by decide) rfl (index := 59) (List.mem_of_getElem? (i := 10) rfl) dX6_passOne_208 ?_
                                              refine lv_iload_n hx hb dX6_passOne_211 rfl (lv_at hl 1 rfl) ?_
                                              refine m_ald (j := i169) hx hb hK hP 17 20 rfl (by decide) (by omega) dX6_passOne_212 ?_
                                              refine W.eq (g2 := F0 m 213 ls [.int ((z180.1 20 i169)), .int (nI (5)), .ref (a 0), .int (((nI (3000 * i169)) + ((nI (5)) * ((z180.1 1 0)))) + (nI (i180))), .ref (a 23)]) rfl ?_
                                              refine lv_imul (x := nI (5)) (y := (z180.1 20 i169)) hx hb dX6_passOne_213 ?_
                                              refine lv_iload hx hb dX6_passOne_214 (lv_at hl 0 rfl) ?_
                                              refine lv_iadd (x := (nI (5)) * ((z180.1 20 i169))) (y := nI (i180)) hx hb dX6_passOne_216 ?_
                                              refine m_callI (As := [.int (((nI (5)) * ((z180.1 20 i169))) + (nI (i180)))]) (rest := [.int (((nI (3000 * i169)) + ((nI (5)) * ((z180.1 1 0)))) + (nI (i180))), .ref (a 23)]) (fun _ h => h) ⟨hx, hb, hml, hown, hts⟩ (cm_degreesOf l G cI cZ a z180  (((nI (5)) * ((z180.1 20 i169))) + (nI (i180))) (by rw [k180 20 (by omega)]; exact vp_5l (hO.2.2.2.2.2.1 i169 (by omega)) (vp_in_nI (by omega) (by decide)))) (cwV 1 hts gX6_passOne_X6_degreesOf rfl rfl rfl (by decide +kernel) ⟨Nat.le_of_ble_eq_true rfl, Nat.le_of_ble_eq_true rfl⟩) hK hP hD hS rfl hl.1 rfl (Nat.le_of_ble_eq_true rfl) dX6_passOne_217 ⟨Nat.zero_le _, Nat.zero_le _⟩ (fun H locs hP hD _ _ hS => ?_)
                                              refine lv_aload_n hx hb dX6_passOne_220 rfl (lv_at hl 2 rfl) ?_
                                              refine m_get (v := .ref (a 21)) hx hb hts hin hown hK hP 21 (by decide) rfl (index := 62) (List.mem_of_getElem? (i := 11) rfl) dX6_passOne_221 ?_
                                              refine lv_iload_n hx hb dX6_passOne_224 rfl (lv_at hl 1 rfl) ?_
                                              refine m_ald (j := i169) hx hb hK hP 18 21 rfl (by decide) (by omega) dX6_passOne_225 ?_
                                              refine W.eq (g2 := F0 m 226 ls [.int ((z180.1 21 i169)), .int ((m_degreesOf z180 (((nI (5)) * ((z180.1 20 i169))) + (nI (i180))))), .int (((nI (3000 * i169)) + ((nI (5)) * ((z180.1 1 0)))) + (nI (i180))), .ref (a 23)]) rfl ?_
                                              refine lv_aload_n hx hb dX6_passOne_226 rfl (lv_at hl 2 rfl) ?_
                                              refine m_get (v := .int ((z180.1 1 0))) hx hb hts hin hown hK hP 1 (by decide) rfl (index := 109) (List.mem_of_getElem? (i := 9) rfl) dX6_passOne_227 ?_
                                              refine lv_iconst (v := nI (1)) hx hb dX6_passOne_230 (by decide) ?_
                                              refine lv_iadd (x := (z180.1 1 0)) (y := nI (1)) hx hb dX6_passOne_231 ?_
                                              refine lv_aload_n hx hb dX6_passOne_232 rfl (lv_at hl 2 rfl) ?_
                                              refine m_get (v := .ref (a 22)) hx hb hts hin hown hK hP 22 (by decide) rfl (index := 65) (List.mem_of_getElem? (i := 12) rfl) dX6_passOne_233 ?_
                                              refine lv_iload_n hx hb dX6_passOne_236 rfl (lv_at hl 1 rfl) ?_
                                              refine m_ald (j := i169) hx hb hK hP 19 22 rfl (by decide) (by omega) dX6_passOne_237 ?_
                                              refine W.eq (g2 := F0 m 238 ls [.int ((z180.1 22 i169)), .int (((z180.1 1 0)) + (nI (1))), .int ((z180.1 21 i169)), .int ((m_degreesOf z180 (((nI (5)) * ((z180.1 20 i169))) + (nI (i180))))), .int (((nI (3000 * i169)) + ((nI (5)) * ((z180.1 1 0)))) + (nI (i180))), .ref (a 23)]) rfl ?_
                                              refine lv_isub (x := ((z180.1 1 0)) + (nI (1))) (y := (z180.1 22 i169)) hx hb dX6_passOne_238 ?_
                                              refine lv_imul (x := (z180.1 21 i169)) (y := (((z180.1 1 0)) + (nI (1))) - ((z180.1 22 i169))) hx hb dX6_passOne_239 ?_
                                              refine lv_bipush (v := nI (12)) hx hb dX6_passOne_240 (by decide) ?_
                                              refine lv_idiv (x := ((z180.1 21 i169)) * ((((z180.1 1 0)) + (nI (1))) - ((z180.1 22 i169)))) (y := nI (12)) hx hb dX6_passOne_242 (by decide) ?_
                                              refine lv_iadd (x := (m_degreesOf z180 (((nI (5)) * ((z180.1 20 i169))) + (nI (i180))))) (y := (((z180.1 21 i169)) * ((((z180.1 1 0)) + (nI (1))) - ((z180.1 22 i169)))) / (nI (12))) hx hb dX6_passOne_243 ?_
                                              refine m_astI (j := ((nI (3000 * i169)) + ((nI (5)) * ((z180.1 1 0)))) + (nI (i180))) (v := ((m_degreesOf z180 (((nI (5)) * ((z180.1 20 i169))) + (nI (i180))))) + ((((z180.1 21 i169)) * ((((z180.1 1 0)) + (nI (1))) - ((z180.1 22 i169)))) / (nI (12)))) hx hb hK hP hD hS 20 23 rfl rfl (by rw [k180 1 (by omega)]; exact vp_rdN (by omega) hm (vp_in_nI (by omega) (by decide))) dX6_passOne_244 (fun H locs hP hD hS => ?_)
                                              obtain ⟨s_27, e_28⟩ : ∃ z : Sg, z = (si z180 23 ((((nI (3000 * i169)) + ((nI (5)) * ((z180.1 1 0)))) + (nI (i180))).toNatClampNeg) (((m_degreesOf z180 (((nI (5)) * ((z180.1 20 i169))) + (nI (i180))))) + ((((z180.1 21 i169)) * ((((z180.1 1 0)) + (nI (1))) - ((z180.1 22 i169)))) / (nI (12))))) := ⟨_, rfl⟩
                                              rw [← e_28] at hP hD
                                              have hR_29 : m_passOne_b180 i169 i180 z180 = m_passOne_k245 i169 i180 z180 s_27 := (by have q_ := e_28.symm; subst q_; unfold m_passOne_b180; rfl)
                                              refine n_iinc (x := i180) (dN := 1) (k := 0) (lv' := [(4, .int (nI (i180 + 1))), (3, .int (nI (i169))), (0, .ref (a 0)), (1, .int (air)), (2, .int (snow))]) hx hb dX6_passOne_245 hl rfl (by decide) rfl (fun ls hl => ?_)
                                              refine lv_goto (tgt := 180) hx hb dX6_passOne_248 (by decide) ?_
                                              exact (hWW _ _ _ _ _).mp (ih180 (i180 + 1) (by omega) (by omega) (s_27) (by show _ = m_passOne_b180 i169 i180 (lp (m_passOne_b180 i169) i180 z169); rw [← hz180]; exact (Eq.trans (by unfold m_passOne_k245; rfl) hR_29.symm))  _ _ hP hD hS _ (lv_sub hl [0, 1, 2, 3, 4] rfl))
                                        exact (hWW _ _ _ _ _).mp (L180 (5 + 1) 0 (Nat.zero_le _) (by omega) z169 rfl  _ _ hP hD hS _ (lv_sub hl [0, 1, 2, 3, 4] rfl))
                                  exact (hWW _ _ _ _ _).mp (L169 ((σ.1 19 0).toNatClampNeg + 1) 0 (Nat.zero_le _) (by omega) z116 rfl  _ _ hP hD hS _ (lv_sub hl [0, 1, 2, 3] rfl))
                                · refine lv_aload_n hx hb dX6_passOne_124 rfl (lv_at hl 1 rfl) ?_
                                  refine m_get (v := .ref (a 17)) hx hb hts hin hown hK hP 17 (by decide) rfl (index := 53) (List.mem_of_getElem? (i := 3) rfl) dX6_passOne_125 ?_
                                  refine lv_iload_n hx hb dX6_passOne_128 rfl (lv_at hl 0 rfl) ?_
                                  refine lv_dup2_11 hx hb dX6_passOne_129 rfl rfl ?_
                                  refine m_ald (j := i116) hx hb hK hP 15 17 rfl (by decide) (by omega) dX6_passOne_130 ?_
                                  refine W.eq (g2 := F0 m 131 ls [.int ((z116.1 17 i116)), .int (nI (i116)), .ref (a 17)]) rfl ?_
                                  refine lv_aload_n hx hb dX6_passOne_131 rfl (lv_at hl 1 rfl) ?_
                                  refine m_get (v := .ref (a 10)) hx hb hts hin hown hK hP 10 (by decide) rfl (index := 34) (List.mem_of_getElem? (i := 4) rfl) dX6_passOne_132 ?_
                                  refine lv_iconst (v := nI (5)) hx hb dX6_passOne_135 (by decide) ?_
                                  refine lv_aload_n hx hb dX6_passOne_136 rfl (lv_at hl 1 rfl) ?_
                                  refine m_get (v := .ref (a 14)) hx hb hts hin hown hK hP 14 (by decide) rfl (index := 43) (List.mem_of_getElem? (i := 5) rfl) dX6_passOne_137 ?_
                                  refine lv_iload_n hx hb dX6_passOne_140 rfl (lv_at hl 0 rfl) ?_
                                  refine m_ald (j := i116) hx hb hK hP 12 14 rfl (by decide) (by omega) dX6_passOne_141 ?_
                                  refine W.eq (g2 := F0 m 142 ls [.int ((z116.1 14 i116)), .int (nI (5)), .ref (a 10), .int ((z116.1 17 i116)), .int (nI (i116)), .ref (a 17)]) rfl ?_
                                  refine lv_imul (x := nI (5)) (y := (z116.1 14 i116)) hx hb dX6_passOne_142 ?_
                                  refine lv_aload_n hx hb dX6_passOne_143 rfl (lv_at hl 1 rfl) ?_
                                  refine m_get (v := .ref (a 15)) hx hb hts hin hown hK hP 15 (by decide) rfl (index := 46) (List.mem_of_getElem? (i := 6) rfl) dX6_passOne_144 ?_
                                  refine lv_iload_n hx hb dX6_passOne_147 rfl (lv_at hl 0 rfl) ?_
                                  refine m_ald (j := i116) hx hb hK hP 13 15 rfl (by decide) (by omega) dX6_passOne_148 ?_
                                  refine W.eq (g2 := F0 m 149 ls [.int ((z116.1 15 i116)), .int ((nI (5)) * ((z116.1 14 i116))), .ref (a 10), .int ((z116.1 17 i116)), .int (nI (i116)), .ref (a 17)]) rfl ?_
                                  refine lv_iadd (x := (nI (5)) * ((z116.1 14 i116))) (y := (z116.1 15 i116)) hx hb dX6_passOne_149 ?_
                                  refine m_aldI (j := ((nI (5)) * ((z116.1 14 i116))) + ((z116.1 15 i116))) hx hb hK hP 9 10 rfl (by rw [k116 14 (by omega), k116 15 (by omega)]; exact vp_5l (hO.2.2.2.2.1 i116 (by omega)).1 (hO.2.2.2.2.1 i116 (by omega)).2.1) dX6_passOne_150 ?_
                                  refine W.eq (g2 := F0 m 151 ls [.int ((z116.1 10 ((((nI (5)) * ((z116.1 14 i116))) + ((z116.1 15 i116))).toNatClampNeg))), .int ((z116.1 17 i116)), .int (nI (i116)), .ref (a 17)]) rfl ?_
                                  have J159_33 : ∀ (x_32 : Int32), x_32 = (if (z116.1 10 ((((nI (5)) * ((z116.1 14 i116))) + ((z116.1 15 i116))).toNatClampNeg)) < 0 then nI (0) else nI (1)) → ∀ (H : Heap) (locs : List Loc), va_P G vwCl (wm cI cZ a z116) H → va_D (mA a) (wm cI cZ a z116) → va_S (mA a) s.heap H locs → ∀ (ls : Array Slot), lv_has ls 5 [(3, .int (nI (i116))), (0, .ref (a 0)), (1, .int (air)), (2, .int (snow))] → WW H locs 0 0 (F0 m 159 ls [.int (x_32), .int ((z116.1 17 i116)), .int (nI (i116)), .ref (a 17)]) := by
                                    intro x_32 h_34 H locs hP hD hS ls hl
                                    refine (hWW _ _ _ _ _).mpr ?_
                                    have hR_35 : m_passOne_b116 i116 z116 = m_passOne_j159 i116 z116 x_32 := (by have q_ := h_34.symm; subst q_; unfold m_passOne_b116; rfl)
                                    refine lv_iadd (x := (z116.1 17 i116)) (y := x_32) hx hb dX6_passOne_159 ?_
                                    refine m_ast (j := i116) (v := ((z116.1 17 i116)) + (x_32)) hx hb hK hP hD hS 15 17 rfl rfl (by decide) (by omega) dX6_passOne_160 (fun H locs hP hD hS => ?_)
                                    obtain ⟨s_36, e_37⟩ : ∃ z : Sg, z = (si z116 17 (i116) (((z116.1 17 i116)) + (x_32))) := ⟨_, rfl⟩
                                    rw [← e_37] at hP hD
                                    have hR_38 : m_passOne_b116 i116 z116 = m_passOne_k161 i116 z116 x_32 s_36 := (Eq.trans hR_35 (by have q_ := e_37.symm; subst q_; unfold m_passOne_j159; rfl))
                                    refine n_iinc (x := i116) (dN := 1) (k := 0) (lv' := [(3, .int (nI (i116 + 1))), (0, .ref (a 0)), (1, .int (air)), (2, .int (snow))]) hx hb dX6_passOne_161 hl rfl (by decide) rfl (fun ls hl => ?_)
                                    refine lv_goto (tgt := 116) hx hb dX6_passOne_164 (by decide) ?_
                                    exact (hWW _ _ _ _ _).mp (ih116 (i116 + 1) (by omega) (by omega) (s_36) (by show _ = m_passOne_b116 i116 (lp (m_passOne_b116) i116 z96); rw [← hz116]; exact (Eq.trans (by unfold m_passOne_k161; rfl) hR_38.symm))  _ _ hP hD hS _ (lv_sub hl [0, 1, 2, 3] rfl))
                                  refine lv_if_lt (x := (z116.1 10 ((((nI (5)) * ((z116.1 14 i116))) + ((z116.1 15 i116))).toNatClampNeg))) (tgt := 158) hx hb dX6_passOne_151 (by decide) (fun c_30 => ?_) (fun c_30 => ?_)
                                  · refine lv_iconst (v := nI (0)) hx hb dX6_passOne_158 (by decide) ?_
                                    exact (hWW _ _ _ _ _).mp (J159_33 _ (by simp only [if_pos c_30]) _ _ hP hD hS _ (lv_sub hl [0, 1, 2, 3] rfl))
                                  · refine lv_iconst (v := nI (1)) hx hb dX6_passOne_154 (by decide) ?_
                                    refine lv_goto (tgt := 159) hx hb dX6_passOne_155 (by decide) ?_
                                    exact (hWW _ _ _ _ _).mp (J159_33 _ (by simp only [if_neg c_30]) _ _ hP hD hS _ (lv_sub hl [0, 1, 2, 3] rfl))
                            exact (hWW _ _ _ _ _).mp (L116 ((σ.1 13 0).toNatClampNeg + 1) 0 (Nat.zero_le _) (by omega) z96 rfl  _ _ hP hD hS _ (lv_sub hl [0, 1, 2, 3] rfl))
                          · refine lv_aload_n hx hb dX6_passOne_102 rfl (lv_at hl 1 rfl) ?_
                            refine lv_iload_n hx hb dX6_passOne_103 rfl (lv_at hl 0 rfl) ?_
                            refine lv_iload_n hx hb dX6_passOne_104 rfl (lv_at hl 2 rfl) ?_
                            refine m_callV (As := [.int (nI (i96)), .int (air)]) (rest := []) (fun _ h => h) ⟨hx, hb, hml, hown, hts⟩ (cm_wake l G cI cZ a z96  i96 air (by omega)) (cwV 2 hts gX6_passOne_X6_wake rfl rfl rfl (by decide +kernel) ⟨Nat.le_of_ble_eq_true rfl, Nat.le_of_ble_eq_true rfl⟩) hK hP hD hS rfl hl.1 rfl (Nat.le_of_ble_eq_true rfl) dX6_passOne_105 ⟨Nat.zero_le _, Nat.zero_le _⟩ (fun H locs hP hD _ _ hS => ?_)
                            obtain ⟨s_39, e_40⟩ : ∃ z : Sg, z = (m_wake_s z96 i96 air) := ⟨_, rfl⟩
                            rw [← e_40] at hP hD
                            have hR_41 : m_passOne_b96 air i96 z96 = m_passOne_k108 air i96 z96 s_39 := (by have q_ := e_40.symm; subst q_; unfold m_passOne_b96; rfl)
                            refine n_iinc (x := i96) (dN := 1) (k := 0) (lv' := [(3, .int (nI (i96 + 1))), (0, .ref (a 0)), (1, .int (air)), (2, .int (snow))]) hx hb dX6_passOne_108 hl rfl (by decide) rfl (fun ls hl => ?_)
                            refine lv_goto (tgt := 96) hx hb dX6_passOne_111 (by decide) ?_
                            exact (hWW _ _ _ _ _).mp (ih96 (i96 + 1) (by omega) (by omega) (s_39) (by show _ = m_passOne_b96 air i96 (lp (m_passOne_b96 air) i96 τ_12); rw [← hz96]; exact (Eq.trans (by unfold m_passOne_k108; rfl) hR_41.symm))  _ _ hP hD hS _ (lv_sub hl [0, 1, 2, 3] rfl))
                      exact (hWW _ _ _ _ _).mp (L96 (25 + 1) 0 (Nat.zero_le _) (by omega) τ_12 rfl  _ _ hP hD hS _ (lv_sub hl [0, 1, 2, 3] rfl))
                    refine lv_icmp_gt (x := air) (y := (-20)) (tgt := 94) hx hb dX6_passOne_87 (by decide) (fun c_10 => ?_) (fun c_10 => ?_)
                    · exact (hWW _ _ _ _ _).mp (J94_13 _ (by simp only [if_pos c_10]) _ _ hP hD hS _ (lv_sub hl [0, 1, 2, 3] rfl))
                    · refine lv_aload_n hx hb dX6_passOne_90 rfl (lv_at hl 1 rfl) ?_
                      refine m_callV (As := []) (rest := []) (fun _ h => h) ⟨hx, hb, hml, hown, hts⟩ (cm_crack l G cI cZ a z67   ) (cwV 0 hts gX6_passOne_X6_crack rfl rfl rfl (by decide +kernel) ⟨Nat.le_of_ble_eq_true rfl, Nat.le_of_ble_eq_true rfl⟩) hK hP hD hS rfl hl.1 rfl (Nat.le_of_ble_eq_true rfl) dX6_passOne_91 ⟨Nat.zero_le _, Nat.zero_le _⟩ (fun H locs hP hD _ _ hS => ?_)
                      exact (hWW _ _ _ _ _).mp (J94_13 _ (by simp only [if_neg c_10]) _ _ hP hD hS _ (lv_sub hl [0, 1, 2, 3] rfl))
                  · refine lv_aload_n hx hb dX6_passOne_73 rfl (lv_at hl 1 rfl) ?_
                    refine lv_iload_n hx hb dX6_passOne_74 rfl (lv_at hl 0 rfl) ?_
                    refine m_callV (As := [.int (nI (i67))]) (rest := []) (fun _ h => h) ⟨hx, hb, hml, hown, hts⟩ (cm_flow l G cI cZ a z67  i67 (by omega)) (cwV 1 hts gX6_passOne_X6_flow rfl rfl rfl (by decide +kernel) ⟨Nat.le_of_ble_eq_true rfl, Nat.le_of_ble_eq_true rfl⟩) hK hP hD hS rfl hl.1 rfl (Nat.le_of_ble_eq_true rfl) dX6_passOne_75 ⟨Nat.zero_le _, Nat.zero_le _⟩ (fun H locs hP hD _ _ hS => ?_)
                    obtain ⟨s_42, e_43⟩ : ∃ z : Sg, z = (m_flow_s z67 i67) := ⟨_, rfl⟩
                    rw [← e_43] at hP hD
                    have hR_44 : m_passOne_b67 i67 z67 = m_passOne_k78 i67 z67 s_42 := (by have q_ := e_43.symm; subst q_; unfold m_passOne_b67; rfl)
                    refine n_iinc (x := i67) (dN := 1) (k := 0) (lv' := [(3, .int (nI (i67 + 1))), (0, .ref (a 0)), (1, .int (air)), (2, .int (snow))]) hx hb dX6_passOne_78 hl rfl (by decide) rfl (fun ls hl => ?_)
                    refine lv_goto (tgt := 67) hx hb dX6_passOne_81 (by decide) ?_
                    exact (hWW _ _ _ _ _).mp (ih67 (i67 + 1) (by omega) (by omega) (s_42) (by show _ = m_passOne_b67 i67 (lp (m_passOne_b67) i67 z48); rw [← hz67]; exact (Eq.trans (by unfold m_passOne_k78; rfl) hR_44.symm))  _ _ hP hD hS _ (lv_sub hl [0, 1, 2, 3] rfl))
              exact (hWW _ _ _ _ _).mp (L67 (25 + 1) 0 (Nat.zero_le _) (by omega) z48 rfl  _ _ hP hD hS _ (lv_sub hl [0, 1, 2, 3] rfl))
            · refine lv_aload_n hx hb dX6_passOne_54 rfl (lv_at hl 1 rfl) ?_
              refine lv_iload_n hx hb dX6_passOne_55 rfl (lv_at hl 0 rfl) ?_
              refine m_callV (As := [.int (nI (i48))]) (rest := []) (fun _ h => h) ⟨hx, hb, hml, hown, hts⟩ (cm_sink l G cI cZ a z48  i48 (by omega)) (cwV 1 hts gX6_passOne_X6_sink rfl rfl rfl (by decide +kernel) ⟨Nat.le_of_ble_eq_true rfl, Nat.le_of_ble_eq_true rfl⟩) hK hP hD hS rfl hl.1 rfl (Nat.le_of_ble_eq_true rfl) dX6_passOne_56 ⟨Nat.zero_le _, Nat.zero_le _⟩ (fun H locs hP hD _ _ hS => ?_)
              obtain ⟨s_45, e_46⟩ : ∃ z : Sg, z = (m_sink_s z48 i48) := ⟨_, rfl⟩
              rw [← e_46] at hP hD
              have hR_47 : m_passOne_b48 i48 z48 = m_passOne_k59 i48 z48 s_45 := (by have q_ := e_46.symm; subst q_; unfold m_passOne_b48; rfl)
              refine n_iinc (x := i48) (dN := 1) (k := 0) (lv' := [(3, .int (nI (i48 + 1))), (0, .ref (a 0)), (1, .int (air)), (2, .int (snow))]) hx hb dX6_passOne_59 hl rfl (by decide) rfl (fun ls hl => ?_)
              refine lv_goto (tgt := 48) hx hb dX6_passOne_62 (by decide) ?_
              exact (hWW _ _ _ _ _).mp (ih48 (i48 + 1) (by omega) (by omega) (s_45) (by show _ = m_passOne_b48 i48 (lp (m_passOne_b48) i48 s_3); rw [← hz48]; exact (Eq.trans (by unfold m_passOne_k59; rfl) hR_47.symm))  _ _ hP hD hS _ (lv_sub hl [0, 1, 2, 3] rfl))
        exact (hWW _ _ _ _ _).mp (L48 (125 + 1) 0 (Nat.zero_le _) (by omega) s_3 rfl  _ _ hP hD hS _ (lv_sub hl [0, 1, 2, 3] rfl))
      · refine lv_aload_n hx hb dX6_passOne_8 rfl (lv_at hl 1 rfl) ?_
        refine m_get (v := .ref (a 4)) hx hb hts hin hown hK hP 4 (by decide) rfl (index := 16) (List.mem_of_getElem? (i := 1) rfl) dX6_passOne_9 ?_
        refine lv_iload_n hx hb dX6_passOne_12 rfl (lv_at hl 0 rfl) ?_
        refine lv_iload_n hx hb dX6_passOne_13 rfl (lv_at hl 2 rfl) ?_
        have J34_51 : ∀ (x_50 : Int32), x_50 = (if 0 ≤ air then nI (0) else (m_lesser (nI (9)) (((z2.1 4 i2)) + (snow)))) → ∀ (H : Heap) (locs : List Loc), va_P G vwCl (wm cI cZ a z2) H → va_D (mA a) (wm cI cZ a z2) → va_S (mA a) s.heap H locs → ∀ (ls : Array Slot), lv_has ls 5 [(3, .int (nI (i2))), (0, .ref (a 0)), (1, .int (air)), (2, .int (snow))] → WW H locs 0 0 (F0 m 34 ls [.int (x_50), .int (nI (i2)), .ref (a 4)]) := by
          intro x_50 h_52 H locs hP hD hS ls hl
          refine (hWW _ _ _ _ _).mpr ?_
          have hR_53 : m_passOne_b2 air snow i2 z2 = m_passOne_j34 air snow i2 z2 x_50 := (by have q_ := h_52.symm; subst q_; unfold m_passOne_b2; rfl)
          refine m_ast (j := i2) (v := x_50) hx hb hK hP hD hS 3 4 rfl rfl (by decide) (by omega) dX6_passOne_34 (fun H locs hP hD hS => ?_)
          obtain ⟨s_54, e_55⟩ : ∃ z : Sg, z = (si z2 4 (i2) (x_50)) := ⟨_, rfl⟩
          rw [← e_55] at hP hD
          have hR_56 : m_passOne_b2 air snow i2 z2 = m_passOne_k35 air snow i2 z2 x_50 s_54 := (Eq.trans hR_53 (by have q_ := e_55.symm; subst q_; unfold m_passOne_j34; rfl))
          refine n_iinc (x := i2) (dN := 1) (k := 0) (lv' := [(3, .int (nI (i2 + 1))), (0, .ref (a 0)), (1, .int (air)), (2, .int (snow))]) hx hb dX6_passOne_35 hl rfl (by decide) rfl (fun ls hl => ?_)
          refine lv_goto (tgt := 2) hx hb dX6_passOne_38 (by decide) ?_
          exact (hWW _ _ _ _ _).mp (ih2 (i2 + 1) (by omega) (by omega) (s_54) (by show _ = m_passOne_b2 air snow i2 (lp (m_passOne_b2 air snow) i2 σ); rw [← hz2]; exact (Eq.trans (by unfold m_passOne_k35; rfl) hR_56.symm))  _ _ hP hD hS _ (lv_sub hl [0, 1, 2, 3] rfl))
        refine lv_if_ge (x := air) (tgt := 33) hx hb dX6_passOne_14 (by decide) (fun c_48 => ?_) (fun c_48 => ?_)
        · refine lv_iconst (v := nI (0)) hx hb dX6_passOne_33 (by decide) ?_
          exact (hWW _ _ _ _ _).mp (J34_51 _ (by simp only [if_pos c_48]) _ _ hP hD hS _ (lv_sub hl [0, 1, 2, 3] rfl))
        · refine lv_bipush (v := nI (9)) hx hb dX6_passOne_17 (by decide) ?_
          refine lv_aload_n hx hb dX6_passOne_19 rfl (lv_at hl 1 rfl) ?_
          refine m_get (v := .ref (a 4)) hx hb hts hin hown hK hP 4 (by decide) rfl (index := 16) (List.mem_of_getElem? (i := 1) rfl) dX6_passOne_20 ?_
          refine lv_iload_n hx hb dX6_passOne_23 rfl (lv_at hl 0 rfl) ?_
          refine m_ald (j := i2) hx hb hK hP 3 4 rfl (by decide) (by omega) dX6_passOne_24 ?_
          refine W.eq (g2 := F0 m 25 ls [.int ((z2.1 4 i2)), .int (nI (9)), .int (nI (i2)), .ref (a 4)]) rfl ?_
          refine lv_iload_n hx hb dX6_passOne_25 rfl (lv_at hl 3 rfl) ?_
          refine lv_iadd (x := (z2.1 4 i2)) (y := snow) hx hb dX6_passOne_26 ?_
          refine m_callS (As := [.int (nI (9)), .int (((z2.1 4 i2)) + (snow))]) (rest := [.int (nI (i2)), .ref (a 4)]) ⟨hx, hb, hml, hown, hts⟩ (cm_lesser l (nI (9)) (((z2.1 4 i2)) + (snow)) ) (va_cwS 2 hts gX6_passOne_X6_lesser rfl rfl rfl (by decide +kernel) ⟨Nat.le_of_ble_eq_true rfl, Nat.le_of_ble_eq_true rfl⟩) hP hS rfl hl.1 rfl (Nat.le_of_ble_eq_true rfl) dX6_passOne_27 ⟨Nat.zero_le _, Nat.zero_le _⟩ (fun H locs hP hS => ?_)
          refine lv_goto (tgt := 34) hx hb dX6_passOne_30 (by decide) ?_
          exact (hWW _ _ _ _ _).mp (J34_51 _ (by simp only [if_neg c_48]) _ _ hP hD hS _ (lv_sub hl [0, 1, 2, 3] rfl))
  exact (hWW _ _ _ _ _).mp (L2 (25 + 1) 0 (Nat.zero_le _) (by omega) σ rfl  _ _ hP hD hS _ (lv_sub hl [0, 1, 2, 3] rfl))
