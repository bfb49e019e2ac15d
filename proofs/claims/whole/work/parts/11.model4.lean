def m_passOne_x169_s (σ : Sg) (air : Int32) (snow : Int32) (z2 : Sg) (z48 : Sg) (z67 : Sg) (τ_9 : Sg) (z96 : Sg) (z116 : Sg) (z169 : Sg) : Sg := (si z169 1 (0) (((z169.1 1 0)) + (nI (1))))
def m_passOne_x180 (i169 : Nat) (z169 : Sg) (z180 : Sg) : Sg := z180
def m_passOne_k245 (i169 : Nat) (i180 : Nat) (z180 : Sg) (s_21 : Sg) : Sg := s_21
def m_passOne_b180 (i169 : Nat) (i180 : Nat) (z180 : Sg) : Sg := (m_passOne_k245 i169 i180 z180 (si z180 23 ((((nI (3000 * i169)) + ((nI (5)) * ((z180.1 1 0)))) + (nI (i180))).toNatClampNeg) (((m_degreesOf z180 (((nI (5)) * ((z180.1 20 i169))) + (nI (i180))))) + ((((z180.1 21 i169)) * ((((z180.1 1 0)) + (nI (1))) - ((z180.1 22 i169)))) / (nI (12))))))
def m_passOne_b169  (i169 : Nat) (z169 : Sg) : Sg := (m_passOne_x180 i169 z169 (lp (m_passOne_b180 i169) 5 z169))
def m_passOne_x116_s (σ : Sg) (air : Int32) (snow : Int32) (z2 : Sg) (z48 : Sg) (z67 : Sg) (τ_9 : Sg) (z96 : Sg) (z116 : Sg) : Sg := (m_passOne_x169_s σ air snow z2 z48 z67 τ_9 z96 z116 (lp (m_passOne_b169) ((σ.1 19 0).toNatClampNeg) z116))
def m_passOne_j159 (i116 : Nat) (z116 : Sg) (x_26 : Int32) : Sg := (si z116 17 (i116) (((z116.1 17 i116)) + (x_26)))
def m_passOne_b116  (i116 : Nat) (z116 : Sg) : Sg := (m_passOne_j159 i116 z116 (if (z116.1 10 ((((nI (5)) * ((z116.1 14 i116))) + ((z116.1 15 i116))).toNatClampNeg)) < 0 then nI (0) else nI (1)))
def m_passOne_x96_s (σ : Sg) (air : Int32) (snow : Int32) (z2 : Sg) (z48 : Sg) (z67 : Sg) (τ_9 : Sg) (z96 : Sg) : Sg := (m_passOne_x116_s σ air snow z2 z48 z67 τ_9 z96 (lp (m_passOne_b116) ((σ.1 13 0).toNatClampNeg) z96))
def m_passOne_b96 (air : Int32) (i96 : Nat) (z96 : Sg) : Sg := (m_wake_s z96 i96 air)
def m_passOne_j94_s (σ : Sg) (air : Int32) (snow : Int32) (z2 : Sg) (z48 : Sg) (z67 : Sg) (τ_9 : Sg) : Sg := (m_passOne_x96_s σ air snow z2 z48 z67 τ_9 (lp (m_passOne_b96 air) 25 τ_9))
def m_passOne_x67_s (σ : Sg) (air : Int32) (snow : Int32) (z2 : Sg) (z48 : Sg) (z67 : Sg) : Sg := (m_passOne_j94_s σ air snow z2 z48 z67 (if (-20) < air then z67 else (m_crack_s z67)))
def m_passOne_b67  (i67 : Nat) (z67 : Sg) : Sg := (m_flow_s z67 i67)
def m_passOne_x48_s (σ : Sg) (air : Int32) (snow : Int32) (z2 : Sg) (z48 : Sg) : Sg := (m_passOne_x67_s σ air snow z2 z48 (lp (m_passOne_b67) 25 z48))
def m_passOne_b48  (i48 : Nat) (z48 : Sg) : Sg := (m_sink_s z48 i48)
def m_passOne_x2_s (σ : Sg) (air : Int32) (snow : Int32) (z2 : Sg) : Sg := (m_passOne_x48_s σ air snow z2 (lp (m_passOne_b48) 125 (m_heat_s z2 air)))
def m_passOne_j34 (air : Int32) (snow : Int32) (i2 : Nat) (z2 : Sg) (x_32 : Int32) : Sg := (si z2 4 (i2) (x_32))
def m_passOne_b2 (air snow : Int32) (i2 : Nat) (z2 : Sg) : Sg := (m_passOne_j34 air snow i2 z2 (if 0 ≤ air then nI (0) else (m_lesser (nI (9)) (((z2.1 4 i2)) + (snow)))))
def m_passOne_s (σ : Sg) (air : Int32) (snow : Int32) : Sg := (m_passOne_x2_s σ air snow (lp (m_passOne_b2 air snow) 25 σ))
theorem m_p2 (k : Nat) (hk : k ≠ 4) {air snow : Int32} (n : Nat) (z : Sg) : (lp (m_passOne_b2 air snow) n z).1 k = z.1 k := lp_kp (fun i z => by simp [m_passOne_b2, m_passOne_j34, si, hk]) n z
theorem m_heat_k (k : Nat) (hk : k ≠ 10 ∧ k ≠ 12) {σ : Sg} {air : Int32} : (m_heat_s σ air).1 k = σ.1 k := by
  unfold m_heat_s m_heat_x2_s m_heat_x27_s m_heat_x194_s
  rw [m_heat_k194 k hk.1, m_heat_k27 k hk.1, m_heat_k2 k hk.2]
theorem m_p48 (k : Nat) (hk : k ≠ 2 ∧ k ≠ 3 ∧ k ≠ 9 ∧ k ≠ 10) (n : Nat) (z : Sg) : (lp (m_passOne_b48) n z).1 k = z.1 k := lp_kp (fun i z => by simp [m_passOne_b48, m_sink_s, m_sink_k41_s, m_sink_k65_s, si, hk]) n z
theorem m_p67 (k : Nat) (hk : k ≠ 3) (n : Nat) (z : Sg) : (lp (m_passOne_b67) n z).1 k = z.1 k := lp_kp (fun i z => by
  unfold m_passOne_b67 m_flow_s m_flow_x4_s m_flow_j152_s
  split
  · rfl
  · simp [si, hk]) n z
theorem m_crack_k (k : Nat) (hk : k ≠ 2 ∧ k ≠ 3 ∧ k ≠ 6 ∧ k ≠ 9 ∧ k ≠ 10) (z : Sg) : (m_crack_s z).1 k = z.1 k := by
  unfold m_crack_s m_crack_x4_s m_crack_j132_s
  split
  · split
    · simp [si, hk]
    · split <;> simp [si, hk]
  · rfl
theorem m_pcr {P : Prop} [Decidable P] (k : Nat) (hk : k ≠ 2 ∧ k ≠ 3 ∧ k ≠ 6 ∧ k ≠ 9 ∧ k ≠ 10) (z : Sg) : (if P then (m_crack_s z) else z).1 k = z.1 k := by
  split
  · exact m_crack_k k hk z
  · rfl
theorem m_wake_k4 (k : Nat) (hk : k ≠ 11) (c n : Nat) (z : Sg) : (lp (m_wake_b4 c) n z).1 k = z.1 k := lp_kp (fun i z => by
  unfold m_wake_b4 m_wake_j115
  split
  · rfl
  · simp [si, sl, hk]) n z
theorem m_p96 (k : Nat) (hk : k ≠ 11) {air : Int32} (n : Nat) (z : Sg) : (lp (m_passOne_b96 air) n z).1 k = z.1 k := lp_kp (fun i z => by
  unfold m_passOne_b96 m_wake_s m_wake_x4_s m_wake_j166_s
  split
  · exact m_wake_k4 k hk _ _ _
  · split
    · simp only [si, sl, if_neg hk]; exact m_wake_k4 k hk _ _ _
    · exact m_wake_k4 k hk _ _ _) n z
theorem m_p116 (k : Nat) (hk : k ≠ 17) (n : Nat) (z : Sg) : (lp (m_passOne_b116) n z).1 k = z.1 k := lp_kp (fun i z => by simp [m_passOne_b116, m_passOne_j159, si, hk]) n z
theorem m_p180 (k : Nat) (hk : k ≠ 23) (b n : Nat) (z : Sg) : (lp (m_passOne_b180 b) n z).1 k = z.1 k := lp_kp (fun i z => by simp [m_passOne_b180, m_passOne_k245, si, hk]) n z
theorem m_p169 (k : Nat) (hk : k ≠ 23) (n : Nat) (z : Sg) : (lp (m_passOne_b169) n z).1 k = z.1 k := lp_kp (fun i z => by unfold m_passOne_b169 m_passOne_x180; exact m_p180 k hk _ _ _) n z
theorem m_snow_in {x y : Int32} (hx : vp_in x 10) (hy : vp_in y 10) : vp_in (m_lesser (nI 9) (x + y)) 10 := by
  obtain ⟨i, hi, rfl⟩ := vp_in_of hx (by decide)
  obtain ⟨j, hj, rfl⟩ := vp_in_of hy (by decide)
  rw [nI_add]
  unfold m_lesser
  by_cases h : nI (i + j) ≤ nI 9
  · rw [if_pos h]
    exact vp_in_nI (by have := (nI_leI (by omega) (by decide)).mp h; omega) (by decide)
  · rw [if_neg h]; exact vp_in_nI (by decide) (by decide)
theorem m_ok_snow {σ : Sg} {air snow : Int32} (hO : mOK σ) (hs : vp_in snow 10) (i : Nat) (hi : i ≤ 25) : mOK (lp (m_passOne_b2 air snow) i σ) := by
  have hk : ∀ k, k ≠ 4 → (lp (m_passOne_b2 air snow) i σ).1 k = σ.1 k := fun k h => m_p2 k h i σ
  have h4 : ∀ c, c < 25 → vp_in ((lp (m_passOne_b2 air snow) i σ).1 4 c) 10 := by
    refine lp_inv (P := fun _ (z : Sg) => ∀ c, c < 25 → vp_in (z.1 4 c) 10) (fun c hc => (hO.2.2.2.2.2.2 c hc).1) ?_ i
    intro i z hz c hc
    unfold m_passOne_b2 m_passOne_j34
    by_cases hci : c = i
    · subst hci
      simp only [si, upd, if_true]
      by_cases ha : 0 ≤ air
      · rw [if_pos ha]; exact vp_in_nI (by decide) (by decide)
      · rw [if_neg ha]; exact m_snow_in (hz c hc) hs
    · simp only [si, upd, if_true, if_neg hci]; exact hz c hc
  unfold mOK
  rw [hk 13 (by decide), hk 19 (by decide), hk 24 (by decide), hk 1 (by decide), hk 14 (by decide), hk 15 (by decide), hk 18 (by decide), hk 20 (by decide), hk 5 (by decide)]
  exact ⟨hO.1, hO.2.1, hO.2.2.1, hO.2.2.2.1, hO.2.2.2.2.1, hO.2.2.2.2.2.1, fun c hc => ⟨h4 c hc, (hO.2.2.2.2.2.2 c hc).2⟩⟩
set_option maxHeartbeats 4000000 in
set_option maxRecDepth 100000 in
theorem cm_passOne (l : Launch) (G : va_G) (cI cZ : ClassId) (a : Nat → Nat) (σ : Sg) (air : Int32) (snow : Int32) (hO : mOK σ) (hm : vp_in (σ.1 1 0) 600) (hs : vp_in snow 10) : mV l yX6_passOne wsX6_passOne ({ frames := 3, cells := 0, slots := 0, locals := 64 } : Room) G cI cZ a σ [.int (air), .int (snow)] (m_passOne_s σ air snow) := by
  unfold mV
  refine Met.ofW (cc := cX6_passOne) (maxL := 5) (ret := none) (by decide) rfl ?_
  intro p e s m args below meth c s₁ B hml hv
  obtain ⟨rfl, hP, hK, hD⟩ := hv
  have hx := B.exec
  have hb := B.bytes
  have hr := B.returns
  have hts := atoms_spec (ws := wsX6_passOne) B.pre
  have hown : s.vm.findClass RX6 = some m.cls := findClass_of_methodNamed B.named
  have hlocks := B.notSynchronized
  have hS : va_S (mA a) s.heap s.heap [] := va_S.rf
  have hin : ∀ w ∈ wsX60, w ∈ wsX6_passOne := fun w h => List.mem_cons_of_mem _ (List.mem_append_right _ h)
  have hl := lv_entry ([.ref (a 0), .int (air), .int (snow)]) (n := 5) (Nat.le_of_ble_eq_true rfl)
  rw [lg_entry_eq]
  generalize (lg_sl ([.ref (a 0), .int (air), .int (snow)]) ++ List.replicate (5 - (lg_sl ([.ref (a 0), .int (air), .int (snow)])).length) Slot.unset).toArray = ls at hl ⊢
  have hl : lv_has ls 5 [(0, .ref (a 0)), (1, .int (air)), (2, .int (snow))] := hl
  refine w_named (fun WW hWW => ?_)
  have hP : va_P G vwCl (wm cI cZ a σ) s.heap := hP
  have h13 := vp_lt hO.1
  have e13 := vp_self hO.1
  have h19 := vp_lt hO.2.1
  have e19 := vp_self hO.2.1
  refine lv_iconst (v := nI (0)) hx hb dX6_passOne_0 (by decide) ?_
  refine lv_istore_n (lv' := [(3, .int (nI (0))), (0, .ref (a 0)), (1, .int (air)), (2, .int (snow))]) hx hb dX6_passOne_1 rfl hl (by decide) rfl (fun ls hl => ?_)
  have L2 : ∀ (n2 i2 : Nat), i2 ≤ 25 → 25 + 1 ≤ i2 + n2 → ∀ (z2 : Sg), z2 = lp (m_passOne_b2 air snow) i2 σ → ∀ (H : Heap) (locs : List Loc), va_P G vwCl (wm cI cZ a z2) H → va_D (mA a) (wm cI cZ a z2) → va_S (mA a) s.heap H locs → ∀ (ls : Array Slot), lv_has ls 5 [(3, .int (nI (i2))), (0, .ref (a 0)), (1, .int (air)), (2, .int (snow))] → WW H locs 0 0 (F0 m 2 ls []) := by
    intro n2
    induction n2 with
    | zero => intro i2 h1 h2; exact absurd h2 (by omega)
    | succ n2 ih2 =>
      intro i2 hi2 hn2 z2 hz2  H locs hP hD hS ls hl
      refine (hWW _ _ _ _ _).mpr ?_
      refine lv_iload_n hx hb dX6_passOne_2 rfl (lv_at hl 0 rfl) ?_
      refine lv_bipush (v := nI (25)) hx hb dX6_passOne_3 (by decide) ?_
      refine n_icmp_ge (x := i2) (y := 25) (tgt := 41) hx hb (by omega) (by omega) dX6_passOne_5 (by decide) (fun c_1 => ?_) (fun c_1 => ?_)
      · have hiN : 25 = i2 := by omega
        subst hiN
        have hR_2 : m_passOne_s σ air snow = m_passOne_x2_s σ air snow z2 := (by subst hz2; unfold m_passOne_s; rfl)
        refine lv_aload_n hx hb dX6_passOne_41 rfl (lv_at hl 1 rfl) ?_
        refine lv_iload_n hx hb dX6_passOne_42 rfl (lv_at hl 2 rfl) ?_
        refine m_callV (As := [.int (air)]) (rest := []) (fun _ h => h) ⟨hx, hb, hml, hown, hts⟩ (cm_heat l G cI cZ a z2  air (by rw [hz2]; exact m_ok_snow hO hs 25 (Nat.le_refl _))) (cwV 1 hts gX6_passOne_X6_heat rfl rfl rfl (by decide +kernel) ⟨Nat.le_of_ble_eq_true rfl, Nat.le_of_ble_eq_true rfl⟩) hK hP hD hS rfl hl.1 rfl (Nat.le_of_ble_eq_true rfl) dX6_passOne_43 ⟨Nat.zero_le _, Nat.zero_le _⟩ (fun H locs hP hD _ _ hS => ?_)
        refine lv_iconst (v := nI (0)) hx hb dX6_passOne_46 (by decide) ?_
        refine lv_istore_n (lv' := [(3, .int (nI (0))), (0, .ref (a 0)), (1, .int (air)), (2, .int (snow))]) hx hb dX6_passOne_47 rfl hl (by decide) rfl (fun ls hl => ?_)
        have L48 : ∀ (n48 i48 : Nat), i48 ≤ 125 → 125 + 1 ≤ i48 + n48 → ∀ (z48 : Sg), z48 = lp (m_passOne_b48) i48 (m_heat_s z2 air) → ∀ (H : Heap) (locs : List Loc), va_P G vwCl (wm cI cZ a z48) H → va_D (mA a) (wm cI cZ a z48) → va_S (mA a) s.heap H locs → ∀ (ls : Array Slot), lv_has ls 5 [(3, .int (nI (i48))), (0, .ref (a 0)), (1, .int (air)), (2, .int (snow))] → WW H locs 0 0 (F0 m 48 ls []) := by
          intro n48
          induction n48 with
          | zero => intro i48 h1 h2; exact absurd h2 (by omega)
          | succ n48 ih48 =>
            intro i48 hi48 hn48 z48 hz48  H locs hP hD hS ls hl
            refine (hWW _ _ _ _ _).mpr ?_
            refine lv_iload_n hx hb dX6_passOne_48 rfl (lv_at hl 0 rfl) ?_
            refine lv_bipush (v := nI (125)) hx hb dX6_passOne_49 (by decide) ?_
            refine n_icmp_ge (x := i48) (y := 125) (tgt := 65) hx hb (by omega) (by omega) dX6_passOne_51 (by decide) (fun c_3 => ?_) (fun c_3 => ?_)
            · have hiN : 125 = i48 := by omega
              subst hiN
              have hR_4 : m_passOne_s σ air snow = m_passOne_x48_s σ air snow z2 z48 := (Eq.trans hR_2 (by subst hz48; unfold m_passOne_x2_s; rfl))
              refine lv_iconst (v := nI (0)) hx hb dX6_passOne_65 (by decide) ?_
              refine lv_istore_n (lv' := [(3, .int (nI (0))), (0, .ref (a 0)), (1, .int (air)), (2, .int (snow))]) hx hb dX6_passOne_66 rfl hl (by decide) rfl (fun ls hl => ?_)
              have L67 : ∀ (n67 i67 : Nat), i67 ≤ 25 → 25 + 1 ≤ i67 + n67 → ∀ (z67 : Sg), z67 = lp (m_passOne_b67) i67 z48 → ∀ (H : Heap) (locs : List Loc), va_P G vwCl (wm cI cZ a z67) H → va_D (mA a) (wm cI cZ a z67) → va_S (mA a) s.heap H locs → ∀ (ls : Array Slot), lv_has ls 5 [(3, .int (nI (i67))), (0, .ref (a 0)), (1, .int (air)), (2, .int (snow))] → WW H locs 0 0 (F0 m 67 ls []) := by
                intro n67
                induction n67 with
                | zero => intro i67 h1 h2; exact absurd h2 (by omega)
                | succ n67 ih67 =>
                  intro i67 hi67 hn67 z67 hz67  H locs hP hD hS ls hl
                  refine (hWW _ _ _ _ _).mpr ?_
                  refine lv_iload_n hx hb dX6_passOne_67 rfl (lv_at hl 0 rfl) ?_
                  refine lv_bipush (v := nI (25)) hx hb dX6_passOne_68 (by decide) ?_
                  refine n_icmp_ge (x := i67) (y := 25) (tgt := 84) hx hb (by omega) (by omega) dX6_passOne_70 (by decide) (fun c_5 => ?_) (fun c_5 => ?_)
                  · have hiN : 25 = i67 := by omega
                    subst hiN
                    have hR_6 : m_passOne_s σ air snow = m_passOne_x67_s σ air snow z2 z48 z67 := (Eq.trans hR_4 (by subst hz67; unfold m_passOne_x48_s; rfl))
                    refine lv_iload_n hx hb dX6_passOne_84 rfl (lv_at hl 2 rfl) ?_
                    refine lv_bipush (v := (-20)) hx hb dX6_passOne_85 (by decide) ?_
                    have J94_10 : ∀ (τ_9 : Sg), τ_9 = (if (-20) < air then z67 else (m_crack_s z67)) → ∀ (H : Heap) (locs : List Loc), va_P G vwCl (wm cI cZ a τ_9) H → va_D (mA a) (wm cI cZ a τ_9) → va_S (mA a) s.heap H locs → ∀ (ls : Array Slot), lv_has ls 5 [(3, .int (nI (25))), (0, .ref (a 0)), (1, .int (air)), (2, .int (snow))] → WW H locs 0 0 (F0 m 94 ls []) := by
                      intro τ_9 h_11 H locs hP hD hS ls hl
                      refine (hWW _ _ _ _ _).mpr ?_
                      have hR_12 : m_passOne_s σ air snow = m_passOne_j94_s σ air snow z2 z48 z67 τ_9 := (Eq.trans hR_6 (by subst h_11; unfold m_passOne_x67_s; rfl))
                      refine lv_iconst (v := nI (0)) hx hb dX6_passOne_94 (by decide) ?_
                      refine lv_istore_n (lv' := [(3, .int (nI (0))), (0, .ref (a 0)), (1, .int (air)), (2, .int (snow))]) hx hb dX6_passOne_95 rfl hl (by decide) rfl (fun ls hl => ?_)
                      have L96 : ∀ (n96 i96 : Nat), i96 ≤ 25 → 25 + 1 ≤ i96 + n96 → ∀ (z96 : Sg), z96 = lp (m_passOne_b96 air) i96 τ_9 → ∀ (H : Heap) (locs : List Loc), va_P G vwCl (wm cI cZ a z96) H → va_D (mA a) (wm cI cZ a z96) → va_S (mA a) s.heap H locs → ∀ (ls : Array Slot), lv_has ls 5 [(3, .int (nI (i96))), (0, .ref (a 0)), (1, .int (air)), (2, .int (snow))] → WW H locs 0 0 (F0 m 96 ls []) := by
                        intro n96
                        induction n96 with
                        | zero => intro i96 h1 h2; exact absurd h2 (by omega)
                        | succ n96 ih96 =>
                          intro i96 hi96 hn96 z96 hz96  H locs hP hD hS ls hl
                          refine (hWW _ _ _ _ _).mpr ?_
                          refine lv_iload_n hx hb dX6_passOne_96 rfl (lv_at hl 0 rfl) ?_
                          refine lv_bipush (v := nI (25)) hx hb dX6_passOne_97 (by decide) ?_
                          refine n_icmp_ge (x := i96) (y := 25) (tgt := 114) hx hb (by omega) (by omega) dX6_passOne_99 (by decide) (fun c_13 => ?_) (fun c_13 => ?_)
                          · have hiN : 25 = i96 := by omega
                            subst hiN
                            have hR_14 : m_passOne_s σ air snow = m_passOne_x96_s σ air snow z2 z48 z67 τ_9 z96 := (Eq.trans hR_12 (by subst hz96; unfold m_passOne_j94_s; rfl))
                            refine lv_iconst (v := nI (0)) hx hb dX6_passOne_114 (by decide) ?_
                            refine lv_istore_n (lv' := [(3, .int (nI (0))), (0, .ref (a 0)), (1, .int (air)), (2, .int (snow))]) hx hb dX6_passOne_115 rfl hl (by decide) rfl (fun ls hl => ?_)
                            have L116 : ∀ (n116 i116 : Nat), i116 ≤ (σ.1 13 0).toNatClampNeg → ((σ.1 13 0).toNatClampNeg) + 1 ≤ i116 + n116 → ∀ (z116 : Sg), z116 = lp (m_passOne_b116) i116 z96 → ∀ (H : Heap) (locs : List Loc), va_P G vwCl (wm cI cZ a z116) H → va_D (mA a) (wm cI cZ a z116) → va_S (mA a) s.heap H locs → ∀ (ls : Array Slot), lv_has ls 5 [(3, .int (nI (i116))), (0, .ref (a 0)), (1, .int (air)), (2, .int (snow))] → WW H locs 0 0 (F0 m 116 ls []) := by
                              intro n116
                              induction n116 with
                              | zero => intro i116 h1 h2; exact absurd h2 (by omega)
                              | succ n116 ih116 =>
                                intro i116 hi116 hn116 z116 hz116  H locs hP hD hS ls hl
                                refine (hWW _ _ _ _ _).mpr ?_
                                have k116 : ∀ k, (k = 1 ∨ 13 ≤ k ∧ k ≠ 17) → z116.1 k = σ.1 k := fun k hk => by rw [hz116, m_p116 k (by omega), hz96, m_p96 k (by omega), h_11, m_pcr k (by omega), hz67, m_p67 k (by omega), hz48, m_p48 k (by omega), m_heat_k k (by omega), hz2]; exact m_p2 k (by omega) _ _
                                refine lv_iload_n hx hb dX6_passOne_116 rfl (lv_at hl 0 rfl) ?_
                                refine lv_aload_n hx hb dX6_passOne_117 rfl (lv_at hl 1 rfl) ?_
                                refine m_get (v := .int ((z116.1 13 0))) hx hb hts hin hown hK hP 13 (by decide) rfl (index := 132) (List.mem_of_getElem? (i := 2) rfl) dX6_passOne_118 ?_
                                refine W.eq (g2 := F0 m 121 ls (.int (nI ((σ.1 13 0).toNatClampNeg)) :: .int (nI (i116)) :: [])) (congrArg (fun v => F0 m 121 ls (Value.int v :: .int (nI (i116)) :: [])) ((by rw [k116 13 (by omega)]; exact e13))) ?_
                                refine n_icmp_ge (x := i116) (y := (σ.1 13 0).toNatClampNeg) (tgt := 167) hx hb (by omega) (by omega) dX6_passOne_121 (by decide) (fun c_15 => ?_) (fun c_15 => ?_)
                                · have hiN : (σ.1 13 0).toNatClampNeg = i116 := by omega
                                  subst hiN
                                  have hR_16 : m_passOne_s σ air snow = m_passOne_x116_s σ air snow z2 z48 z67 τ_9 z96 z116 := (Eq.trans hR_14 (by subst hz116; unfold m_passOne_x96_s; rfl))
                                  refine lv_iconst (v := nI (0)) hx hb dX6_passOne_167 (by decide) ?_
                                  refine lv_istore_n (lv' := [(3, .int (nI (0))), (0, .ref (a 0)), (1, .int (air)), (2, .int (snow))]) hx hb dX6_passOne_168 rfl hl (by decide) rfl (fun ls hl => ?_)
                                  have L169 : ∀ (n169 i169 : Nat), i169 ≤ (σ.1 19 0).toNatClampNeg → ((σ.1 19 0).toNatClampNeg) + 1 ≤ i169 + n169 → ∀ (z169 : Sg), z169 = lp (m_passOne_b169) i169 z116 → ∀ (H : Heap) (locs : List Loc), va_P G vwCl (wm cI cZ a z169) H → va_D (mA a) (wm cI cZ a z169) → va_S (mA a) s.heap H locs → ∀ (ls : Array Slot), lv_has ls 5 [(3, .int (nI (i169))), (0, .ref (a 0)), (1, .int (air)), (2, .int (snow))] → WW H locs 0 0 (F0 m 169 ls []) := by
                                    intro n169
                                    induction n169 with
                                    | zero => intro i169 h1 h2; exact absurd h2 (by omega)
                                    | succ n169 ih169 =>
                                      intro i169 hi169 hn169 z169 hz169  H locs hP hD hS ls hl
                                      refine (hWW _ _ _ _ _).mpr ?_
                                      have k169 : ∀ k, (k = 1 ∨ 13 ≤ k ∧ k ≠ 17 ∧ k ≠ 23) → z169.1 k = σ.1 k := fun k hk => by rw [hz169, m_p169 k (by omega), hz116, m_p116 k (by omega), hz96, m_p96 k (by omega), h_11, m_pcr k (by omega), hz67, m_p67 k (by omega), hz48, m_p48 k (by omega), m_heat_k k (by omega), hz2]; exact m_p2 k (by omega) _ _
                                      refine lv_iload_n hx hb dX6_passOne_169 rfl (lv_at hl 0 rfl) ?_
                                      refine lv_aload_n hx hb dX6_passOne_170 rfl (lv_at hl 1 rfl) ?_
                                      refine m_get (v := .int ((z169.1 19 0))) hx hb hts hin hown hK hP 19 (by decide) rfl (index := 135) (List.mem_of_getElem? (i := 7) rfl) dX6_passOne_171 ?_
                                      refine W.eq (g2 := F0 m 174 ls (.int (nI ((σ.1 19 0).toNatClampNeg)) :: .int (nI (i169)) :: [])) (congrArg (fun v => F0 m 174 ls (Value.int v :: .int (nI (i169)) :: [])) ((by rw [k169 19 (by omega)]; exact e19))) ?_
                                      refine n_icmp_ge (x := i169) (y := (σ.1 19 0).toNatClampNeg) (tgt := 257) hx hb (by omega) (by omega) dX6_passOne_174 (by decide) (fun c_17 => ?_) (fun c_17 => ?_)
                                      · have hiN : (σ.1 19 0).toNatClampNeg = i169 := by omega
                                        subst hiN
                                        have hR_18 : m_passOne_s σ air snow = m_passOne_x169_s σ air snow z2 z48 z67 τ_9 z96 z116 z169 := (Eq.trans hR_16 (by subst hz169; unfold m_passOne_x116_s; rfl))
                                        refine lv_aload_n hx hb dX6_passOne_257 rfl (lv_at hl 1 rfl) ?_
                                        refine lv_dup hx hb dX6_passOne_258 rfl ?_
                                        refine m_get (v := .int ((z169.1 1 0))) hx hb hts hin hown hK hP 1 (by decide) rfl (index := 109) (List.mem_of_getElem? (i := 9) rfl) dX6_passOne_259 ?_
                                        refine lv_iconst (v := nI (1)) hx hb dX6_passOne_262 (by decide) ?_
                                        refine lv_iadd (x := (z169.1 1 0)) (y := nI (1)) hx hb dX6_passOne_263 ?_
                                        refine m_putI (v := ((z169.1 1 0)) + (nI (1))) hx hb hts hin hown hK hP hD hS 1 (by decide) rfl (by decide +kernel) rfl (index := 109) (List.mem_of_getElem? (i := 9) rfl) dX6_passOne_264 (fun H locs hP hD hS => ?_)
                                        exact m_vret hx hb hr hlocks hP hK hD hS dX6_passOne_267 (Eq.trans (by unfold m_passOne_x169_s; rfl) hR_18.symm)
                                      · refine lv_iconst (v := nI (0)) hx hb dX6_passOne_177 (by decide) ?_
                                        refine lv_istore (lv' := [(4, .int (nI (0))), (3, .int (nI (i169))), (0, .ref (a 0)), (1, .int (air)), (2, .int (snow))]) hx hb dX6_passOne_178 hl (by decide) rfl (fun ls hl => ?_)
                                        have L180 : ∀ (n180 i180 : Nat), i180 ≤ 5 → 5 + 1 ≤ i180 + n180 → ∀ (z180 : Sg), z180 = lp (m_passOne_b180 i169) i180 z169 → ∀ (H : Heap) (locs : List Loc), va_P G vwCl (wm cI cZ a z180) H → va_D (mA a) (wm cI cZ a z180) → va_S (mA a) s.heap H locs → ∀ (ls : Array Slot), lv_has ls 5 [(4, .int (nI (i180))), (3, .int (nI (i169))), (0, .ref (a 0)), (1, .int (air)), (2, .int (snow))] → WW H locs 0 0 (F0 m 180 ls []) := by
                                          intro n180
                                          induction n180 with
                                          | zero => intro i180 h1 h2; exact absurd h2 (by omega)
                                          | succ n180 ih180 =>
                                            intro i180 hi180 hn180 z180 hz180  H locs hP hD hS ls hl
                                            refine (hWW _ _ _ _ _).mpr ?_
                                            have k180 : ∀ k, (k = 1 ∨ 13 ≤ k ∧ k ≠ 17 ∧ k ≠ 23) → z180.1 k = σ.1 k := fun k hk => by rw [hz180, m_p180 k (by omega)]; exact k169 k hk
                                            refine lv_iload hx hb dX6_passOne_180 (lv_at hl 0 rfl) ?_
                                            refine lv_iconst (v := nI (5)) hx hb dX6_passOne_182 (by decide) ?_
                                            refine n_icmp_ge (x := i180) (y := 5) (tgt := 251) hx hb (by omega) (by omega) dX6_passOne_183 (by decide) (fun c_19 => ?_) (fun c_19 => ?_)
                                            · have hiN : 5 = i180 := by omega
                                              subst hiN
                                              have hR_20 : m_passOne_b169 i169 z169 = m_passOne_x180 i169 z169 z180 := (by subst hz180; unfold m_passOne_b169; rfl)
                                              refine n_iinc (x := i169) (dN := 1) (k := 1) (lv' := [(3, .int (nI (i169 + 1))), (4, .int (nI (5))), (0, .ref (a 0)), (1, .int (air)), (2, .int (snow))]) hx hb dX6_passOne_251 hl rfl (by decide) rfl (fun ls hl => ?_)
                                              refine lv_goto (tgt := 169) hx hb dX6_passOne_254 (by decide) ?_
                                              exact (hWW _ _ _ _ _).mp (ih169 (i169 + 1) (by omega) (by omega) (z180) (by show _ = m_passOne_b169 i169 (lp (m_passOne_b169) i169 z116); rw [← hz169]; exact (Eq.trans (by unfold m_passOne_x180; rfl) hR_20.symm))  _ _ hP hD hS _ (lv_sub hl [0, 2, 3, 4] rfl))
                                            · refine lv_aload_n hx hb dX6_passOne_186 rfl (lv_at hl 2 rfl) ?_
                                              refine m_get (v := .ref (a 23)) hx hb hts hin hown hK hP 23 (by decide) rfl (index := 68) (List.mem_of_getElem? (i := 8) rfl) dX6_passOne_187 ?_
                                              refine lv_sipush (v := nI (3000)) hx hb dX6_passOne_190 (by decide) ?_
                                              refine lv_iload_n hx hb dX6_passOne_193 rfl (lv_at hl 1 rfl) ?_
                                              refine n_mul (x := 3000) (y := i169) hx hb dX6_passOne_194 ?_
                                              refine lv_iconst (v := nI (5)) hx hb dX6_passOne_195 (by decide) ?_
                                              refine lv_aload_n hx hb dX6_passOne_196 rfl (lv_at hl 2 rfl) ?_
                                              refine m_get (v := .int ((z180.1 1 0))) hx hb hts hin hown hK hP 1 (by decide) rfl (index := 109) (List.mem_of_getElem? (i := 9) rfl) dX6_passOne_197 ?_
                                              refine lv_imul (x := nI (5)) (y := (z180.1 1 0)) hx hb dX6_passOne_200 ?_
                                              refine lv_iadd (x := nI (3000 * i169)) (y := (nI (5)) * ((z180.1 1 0))) hx hb dX6_passOne_201 ?_
                                              refine lv_iload hx hb dX6_passOne_202 (lv_at hl 0 rfl) ?_
                                              refine lv_iadd (x := (nI (3000 * i169)) + ((nI (5)) * ((z180.1 1 0)))) (y := nI (i180)) hx hb dX6_passOne_204 ?_
                                              refine lv_aload_n hx hb dX6_passOne_205 rfl (lv_at hl 2 rfl) ?_
                                              refine lv_iconst (v := nI (5)) hx hb dX6_passOne_206 (by decide) ?_
                                              refine lv_aload_n hx hb dX6_passOne_207 rfl (lv_at hl 2 rfl) ?_
                                              refine m_get (v := .ref (a 20)) hx hb hts hin hown hK hP 20 (by decide) rfl (index := 59) (List.mem_of_getElem? (i := 10) rfl) dX6_passOne_208 ?_
                                              refine lv_iload_n hx hb dX6_passOne_211 rfl (lv_at hl 1 rfl) ?_
                                              refine m_ald (j := i169) hx hb hK hP 17 20 rfl (by decide) (by omega) dX6_passOne_212 ?_
                                              refine W.eq (g2 := F0 m 213 ls [.int ((z180.1 20 i169)), .int (nI (5)), .ref (a 0), .int (((nI (3000 * i169)) + ((nI (5)) * ((z180.1 1 0)))) + (nI (i180))), .ref (a 23)]) rfl ?_
                                              refine lv_imul (x := nI (5)) (y := (z180.1 20 i169)) hx hb dX6_passOne_213 ?_
                                              refine lv_iload hx hb dX6_passOne_214 (lv_at hl 0 rfl) ?_
                                              refine lv_iadd (x := (nI (5)) * ((z180.1 20 i169))) (y := nI (i180)) hx hb dX6_passOne_216 ?_
                                              refine m_callI (As := [.int (((nI (5)) * ((z180.1 20 i169))) + (nI (i180)))]) (rest := [.int (((nI (3000 * i169)) + ((nI (5)) * ((z180.1 1 0)))) + (nI (i180))), .ref (a 23)]) (fun _ h => h) ⟨hx, hb, hml, hown, hts⟩ (cm_degreesOf l G cI cZ a z180  (((nI (5)) * ((z180.1 20 i169))) + (nI (i180))) (by rw [k180 20 (by omega)]; exact vp_5l (hO.2.2.2.2.2.1 i169 (by omega)) (vp_in_nI (by omega) (by decide)))) (cwV 1 hts gX6_passOne_X6_degreesOf rfl rfl rfl (by decide +kernel) ⟨Nat.le_of_ble_eq_true rfl, Nat.le_of_ble_eq_true rfl⟩) hK hP hD hS rfl hl.1 rfl (Nat.le_of_ble_eq_true rfl) dX6_passOne_217 ⟨Nat.zero_le _, Nat.zero_le _⟩ (fun H locs hP hD _ _ hS => ?_)
                                              refine lv_aload_n hx hb dX6_passOne_220 rfl (lv_at hl 2 rfl) ?_
                                              refine m_get (v := .ref (a 21)) hx hb hts hin hown hK hP 21 (by decide) rfl (index := 62) (List.mem_of_getElem? (i := 11) rfl) dX6_passOne_221 ?_
                                              refine lv_iload_n hx hb dX6_passOne_224 rfl (lv_at hl 1 rfl) ?_
                                              refine m_ald (j := i169) hx hb hK hP 18 21 rfl (by decide) (by omega) dX6_passOne_225 ?_
                                              refine W.eq (g2 := F0 m 226 ls [.int ((z180.1 21 i169)), .int ((m_degreesOf z180 (((nI (5)) * ((z180.1 20 i169))) + (nI (i180))))), .int (((nI (3000 * i169)) + ((nI (5)) * ((z180.1 1 0)))) + (nI (i180))), .ref (a 23)]) rfl ?_
                                              refine lv_aload_n hx hb dX6_passOne_226 rfl (lv_at hl 2 rfl) ?_
                                              refine m_get (v := .int ((z180.1 1 0))) hx hb hts hin hown hK hP 1 (by decide) rfl (index := 109) (List.mem_of_getElem? (i := 9) rfl) dX6_passOne_227 ?_
                                              refine lv_iconst (v := nI (1)) hx hb dX6_passOne_230 (by decide) ?_
                                              refine lv_iadd (x := (z180.1 1 0)) (y := nI (1)) hx hb dX6_passOne_231 ?_
                                              refine lv_aload_n hx hb dX6_passOne_232 rfl (lv_at hl 2 rfl) ?_
                                              refine m_get (v := .ref (a 22)) hx hb hts hin hown hK hP 22 (by decide) rfl (index := 65) (List.mem_of_getElem? (i := 12) rfl) dX6_passOne_233 ?_
                                              refine lv_iload_n hx hb dX6_passOne_236 rfl (lv_at hl 1 rfl) ?_
                                              refine m_ald (j := i169) hx hb hK hP 19 22 rfl (by decide) (by omega) dX6_passOne_237 ?_
                                              refine W.eq (g2 := F0 m 238 ls [.int ((z180.1 22 i169)), .int (((z180.1 1 0)) + (nI (1))), .int ((z180.1 21 i169)), .int ((m_degreesOf z180 (((nI (5)) * ((z180.1 20 i169))) + (nI (i180))))), .int (((nI (3000 * i169)) + ((nI (5)) * ((z180.1 1 0)))) + (nI (i180))), .ref (a 23)]) rfl ?_
                                              refine lv_isub (x := ((z180.1 1 0)) + (nI (1))) (y := (z180.1 22 i169)) hx hb dX6_passOne_238 ?_
                                              refine lv_imul (x := (z180.1 21 i169)) (y := (((z180.1 1 0)) + (nI (1))) - ((z180.1 22 i169))) hx hb dX6_passOne_239 ?_
                                              refine lv_bipush (v := nI (12)) hx hb dX6_passOne_240 (by decide) ?_
                                              refine lv_idiv (x := ((z180.1 21 i169)) * ((((z180.1 1 0)) + (nI (1))) - ((z180.1 22 i169)))) (y := nI (12)) hx hb dX6_passOne_242 (by decide) ?_
                                              refine lv_iadd (x := (m_degreesOf z180 (((nI (5)) * ((z180.1 20 i169))) + (nI (i180))))) (y := (((z180.1 21 i169)) * ((((z180.1 1 0)) + (nI (1))) - ((z180.1 22 i169)))) / (nI (12))) hx hb dX6_passOne_243 ?_
                                              refine m_astI (j := ((nI (3000 * i169)) + ((nI (5)) * ((z180.1 1 0)))) + (nI (i180))) (v := ((m_degreesOf z180 (((nI (5)) * ((z180.1 20 i169))) + (nI (i180))))) + ((((z180.1 21 i169)) * ((((z180.1 1 0)) + (nI (1))) - ((z180.1 22 i169)))) / (nI (12)))) hx hb hK hP hD hS 20 23 rfl rfl (by rw [k180 1 (by omega)]; exact vp_rdN (by omega) hm (vp_in_nI (by omega) (by decide))) dX6_passOne_244 (fun H locs hP hD hS => ?_)
                                              obtain ⟨s_21, e_22⟩ : ∃ z : Sg, z = (si z180 23 ((((nI (3000 * i169)) + ((nI (5)) * ((z180.1 1 0)))) + (nI (i180))).toNatClampNeg) (((m_degreesOf z180 (((nI (5)) * ((z180.1 20 i169))) + (nI (i180))))) + ((((z180.1 21 i169)) * ((((z180.1 1 0)) + (nI (1))) - ((z180.1 22 i169)))) / (nI (12))))) := ⟨_, rfl⟩
                                              rw [← e_22] at hP hD
                                              have hR_23 : m_passOne_b180 i169 i180 z180 = m_passOne_k245 i169 i180 z180 s_21 := (by subst e_22; unfold m_passOne_b180; rfl)
                                              refine n_iinc (x := i180) (dN := 1) (k := 0) (lv' := [(4, .int (nI (i180 + 1))), (3, .int (nI (i169))), (0, .ref (a 0)), (1, .int (air)), (2, .int (snow))]) hx hb dX6_passOne_245 hl rfl (by decide) rfl (fun ls hl => ?_)
                                              refine lv_goto (tgt := 180) hx hb dX6_passOne_248 (by decide) ?_
                                              exact (hWW _ _ _ _ _).mp (ih180 (i180 + 1) (by omega) (by omega) (s_21) (by show _ = m_passOne_b180 i169 i180 (lp (m_passOne_b180 i169) i180 z169); rw [← hz180]; exact (Eq.trans (by unfold m_passOne_k245; rfl) hR_23.symm))  _ _ hP hD hS _ (lv_sub hl [0, 1, 2, 3, 4] rfl))
                                        exact (hWW _ _ _ _ _).mp (L180 (5 + 1) 0 (Nat.zero_le _) (by omega) z169 rfl  _ _ hP hD hS _ (lv_sub hl [0, 1, 2, 3, 4] rfl))
                                  exact (hWW _ _ _ _ _).mp (L169 ((σ.1 19 0).toNatClampNeg + 1) 0 (Nat.zero_le _) (by omega) z116 rfl  _ _ hP hD hS _ (lv_sub hl [0, 1, 2, 3] rfl))
                                · refine lv_aload_n hx hb dX6_passOne_124 rfl (lv_at hl 1 rfl) ?_
                                  refine m_get (v := .ref (a 17)) hx hb hts hin hown hK hP 17 (by decide) rfl (index := 53) (List.mem_of_getElem? (i := 3) rfl) dX6_passOne_125 ?_
                                  refine lv_iload_n hx hb dX6_passOne_128 rfl (lv_at hl 0 rfl) ?_
                                  refine lv_dup2_11 hx hb dX6_passOne_129 rfl rfl ?_
                                  refine m_ald (j := i116) hx hb hK hP 15 17 rfl (by decide) (by omega) dX6_passOne_130 ?_
                                  refine W.eq (g2 := F0 m 131 ls [.int ((z116.1 17 i116)), .int (nI (i116)), .ref (a 17)]) rfl ?_
                                  refine lv_aload_n hx hb dX6_passOne_131 rfl (lv_at hl 1 rfl) ?_
                                  refine m_get (v := .ref (a 10)) hx hb hts hin hown hK hP 10 (by decide) rfl (index := 34) (List.mem_of_getElem? (i := 4) rfl) dX6_passOne_132 ?_
                                  refine lv_iconst (v := nI (5)) hx hb dX6_passOne_135 (by decide) ?_
                                  refine lv_aload_n hx hb dX6_passOne_136 rfl (lv_at hl 1 rfl) ?_
                                  refine m_get (v := .ref (a 14)) hx hb hts hin hown hK hP 14 (by decide) rfl (index := 43) (List.mem_of_getElem? (i := 5) rfl) dX6_passOne_137 ?_
                                  refine lv_iload_n hx hb dX6_passOne_140 rfl (lv_at hl 0 rfl) ?_
                                  refine m_ald (j := i116) hx hb hK hP 12 14 rfl (by decide) (by omega) dX6_passOne_141 ?_
                                  refine W.eq (g2 := F0 m 142 ls [.int ((z116.1 14 i116)), .int (nI (5)), .ref (a 10), .int ((z116.1 17 i116)), .int (nI (i116)), .ref (a 17)]) rfl ?_
                                  refine lv_imul (x := nI (5)) (y := (z116.1 14 i116)) hx hb dX6_passOne_142 ?_
                                  refine lv_aload_n hx hb dX6_passOne_143 rfl (lv_at hl 1 rfl) ?_
                                  refine m_get (v := .ref (a 15)) hx hb hts hin hown hK hP 15 (by decide) rfl (index := 46) (List.mem_of_getElem? (i := 6) rfl) dX6_passOne_144 ?_
                                  refine lv_iload_n hx hb dX6_passOne_147 rfl (lv_at hl 0 rfl) ?_
                                  refine m_ald (j := i116) hx hb hK hP 13 15 rfl (by decide) (by omega) dX6_passOne_148 ?_
                                  refine W.eq (g2 := F0 m 149 ls [.int ((z116.1 15 i116)), .int ((nI (5)) * ((z116.1 14 i116))), .ref (a 10), .int ((z116.1 17 i116)), .int (nI (i116)), .ref (a 17)]) rfl ?_
                                  refine lv_iadd (x := (nI (5)) * ((z116.1 14 i116))) (y := (z116.1 15 i116)) hx hb dX6_passOne_149 ?_
                                  refine m_aldI (j := ((nI (5)) * ((z116.1 14 i116))) + ((z116.1 15 i116))) hx hb hK hP 9 10 rfl (by rw [k116 14 (by omega), k116 15 (by omega)]; exact vp_5l (hO.2.2.2.2.1 i116 (by omega)).1 (hO.2.2.2.2.1 i116 (by omega)).2.1) dX6_passOne_150 ?_
                                  refine W.eq (g2 := F0 m 151 ls [.int ((z116.1 10 ((((nI (5)) * ((z116.1 14 i116))) + ((z116.1 15 i116))).toNatClampNeg))), .int ((z116.1 17 i116)), .int (nI (i116)), .ref (a 17)]) rfl ?_
                                  have J159_27 : ∀ (x_26 : Int32), x_26 = (if (z116.1 10 ((((nI (5)) * ((z116.1 14 i116))) + ((z116.1 15 i116))).toNatClampNeg)) < 0 then nI (0) else nI (1)) → ∀ (H : Heap) (locs : List Loc), va_P G vwCl (wm cI cZ a z116) H → va_D (mA a) (wm cI cZ a z116) → va_S (mA a) s.heap H locs → ∀ (ls : Array Slot), lv_has ls 5 [(3, .int (nI (i116))), (0, .ref (a 0)), (1, .int (air)), (2, .int (snow))] → WW H locs 0 0 (F0 m 159 ls [.int (x_26), .int ((z116.1 17 i116)), .int (nI (i116)), .ref (a 17)]) := by
                                    intro x_26 h_28 H locs hP hD hS ls hl
                                    refine (hWW _ _ _ _ _).mpr ?_
                                    have hR_29 : m_passOne_b116 i116 z116 = m_passOne_j159 i116 z116 x_26 := (by subst h_28; unfold m_passOne_b116; rfl)
                                    refine lv_iadd (x := (z116.1 17 i116)) (y := x_26) hx hb dX6_passOne_159 ?_
                                    refine m_ast (j := i116) (v := ((z116.1 17 i116)) + (x_26)) hx hb hK hP hD hS 15 17 rfl rfl (by decide) (by omega) dX6_passOne_160 (fun H locs hP hD hS => ?_)
                                    refine n_iinc (x := i116) (dN := 1) (k := 0) (lv' := [(3, .int (nI (i116 + 1))), (0, .ref (a 0)), (1, .int (air)), (2, .int (snow))]) hx hb dX6_passOne_161 hl rfl (by decide) rfl (fun ls hl => ?_)
                                    refine lv_goto (tgt := 116) hx hb dX6_passOne_164 (by decide) ?_
                                    exact (hWW _ _ _ _ _).mp (ih116 (i116 + 1) (by omega) (by omega) ((si z116 17 (i116) (((z116.1 17 i116)) + (x_26)))) (by show _ = m_passOne_b116 i116 (lp (m_passOne_b116) i116 z96); rw [← hz116]; exact (Eq.trans (by unfold m_passOne_j159; rfl) hR_29.symm))  _ _ hP hD hS _ (lv_sub hl [0, 1, 2, 3] rfl))
                                  refine lv_if_lt (x := (z116.1 10 ((((nI (5)) * ((z116.1 14 i116))) + ((z116.1 15 i116))).toNatClampNeg))) (tgt := 158) hx hb dX6_passOne_151 (by decide) (fun c_24 => ?_) (fun c_24 => ?_)
                                  · refine lv_iconst (v := nI (0)) hx hb dX6_passOne_158 (by decide) ?_
                                    exact (hWW _ _ _ _ _).mp (J159_27 _ (by simp only [if_pos c_24]) _ _ hP hD hS _ (lv_sub hl [0, 1, 2, 3] rfl))
                                  · refine lv_iconst (v := nI (1)) hx hb dX6_passOne_154 (by decide) ?_
                                    refine lv_goto (tgt := 159) hx hb dX6_passOne_155 (by decide) ?_
                                    exact (hWW _ _ _ _ _).mp (J159_27 _ (by simp only [if_neg c_24]) _ _ hP hD hS _ (lv_sub hl [0, 1, 2, 3] rfl))
                            exact (hWW _ _ _ _ _).mp (L116 ((σ.1 13 0).toNatClampNeg + 1) 0 (Nat.zero_le _) (by omega) z96 rfl  _ _ hP hD hS _ (lv_sub hl [0, 1, 2, 3] rfl))
                          · refine lv_aload_n hx hb dX6_passOne_102 rfl (lv_at hl 1 rfl) ?_
                            refine lv_iload_n hx hb dX6_passOne_103 rfl (lv_at hl 0 rfl) ?_
                            refine lv_iload_n hx hb dX6_passOne_104 rfl (lv_at hl 2 rfl) ?_
                            refine m_callV (As := [.int (nI (i96)), .int (air)]) (rest := []) (fun _ h => h) ⟨hx, hb, hml, hown, hts⟩ (cm_wake l G cI cZ a z96  i96 air (by omega)) (cwV 2 hts gX6_passOne_X6_wake rfl rfl rfl (by decide +kernel) ⟨Nat.le_of_ble_eq_true rfl, Nat.le_of_ble_eq_true rfl⟩) hK hP hD hS rfl hl.1 rfl (Nat.le_of_ble_eq_true rfl) dX6_passOne_105 ⟨Nat.zero_le _, Nat.zero_le _⟩ (fun H locs hP hD _ _ hS => ?_)
                            refine n_iinc (x := i96) (dN := 1) (k := 0) (lv' := [(3, .int (nI (i96 + 1))), (0, .ref (a 0)), (1, .int (air)), (2, .int (snow))]) hx hb dX6_passOne_108 hl rfl (by decide) rfl (fun ls hl => ?_)
                            refine lv_goto (tgt := 96) hx hb dX6_passOne_111 (by decide) ?_
                            exact (hWW _ _ _ _ _).mp (ih96 (i96 + 1) (by omega) (by omega) ((m_wake_s z96 i96 air)) (by show _ = m_passOne_b96 air i96 (lp (m_passOne_b96 air) i96 τ_9); rw [← hz96]; exact (by unfold m_passOne_b96; rfl))  _ _ hP hD hS _ (lv_sub hl [0, 1, 2, 3] rfl))
                      exact (hWW _ _ _ _ _).mp (L96 (25 + 1) 0 (Nat.zero_le _) (by omega) τ_9 rfl  _ _ hP hD hS _ (lv_sub hl [0, 1, 2, 3] rfl))
                    refine lv_icmp_gt (x := air) (y := (-20)) (tgt := 94) hx hb dX6_passOne_87 (by decide) (fun c_7 => ?_) (fun c_7 => ?_)
                    · exact (hWW _ _ _ _ _).mp (J94_10 _ (by simp only [if_pos c_7]) _ _ hP hD hS _ (lv_sub hl [0, 1, 2, 3] rfl))
                    · refine lv_aload_n hx hb dX6_passOne_90 rfl (lv_at hl 1 rfl) ?_
                      refine m_callV (As := []) (rest := []) (fun _ h => h) ⟨hx, hb, hml, hown, hts⟩ (cm_crack l G cI cZ a z67   ) (cwV 0 hts gX6_passOne_X6_crack rfl rfl rfl (by decide +kernel) ⟨Nat.le_of_ble_eq_true rfl, Nat.le_of_ble_eq_true rfl⟩) hK hP hD hS rfl hl.1 rfl (Nat.le_of_ble_eq_true rfl) dX6_passOne_91 ⟨Nat.zero_le _, Nat.zero_le _⟩ (fun H locs hP hD _ _ hS => ?_)
                      exact (hWW _ _ _ _ _).mp (J94_10 _ (by simp only [if_neg c_7]) _ _ hP hD hS _ (lv_sub hl [0, 1, 2, 3] rfl))
                  · refine lv_aload_n hx hb dX6_passOne_73 rfl (lv_at hl 1 rfl) ?_
                    refine lv_iload_n hx hb dX6_passOne_74 rfl (lv_at hl 0 rfl) ?_
                    refine m_callV (As := [.int (nI (i67))]) (rest := []) (fun _ h => h) ⟨hx, hb, hml, hown, hts⟩ (cm_flow l G cI cZ a z67  i67 (by omega)) (cwV 1 hts gX6_passOne_X6_flow rfl rfl rfl (by decide +kernel) ⟨Nat.le_of_ble_eq_true rfl, Nat.le_of_ble_eq_true rfl⟩) hK hP hD hS rfl hl.1 rfl (Nat.le_of_ble_eq_true rfl) dX6_passOne_75 ⟨Nat.zero_le _, Nat.zero_le _⟩ (fun H locs hP hD _ _ hS => ?_)
                    refine n_iinc (x := i67) (dN := 1) (k := 0) (lv' := [(3, .int (nI (i67 + 1))), (0, .ref (a 0)), (1, .int (air)), (2, .int (snow))]) hx hb dX6_passOne_78 hl rfl (by decide) rfl (fun ls hl => ?_)
                    refine lv_goto (tgt := 67) hx hb dX6_passOne_81 (by decide) ?_
                    exact (hWW _ _ _ _ _).mp (ih67 (i67 + 1) (by omega) (by omega) ((m_flow_s z67 i67)) (by show _ = m_passOne_b67 i67 (lp (m_passOne_b67) i67 z48); rw [← hz67]; exact (by unfold m_passOne_b67; rfl))  _ _ hP hD hS _ (lv_sub hl [0, 1, 2, 3] rfl))
              exact (hWW _ _ _ _ _).mp (L67 (25 + 1) 0 (Nat.zero_le _) (by omega) z48 rfl  _ _ hP hD hS _ (lv_sub hl [0, 1, 2, 3] rfl))
            · refine lv_aload_n hx hb dX6_passOne_54 rfl (lv_at hl 1 rfl) ?_
              refine lv_iload_n hx hb dX6_passOne_55 rfl (lv_at hl 0 rfl) ?_
              refine m_callV (As := [.int (nI (i48))]) (rest := []) (fun _ h => h) ⟨hx, hb, hml, hown, hts⟩ (cm_sink l G cI cZ a z48  i48 (by omega)) (cwV 1 hts gX6_passOne_X6_sink rfl rfl rfl (by decide +kernel) ⟨Nat.le_of_ble_eq_true rfl, Nat.le_of_ble_eq_true rfl⟩) hK hP hD hS rfl hl.1 rfl (Nat.le_of_ble_eq_true rfl) dX6_passOne_56 ⟨Nat.zero_le _, Nat.zero_le _⟩ (fun H locs hP hD _ _ hS => ?_)
              refine n_iinc (x := i48) (dN := 1) (k := 0) (lv' := [(3, .int (nI (i48 + 1))), (0, .ref (a 0)), (1, .int (air)), (2, .int (snow))]) hx hb dX6_passOne_59 hl rfl (by decide) rfl (fun ls hl => ?_)
              refine lv_goto (tgt := 48) hx hb dX6_passOne_62 (by decide) ?_
              exact (hWW _ _ _ _ _).mp (ih48 (i48 + 1) (by omega) (by omega) ((m_sink_s z48 i48)) (by show _ = m_passOne_b48 i48 (lp (m_passOne_b48) i48 (m_heat_s z2 air)); rw [← hz48]; exact (by unfold m_passOne_b48; rfl))  _ _ hP hD hS _ (lv_sub hl [0, 1, 2, 3] rfl))
        exact (hWW _ _ _ _ _).mp (L48 (125 + 1) 0 (Nat.zero_le _) (by omega) (m_heat_s z2 air) rfl  _ _ hP hD hS _ (lv_sub hl [0, 1, 2, 3] rfl))
      · refine lv_aload_n hx hb dX6_passOne_8 rfl (lv_at hl 1 rfl) ?_
        refine m_get (v := .ref (a 4)) hx hb hts hin hown hK hP 4 (by decide) rfl (index := 16) (List.mem_of_getElem? (i := 1) rfl) dX6_passOne_9 ?_
        refine lv_iload_n hx hb dX6_passOne_12 rfl (lv_at hl 0 rfl) ?_
        refine lv_iload_n hx hb dX6_passOne_13 rfl (lv_at hl 2 rfl) ?_
        have J34_33 : ∀ (x_32 : Int32), x_32 = (if 0 ≤ air then nI (0) else (m_lesser (nI (9)) (((z2.1 4 i2)) + (snow)))) → ∀ (H : Heap) (locs : List Loc), va_P G vwCl (wm cI cZ a z2) H → va_D (mA a) (wm cI cZ a z2) → va_S (mA a) s.heap H locs → ∀ (ls : Array Slot), lv_has ls 5 [(3, .int (nI (i2))), (0, .ref (a 0)), (1, .int (air)), (2, .int (snow))] → WW H locs 0 0 (F0 m 34 ls [.int (x_32), .int (nI (i2)), .ref (a 4)]) := by
          intro x_32 h_34 H locs hP hD hS ls hl
          refine (hWW _ _ _ _ _).mpr ?_
          have hR_35 : m_passOne_b2 air snow i2 z2 = m_passOne_j34 air snow i2 z2 x_32 := (by subst h_34; unfold m_passOne_b2; rfl)
          refine m_ast (j := i2) (v := x_32) hx hb hK hP hD hS 3 4 rfl rfl (by decide) (by omega) dX6_passOne_34 (fun H locs hP hD hS => ?_)
          refine n_iinc (x := i2) (dN := 1) (k := 0) (lv' := [(3, .int (nI (i2 + 1))), (0, .ref (a 0)), (1, .int (air)), (2, .int (snow))]) hx hb dX6_passOne_35 hl rfl (by decide) rfl (fun ls hl => ?_)
          refine lv_goto (tgt := 2) hx hb dX6_passOne_38 (by decide) ?_
          exact (hWW _ _ _ _ _).mp (ih2 (i2 + 1) (by omega) (by omega) ((si z2 4 (i2) (x_32))) (by show _ = m_passOne_b2 air snow i2 (lp (m_passOne_b2 air snow) i2 σ); rw [← hz2]; exact (Eq.trans (by unfold m_passOne_j34; rfl) hR_35.symm))  _ _ hP hD hS _ (lv_sub hl [0, 1, 2, 3] rfl))
        refine lv_if_ge (x := air) (tgt := 33) hx hb dX6_passOne_14 (by decide) (fun c_30 => ?_) (fun c_30 => ?_)
        · refine lv_iconst (v := nI (0)) hx hb dX6_passOne_33 (by decide) ?_
          exact (hWW _ _ _ _ _).mp (J34_33 _ (by simp only [if_pos c_30]) _ _ hP hD hS _ (lv_sub hl [0, 1, 2, 3] rfl))
        · refine lv_bipush (v := nI (9)) hx hb dX6_passOne_17 (by decide) ?_
          refine lv_aload_n hx hb dX6_passOne_19 rfl (lv_at hl 1 rfl) ?_
          refine m_get (v := .ref (a 4)) hx hb hts hin hown hK hP 4 (by decide) rfl (index := 16) (List.mem_of_getElem? (i := 1) rfl) dX6_passOne_20 ?_
          refine lv_iload_n hx hb dX6_passOne_23 rfl (lv_at hl 0 rfl) ?_
          refine m_ald (j := i2) hx hb hK hP 3 4 rfl (by decide) (by omega) dX6_passOne_24 ?_
          refine W.eq (g2 := F0 m 25 ls [.int ((z2.1 4 i2)), .int (nI (9)), .int (nI (i2)), .ref (a 4)]) rfl ?_
          refine lv_iload_n hx hb dX6_passOne_25 rfl (lv_at hl 3 rfl) ?_
          refine lv_iadd (x := (z2.1 4 i2)) (y := snow) hx hb dX6_passOne_26 ?_
          refine m_callS (As := [.int (nI (9)), .int (((z2.1 4 i2)) + (snow))]) (rest := [.int (nI (i2)), .ref (a 4)]) ⟨hx, hb, hml, hown, hts⟩ (cm_lesser l (nI (9)) (((z2.1 4 i2)) + (snow)) ) (va_cwS 2 hts gX6_passOne_X6_lesser rfl rfl rfl (by decide +kernel) ⟨Nat.le_of_ble_eq_true rfl, Nat.le_of_ble_eq_true rfl⟩) hP hS rfl hl.1 rfl (Nat.le_of_ble_eq_true rfl) dX6_passOne_27 ⟨Nat.zero_le _, Nat.zero_le _⟩ (fun H locs hP hS => ?_)
          refine lv_goto (tgt := 34) hx hb dX6_passOne_30 (by decide) ?_
          exact (hWW _ _ _ _ _).mp (J34_33 _ (by simp only [if_neg c_30]) _ _ hP hD hS _ (lv_sub hl [0, 1, 2, 3] rfl))
  exact (hWW _ _ _ _ _).mp (L2 (25 + 1) 0 (Nat.zero_le _) (by omega) σ rfl  _ _ hP hD hS _ (lv_sub hl [0, 1, 2, 3] rfl))

def m_pass_x76 (σ : Sg) (months : Int32) (air : Int32) (snow : Int32) (x_3 : Int32) (x_10 : Int32) (z76 : Sg) : Int32 := (z76.1 1 0)
def m_pass_x76_s (σ : Sg) (months : Int32) (air : Int32) (snow : Int32) (x_3 : Int32) (x_10 : Int32) (z76 : Sg) : Sg := z76
def m_pass_b76 (air snow : Int32) (i76 : Nat) (z76 : Sg) : Sg := (m_passOne_s z76 air snow)
def m_pass_j65 (σ : Sg) (months : Int32) (air : Int32) (snow : Int32) (x_3 : Int32) (x_10 : Int32) : Int32 := (if (m_refused σ x_10) = 0 then (m_pass_x76 σ months air snow x_3 x_10 (lp (m_pass_b76 air snow) ((months).toNatClampNeg) (m_refused_s σ x_10))) else nI (0))
def m_pass_j65_s (σ : Sg) (months : Int32) (air : Int32) (snow : Int32) (x_3 : Int32) (x_10 : Int32) : Sg := (if (m_refused σ x_10) = 0 then (m_pass_x76_s σ months air snow x_3 x_10 (lp (m_pass_b76 air snow) ((months).toNatClampNeg) (m_refused_s σ x_10))) else (m_refused_s σ x_10))
def m_pass_j36 (σ : Sg) (months : Int32) (air : Int32) (snow : Int32) (x_3 : Int32) : Int32 := (m_pass_j65 σ months air snow x_3 (if x_3 = 0 then nI (1) else (if ((σ.1 1 0)) + (months) ≤ nI (600) then nI (0) else nI (2))))
def m_pass_j36_s (σ : Sg) (months : Int32) (air : Int32) (snow : Int32) (x_3 : Int32) : Sg := (m_pass_j65_s σ months air snow x_3 (if x_3 = 0 then nI (1) else (if ((σ.1 1 0)) + (months) ≤ nI (600) then nI (0) else nI (2))))
def m_pass (σ : Sg) (months : Int32) (air : Int32) (snow : Int32) : Int32 := (m_pass_j36 σ months air snow (if (m_within months (nI (1)) (nI (24))) = 0 then nI (0) else (if (m_within air (-50) (nI (30))) = 0 then nI (0) else (if (m_within snow (nI (0)) (nI (9))) = 0 then nI (0) else nI (1)))))
def m_pass_s (σ : Sg) (months : Int32) (air : Int32) (snow : Int32) : Sg := (m_pass_j36_s σ months air snow (if (m_within months (nI (1)) (nI (24))) = 0 then nI (0) else (if (m_within air (-50) (nI (30))) = 0 then nI (0) else (if (m_within snow (nI (0)) (nI (9))) = 0 then nI (0) else nI (1)))))
theorem m_passOne_k (k : Nat) (hk : k = 5 ∨ 13 ≤ k ∧ k ≠ 17 ∧ k ≠ 23) {σ : Sg} {air snow : Int32} : (m_passOne_s σ air snow).1 k = σ.1 k := by
  unfold m_passOne_s m_passOne_x2_s m_passOne_x48_s m_passOne_x67_s m_passOne_j94_s m_passOne_x96_s m_passOne_x116_s m_passOne_x169_s
  simp only [si, if_neg (show ¬ k = 1 by omega)]
  rw [m_p169 k (by omega), m_p116 k (by omega), m_p96 k (by omega), m_pcr k (by omega), m_p67 k (by omega), m_p48 k (by omega), m_heat_k k (by omega), m_p2 k (by omega)]
theorem m_passOne_4 {σ : Sg} {air snow : Int32} : (m_passOne_s σ air snow).1 4 = (lp (m_passOne_b2 air snow) 25 σ).1 4 := by
  unfold m_passOne_s m_passOne_x2_s m_passOne_x48_s m_passOne_x67_s m_passOne_j94_s m_passOne_x96_s m_passOne_x116_s m_passOne_x169_s
  simp only [si, if_neg (show ¬ (4 : Nat) = 1 by decide)]
  rw [m_p169 4 (by decide), m_p116 4 (by decide), m_p96 4 (by decide), m_pcr 4 (by decide), m_p67 4 (by decide), m_p48 4 (by decide), m_heat_k 4 (by decide)]
theorem m_passOne_1 {σ : Sg} {air snow : Int32} : (m_passOne_s σ air snow).1 1 0 = σ.1 1 0 + nI 1 := by
  unfold m_passOne_s m_passOne_x2_s m_passOne_x48_s m_passOne_x67_s m_passOne_j94_s m_passOne_x96_s m_passOne_x116_s m_passOne_x169_s
  simp only [si, upd, if_true]
  rw [m_p169 1 (by decide), m_p116 1 (by decide), m_p96 1 (by decide), m_pcr 1 (by decide), m_p67 1 (by decide), m_p48 1 (by decide), m_heat_k 1 (by decide), m_p2 1 (by decide)]
theorem m_passOne_ok {σ : Sg} {air snow : Int32} (hO : mOK σ) (hm : vp_in (σ.1 1 0) 600) (hs : vp_in snow 10) : mOK (m_passOne_s σ air snow) := by
  have hk : ∀ k, (k = 5 ∨ 13 ≤ k ∧ k ≠ 17 ∧ k ≠ 23) → (m_passOne_s σ air snow).1 k = σ.1 k := fun k h => m_passOne_k k h
  have h4 := (m_ok_snow (air := air) hO hs 25 (Nat.le_refl _)).2.2.2.2.2.2
  unfold mOK
  rw [hk 13 (by decide), hk 19 (by decide), hk 24 (by decide), hk 14 (by decide), hk 15 (by decide), hk 18 (by decide), hk 20 (by decide), hk 5 (by decide), m_passOne_1, m_passOne_4]
  have e := vp_self hm
  have hl := vp_lt hm
  have e2 : (σ.1 1 0 + nI 1).toNatClampNeg = (σ.1 1 0).toNatClampNeg + 1 := by
    conv => lhs; rw [e]
    rw [nI_add, nI_clamp (by omega)]
  have h1 : vp_in (σ.1 1 0 + nI 1) 601 := by rw [e, nI_add]; exact vp_in_nI (by omega) (by decide)
  refine ⟨hO.1, hO.2.1, hO.2.2.1, h1, fun h hh => ?_, hO.2.2.2.2.2.1, fun c hc => ⟨(h4 c hc).1, (hO.2.2.2.2.2.2 c hc).2⟩⟩
  obtain ⟨g1, g2, g3, g4⟩ := hO.2.2.2.2.1 h hh
  exact ⟨g1, g2, g3, by omega⟩
theorem m_pass_inv {σ : Sg} {air snow : Int32} {n : Nat} (hO : mOK σ) (hn : (σ.1 1 0).toNatClampNeg + n ≤ 600) (hs : vp_in snow 10) (i : Nat) (hi : i ≤ n) : mOK (lp (m_pass_b76 air snow) i σ) ∧ (lp (m_pass_b76 air snow) i σ).1 1 0 = nI ((σ.1 1 0).toNatClampNeg + i) := by
  refine lp_invB (P := fun i (z : Sg) => mOK z ∧ z.1 1 0 = nI ((σ.1 1 0).toNatClampNeg + i)) (N := n) ⟨hO, vp_self hO.2.2.2.1⟩ ?_ i hi
  intro i z hi ⟨h1, h2⟩
  unfold m_pass_b76
  have hm : vp_in (z.1 1 0) 600 := by rw [h2]; exact vp_in_nI (by omega) (by decide)
  exact ⟨m_passOne_ok h1 hm hs, by rw [m_passOne_1, h2, nI_add]; rfl⟩
theorem ck_pass {P Q : Prop} [Decidable P] [Decidable Q] {x : Int32} (hx : x = if P then nI 1 else (if Q then nI 0 else nI 2)) (h : x = 0) : ¬ P ∧ Q := by
  subst hx
  by_cases hP : P
  · rw [if_pos hP] at h; exact absurd h n1_ne
  · rw [if_neg hP] at h
    refine ⟨hP, ?_⟩
    by_cases hQ : Q
    · exact hQ
    · rw [if_neg hQ] at h; exact absurd h n2_ne
theorem m_pass_le {x y : Int32} (hx : vp_in x 601) (hy : vp_in y 25) (h : x + y ≤ nI 600) : x.toNatClampNeg + y.toNatClampNeg ≤ 600 := by
  have e1 := vp_self hx
  have e2 := vp_self hy
  have l1 := vp_lt hx
  have l2 := vp_lt hy
  rw [e1, e2, nI_add] at h
  exact (nI_leI (by omega) (by decide)).mp h
theorem w_in1 {v : Int32} {n : Nat} (h : ¬ m_within v (nI 1) (nI n) = 0) (hn : n < 2 ^ 31) : vp_in v (n + 1) := by
  obtain ⟨h1, h2⟩ := w_within h
  rw [nI_toInt (by omega)] at h1
  rw [nI_toInt hn] at h2
  exact vp_in_iff.mpr ⟨by omega, by omega⟩
set_option maxHeartbeats 4000000 in
set_option maxRecDepth 100000 in
theorem cm_pass (l : Launch) (G : va_G) (cI cZ : ClassId) (a : Nat → Nat) (σ : Sg) (months : Int32) (air : Int32) (snow : Int32) (hO : mOK σ) : mI l yX6_pass wsX6_pass ({ frames := 4, cells := 0, slots := 0, locals := 88 } : Room) G cI cZ a σ [.int (months), .int (air), .int (snow)] (m_pass σ months air snow) (m_pass_s σ months air snow) := by
  unfold mI
  refine Met.ofW (cc := cX6_pass) (maxL := 6) (ret := (some .int)) (by decide) rfl ?_
  intro p e s m args below meth c s₁ B hml hv
  obtain ⟨rfl, hP, hK, hD⟩ := hv
  have hx := B.exec
  have hb := B.bytes
  have hr := B.returns
  have hts := atoms_spec (ws := wsX6_pass) B.pre
  have hown : s.vm.findClass RX6 = some m.cls := findClass_of_methodNamed B.named
  have hlocks := B.notSynchronized
  have hS : va_S (mA a) s.heap s.heap [] := va_S.rf
  have hin : ∀ w ∈ wsX60, w ∈ wsX6_pass := fun w h => List.mem_cons_of_mem _ (List.mem_append_right _ h)
  have hl := lv_entry ([.ref (a 0), .int (months), .int (air), .int (snow)]) (n := 6) (Nat.le_of_ble_eq_true rfl)
  rw [lg_entry_eq]
  generalize (lg_sl ([.ref (a 0), .int (months), .int (air), .int (snow)]) ++ List.replicate (6 - (lg_sl ([.ref (a 0), .int (months), .int (air), .int (snow)])).length) Slot.unset).toArray = ls at hl ⊢
  have hl : lv_has ls 6 [(0, .ref (a 0)), (1, .int (months)), (2, .int (air)), (3, .int (snow))] := hl
  refine w_named (fun WW hWW => ?_)
  have hP : va_P G vwCl (wm cI cZ a σ) s.heap := hP
  refine lv_iload_n hx hb dX6_pass_0 rfl (lv_at hl 1 rfl) ?_
  refine lv_iconst (v := nI (1)) hx hb dX6_pass_1 (by decide) ?_
  refine lv_bipush (v := nI (24)) hx hb dX6_pass_2 (by decide) ?_
  refine m_callS (As := [.int (months), .int (nI (1)), .int (nI (24))]) (rest := []) ⟨hx, hb, hml, hown, hts⟩ (cm_within l months (nI (1)) (nI (24)) ) (va_cwS 3 hts gX6_pass_X6_within rfl rfl rfl (by decide +kernel) ⟨Nat.le_of_ble_eq_true rfl, Nat.le_of_ble_eq_true rfl⟩) hP hS rfl hl.1 rfl (Nat.le_of_ble_eq_true rfl) dX6_pass_4 ⟨Nat.zero_le _, Nat.zero_le _⟩ (fun H locs hP hS => ?_)
  have J36_4 : ∀ (x_3 : Int32), x_3 = (if (m_within months (nI (1)) (nI (24))) = 0 then nI (0) else (if (m_within air (-50) (nI (30))) = 0 then nI (0) else (if (m_within snow (nI (0)) (nI (9))) = 0 then nI (0) else nI (1)))) → ∀ (H : Heap) (locs : List Loc), va_P G vwCl (wm cI cZ a σ) H → va_D (mA a) (wm cI cZ a σ) → va_S (mA a) s.heap H locs → ∀ (ls : Array Slot), lv_has ls 6 [(0, .ref (a 0)), (1, .int (months)), (2, .int (air)), (3, .int (snow))] → WW H locs 0 0 (F0 m 36 ls [.int (x_3)]) := by
    intro x_3 h_5 H locs hP hD hS ls hl
    refine (hWW _ _ _ _ _).mpr ?_
    have hR_6 : m_pass σ months air snow = m_pass_j36 σ months air snow x_3 := (by subst h_5; unfold m_pass; rfl)
    have hR_7 : m_pass_s σ months air snow = m_pass_j36_s σ months air snow x_3 := (by subst h_5; unfold m_pass_s; rfl)
    refine lv_istore (lv' := [(4, .int (x_3)), (0, .ref (a 0)), (1, .int (months)), (2, .int (air)), (3, .int (snow))]) hx hb dX6_pass_36 hl (by decide) rfl (fun ls hl => ?_)
    refine lv_aload_n hx hb dX6_pass_38 rfl (lv_at hl 1 rfl) ?_
    refine lv_iload hx hb dX6_pass_39 (lv_at hl 0 rfl) ?_
    have J65_11 : ∀ (x_10 : Int32), x_10 = (if x_3 = 0 then nI (1) else (if ((σ.1 1 0)) + (months) ≤ nI (600) then nI (0) else nI (2))) → ∀ (H : Heap) (locs : List Loc), va_P G vwCl (wm cI cZ a σ) H → va_D (mA a) (wm cI cZ a σ) → va_S (mA a) s.heap H locs → ∀ (ls : Array Slot), lv_has ls 6 [(4, .int (x_3)), (0, .ref (a 0)), (1, .int (months)), (2, .int (air)), (3, .int (snow))] → WW H locs 0 0 (F0 m 65 ls [.int (x_10), .ref (a 0)]) := by
      intro x_10 h_12 H locs hP hD hS ls hl
      refine (hWW _ _ _ _ _).mpr ?_
      have hR_13 : m_pass σ months air snow = m_pass_j65 σ months air snow x_3 x_10 := (Eq.trans hR_6 (by subst h_12; unfold m_pass_j36; rfl))
      have hR_14 : m_pass_s σ months air snow = m_pass_j65_s σ months air snow x_3 x_10 := (Eq.trans hR_7 (by subst h_12; unfold m_pass_j36_s; rfl))
      refine m_callI (As := [.int (x_10)]) (rest := []) (fun _ h => h) ⟨hx, hb, hml, hown, hts⟩ (cm_refused l G cI cZ a σ  x_10 ) (cwV 1 hts gX6_pass_X6_refused rfl rfl rfl (by decide +kernel) ⟨Nat.le_of_ble_eq_true rfl, Nat.le_of_ble_eq_true rfl⟩) hK hP hD hS rfl hl.1 rfl (Nat.le_of_ble_eq_true rfl) dX6_pass_65 ⟨Nat.zero_le _, Nat.zero_le _⟩ (fun H locs hP hD _ _ hS => ?_)
      refine lv_if_eq (x := (m_refused σ x_10)) (tgt := 73) hx hb dX6_pass_68 (by decide) (fun c_15 => ?_) (fun c_15 => ?_)
      · have q0 := ck_pass h_12 (m_refused_0 c_15)
        have q1 := ck_3 h_5 q0.1
        have hmo : vp_in months 25 := w_in1 (n := 24) q1.1 (by decide)
        have hs : vp_in snow 10 := w_in (n := 9) q1.2.2 (by decide)
        have hml9 := vp_lt hmo
        have hO9 : mOK (m_refused_s σ x_10) := hO
        have hle : ((m_refused_s σ x_10).1 1 0).toNatClampNeg + (months).toNatClampNeg ≤ 600 := m_pass_le hO.2.2.2.1 hmo q0.2
        refine lv_iconst (v := nI (0)) hx hb dX6_pass_73 (by decide) ?_
        refine lv_istore (lv' := [(5, .int (nI (0))), (4, .int (x_3)), (0, .ref (a 0)), (1, .int (months)), (2, .int (air)), (3, .int (snow))]) hx hb dX6_pass_74 hl (by decide) rfl (fun ls hl => ?_)
        have L76 : ∀ (n76 i76 : Nat), i76 ≤ (months).toNatClampNeg → ((months).toNatClampNeg) + 1 ≤ i76 + n76 → ∀ (z76 : Sg), z76 = lp (m_pass_b76 air snow) i76 (m_refused_s σ x_10) → ∀ (H : Heap) (locs : List Loc), va_P G vwCl (wm cI cZ a z76) H → va_D (mA a) (wm cI cZ a z76) → va_S (mA a) s.heap H locs → ∀ (ls : Array Slot), lv_has ls 6 [(5, .int (nI (i76))), (4, .int (x_3)), (0, .ref (a 0)), (1, .int (months)), (2, .int (air)), (3, .int (snow))] → WW H locs 0 0 (F0 m 76 ls []) := by
          intro n76
          induction n76 with
          | zero => intro i76 h1 h2; exact absurd h2 (by omega)
          | succ n76 ih76 =>
            intro i76 hi76 hn76 z76 hz76  H locs hP hD hS ls hl
            refine (hWW _ _ _ _ _).mpr ?_
            have hv := m_pass_inv (air := air) (snow := snow) hO9 hle hs i76 hi76
            rw [← hz76] at hv
            refine lv_iload hx hb dX6_pass_76 (lv_at hl 0 rfl) ?_
            refine lv_iload_n hx hb dX6_pass_78 rfl (lv_at hl 3 rfl) ?_
            refine W.eq (g2 := F0 m 79 ls (.int (nI ((months).toNatClampNeg)) :: .int (nI (i76)) :: [])) (congrArg (fun v => F0 m 79 ls (Value.int v :: .int (nI (i76)) :: [])) (vp_self hmo)) ?_
            refine n_icmp_ge (x := i76) (y := (months).toNatClampNeg) (tgt := 94) hx hb (by omega) (by omega) dX6_pass_79 (by decide) (fun c_16 => ?_) (fun c_16 => ?_)
            · have hiN : (months).toNatClampNeg = i76 := by omega
              subst hiN
              have hR_17 : m_pass σ months air snow = m_pass_x76 σ months air snow x_3 x_10 z76 := (Eq.trans hR_13 (by subst hz76; unfold m_pass_j65; simp only [if_pos c_15]))
              have hR_18 : m_pass_s σ months air snow = m_pass_x76_s σ months air snow x_3 x_10 z76 := (Eq.trans hR_14 (by subst hz76; unfold m_pass_j65_s; simp only [if_pos c_15]))
              refine lv_aload_n hx hb dX6_pass_94 rfl (lv_at hl 2 rfl) ?_
              refine m_get (v := .int ((z76.1 1 0))) hx hb hts hin hown hK hP 1 (by decide) rfl (index := 109) (List.mem_of_getElem? (i := 1) rfl) dX6_pass_95 ?_
              exact m_iret (v := (z76.1 1 0)) hx hb hr hlocks hP hK hD hS dX6_pass_98 (Eq.trans (by unfold m_pass_x76; rfl) hR_17.symm) (Eq.trans (by unfold m_pass_x76_s; rfl) hR_18.symm)
            · refine lv_aload_n hx hb dX6_pass_82 rfl (lv_at hl 2 rfl) ?_
              refine lv_iload_n hx hb dX6_pass_83 rfl (lv_at hl 4 rfl) ?_
              refine lv_iload_n hx hb dX6_pass_84 rfl (lv_at hl 5 rfl) ?_
              refine m_callV (As := [.int (air), .int (snow)]) (rest := []) (fun _ h => h) ⟨hx, hb, hml, hown, hts⟩ (cm_passOne l G cI cZ a z76  air snow hv.1 (by rw [hv.2]; exact vp_in_nI (by omega) (by decide)) hs) (cwV 2 hts gX6_pass_X6_passOne rfl rfl rfl (by decide +kernel) ⟨Nat.le_of_ble_eq_true rfl, Nat.le_of_ble_eq_true rfl⟩) hK hP hD hS rfl hl.1 rfl (Nat.le_of_ble_eq_true rfl) dX6_pass_85 ⟨Nat.zero_le _, Nat.zero_le _⟩ (fun H locs hP hD _ _ hS => ?_)
              refine n_iinc (x := i76) (dN := 1) (k := 0) (lv' := [(5, .int (nI (i76 + 1))), (4, .int (x_3)), (0, .ref (a 0)), (1, .int (months)), (2, .int (air)), (3, .int (snow))]) hx hb dX6_pass_88 hl rfl (by decide) rfl (fun ls hl => ?_)
              refine lv_goto (tgt := 76) hx hb dX6_pass_91 (by decide) ?_
              exact (hWW _ _ _ _ _).mp (ih76 (i76 + 1) (by omega) (by omega) ((m_passOne_s z76 air snow)) (by show _ = m_pass_b76 air snow i76 (lp (m_pass_b76 air snow) i76 (m_refused_s σ x_10)); rw [← hz76]; exact (by unfold m_pass_b76; rfl))  _ _ hP hD hS _ (lv_sub hl [0, 1, 2, 3, 4, 5] rfl))
        exact (hWW _ _ _ _ _).mp (L76 ((months).toNatClampNeg + 1) 0 (Nat.zero_le _) (by omega) (m_refused_s σ x_10) rfl  _ _ hP hD hS _ (lv_sub hl [0, 1, 2, 3, 4, 5] rfl))
      · refine lv_iconst (v := nI (0)) hx hb dX6_pass_71 (by decide) ?_
        exact m_iret (v := nI (0)) hx hb hr hlocks hP hK hD hS dX6_pass_72 (Eq.trans (by unfold m_pass_j65; simp only [if_neg c_15]) hR_13.symm) (Eq.trans (by unfold m_pass_j65_s; simp only [if_neg c_15]) hR_14.symm)
    refine lv_if_ne (x := x_3) (tgt := 48) hx hb dX6_pass_41 (by decide) (fun c_8 => ?_) (fun c_8 => ?_)
    · refine lv_aload_n hx hb dX6_pass_48 rfl (lv_at hl 1 rfl) ?_
      refine m_get (v := .int ((σ.1 1 0))) hx hb hts hin hown hK hP 1 (by decide) rfl (index := 109) (List.mem_of_getElem? (i := 1) rfl) dX6_pass_49 ?_
      refine lv_iload_n hx hb dX6_pass_52 rfl (lv_at hl 2 rfl) ?_
      refine lv_iadd (x := (σ.1 1 0)) (y := months) hx hb dX6_pass_53 ?_
      refine lv_sipush (v := nI (600)) hx hb dX6_pass_54 (by decide) ?_
      refine lv_icmp_le (x := ((σ.1 1 0)) + (months)) (y := nI (600)) (tgt := 64) hx hb dX6_pass_57 (by decide) (fun c_19 => ?_) (fun c_19 => ?_)
      · refine lv_iconst (v := nI (0)) hx hb dX6_pass_64 (by decide) ?_
        exact (hWW _ _ _ _ _).mp (J65_11 _ (by simp only [if_neg c_8, if_pos c_19]) _ _ hP hD hS _ (lv_sub hl [0, 1, 2, 3, 4] rfl))
      · refine lv_iconst (v := nI (2)) hx hb dX6_pass_60 (by decide) ?_
        refine lv_goto (tgt := 65) hx hb dX6_pass_61 (by decide) ?_
        exact (hWW _ _ _ _ _).mp (J65_11 _ (by simp only [if_neg c_8, if_neg c_19]) _ _ hP hD hS _ (lv_sub hl [0, 1, 2, 3, 4] rfl))
    · refine lv_iconst (v := nI (1)) hx hb dX6_pass_44 (by decide) ?_
      refine lv_goto (tgt := 65) hx hb dX6_pass_45 (by decide) ?_
      exact (hWW _ _ _ _ _).mp (J65_11 _ (by simp only [if_pos c_8]) _ _ hP hD hS _ (lv_sub hl [0, 1, 2, 3, 4] rfl))
  refine lv_if_eq (x := (m_within months (nI (1)) (nI (24)))) (tgt := 35) hx hb dX6_pass_7 (by decide) (fun c_1 => ?_) (fun c_1 => ?_)
  · refine lv_iconst (v := nI (0)) hx hb dX6_pass_35 (by decide) ?_
    exact (hWW _ _ _ _ _).mp (J36_4 _ (by simp only [if_pos c_1]) _ _ hP hD hS _ (lv_sub hl [0, 1, 2, 3] rfl))
  · refine lv_iload_n hx hb dX6_pass_10 rfl (lv_at hl 2 rfl) ?_
    refine lv_bipush (v := (-50)) hx hb dX6_pass_11 (by decide) ?_
    refine lv_bipush (v := nI (30)) hx hb dX6_pass_13 (by decide) ?_
    refine m_callS (As := [.int (air), .int ((-50)), .int (nI (30))]) (rest := []) ⟨hx, hb, hml, hown, hts⟩ (cm_within l air (-50) (nI (30)) ) (va_cwS 3 hts gX6_pass_X6_within rfl rfl rfl (by decide +kernel) ⟨Nat.le_of_ble_eq_true rfl, Nat.le_of_ble_eq_true rfl⟩) hP hS rfl hl.1 rfl (Nat.le_of_ble_eq_true rfl) dX6_pass_15 ⟨Nat.zero_le _, Nat.zero_le _⟩ (fun H locs hP hS => ?_)
    refine lv_if_eq (x := (m_within air (-50) (nI (30)))) (tgt := 35) hx hb dX6_pass_18 (by decide) (fun c_20 => ?_) (fun c_20 => ?_)
    · refine lv_iconst (v := nI (0)) hx hb dX6_pass_35 (by decide) ?_
      exact (hWW _ _ _ _ _).mp (J36_4 _ (by simp only [if_neg c_1, if_pos c_20]) _ _ hP hD hS _ (lv_sub hl [0, 1, 2, 3] rfl))
    · refine lv_iload_n hx hb dX6_pass_21 rfl (lv_at hl 3 rfl) ?_
      refine lv_iconst (v := nI (0)) hx hb dX6_pass_22 (by decide) ?_
      refine lv_bipush (v := nI (9)) hx hb dX6_pass_23 (by decide) ?_
      refine m_callS (As := [.int (snow), .int (nI (0)), .int (nI (9))]) (rest := []) ⟨hx, hb, hml, hown, hts⟩ (cm_within l snow (nI (0)) (nI (9)) ) (va_cwS 3 hts gX6_pass_X6_within rfl rfl rfl (by decide +kernel) ⟨Nat.le_of_ble_eq_true rfl, Nat.le_of_ble_eq_true rfl⟩) hP hS rfl hl.1 rfl (Nat.le_of_ble_eq_true rfl) dX6_pass_25 ⟨Nat.zero_le _, Nat.zero_le _⟩ (fun H locs hP hS => ?_)
      refine lv_if_eq (x := (m_within snow (nI (0)) (nI (9)))) (tgt := 35) hx hb dX6_pass_28 (by decide) (fun c_21 => ?_) (fun c_21 => ?_)
      · refine lv_iconst (v := nI (0)) hx hb dX6_pass_35 (by decide) ?_
        exact (hWW _ _ _ _ _).mp (J36_4 _ (by simp only [if_neg c_1, if_neg c_20, if_pos c_21]) _ _ hP hD hS _ (lv_sub hl [0, 1, 2, 3] rfl))
      · refine lv_iconst (v := nI (1)) hx hb dX6_pass_31 (by decide) ?_
        refine lv_goto (tgt := 36) hx hb dX6_pass_32 (by decide) ?_
        exact (hWW _ _ _ _ _).mp (J36_4 _ (by simp only [if_neg c_1, if_neg c_20, if_neg c_21]) _ _ hP hD hS _ (lv_sub hl [0, 1, 2, 3] rfl))
