def m_ground_k216_s (σ : Sg) (cell : Int32) (layer : Int32) (p0 : Int32) (e0 : Int32) (g0 : Int32) (c0 : Int32) (x_3 : Int32) (x_9 : Int32) (x_15 : Int32) (s_19 : Sg) (s_23 : Sg) (s_26 : Sg) (s_29 : Sg) (s_32 : Sg) (s_35 : Sg) (s_38 : Sg) (s_41 : Sg) : Sg := s_41
def m_ground_k207_s (σ : Sg) (cell : Int32) (layer : Int32) (p0 : Int32) (e0 : Int32) (g0 : Int32) (c0 : Int32) (x_3 : Int32) (x_9 : Int32) (x_15 : Int32) (s_19 : Sg) (s_23 : Sg) (s_26 : Sg) (s_29 : Sg) (s_32 : Sg) (s_35 : Sg) (s_38 : Sg) : Sg := (m_ground_k216_s σ cell layer p0 e0 g0 c0 x_3 x_9 x_15 s_19 s_23 s_26 s_29 s_32 s_35 s_38 (si s_38 11 ((((nI (5)) * (cell)) + (layer)).toNatClampNeg) (c0)))
def m_ground_k198_s (σ : Sg) (cell : Int32) (layer : Int32) (p0 : Int32) (e0 : Int32) (g0 : Int32) (c0 : Int32) (x_3 : Int32) (x_9 : Int32) (x_15 : Int32) (s_19 : Sg) (s_23 : Sg) (s_26 : Sg) (s_29 : Sg) (s_32 : Sg) (s_35 : Sg) : Sg := (m_ground_k207_s σ cell layer p0 e0 g0 c0 x_3 x_9 x_15 s_19 s_23 s_26 s_29 s_32 s_35 (si s_35 10 ((((nI (5)) * (cell)) + (layer)).toNatClampNeg) (g0)))
def m_ground_k189_s (σ : Sg) (cell : Int32) (layer : Int32) (p0 : Int32) (e0 : Int32) (g0 : Int32) (c0 : Int32) (x_3 : Int32) (x_9 : Int32) (x_15 : Int32) (s_19 : Sg) (s_23 : Sg) (s_26 : Sg) (s_29 : Sg) (s_32 : Sg) : Sg := (m_ground_k198_s σ cell layer p0 e0 g0 c0 x_3 x_9 x_15 s_19 s_23 s_26 s_29 s_32 (si s_32 9 ((((nI (5)) * (cell)) + (layer)).toNatClampNeg) (e0)))
def m_ground_k181_s (σ : Sg) (cell : Int32) (layer : Int32) (p0 : Int32) (e0 : Int32) (g0 : Int32) (c0 : Int32) (x_3 : Int32) (x_9 : Int32) (x_15 : Int32) (s_19 : Sg) (s_23 : Sg) (s_26 : Sg) (s_29 : Sg) : Sg := (m_ground_k189_s σ cell layer p0 e0 g0 c0 x_3 x_9 x_15 s_19 s_23 s_26 s_29 (si s_29 8 ((((nI (5)) * (cell)) + (layer)).toNatClampNeg) (p0)))
def m_ground_k161_s (σ : Sg) (cell : Int32) (layer : Int32) (p0 : Int32) (e0 : Int32) (g0 : Int32) (c0 : Int32) (x_3 : Int32) (x_9 : Int32) (x_15 : Int32) (s_19 : Sg) (s_23 : Sg) (s_26 : Sg) : Sg := (m_ground_k181_s σ cell layer p0 e0 g0 c0 x_3 x_9 x_15 s_19 s_23 s_26 (sl s_26 28 (((s_26.2 28)) + (((c0) - ((s_26.1 11 ((((nI (5)) * (cell)) + (layer)).toNatClampNeg)))).toInt64))))
def m_ground_k131_s (σ : Sg) (cell : Int32) (layer : Int32) (p0 : Int32) (e0 : Int32) (g0 : Int32) (c0 : Int32) (x_3 : Int32) (x_9 : Int32) (x_15 : Int32) (s_19 : Sg) (s_23 : Sg) : Sg := (m_ground_k161_s σ cell layer p0 e0 g0 c0 x_3 x_9 x_15 s_19 s_23 (sl s_23 27 (((s_23.2 27)) + (((((p0) + (e0)) - ((s_23.1 8 ((((nI (5)) * (cell)) + (layer)).toNatClampNeg)))) - ((s_23.1 9 ((((nI (5)) * (cell)) + (layer)).toNatClampNeg)))).toInt64))))
def m_ground_k100_s (σ : Sg) (cell : Int32) (layer : Int32) (p0 : Int32) (e0 : Int32) (g0 : Int32) (c0 : Int32) (x_3 : Int32) (x_9 : Int32) (x_15 : Int32) (s_19 : Sg) : Sg := (if (m_refused σ x_15) = 0 then (m_ground_k131_s σ cell layer p0 e0 g0 c0 x_3 x_9 x_15 s_19 (sl s_19 26 (((s_19.2 26)) + (((g0) - ((s_19.1 10 ((((nI (5)) * (cell)) + (layer)).toNatClampNeg)))).toInt64)))) else s_19)
def m_ground_j97_s (σ : Sg) (cell : Int32) (layer : Int32) (p0 : Int32) (e0 : Int32) (g0 : Int32) (c0 : Int32) (x_3 : Int32) (x_9 : Int32) (x_15 : Int32) : Sg := (m_ground_k100_s σ cell layer p0 e0 g0 c0 x_3 x_9 x_15 (m_refused_s σ x_15))
def m_ground_j75_s (σ : Sg) (cell : Int32) (layer : Int32) (p0 : Int32) (e0 : Int32) (g0 : Int32) (c0 : Int32) (x_3 : Int32) (x_9 : Int32) : Sg := (m_ground_j97_s σ cell layer p0 e0 g0 c0 x_3 x_9 (if x_3 = 0 then nI (1) else (if x_9 = 0 then nI (2) else nI (0))))
def m_ground_j21_s (σ : Sg) (cell : Int32) (layer : Int32) (p0 : Int32) (e0 : Int32) (g0 : Int32) (c0 : Int32) (x_3 : Int32) : Sg := (m_ground_j75_s σ cell layer p0 e0 g0 c0 x_3 (if (m_within p0 (nI (0)) (nI (9))) = 0 then nI (0) else (if (m_within e0 (nI (0)) (nI (9))) = 0 then nI (0) else (if (m_within g0 (-5000) (nI (30000))) = 0 then nI (0) else (if (m_within c0 (nI (0)) (nI (1000))) = 0 then nI (0) else nI (1))))))
def m_ground_s (σ : Sg) (cell : Int32) (layer : Int32) (p0 : Int32) (e0 : Int32) (g0 : Int32) (c0 : Int32) : Sg := (m_ground_j21_s σ cell layer p0 e0 g0 c0 (if (m_isCell cell) = 0 then nI (0) else (if (m_within layer (nI (0)) (nI (4))) = 0 then nI (0) else nI (1))))
def m_moss_k48 (σ : Sg) (cell : Int32) (moss : Int32) (x_3 : Int32) (s_8 : Sg) (s_13 : Sg) : Int32 := (s_8.1 5 ((cell).toNatClampNeg))
def m_moss_k48_s (σ : Sg) (cell : Int32) (moss : Int32) (x_3 : Int32) (s_8 : Sg) (s_13 : Sg) : Sg := s_13
def m_moss_k29 (σ : Sg) (cell : Int32) (moss : Int32) (x_3 : Int32) (s_8 : Sg) : Int32 := (if (m_refused σ x_3) = 0 then (m_moss_k48 σ cell moss x_3 s_8 (si s_8 5 ((cell).toNatClampNeg) (moss))) else nI (0))
def m_moss_k29_s (σ : Sg) (cell : Int32) (moss : Int32) (x_3 : Int32) (s_8 : Sg) : Sg := (if (m_refused σ x_3) = 0 then (m_moss_k48_s σ cell moss x_3 s_8 (si s_8 5 ((cell).toNatClampNeg) (moss))) else s_8)
def m_moss_j26 (σ : Sg) (cell : Int32) (moss : Int32) (x_3 : Int32) : Int32 := (m_moss_k29 σ cell moss x_3 (m_refused_s σ x_3))
def m_moss_j26_s (σ : Sg) (cell : Int32) (moss : Int32) (x_3 : Int32) : Sg := (m_moss_k29_s σ cell moss x_3 (m_refused_s σ x_3))
def m_moss (σ : Sg) (cell : Int32) (moss : Int32) : Int32 := (m_moss_j26 σ cell moss (if (m_isCell cell) = 0 then nI (1) else (if (m_within moss (nI (0)) (nI (3))) = 0 then nI (2) else nI (0))))
def m_moss_s (σ : Sg) (cell : Int32) (moss : Int32) : Sg := (m_moss_j26_s σ cell moss (if (m_isCell cell) = 0 then nI (1) else (if (m_within moss (nI (0)) (nI (3))) = 0 then nI (2) else nI (0))))
def m_heat_x194_s (σ : Sg) (air : Int32) (z2 : Sg) (z27 : Sg) (z194 : Sg) : Sg := z194
def m_heat_k234 (air : Int32) (i194 : Nat) (z194 : Sg) (x_9 : Int32) (s_13 : Sg) : Sg := s_13
def m_heat_j231 (air : Int32) (i194 : Nat) (z194 : Sg) (x_9 : Int32) : Sg := (m_heat_k234 air i194 z194 x_9 (m_bring_s z194 ((nI (5)) * ((z194.1 14 i194))) x_9))
def m_heat_b194 (air : Int32) (i194 : Nat) (z194 : Sg) : Sg := (m_heat_j231 air i194 z194 (if (z194.1 16 i194) = 0 then nI (300) else (if 0 ≤ air then nI (300) else nI (0))))
def m_heat_x27_s (σ : Sg) (air : Int32) (z2 : Sg) (z27 : Sg) : Sg := (m_heat_x194_s σ air z2 z27 (lp (m_heat_b194 air) ((σ.1 13 0).toNatClampNeg) z27))
def m_heat_k186 (air : Int32) (i27 : Nat) (z27 : Sg) (x_19 : Int32) (x_25 : Int32) (s_29 : Sg) (z111 : Sg) (s_34 : Sg) : Sg := s_34
def m_heat_x111 (air : Int32) (i27 : Nat) (z27 : Sg) (x_19 : Int32) (x_25 : Int32) (s_29 : Sg) (z111 : Sg) : Sg := (m_heat_k186 air i27 z27 x_19 x_25 s_29 z111 (m_bring_s z111 (nI ((5 * i27) + 4)) (nI (10))))
def m_heat_k169 (i27 : Nat) (i111 : Nat) (z111 : Sg) (s_37 : Sg) (s_40 : Sg) : Sg := s_40
def m_heat_k155 (i27 : Nat) (i111 : Nat) (z111 : Sg) (s_37 : Sg) : Sg := (m_heat_k169 i27 i111 z111 s_37 (si s_37 10 ((5 * i27 + i111) + 1) (((s_37.1 10 ((5 * i27 + i111) + 1))) + ((nI (20)) * (((z111.1 12 (5 * i27 + i111))) - ((z111.1 12 ((5 * i27 + i111) + 1))))))))
def m_heat_b111 (i27 : Nat) (i111 : Nat) (z111 : Sg) : Sg := (m_heat_k155 i27 i111 z111 (si z111 10 (5 * i27 + i111) (((z111.1 10 (5 * i27 + i111))) - ((nI (20)) * (((z111.1 12 (5 * i27 + i111))) - ((z111.1 12 ((5 * i27 + i111) + 1))))))))
def m_heat_k106 (air : Int32) (i27 : Nat) (z27 : Sg) (x_19 : Int32) (x_25 : Int32) (s_29 : Sg) : Sg := (m_heat_x111 air i27 z27 x_19 x_25 s_29 (lp (m_heat_b111 i27) 4 s_29))
def m_heat_j84 (air : Int32) (i27 : Nat) (z27 : Sg) (x_19 : Int32) (x_25 : Int32) : Sg := (m_heat_k106 air i27 z27 x_19 x_25 (m_bring_s z27 (nI (5 * i27)) ((x_19) * ((x_25) - ((z27.1 12 (5 * i27)))))))
def m_heat_j66 (air : Int32) (i27 : Nat) (z27 : Sg) (x_19 : Int32) : Sg := (m_heat_j84 air i27 z27 x_19 (if (m_isLake z27 (nI (i27))) = 0 then air else (m_greater (nI (0)) air)))
def m_heat_b27 (air : Int32) (i27 : Nat) (z27 : Sg) : Sg := (m_heat_j66 air i27 z27 (if (m_isLake z27 (nI (i27))) = 0 then (nI (60)) / (((nI (2)) + ((z27.1 4 i27))) + ((nI (2)) * ((z27.1 5 i27)))) else nI (30)))
def m_heat_x2_s (σ : Sg) (air : Int32) (z2 : Sg) : Sg := (m_heat_x27_s σ air z2 (lp (m_heat_b27 air) 25 z2))
def m_heat_k19 (i2 : Nat) (z2 : Sg) (s_43 : Sg) : Sg := s_43
def m_heat_b2  (i2 : Nat) (z2 : Sg) : Sg := (m_heat_k19 i2 z2 (si z2 12 (i2) ((m_degreesOf z2 (nI (i2))))))
def m_heat_s (σ : Sg) (air : Int32) : Sg := (m_heat_x2_s σ air (lp (m_heat_b2) 125 σ))
theorem m_bring_k {σ : Sg} {x v : Int32} {k : Nat} (hk : k ≠ 10) : (m_bring_s σ x v).1 k = σ.1 k := by simp [m_bring_k21_s, m_bring_k10_s, m_bring_s, si, sl, hk]
theorem m_heat_k2 (k : Nat) (hk : k ≠ 12) (n : Nat) (z : Sg) : (lp (m_heat_b2) n z).1 k = z.1 k := lp_kp (fun i z => by simp [m_heat_b2, m_heat_x194_s, m_heat_k234, m_heat_j231, m_heat_x27_s, m_heat_k186, m_heat_x111, m_heat_k169, m_heat_k155, m_heat_k106, m_heat_j84, m_heat_j66, m_heat_x2_s, m_heat_k19, m_heat_s, si, hk]) n z
theorem m_heat_k111 (k : Nat) (hk : k ≠ 10) (c n : Nat) (z : Sg) : (lp (m_heat_b111 c) n z).1 k = z.1 k := lp_kp (fun i z => by simp [m_heat_b111, m_heat_x194_s, m_heat_k234, m_heat_j231, m_heat_x27_s, m_heat_k186, m_heat_x111, m_heat_k169, m_heat_k155, m_heat_k106, m_heat_j84, m_heat_j66, m_heat_x2_s, m_heat_k19, m_heat_s, si, hk]) n z
theorem m_heat_k27 (k : Nat) (hk : k ≠ 10) {air : Int32} (n : Nat) (z : Sg) : (lp (m_heat_b27 air) n z).1 k = z.1 k := lp_kp (fun i z => by simp [m_heat_b27, m_heat_x194_s, m_heat_k234, m_heat_j231, m_heat_x27_s, m_heat_k186, m_heat_x111, m_heat_k169, m_heat_k155, m_heat_k106, m_heat_j84, m_heat_j66, m_heat_x2_s, m_heat_k19, m_heat_s, si, sl, hk, m_bring_k hk, m_heat_k111 k hk]) n z
theorem m_heat_k194 (k : Nat) (hk : k ≠ 10) {air : Int32} (n : Nat) (z : Sg) : (lp (m_heat_b194 air) n z).1 k = z.1 k := lp_kp (fun i z => by simp [m_heat_b194, m_heat_x194_s, m_heat_k234, m_heat_j231, m_heat_x27_s, m_heat_k186, m_heat_x111, m_heat_k169, m_heat_k155, m_heat_k106, m_heat_j84, m_heat_j66, m_heat_x2_s, m_heat_k19, m_heat_s, si, sl, hk, m_bring_k hk]) n z
def m_flow_j152_s (σ : Sg) (k : Nat) (z4 : Int32) (τ_5 : Sg) : Sg := τ_5
def m_flow_k141 (σ : Sg) (k : Nat) (z4 : Int32) (s_9 : Sg) : Sg := (si s_9 3 ((z4).toNatClampNeg) (((s_9.1 3 ((z4).toNatClampNeg))) + ((m_lesser (σ.1 3 k) ((((((σ.1 2 k)) + ((σ.1 3 k))) - ((σ.1 2 ((z4).toNatClampNeg)))) - ((σ.1 3 ((z4).toNatClampNeg)))) / (nI (2)))))))
def m_flow_t113n (σ : Sg) (k : Nat) (z4 : Int32) : Sg := (m_flow_k141 σ k z4 (si σ 3 (k) (((σ.1 3 k)) - ((m_lesser (σ.1 3 k) ((((((σ.1 2 k)) + ((σ.1 3 k))) - ((σ.1 2 ((z4).toNatClampNeg)))) - ((σ.1 3 ((z4).toNatClampNeg)))) / (nI (2))))))))
def m_flow_x4_s (σ : Sg) (k : Nat) (z4 : Int32) : Sg := (m_flow_j152_s σ k z4 (if ((((σ.1 2 k)) + ((σ.1 3 k))) - ((σ.1 2 ((z4).toNatClampNeg)))) - ((σ.1 3 ((z4).toNatClampNeg))) ≤ nI (1) then σ else (m_flow_t113n σ k z4)))
def m_flow_j76 (σ : Sg) (k : Nat) (i4 : Nat) (z4 : Int32) (x_15 : Int32) (x_21 : Int32) : Int32 := x_21
def m_flow_j63 (σ : Sg) (k : Nat) (i4 : Nat) (z4 : Int32) (x_15 : Int32) : Int32 := (m_flow_j76 σ k i4 z4 x_15 (if x_15 = 0 then z4 else (m_beside (nI (k)) (nI (i4)))))
def m_flow_b4 (σ : Sg) (k : Nat) (i4 : Nat) (z4 : Int32) : Int32 := (m_flow_j63 σ k i4 z4 (if (m_beside (nI (k)) (nI (i4))) = (-1) then nI (0) else (if z4 = (-1) then nI (1) else (if ((σ.1 2 ((z4).toNatClampNeg))) + ((σ.1 3 ((z4).toNatClampNeg))) ≤ ((σ.1 2 (((m_beside (nI (k)) (nI (i4)))).toNatClampNeg))) + ((σ.1 3 (((m_beside (nI (k)) (nI (i4)))).toNatClampNeg))) then nI (0) else nI (1)))))
def m_flow_s (σ : Sg) (k : Nat) : Sg := (m_flow_x4_s σ k (lp (m_flow_b4 σ k) 4 (-1)))
theorem m_flow_inv (σ : Sg) {k : Nat} (hk : k < 25) (i : Nat) (hi : i ≤ 4) : (∀ w, w < i → lp (m_flow_b4 σ k) i (-1) = -1 → m_beside (nI k) (nI w) = -1) ∧ (¬ lp (m_flow_b4 σ k) i (-1) = -1 → vp_in (lp (m_flow_b4 σ k) i (-1)) 25) := by
  refine lp_invB (P := fun i z => (∀ w, w < i → z = -1 → m_beside (nI k) (nI w) = -1) ∧ (¬ z = -1 → vp_in z 25)) (N := 4) ⟨fun w hw => absurd hw (by omega), fun h => absurd rfl h⟩ ?_ i hi
  intro i z hi ⟨h1, h2⟩
  simp only [m_flow_b4, m_flow_j152_s, m_flow_k141, m_flow_t113n, m_flow_x4_s, m_flow_j76, m_flow_j63, m_flow_s]
  by_cases hb : m_beside (nI k) (nI i) = -1
  · rw [if_pos hb, if_pos n0_eq]
    exact ⟨fun w hw hz => (Nat.lt_succ_iff_lt_or_eq.mp hw).elim (fun h => h1 w h hz) (fun h => h ▸ hb), h2⟩
  · rw [if_neg hb]
    have hin := m_beside_tab k hk i hi hb
    by_cases hz : z = -1
    · rw [if_pos hz, if_neg n1_ne]
      exact ⟨fun w _ h => absurd h hb, fun _ => hin⟩
    · rw [if_neg hz]
      by_cases hle : ((σ.1 2 (z).toNatClampNeg) + (σ.1 3 (z).toNatClampNeg)) ≤ ((σ.1 2 (m_beside (nI k) (nI i)).toNatClampNeg) + (σ.1 3 (m_beside (nI k) (nI i)).toNatClampNeg))
      · rw [if_pos hle, if_pos n0_eq]
        exact ⟨fun w _ h => absurd h hz, h2⟩
      · rw [if_neg hle, if_neg n1_ne]
        exact ⟨fun w _ h => absurd h hb, fun _ => hin⟩
theorem m_flow_end {k : Nat} {z : Int32} (hk : k < 25) (h : (∀ w, w < 4 → z = -1 → m_beside (nI k) (nI w) = -1) ∧ (¬ z = -1 → vp_in z 25)) : vp_in z 25 := by
  refine h.2 (fun hz => ?_)
  obtain ⟨w, hw, hn⟩ := m_beside_some k hk
  exact hn (h.1 w hw hz)
def m_crack_j132_s (σ : Sg) (z4 : Int32) (s_4 : Sg) (τ_9 : Sg) : Sg := τ_9
def m_crack_k120 (σ : Sg) (z4 : Int32) (s_4 : Sg) (s_15 : Sg) (s_18 : Sg) (s_21 : Sg) : Sg := (si s_21 10 ((((nI (5)) * (z4)) + (nI (1))).toNatClampNeg) (((s_21.1 10 ((((nI (5)) * (z4)) + (nI (1))).toNatClampNeg))) + (nI (1000))))
def m_crack_k110 (σ : Sg) (z4 : Int32) (s_4 : Sg) (s_15 : Sg) (s_18 : Sg) : Sg := (m_crack_k120 σ z4 s_4 s_15 s_18 (si s_18 2 ((z4).toNatClampNeg) (((s_18.1 2 ((z4).toNatClampNeg))) + (nI (1)))))
def m_crack_k100 (σ : Sg) (z4 : Int32) (s_4 : Sg) (s_15 : Sg) : Sg := (m_crack_k110 σ z4 s_4 s_15 (si s_15 9 ((((nI (5)) * (z4)) + (nI (1))).toNatClampNeg) (((s_15.1 9 ((((nI (5)) * (z4)) + (nI (1))).toNatClampNeg))) + (nI (1)))))
def m_crack_t76n (σ : Sg) (z4 : Int32) (s_4 : Sg) : Sg := (if nI (9) ≤ (s_4.1 9 ((((nI (5)) * (z4)) + (nI (1))).toNatClampNeg)) then s_4 else (m_crack_k100 σ z4 s_4 (si s_4 3 ((z4).toNatClampNeg) (((s_4.1 3 ((z4).toNatClampNeg))) - (nI (1))))))
def m_crack_k70_s (σ : Sg) (z4 : Int32) (s_4 : Sg) : Sg := (m_crack_j132_s σ z4 s_4 (if (s_4.1 3 ((z4).toNatClampNeg)) ≤ 0 then s_4 else (m_crack_t76n σ z4 s_4)))
def m_crack_x4_s (σ : Sg) (z4 : Int32) : Sg := (if (m_degreesOf σ (((nI (5)) * (z4)) + (nI (1)))) ≤ (-10) then (m_crack_k70_s σ z4 (si σ 6 ((z4).toNatClampNeg) (((σ.1 6 ((z4).toNatClampNeg))) + (nI (1))))) else σ)
def m_crack_j36 (σ : Sg) (i4 : Nat) (z4 : Int32) (x_27 : Int32) : Int32 := x_27
def m_crack_b4 (σ : Sg) (i4 : Nat) (z4 : Int32) : Int32 := (m_crack_j36 σ i4 z4 (if (m_degreesOf σ (((nI (5)) * (z4)) + (nI (1)))) ≤ (m_degreesOf σ (nI ((5 * (1 + i4)) + 1))) then z4 else nI (1 + i4)))
def m_crack_s (σ : Sg) : Sg := (m_crack_x4_s σ (lp (m_crack_b4 σ) 24 (nI (0))))
theorem m_crack_inv (σ : Sg) (i : Nat) (hi : i ≤ 24) : vp_in (lp (m_crack_b4 σ) i (nI 0)) 25 := by
  refine lp_invB (P := fun _ z => vp_in z 25) (N := 24) (vp_in_nI (by decide) (by decide)) ?_ i hi
  intro i z hi hz
  simp only [m_crack_b4, m_crack_j132_s, m_crack_k120, m_crack_k110, m_crack_k100, m_crack_t76n, m_crack_k70_s, m_crack_x4_s, m_crack_j36, m_crack_s]
  split
  · exact hz
  · exact vp_in_nI (by omega) (by decide)
def m_wake_j166_s (σ : Sg) (k : Nat) (air : Int32) (z4 : Sg) (τ_5 : Sg) : Sg := τ_5
def m_wake_x4_s (σ : Sg) (k : Nat) (air : Int32) (z4 : Sg) : Sg := (m_wake_j166_s σ k air z4 (if air ≤ 0 then z4 else (if (m_isLake z4 (nI (k))) = 0 then (si (sl z4 30 (((z4.2 30)) - (((z4.1 5 k)).toInt64))) 11 (5 * k) ((((sl z4 30 (((z4.2 30)) - (((z4.1 5 k)).toInt64))).1 11 (5 * k))) + (((sl z4 30 (((z4.2 30)) - (((z4.1 5 k)).toInt64))).1 5 k)))) else z4)))
def m_wake_j115 (k : Nat) (i4 : Nat) (z4 : Sg) (τ_14 : Sg) : Sg := τ_14
def m_wake_j111 (k : Nat) (i4 : Nat) (z4 : Sg) (s_18 : Sg) (x_23 : Int64) (s_27 : Sg) (x_32 : Int64) : Sg := (sl s_27 30 (((s_27.2 30)) + (x_32)))
def m_wake_k91 (k : Nat) (i4 : Nat) (z4 : Sg) (s_18 : Sg) (x_23 : Int64) (s_27 : Sg) : Sg := (m_wake_j111 k i4 z4 s_18 x_23 s_27 (if (m_isLake s_27 (nI (k))) = 0 then ((m_lesser ((((((m_degreesOf z4 (nI (5 * k + i4)))).toInt64) * (((z4.1 11 (5 * k + i4))).toInt64)) / ((1000 : Int64))).toInt32) (z4.1 11 (5 * k + i4)))).toInt64 else (0 : Int64)))
def m_wake_j87 (k : Nat) (i4 : Nat) (z4 : Sg) (s_18 : Sg) (x_23 : Int64) : Sg := (m_wake_k91 k i4 z4 s_18 x_23 (sl s_18 31 (((s_18.2 31)) + (x_23))))
def m_wake_k67 (k : Nat) (i4 : Nat) (z4 : Sg) (s_18 : Sg) : Sg := (m_wake_j87 k i4 z4 s_18 (if (m_isLake s_18 (nI (k))) = 0 then (0 : Int64) else ((m_lesser ((((((m_degreesOf z4 (nI (5 * k + i4)))).toInt64) * (((z4.1 11 (5 * k + i4))).toInt64)) / ((1000 : Int64))).toInt32) (z4.1 11 (5 * k + i4)))).toInt64))
def m_wake_t22n (k : Nat) (i4 : Nat) (z4 : Sg) : Sg := (m_wake_k67 k i4 z4 (si z4 11 (5 * k + i4) (((z4.1 11 (5 * k + i4))) - ((m_lesser ((((((m_degreesOf z4 (nI (5 * k + i4)))).toInt64) * (((z4.1 11 (5 * k + i4))).toInt64)) / ((1000 : Int64))).toInt32) (z4.1 11 (5 * k + i4)))))))
def m_wake_b4 (k : Nat) (i4 : Nat) (z4 : Sg) : Sg := (m_wake_j115 k i4 z4 (if (m_degreesOf z4 (nI (5 * k + i4))) ≤ 0 then z4 else (m_wake_t22n k i4 z4)))
def m_wake_s (σ : Sg) (k : Nat) (air : Int32) : Sg := (m_wake_x4_s σ k air (lp (m_wake_b4 k) 5 σ))
def m_fire_k85 (σ : Sg) (cell : Int32) (x_3 : Int32) (s_8 : Sg) (s_13 : Sg) (s_17 : Sg) (s_21 : Sg) : Int32 := ((s_8.1 11 (((nI (5)) * (cell)).toNatClampNeg))) / (nI (2))
def m_fire_k85_s (σ : Sg) (cell : Int32) (x_3 : Int32) (s_8 : Sg) (s_13 : Sg) (s_17 : Sg) (s_21 : Sg) : Sg := s_21
def m_fire_k74 (σ : Sg) (cell : Int32) (x_3 : Int32) (s_8 : Sg) (s_13 : Sg) (s_17 : Sg) : Int32 := (m_fire_k85 σ cell x_3 s_8 s_13 s_17 (sl s_17 30 (((s_17.2 30)) + ((((s_8.1 11 (((nI (5)) * (cell)).toNatClampNeg))) / (nI (2))).toInt64))))
def m_fire_k74_s (σ : Sg) (cell : Int32) (x_3 : Int32) (s_8 : Sg) (s_13 : Sg) (s_17 : Sg) : Sg := (m_fire_k85_s σ cell x_3 s_8 s_13 s_17 (sl s_17 30 (((s_17.2 30)) + ((((s_8.1 11 (((nI (5)) * (cell)).toNatClampNeg))) / (nI (2))).toInt64))))
def m_fire_k62 (σ : Sg) (cell : Int32) (x_3 : Int32) (s_8 : Sg) (s_13 : Sg) : Int32 := (m_fire_k74 σ cell x_3 s_8 s_13 (si s_13 11 (((nI (5)) * (cell)).toNatClampNeg) (((s_13.1 11 (((nI (5)) * (cell)).toNatClampNeg))) - (((s_8.1 11 (((nI (5)) * (cell)).toNatClampNeg))) / (nI (2))))))
def m_fire_k62_s (σ : Sg) (cell : Int32) (x_3 : Int32) (s_8 : Sg) (s_13 : Sg) : Sg := (m_fire_k74_s σ cell x_3 s_8 s_13 (si s_13 11 (((nI (5)) * (cell)).toNatClampNeg) (((s_13.1 11 (((nI (5)) * (cell)).toNatClampNeg))) - (((s_8.1 11 (((nI (5)) * (cell)).toNatClampNeg))) / (nI (2))))))
def m_fire_k39 (σ : Sg) (cell : Int32) (x_3 : Int32) (s_8 : Sg) : Int32 := (if (m_refused σ x_3) = 0 then (m_fire_k62 σ cell x_3 s_8 (si s_8 5 ((cell).toNatClampNeg) (nI (0)))) else nI (0))
def m_fire_k39_s (σ : Sg) (cell : Int32) (x_3 : Int32) (s_8 : Sg) : Sg := (if (m_refused σ x_3) = 0 then (m_fire_k62_s σ cell x_3 s_8 (si s_8 5 ((cell).toNatClampNeg) (nI (0)))) else s_8)
def m_fire_j36 (σ : Sg) (cell : Int32) (x_3 : Int32) : Int32 := (m_fire_k39 σ cell x_3 (m_refused_s σ x_3))
def m_fire_j36_s (σ : Sg) (cell : Int32) (x_3 : Int32) : Sg := (m_fire_k39_s σ cell x_3 (m_refused_s σ x_3))
def m_fire (σ : Sg) (cell : Int32) : Int32 := (m_fire_j36 σ cell (if (m_isCell cell) = 0 then nI (1) else (if (m_isLake σ cell) = 0 then (if (σ.1 4 ((cell).toNatClampNeg)) ≤ 0 then nI (0) else nI (2)) else nI (2))))
def m_fire_s (σ : Sg) (cell : Int32) : Sg := (m_fire_j36_s σ cell (if (m_isCell cell) = 0 then nI (1) else (if (m_isLake σ cell) = 0 then (if (σ.1 4 ((cell).toNatClampNeg)) ≤ 0 then nI (0) else nI (2)) else nI (2))))
def m_houseIn_x4 (σ : Sg) (cell : Int32) (z4 : Int32) : Int32 := z4
def m_houseIn_j27 (σ : Sg) (cell : Int32) (i4 : Nat) (z4 : Int32) (x_5 : Int32) : Int32 := x_5
def m_houseIn_b4 (σ : Sg) (cell : Int32) (i4 : Nat) (z4 : Int32) : Int32 := (m_houseIn_j27 σ cell i4 z4 (if (σ.1 14 i4) = cell then nI (i4) else z4))
def m_houseIn (σ : Sg) (cell : Int32) : Int32 := (m_houseIn_x4 σ cell (lp (m_houseIn_b4 σ cell) ((σ.1 13 0).toNatClampNeg) (-1)))
def m_house_k125 (σ : Sg) (cell : Int32) (pile : Int32) (co : Int32) (x_3 : Int32) (x_10 : Int32) (s_15 : Sg) (s_21 : Sg) (s_26 : Sg) (s_31 : Sg) (s_36 : Sg) (s_41 : Sg) : Int32 := ((s_41.1 13 0)) - (nI (1))
def m_house_k125_s (σ : Sg) (cell : Int32) (pile : Int32) (co : Int32) (x_3 : Int32) (x_10 : Int32) (s_15 : Sg) (s_21 : Sg) (s_26 : Sg) (s_31 : Sg) (s_36 : Sg) (s_41 : Sg) : Sg := s_41
def m_house_k115 (σ : Sg) (cell : Int32) (pile : Int32) (co : Int32) (x_3 : Int32) (x_10 : Int32) (s_15 : Sg) (s_21 : Sg) (s_26 : Sg) (s_31 : Sg) (s_36 : Sg) : Int32 := (m_house_k125 σ cell pile co x_3 x_10 s_15 s_21 s_26 s_31 s_36 (si s_36 13 (0) (((s_36.1 13 0)) + (nI (1)))))
def m_house_k115_s (σ : Sg) (cell : Int32) (pile : Int32) (co : Int32) (x_3 : Int32) (x_10 : Int32) (s_15 : Sg) (s_21 : Sg) (s_26 : Sg) (s_31 : Sg) (s_36 : Sg) : Sg := (m_house_k125_s σ cell pile co x_3 x_10 s_15 s_21 s_26 s_31 s_36 (si s_36 13 (0) (((s_36.1 13 0)) + (nI (1)))))
def m_house_k102 (σ : Sg) (cell : Int32) (pile : Int32) (co : Int32) (x_3 : Int32) (x_10 : Int32) (s_15 : Sg) (s_21 : Sg) (s_26 : Sg) (s_31 : Sg) : Int32 := (m_house_k115 σ cell pile co x_3 x_10 s_15 s_21 s_26 s_31 (si s_31 18 (((s_31.1 13 0)).toNatClampNeg) ((s_31.1 1 0))))
def m_house_k102_s (σ : Sg) (cell : Int32) (pile : Int32) (co : Int32) (x_3 : Int32) (x_10 : Int32) (s_15 : Sg) (s_21 : Sg) (s_26 : Sg) (s_31 : Sg) : Sg := (m_house_k115_s σ cell pile co x_3 x_10 s_15 s_21 s_26 s_31 (si s_31 18 (((s_31.1 13 0)).toNatClampNeg) ((s_31.1 1 0))))
def m_house_k92 (σ : Sg) (cell : Int32) (pile : Int32) (co : Int32) (x_3 : Int32) (x_10 : Int32) (s_15 : Sg) (s_21 : Sg) (s_26 : Sg) : Int32 := (m_house_k102 σ cell pile co x_3 x_10 s_15 s_21 s_26 (si s_26 16 (((s_26.1 13 0)).toNatClampNeg) (vp_nar .boolean (co))))
def m_house_k92_s (σ : Sg) (cell : Int32) (pile : Int32) (co : Int32) (x_3 : Int32) (x_10 : Int32) (s_15 : Sg) (s_21 : Sg) (s_26 : Sg) : Sg := (m_house_k102_s σ cell pile co x_3 x_10 s_15 s_21 s_26 (si s_26 16 (((s_26.1 13 0)).toNatClampNeg) (vp_nar .boolean (co))))
def m_house_k82 (σ : Sg) (cell : Int32) (pile : Int32) (co : Int32) (x_3 : Int32) (x_10 : Int32) (s_15 : Sg) (s_21 : Sg) : Int32 := (m_house_k92 σ cell pile co x_3 x_10 s_15 s_21 (si s_21 15 (((s_21.1 13 0)).toNatClampNeg) (pile)))
def m_house_k82_s (σ : Sg) (cell : Int32) (pile : Int32) (co : Int32) (x_3 : Int32) (x_10 : Int32) (s_15 : Sg) (s_21 : Sg) : Sg := (m_house_k92_s σ cell pile co x_3 x_10 s_15 s_21 (si s_21 15 (((s_21.1 13 0)).toNatClampNeg) (pile)))
def m_house_k67 (σ : Sg) (cell : Int32) (pile : Int32) (co : Int32) (x_3 : Int32) (x_10 : Int32) (s_15 : Sg) : Int32 := (if (m_refused σ x_10) = 0 then (m_house_k82 σ cell pile co x_3 x_10 s_15 (si s_15 14 (((s_15.1 13 0)).toNatClampNeg) (cell))) else nI (0))
def m_house_k67_s (σ : Sg) (cell : Int32) (pile : Int32) (co : Int32) (x_3 : Int32) (x_10 : Int32) (s_15 : Sg) : Sg := (if (m_refused σ x_10) = 0 then (m_house_k82_s σ cell pile co x_3 x_10 s_15 (si s_15 14 (((s_15.1 13 0)).toNatClampNeg) (cell))) else s_15)
def m_house_j64 (σ : Sg) (cell : Int32) (pile : Int32) (co : Int32) (x_3 : Int32) (x_10 : Int32) : Int32 := (m_house_k67 σ cell pile co x_3 x_10 (m_refused_s σ x_10))
def m_house_j64_s (σ : Sg) (cell : Int32) (pile : Int32) (co : Int32) (x_3 : Int32) (x_10 : Int32) : Sg := (m_house_k67_s σ cell pile co x_3 x_10 (m_refused_s σ x_10))
def m_house_j21 (σ : Sg) (cell : Int32) (pile : Int32) (co : Int32) (x_3 : Int32) : Int32 := (m_house_j64 σ cell pile co x_3 (if x_3 = 0 then nI (1) else (if (m_houseIn σ cell) = (-1) then (if (m_isLake σ cell) = 0 then (if (σ.1 13 0) = nI (10) then nI (2) else nI (0)) else nI (2)) else nI (2))))
def m_house_j21_s (σ : Sg) (cell : Int32) (pile : Int32) (co : Int32) (x_3 : Int32) : Sg := (m_house_j64_s σ cell pile co x_3 (if x_3 = 0 then nI (1) else (if (m_houseIn σ cell) = (-1) then (if (m_isLake σ cell) = 0 then (if (σ.1 13 0) = nI (10) then nI (2) else nI (0)) else nI (2)) else nI (2))))
def m_house (σ : Sg) (cell : Int32) (pile : Int32) (co : Int32) : Int32 := (m_house_j21 σ cell pile co (if (m_isCell cell) = 0 then nI (0) else (if (m_within pile (nI (1)) (nI (4))) = 0 then nI (0) else nI (1))))
def m_house_s (σ : Sg) (cell : Int32) (pile : Int32) (co : Int32) : Sg := (m_house_j21_s σ cell pile co (if (m_isCell cell) = 0 then nI (0) else (if (m_within pile (nI (1)) (nI (4))) = 0 then nI (0) else nI (1))))
def m_borehole_k92 (σ : Sg) (cell : Int32) (dr : Int32) (x_3 : Int32) (s_8 : Sg) (s_14 : Sg) (s_19 : Sg) (s_24 : Sg) (s_29 : Sg) : Int32 := ((s_29.1 19 0)) - (nI (1))
def m_borehole_k92_s (σ : Sg) (cell : Int32) (dr : Int32) (x_3 : Int32) (s_8 : Sg) (s_14 : Sg) (s_19 : Sg) (s_24 : Sg) (s_29 : Sg) : Sg := s_29
def m_borehole_k82 (σ : Sg) (cell : Int32) (dr : Int32) (x_3 : Int32) (s_8 : Sg) (s_14 : Sg) (s_19 : Sg) (s_24 : Sg) : Int32 := (m_borehole_k92 σ cell dr x_3 s_8 s_14 s_19 s_24 (si s_24 19 (0) (((s_24.1 19 0)) + (nI (1)))))
def m_borehole_k82_s (σ : Sg) (cell : Int32) (dr : Int32) (x_3 : Int32) (s_8 : Sg) (s_14 : Sg) (s_19 : Sg) (s_24 : Sg) : Sg := (m_borehole_k92_s σ cell dr x_3 s_8 s_14 s_19 s_24 (si s_24 19 (0) (((s_24.1 19 0)) + (nI (1)))))
def m_borehole_k69 (σ : Sg) (cell : Int32) (dr : Int32) (x_3 : Int32) (s_8 : Sg) (s_14 : Sg) (s_19 : Sg) : Int32 := (m_borehole_k82 σ cell dr x_3 s_8 s_14 s_19 (si s_19 22 (((s_19.1 19 0)).toNatClampNeg) ((s_19.1 1 0))))
def m_borehole_k69_s (σ : Sg) (cell : Int32) (dr : Int32) (x_3 : Int32) (s_8 : Sg) (s_14 : Sg) (s_19 : Sg) : Sg := (m_borehole_k82_s σ cell dr x_3 s_8 s_14 s_19 (si s_19 22 (((s_19.1 19 0)).toNatClampNeg) ((s_19.1 1 0))))
def m_borehole_k59 (σ : Sg) (cell : Int32) (dr : Int32) (x_3 : Int32) (s_8 : Sg) (s_14 : Sg) : Int32 := (m_borehole_k69 σ cell dr x_3 s_8 s_14 (si s_14 21 (((s_14.1 19 0)).toNatClampNeg) (dr)))
def m_borehole_k59_s (σ : Sg) (cell : Int32) (dr : Int32) (x_3 : Int32) (s_8 : Sg) (s_14 : Sg) : Sg := (m_borehole_k69_s σ cell dr x_3 s_8 s_14 (si s_14 21 (((s_14.1 19 0)).toNatClampNeg) (dr)))
def m_borehole_k44 (σ : Sg) (cell : Int32) (dr : Int32) (x_3 : Int32) (s_8 : Sg) : Int32 := (if (m_refused σ x_3) = 0 then (m_borehole_k59 σ cell dr x_3 s_8 (si s_8 20 (((s_8.1 19 0)).toNatClampNeg) (cell))) else nI (0))
def m_borehole_k44_s (σ : Sg) (cell : Int32) (dr : Int32) (x_3 : Int32) (s_8 : Sg) : Sg := (if (m_refused σ x_3) = 0 then (m_borehole_k59_s σ cell dr x_3 s_8 (si s_8 20 (((s_8.1 19 0)).toNatClampNeg) (cell))) else s_8)
def m_borehole_j41 (σ : Sg) (cell : Int32) (dr : Int32) (x_3 : Int32) : Int32 := (m_borehole_k44 σ cell dr x_3 (m_refused_s σ x_3))
def m_borehole_j41_s (σ : Sg) (cell : Int32) (dr : Int32) (x_3 : Int32) : Sg := (m_borehole_k44_s σ cell dr x_3 (m_refused_s σ x_3))
def m_borehole (σ : Sg) (cell : Int32) (dr : Int32) : Int32 := (m_borehole_j41 σ cell dr (if (m_isCell cell) = 0 then nI (1) else (if (m_within dr (-12) (nI (12))) = 0 then nI (2) else (if (σ.1 19 0) = nI (10) then nI (3) else nI (0)))))
def m_borehole_s (σ : Sg) (cell : Int32) (dr : Int32) : Sg := (m_borehole_j41_s σ cell dr (if (m_isCell cell) = 0 then nI (1) else (if (m_within dr (-12) (nI (12))) = 0 then nI (2) else (if (σ.1 19 0) = nI (10) then nI (3) else nI (0)))))
def m_isHouse (σ : Sg) (h : Int32) : Int32 := (m_within h (nI (0)) (((σ.1 13 0)) - (nI (1))))
def m_worth_x9 (σ : Sg) (h : Int32) (z9 : Int32) : Int32 := (nI (100)) * ((m_lesser (σ.1 17 ((h).toNatClampNeg)) z9))
def m_worth_j125 (σ : Sg) (h : Int32) (i9 : Nat) (z9 : Int32) (z23 : Int32) (x_7 : Int32) : Int32 := (z9) + (x_7)
def m_worth_x23 (σ : Sg) (h : Int32) (i9 : Nat) (z9 : Int32) (z23 : Int32) : Int32 := (m_worth_j125 σ h i9 z9 z23 (if z23 = 0 then nI (0) else nI (1)))
def m_worth_j106 (σ : Sg) (h : Int32) (i9 : Nat) (i23 : Nat) (z23 : Int32) (x_13 : Int32) (x_19 : Int32) : Int32 := x_19
def m_worth_j64 (σ : Sg) (h : Int32) (i9 : Nat) (i23 : Nat) (z23 : Int32) (x_13 : Int32) : Int32 := (m_worth_j106 σ h i9 i23 z23 x_13 (if z23 = 0 then (if x_13 = 0 then nI (0) else (if (σ.1 23 (((nI ((3000 * i23) + (5 * ((σ.1 18 ((h).toNatClampNeg)).toNatClampNeg + i9)))) + ((σ.1 15 ((h).toNatClampNeg)))).toNatClampNeg)) < 0 then nI (0) else nI (1))) else nI (1)))
def m_worth_b23 (σ : Sg) (h : Int32) (i9 : Nat) (i23 : Nat) (z23 : Int32) : Int32 := (m_worth_j64 σ h i9 i23 z23 (if (σ.1 20 i23) = (σ.1 14 ((h).toNatClampNeg)) then (if nI ((σ.1 18 ((h).toNatClampNeg)).toNatClampNeg + i9) < (σ.1 22 i23) then nI (0) else nI (1)) else nI (0)))
def m_worth_b9 (σ : Sg) (h : Int32) (i9 : Nat) (z9 : Int32) : Int32 := (m_worth_x23 σ h i9 z9 (lp (m_worth_b23 σ h i9) ((σ.1 19 0).toNatClampNeg) (nI (0))))
def m_worth (σ : Sg) (h : Int32) : Int32 := (m_worth_x9 σ h (lp (m_worth_b9 σ h) ((σ.1 1 0).toNatClampNeg - (σ.1 18 ((h).toNatClampNeg)).toNatClampNeg) (nI (0))))
def m_claim_k61 (σ : Sg) (h : Int32) (x_3 : Int32) (s_8 : Sg) (s_14 : Sg) (s_19 : Sg) : Int32 := ((s_19.1 24 0)) - (nI (1))
def m_claim_k61_s (σ : Sg) (h : Int32) (x_3 : Int32) (s_8 : Sg) (s_14 : Sg) (s_19 : Sg) : Sg := s_19
def m_claim_k51 (σ : Sg) (h : Int32) (x_3 : Int32) (s_8 : Sg) (s_14 : Sg) : Int32 := (m_claim_k61 σ h x_3 s_8 s_14 (si s_14 24 (0) (((s_14.1 24 0)) + (nI (1)))))
def m_claim_k51_s (σ : Sg) (h : Int32) (x_3 : Int32) (s_8 : Sg) (s_14 : Sg) : Sg := (m_claim_k61_s σ h x_3 s_8 s_14 (si s_14 24 (0) (((s_14.1 24 0)) + (nI (1)))))
def m_claim_k32 (σ : Sg) (h : Int32) (x_3 : Int32) (s_8 : Sg) : Int32 := (if (m_refused σ x_3) = 0 then (m_claim_k51 σ h x_3 s_8 (si s_8 25 (((s_8.1 24 0)).toNatClampNeg) ((m_worth s_8 h)))) else nI (0))
def m_claim_k32_s (σ : Sg) (h : Int32) (x_3 : Int32) (s_8 : Sg) : Sg := (if (m_refused σ x_3) = 0 then (m_claim_k51_s σ h x_3 s_8 (si s_8 25 (((s_8.1 24 0)).toNatClampNeg) ((m_worth s_8 h)))) else s_8)
def m_claim_j29 (σ : Sg) (h : Int32) (x_3 : Int32) : Int32 := (m_claim_k32 σ h x_3 (m_refused_s σ x_3))
def m_claim_j29_s (σ : Sg) (h : Int32) (x_3 : Int32) : Sg := (m_claim_k32_s σ h x_3 (m_refused_s σ x_3))
def m_claim (σ : Sg) (h : Int32) : Int32 := (m_claim_j29 σ h (if (m_isHouse σ h) = 0 then nI (1) else (if (σ.1 24 0) = nI (40) then nI (2) else nI (0))))
def m_claim_s (σ : Sg) (h : Int32) : Sg := (m_claim_j29_s σ h (if (m_isHouse σ h) = 0 then nI (1) else (if (σ.1 24 0) = nI (40) then nI (2) else nI (0))))
def m_month_k5 (σ : Sg) (s_1 : Sg) : Int32 := (s_1.1 1 0)
def m_month_k5_s (σ : Sg) (s_1 : Sg) : Sg := s_1
def m_month (σ : Sg) : Int32 := (m_month_k5 σ (si σ 0 (0) (nI (0))))
def m_month_s (σ : Sg) : Sg := (m_month_k5_s σ (si σ 0 (0) (nI (0))))
def m_gather_x36_s (σ : Sg) (z2 : Sg) (z36 : Int32 × Sg) : Sg := z36.2
def m_gather_x44 (z36 : Int32 × Sg) (z44 : Int32 × Sg) : Int32 × Sg := (z44.1, z44.2)
def m_gather_j121 (i44 : Nat) (z44 : Int32 × Sg) (y_10 : Int32) (τ_11 : Sg) : Int32 × Sg := (y_10, τ_11)
def m_gather_b44  (i44 : Nat) (z44 : Int32 × Sg) : Int32 × Sg := (m_gather_j121 i44 z44 (if (m_beside (nI (i44 / 4)) (nI (i44 % 4))) = (-1) then z44.1 else (if (z44.2.1 7 (i44 / 4)) = (-1) then z44.1 else (if (z44.2.1 7 (((m_beside (nI (i44 / 4)) (nI (i44 % 4)))).toNatClampNeg)) = (-1) then z44.1 else (if (z44.2.1 7 (i44 / 4)) ≤ (z44.2.1 7 (((m_beside (nI (i44 / 4)) (nI (i44 % 4)))).toNatClampNeg)) then z44.1 else nI (1))))) (if (m_beside (nI (i44 / 4)) (nI (i44 % 4))) = (-1) then z44.2 else (if (z44.2.1 7 (i44 / 4)) = (-1) then z44.2 else (if (z44.2.1 7 (((m_beside (nI (i44 / 4)) (nI (i44 % 4)))).toNatClampNeg)) = (-1) then z44.2 else (if (z44.2.1 7 (i44 / 4)) ≤ (z44.2.1 7 (((m_beside (nI (i44 / 4)) (nI (i44 % 4)))).toNatClampNeg)) then z44.2 else (si z44.2 7 (i44 / 4) ((z44.2.1 7 (((m_beside (nI (i44 / 4)) (nI (i44 % 4)))).toNatClampNeg)))))))))
def m_gather_b36 (z36 : Int32 × Sg) : Int32 × Sg := (m_gather_x44 z36 (lp (m_gather_b44) 100 (nI (0), z36.2)))
def m_gather_w36 : Nat → Int32 × Sg → Int32 × Sg
  | 0, z => z
  | n + 1, z => if z.1 = 0 then z else m_gather_w36 n (m_gather_b36 z)
def m_gather_x2_s (σ : Sg) (z2 : Sg) : Sg := (m_gather_x36_s σ z2 (m_gather_w36 700 (nI (1), z2)))
def m_gather_k28 (i2 : Nat) (z2 : Sg) (x_23 : Int32) (s_27 : Sg) : Sg := s_27
def m_gather_j27 (i2 : Nat) (z2 : Sg) (x_23 : Int32) : Sg := (m_gather_k28 i2 z2 x_23 (si z2 7 (i2) (x_23)))
def m_gather_b2  (i2 : Nat) (z2 : Sg) : Sg := (m_gather_j27 i2 z2 (if (z2.1 3 i2) ≤ 0 then (-1) else nI (i2)))
def m_gather_s (σ : Sg) : Sg := (m_gather_x2_s σ (lp (m_gather_b2) 25 σ))
def isum (f : Nat → Int) : Nat → Int
  | 0 => 0
  | n + 1 => isum f n + f n
theorem isum_le {f g : Nat → Int} {n : Nat} (h : ∀ c, c < n → f c ≤ g c) : isum f n ≤ isum g n := by
  induction n with
  | zero => exact Int.le_refl _
  | succ n ih =>
    have h1 := ih (fun c hc => h c (by omega))
    have h2 := h n (by omega)
    show isum f n + f n ≤ isum g n + g n
    omega
theorem isum_lt {f g : Nat → Int} {n k : Nat} (hk : k < n) (h : ∀ c, c < n → f c ≤ g c) (hs : f k < g k) : isum f n < isum g n := by
  induction n with
  | zero => omega
  | succ n ih =>
    have h2 := h n (by omega)
    show isum f n + f n < isum g n + g n
    by_cases hn : k = n
    · subst hn
      have h1 := isum_le (n := k) (fun c hc => h c (by omega))
      omega
    · have h1 := ih (by omega) (fun c hc => h c (by omega))
      omega
theorem isum_c {c : Int} (n : Nat) : isum (fun _ => c) n = n * c := by
  induction n with
  | zero => show (0 : Int) = _; omega
  | succ n ih =>
    show isum (fun _ => c) n + c = _
    rw [ih, Int.natCast_succ, Int.add_mul]
    omega
def m_lab (σ : Sg) : Int := isum (fun c => (σ.1 7 c).toInt) 25
def m_gather_mu (z : Int32 × Sg) : Nat := if z.1 = 0 then 0 else 1 + (m_lab z.2 + 25).toNat
def m_gather_ok (n : Nat) (z : Int32 × Sg) : Prop := (∀ c, c < 25 → -1 ≤ (z.2.1 7 c).toInt) ∧ m_gather_mu z < n
theorem m_gather_ok_0 (z : Int32 × Sg) : ¬ m_gather_ok 0 z := fun h => absurd h.2 (Nat.not_lt_zero _)
theorem m_gather_cases (i : Nat) (w : Int32 × Sg) : m_gather_b44 i w = w ∨ (¬ m_beside (nI (i / 4)) (nI (i % 4)) = -1 ∧ ¬ w.2.1 7 (i / 4) = -1 ∧ ¬ w.2.1 7 (m_beside (nI (i / 4)) (nI (i % 4))).toNatClampNeg = -1 ∧ ¬ w.2.1 7 (i / 4) ≤ w.2.1 7 (m_beside (nI (i / 4)) (nI (i % 4))).toNatClampNeg ∧ m_gather_b44 i w = (nI 1, si w.2 7 (i / 4) (w.2.1 7 (m_beside (nI (i / 4)) (nI (i % 4))).toNatClampNeg))) := by
  by_cases h1 : m_beside (nI (i / 4)) (nI (i % 4)) = -1
  · exact Or.inl (by simp only [m_gather_b44, m_gather_x36_s, m_gather_x44, m_gather_j121, m_gather_x2_s, m_gather_k28, m_gather_j27, m_gather_s, if_pos h1])
  by_cases h2 : w.2.1 7 (i / 4) = -1
  · exact Or.inl (by simp only [m_gather_b44, m_gather_x36_s, m_gather_x44, m_gather_j121, m_gather_x2_s, m_gather_k28, m_gather_j27, m_gather_s, if_neg h1, if_pos h2])
  by_cases h3 : w.2.1 7 (m_beside (nI (i / 4)) (nI (i % 4))).toNatClampNeg = -1
  · exact Or.inl (by simp only [m_gather_b44, m_gather_x36_s, m_gather_x44, m_gather_j121, m_gather_x2_s, m_gather_k28, m_gather_j27, m_gather_s, if_neg h1, if_neg h2, if_pos h3])
  by_cases h4 : w.2.1 7 (i / 4) ≤ w.2.1 7 (m_beside (nI (i / 4)) (nI (i % 4))).toNatClampNeg
  · exact Or.inl (by simp only [m_gather_b44, m_gather_x36_s, m_gather_x44, m_gather_j121, m_gather_x2_s, m_gather_k28, m_gather_j27, m_gather_s, if_neg h1, if_neg h2, if_neg h3, if_pos h4])
  · exact Or.inr ⟨h1, h2, h3, h4, by simp only [m_gather_b44, m_gather_x36_s, m_gather_x44, m_gather_j121, m_gather_x2_s, m_gather_k28, m_gather_j27, m_gather_s, if_neg h1, if_neg h2, if_neg h3, if_neg h4]⟩
theorem m_gather_step (z : Sg) (hz : ∀ c, c < 25 → -1 ≤ (z.1 7 c).toInt) (i : Nat) (hi : i ≤ 100) : (∀ c, c < 25 → -1 ≤ ((lp (m_gather_b44) i (nI 0, z)).2.1 7 c).toInt) ∧ m_lab (lp (m_gather_b44) i (nI 0, z)).2 ≤ m_lab z ∧ ((lp (m_gather_b44) i (nI 0, z)).1 = 0 ∨ m_lab (lp (m_gather_b44) i (nI 0, z)).2 < m_lab z) := by
  refine lp_invB (f := m_gather_b44) (z := (nI 0, z)) (n := i) (P := fun _ w => (∀ c, c < 25 → -1 ≤ (w.2.1 7 c).toInt) ∧ m_lab w.2 ≤ m_lab z ∧ (w.1 = 0 ∨ m_lab w.2 < m_lab z)) (N := 100) (by dsimp only; exact ⟨hz, Int.le_refl _, Or.inl n0_eq⟩) ?_ hi
  intro i w hi ⟨h1, h2, h3⟩
  rcases m_gather_cases i w with h | ⟨hb, g1, g2, g3, h⟩
  · rw [h]; exact ⟨h1, h2, h3⟩
  · rw [h]
    have hin := vp_lt (m_beside_tab (i / 4) (by omega) (i % 4) (by omega) hb)
    generalize (m_beside (nI (i / 4)) (nI (i % 4))).toNatClampNeg = j at hin g2 g3
    rw [i_le] at g3
    have hl : m_lab (si w.2 7 (i / 4) (w.2.1 7 j)) < m_lab w.2 := by
      refine isum_lt (k := i / 4) (by omega) (fun c hc => ?_) ?_
      · by_cases hci : c = i / 4
        · subst hci; simp only [si, upd, if_true]; omega
        · simp only [si, upd, if_true, if_neg hci]; omega
      · simp only [si, upd, if_true]; omega
    refine ⟨fun c hc => ?_, by show m_lab (si w.2 7 (i / 4) (w.2.1 7 j)) ≤ _; omega, Or.inr (by show m_lab (si w.2 7 (i / 4) (w.2.1 7 j)) < _; omega)⟩
    by_cases hci : c = i / 4
    · subst hci; simp only [si, upd, if_true]; exact h1 j hin
    · simp only [si, upd, if_true, if_neg hci]; exact h1 c hc
theorem m_gather_ok_s {n : Nat} {z : Int32 × Sg} (h : m_gather_ok (n + 1) z) (hz : ¬ z.1 = 0) : m_gather_ok n (m_gather_b36 z) := by
  obtain ⟨h1, h2⟩ := h
  obtain ⟨s1, s2, s3⟩ := m_gather_step z.2 h1 100 (Nat.le_refl _)
  have e : m_gather_b36 z = lp (m_gather_b44) 100 (nI 0, z.2) := by simp only [m_gather_b36, m_gather_x36_s, m_gather_x44, m_gather_j121, m_gather_x2_s, m_gather_k28, m_gather_j27, m_gather_s]
  unfold m_gather_mu at h2
  rw [if_neg hz] at h2
  refine ⟨by rw [e]; exact s1, ?_⟩
  rw [e]
  generalize lp (m_gather_b44) 100 (nI 0, z.2) = w at s1 s2 s3
  unfold m_gather_mu
  by_cases hw : w.1 = 0
  · rw [if_pos hw]; omega
  · rw [if_neg hw]
    have h3 := s3.resolve_left hw
    have h4 : -25 ≤ m_lab w.2 := by
      have q := isum_le (f := fun _ => -1) (g := fun c => (w.2.1 7 c).toInt) (n := 25) s1
      rw [isum_c] at q
      exact q
    omega
theorem m_gather_lab0 (σ : Sg) (i : Nat) : ∀ c, c < i → c < 25 → (lp (m_gather_b2) i σ).1 7 c = (if σ.1 3 c ≤ 0 then -1 else nI c) := by
  refine (lp_inv (P := fun i (z : Sg) => (∀ c, c < i → c < 25 → z.1 7 c = (if σ.1 3 c ≤ 0 then -1 else nI c)) ∧ z.1 3 = σ.1 3) ⟨fun c hc => absurd hc (by omega), rfl⟩ ?_ i).1
  intro i z ⟨h1, h2⟩
  simp only [m_gather_b2, m_gather_x36_s, m_gather_x44, m_gather_j121, m_gather_x2_s, m_gather_k28, m_gather_j27, m_gather_s]
  refine ⟨fun c hc h25 => ?_, by simpa [si] using h2⟩
  by_cases hci : c = i
  · subst hci; simp only [si, upd, if_true, h2]
  · simp only [si, upd, if_true, if_neg hci]; exact h1 c (by omega) h25
theorem m_gather_ok_i (σ : Sg) : m_gather_ok 700 (nI 1, lp (m_gather_b2) 25 σ) := by
  have hb : ∀ c, c < 25 → -1 ≤ ((lp (m_gather_b2) 25 σ).1 7 c).toInt ∧ ((lp (m_gather_b2) 25 σ).1 7 c).toInt ≤ 24 := by
    intro c hc
    rw [m_gather_lab0 σ 25 c hc hc]
    by_cases h : σ.1 3 c ≤ 0
    · rw [if_pos h]; exact ⟨by decide, by decide⟩
    · rw [if_neg h, nI_toInt (by omega)]; omega
  refine ⟨fun c hc => (hb c hc).1, ?_⟩
  unfold m_gather_mu
  rw [if_neg n1_ne]
  have q := isum_le (f := fun c => ((lp (m_gather_b2) 25 σ).1 7 c).toInt) (g := fun _ => 24) (n := 25) (fun c hc => (hb c hc).2)
  rw [isum_c] at q
  have q2 : m_lab (lp (m_gather_b2) 25 σ) ≤ 600 := q
  dsimp only
  omega
def m_breach_k134 (σ : Sg) (cell : Int32) (x_3 : Int32) (s_8 : Sg) (s_13 : Sg) (z45 : Int32 × Sg) (s_20 : Sg) : Int32 := z45.1
def m_breach_k134_s (σ : Sg) (cell : Int32) (x_3 : Int32) (s_8 : Sg) (s_13 : Sg) (z45 : Int32 × Sg) (s_20 : Sg) : Sg := s_20
def m_breach_x45 (σ : Sg) (cell : Int32) (x_3 : Int32) (s_8 : Sg) (s_13 : Sg) (z45 : Int32 × Sg) : Int32 := (m_breach_k134 σ cell x_3 s_8 s_13 z45 (sl z45.2 29 (((z45.2.2 29)) + ((z45.1).toInt64))))
def m_breach_x45_s (σ : Sg) (cell : Int32) (x_3 : Int32) (s_8 : Sg) (s_13 : Sg) (z45 : Int32 × Sg) : Sg := (m_breach_k134_s σ cell x_3 s_8 s_13 z45 (sl z45.2 29 (((z45.2.2 29)) + ((z45.1).toInt64))))
def m_breach_k117 (cell : Int32) (i45 : Nat) (z45 : Int32 × Sg) (x_26 : Int32) (x_32 : Int32) (x_38 : Int32) (s_42 : Sg) : Int32 × Sg := ((z45.1) + (x_32), s_42)
def m_breach_j116 (cell : Int32) (i45 : Nat) (z45 : Int32 × Sg) (x_26 : Int32) (x_32 : Int32) (x_38 : Int32) : Int32 × Sg := (m_breach_k117 cell i45 z45 x_26 x_32 x_38 (si z45.2 3 (i45) (x_38)))
def m_breach_j92 (cell : Int32) (i45 : Nat) (z45 : Int32 × Sg) (x_26 : Int32) (x_32 : Int32) : Int32 × Sg := (m_breach_j116 cell i45 z45 x_26 x_32 (if x_26 = 0 then (z45.2.1 3 i45) else nI (0)))
def m_breach_j73 (cell : Int32) (i45 : Nat) (z45 : Int32 × Sg) (x_26 : Int32) : Int32 × Sg := (m_breach_j92 cell i45 z45 x_26 (if x_26 = 0 then nI (0) else (z45.2.1 3 i45)))
def m_breach_b45 (cell : Int32) (i45 : Nat) (z45 : Int32 × Sg) : Int32 × Sg := (m_breach_j73 cell i45 z45 (if (z45.2.1 7 i45) = (z45.2.1 7 ((cell).toNatClampNeg)) then nI (1) else nI (0)))
def m_breach_k40 (σ : Sg) (cell : Int32) (x_3 : Int32) (s_8 : Sg) (s_13 : Sg) : Int32 := (m_breach_x45 σ cell x_3 s_8 s_13 (lp (m_breach_b45 cell) 25 (nI (0), s_13)))
def m_breach_k40_s (σ : Sg) (cell : Int32) (x_3 : Int32) (s_8 : Sg) (s_13 : Sg) : Sg := (m_breach_x45_s σ cell x_3 s_8 s_13 (lp (m_breach_b45 cell) 25 (nI (0), s_13)))
def m_breach_k31 (σ : Sg) (cell : Int32) (x_3 : Int32) (s_8 : Sg) : Int32 := (if (m_refused σ x_3) = 0 then (m_breach_k40 σ cell x_3 s_8 (m_gather_s s_8)) else nI (0))
def m_breach_k31_s (σ : Sg) (cell : Int32) (x_3 : Int32) (s_8 : Sg) : Sg := (if (m_refused σ x_3) = 0 then (m_breach_k40_s σ cell x_3 s_8 (m_gather_s s_8)) else s_8)
def m_breach_j28 (σ : Sg) (cell : Int32) (x_3 : Int32) : Int32 := (m_breach_k31 σ cell x_3 (m_refused_s σ x_3))
def m_breach_j28_s (σ : Sg) (cell : Int32) (x_3 : Int32) : Sg := (m_breach_k31_s σ cell x_3 (m_refused_s σ x_3))
def m_breach (σ : Sg) (cell : Int32) : Int32 := (m_breach_j28 σ cell (if (m_isCell cell) = 0 then nI (1) else (if (σ.1 3 ((cell).toNatClampNeg)) = 0 then nI (2) else nI (0))))
def m_breach_s (σ : Sg) (cell : Int32) : Sg := (m_breach_j28_s σ cell (if (m_isCell cell) = 0 then nI (1) else (if (σ.1 3 ((cell).toNatClampNeg)) = 0 then nI (2) else nI (0))))
def m_lakeOf_x8 (σ : Sg) (cl : Int32) (s_1 : Sg) (z8 : Int32) : Int32 := z8
def m_lakeOf_x8_s (σ : Sg) (cl : Int32) (s_1 : Sg) (z8 : Int32) : Sg := s_1
def m_lakeOf_j45 (s_1 : Sg) (cl : Int32) (i8 : Nat) (z8 : Int32) (x_10 : Int32) : Int32 := (z8) + (x_10)
def m_lakeOf_b8 (s_1 : Sg) (cl : Int32) (i8 : Nat) (z8 : Int32) : Int32 := (m_lakeOf_j45 s_1 cl i8 z8 (if (s_1.1 7 ((cl).toNatClampNeg)) = (-1) then nI (0) else (if (s_1.1 7 i8) = (s_1.1 7 ((cl).toNatClampNeg)) then nI (1) else nI (0))))
def m_lakeOf_k4 (σ : Sg) (cl : Int32) (s_1 : Sg) : Int32 := (m_lakeOf_x8 σ cl s_1 (lp (m_lakeOf_b8 s_1 cl) 25 (nI (0))))
def m_lakeOf_k4_s (σ : Sg) (cl : Int32) (s_1 : Sg) : Sg := (m_lakeOf_x8_s σ cl s_1 (lp (m_lakeOf_b8 s_1 cl) 25 (nI (0))))
def m_lakeOf (σ : Sg) (cl : Int32) : Int32 := (m_lakeOf_k4 σ cl (m_gather_s σ))
def m_lakeOf_s (σ : Sg) (cl : Int32) : Sg := (m_lakeOf_k4_s σ cl (m_gather_s σ))
def m_thawed_j26 (σ : Sg) (cl : Int32) (y_4 : Int32) : Int32 := y_4
def m_thawed (σ : Sg) (cl : Int32) : Int32 := (m_thawed_j26 σ cl (if (σ.1 10 ((((nI (5)) * (cl)) + (nI (0))).toNatClampNeg)) < 0 then nI (0) else (if (σ.1 10 ((((nI (5)) * (cl)) + (nI (1))).toNatClampNeg)) < 0 then nI (1) else (if (σ.1 10 ((((nI (5)) * (cl)) + (nI (2))).toNatClampNeg)) < 0 then nI (2) else (if (σ.1 10 ((((nI (5)) * (cl)) + (nI (3))).toNatClampNeg)) < 0 then nI (3) else (if (σ.1 10 ((((nI (5)) * (cl)) + (nI (4))).toNatClampNeg)) < 0 then nI (4) else nI (5)))))))
def m_cellOf_j134 (σ : Sg) (cell : Int32) (what : Int32) (x_3 : Int32) (s_8 : Sg) (x_16 : Int32) (τ_17 : Sg) : Int32 := x_16
def m_cellOf_j134_s (σ : Sg) (cell : Int32) (what : Int32) (x_3 : Int32) (s_8 : Sg) (x_16 : Int32) (τ_17 : Sg) : Sg := τ_17
def m_cellOf_j87 (σ : Sg) (cell : Int32) (what : Int32) (x_3 : Int32) (s_8 : Sg) (x_29 : Int32) : Int32 := x_29
def m_cellOf_j87_s (σ : Sg) (cell : Int32) (what : Int32) (x_3 : Int32) (s_8 : Sg) (x_29 : Int32) : Sg := s_8
def m_cellOf_k30 (σ : Sg) (cell : Int32) (what : Int32) (x_3 : Int32) (s_8 : Sg) : Int32 := (if (m_refused σ x_3) = 0 then (if nI (4) ≤ what then (m_cellOf_j134 σ cell what x_3 s_8 (if what = nI (4) then (s_8.1 6 ((cell).toNatClampNeg)) else (if what = nI (5) then (m_houseIn s_8 cell) else (if what = nI (6) then (m_lakeOf s_8 cell) else (m_thawed s_8 cell)))) (if what = nI (4) then s_8 else (if what = nI (5) then s_8 else (if what = nI (6) then (m_lakeOf_s s_8 cell) else s_8)))) else (m_cellOf_j87 σ cell what x_3 s_8 (if what = 0 then (s_8.1 2 ((cell).toNatClampNeg)) else (if what = nI (1) then (s_8.1 3 ((cell).toNatClampNeg)) else (if what = nI (2) then (s_8.1 4 ((cell).toNatClampNeg)) else (s_8.1 5 ((cell).toNatClampNeg))))))) else nI (0))
def m_cellOf_k30_s (σ : Sg) (cell : Int32) (what : Int32) (x_3 : Int32) (s_8 : Sg) : Sg := (if (m_refused σ x_3) = 0 then (if nI (4) ≤ what then (m_cellOf_j134_s σ cell what x_3 s_8 (if what = nI (4) then (s_8.1 6 ((cell).toNatClampNeg)) else (if what = nI (5) then (m_houseIn s_8 cell) else (if what = nI (6) then (m_lakeOf s_8 cell) else (m_thawed s_8 cell)))) (if what = nI (4) then s_8 else (if what = nI (5) then s_8 else (if what = nI (6) then (m_lakeOf_s s_8 cell) else s_8)))) else (m_cellOf_j87_s σ cell what x_3 s_8 (if what = 0 then (s_8.1 2 ((cell).toNatClampNeg)) else (if what = nI (1) then (s_8.1 3 ((cell).toNatClampNeg)) else (if what = nI (2) then (s_8.1 4 ((cell).toNatClampNeg)) else (s_8.1 5 ((cell).toNatClampNeg))))))) else s_8)
def m_cellOf_j27 (σ : Sg) (cell : Int32) (what : Int32) (x_3 : Int32) : Int32 := (m_cellOf_k30 σ cell what x_3 (m_refused_s σ x_3))
def m_cellOf_j27_s (σ : Sg) (cell : Int32) (what : Int32) (x_3 : Int32) : Sg := (m_cellOf_k30_s σ cell what x_3 (m_refused_s σ x_3))
def m_cellOf (σ : Sg) (cell : Int32) (what : Int32) : Int32 := (m_cellOf_j27 σ cell what (if (m_isCell cell) = 0 then nI (1) else (if (m_within what (nI (0)) (nI (7))) = 0 then nI (2) else nI (0))))
def m_cellOf_s (σ : Sg) (cell : Int32) (what : Int32) : Sg := (m_cellOf_j27_s σ cell what (if (m_isCell cell) = 0 then nI (1) else (if (m_within what (nI (0)) (nI (7))) = 0 then nI (2) else nI (0))))
def m_layerOf_j139 (σ : Sg) (cell : Int32) (layer : Int32) (what : Int32) (x_3 : Int32) (x_10 : Int32) (s_15 : Sg) (x_23 : Int32) : Int32 := x_23
def m_layerOf_j139_s (σ : Sg) (cell : Int32) (layer : Int32) (what : Int32) (x_3 : Int32) (x_10 : Int32) (s_15 : Sg) (x_23 : Int32) : Sg := s_15
def m_layerOf_j102 (σ : Sg) (cell : Int32) (layer : Int32) (what : Int32) (x_3 : Int32) (x_10 : Int32) (s_15 : Sg) (x_31 : Int32) : Int32 := x_31
def m_layerOf_j102_s (σ : Sg) (cell : Int32) (layer : Int32) (what : Int32) (x_3 : Int32) (x_10 : Int32) (s_15 : Sg) (x_31 : Int32) : Sg := s_15
def m_layerOf_k50 (σ : Sg) (cell : Int32) (layer : Int32) (what : Int32) (x_3 : Int32) (x_10 : Int32) (s_15 : Sg) : Int32 := (if (m_refused σ x_10) = 0 then (if nI (3) ≤ what then (m_layerOf_j139 σ cell layer what x_3 x_10 s_15 (if what = nI (3) then (s_15.1 9 ((((nI (5)) * (cell)) + (layer)).toNatClampNeg)) else (if what = nI (4) then (s_15.1 11 ((((nI (5)) * (cell)) + (layer)).toNatClampNeg)) else (m_melted s_15 (((nI (5)) * (cell)) + (layer)))))) else (m_layerOf_j102 σ cell layer what x_3 x_10 s_15 (if what = 0 then (m_degreesOf s_15 (((nI (5)) * (cell)) + (layer))) else (if what = nI (1) then (s_15.1 10 ((((nI (5)) * (cell)) + (layer)).toNatClampNeg)) else (s_15.1 8 ((((nI (5)) * (cell)) + (layer)).toNatClampNeg)))))) else nI (0))
def m_layerOf_k50_s (σ : Sg) (cell : Int32) (layer : Int32) (what : Int32) (x_3 : Int32) (x_10 : Int32) (s_15 : Sg) : Sg := (if (m_refused σ x_10) = 0 then (if nI (3) ≤ what then (m_layerOf_j139_s σ cell layer what x_3 x_10 s_15 (if what = nI (3) then (s_15.1 9 ((((nI (5)) * (cell)) + (layer)).toNatClampNeg)) else (if what = nI (4) then (s_15.1 11 ((((nI (5)) * (cell)) + (layer)).toNatClampNeg)) else (m_melted s_15 (((nI (5)) * (cell)) + (layer)))))) else (m_layerOf_j102_s σ cell layer what x_3 x_10 s_15 (if what = 0 then (m_degreesOf s_15 (((nI (5)) * (cell)) + (layer))) else (if what = nI (1) then (s_15.1 10 ((((nI (5)) * (cell)) + (layer)).toNatClampNeg)) else (s_15.1 8 ((((nI (5)) * (cell)) + (layer)).toNatClampNeg)))))) else s_15)
def m_layerOf_j47 (σ : Sg) (cell : Int32) (layer : Int32) (what : Int32) (x_3 : Int32) (x_10 : Int32) : Int32 := (m_layerOf_k50 σ cell layer what x_3 x_10 (m_refused_s σ x_10))
def m_layerOf_j47_s (σ : Sg) (cell : Int32) (layer : Int32) (what : Int32) (x_3 : Int32) (x_10 : Int32) : Sg := (m_layerOf_k50_s σ cell layer what x_3 x_10 (m_refused_s σ x_10))
def m_layerOf_j21 (σ : Sg) (cell : Int32) (layer : Int32) (what : Int32) (x_3 : Int32) : Int32 := (m_layerOf_j47 σ cell layer what x_3 (if x_3 = 0 then nI (1) else (if (m_within what (nI (0)) (nI (5))) = 0 then nI (2) else nI (0))))
def m_layerOf_j21_s (σ : Sg) (cell : Int32) (layer : Int32) (what : Int32) (x_3 : Int32) : Sg := (m_layerOf_j47_s σ cell layer what x_3 (if x_3 = 0 then nI (1) else (if (m_within what (nI (0)) (nI (5))) = 0 then nI (2) else nI (0))))
def m_layerOf (σ : Sg) (cell : Int32) (layer : Int32) (what : Int32) : Int32 := (m_layerOf_j21 σ cell layer what (if (m_isCell cell) = 0 then nI (0) else (if (m_within layer (nI (0)) (nI (4))) = 0 then nI (0) else nI (1))))
def m_layerOf_s (σ : Sg) (cell : Int32) (layer : Int32) (what : Int32) : Sg := (m_layerOf_j21_s σ cell layer what (if (m_isCell cell) = 0 then nI (0) else (if (m_within layer (nI (0)) (nI (4))) = 0 then nI (0) else nI (1))))
def m_neighbour_x33 (σ : Sg) (cell : Int32) (w : Int32) (x_3 : Int32) (s_8 : Sg) (z33 : Int32 × Int32) : Int32 := z33.1
def m_neighbour_x33_s (σ : Sg) (cell : Int32) (w : Int32) (x_3 : Int32) (s_8 : Sg) (z33 : Int32 × Int32) : Sg := s_8
def m_neighbour_j79 (cell : Int32) (w : Int32) (i33 : Nat) (z33 : Int32 × Int32) (x_18 : Int32) (x_24 : Int32) : Int32 × Int32 := (x_18, (z33.2) + (x_24))
def m_neighbour_j65 (cell : Int32) (w : Int32) (i33 : Nat) (z33 : Int32 × Int32) (x_18 : Int32) : Int32 × Int32 := (m_neighbour_j79 cell w i33 z33 x_18 (if (m_beside cell (nI (i33))) = (-1) then nI (0) else nI (1)))
def m_neighbour_b33 (cell w : Int32) (i33 : Nat) (z33 : Int32 × Int32) : Int32 × Int32 := (m_neighbour_j65 cell w i33 z33 (if (m_beside cell (nI (i33))) = (-1) then z33.1 else (if z33.2 = w then (m_beside cell (nI (i33))) else z33.1)))
def m_neighbour_k20 (σ : Sg) (cell : Int32) (w : Int32) (x_3 : Int32) (s_8 : Sg) : Int32 := (if (m_refused σ x_3) = 0 then (m_neighbour_x33 σ cell w x_3 s_8 (lp (m_neighbour_b33 cell w) 4 ((-1), nI (0)))) else nI (0))
def m_neighbour_k20_s (σ : Sg) (cell : Int32) (w : Int32) (x_3 : Int32) (s_8 : Sg) : Sg := (if (m_refused σ x_3) = 0 then (m_neighbour_x33_s σ cell w x_3 s_8 (lp (m_neighbour_b33 cell w) 4 ((-1), nI (0)))) else s_8)
def m_neighbour_j17 (σ : Sg) (cell : Int32) (w : Int32) (x_3 : Int32) : Int32 := (m_neighbour_k20 σ cell w x_3 (m_refused_s σ x_3))
def m_neighbour_j17_s (σ : Sg) (cell : Int32) (w : Int32) (x_3 : Int32) : Sg := (m_neighbour_k20_s σ cell w x_3 (m_refused_s σ x_3))
def m_neighbour (σ : Sg) (cell : Int32) (w : Int32) : Int32 := (m_neighbour_j17 σ cell w (if (m_isCell cell) = 0 then nI (1) else (if w < 0 then nI (1) else nI (0))))
def m_neighbour_s (σ : Sg) (cell : Int32) (w : Int32) : Sg := (m_neighbour_j17_s σ cell w (if (m_isCell cell) = 0 then nI (1) else (if w < 0 then nI (1) else nI (0))))
def m_lakes_x13 (σ : Sg) (s_1 : Sg) (s_5 : Sg) (z13 : Int32) : Int32 := z13
def m_lakes_x13_s (σ : Sg) (s_1 : Sg) (s_5 : Sg) (z13 : Int32) : Sg := s_5
def m_lakes_j77 (s_5 : Sg) (i13 : Nat) (z13 : Int32) (z24 : Int32) (x_16 : Int32) : Int32 := (z13) + (x_16)
def m_lakes_x24 (s_5 : Sg) (i13 : Nat) (z13 : Int32) (z24 : Int32) : Int32 := (m_lakes_j77 s_5 i13 z13 z24 (if z24 = 0 then nI (0) else nI (1)))
def m_lakes_j60 (s_5 : Sg) (i13 : Nat) (i24 : Nat) (z24 : Int32) (x_22 : Int32) : Int32 := x_22
def m_lakes_b24 (s_5 : Sg) (i13 : Nat) (i24 : Nat) (z24 : Int32) : Int32 := (m_lakes_j60 s_5 i13 i24 z24 (if z24 = 0 then (if (s_5.1 7 i24) = nI (i13) then (if (m_isLake s_5 (nI (i24))) = 0 then nI (0) else nI (1)) else nI (0)) else nI (1)))
def m_lakes_b13 (s_5 : Sg) (i13 : Nat) (z13 : Int32) : Int32 := (m_lakes_x24 s_5 i13 z13 (lp (m_lakes_b24 s_5 i13) 25 (nI (0))))
def m_lakes_k9 (σ : Sg) (s_1 : Sg) (s_5 : Sg) : Int32 := (m_lakes_x13 σ s_1 s_5 (lp (m_lakes_b13 s_5) 25 (nI (0))))
def m_lakes_k9_s (σ : Sg) (s_1 : Sg) (s_5 : Sg) : Sg := (m_lakes_x13_s σ s_1 s_5 (lp (m_lakes_b13 s_5) 25 (nI (0))))
def m_lakes_k5 (σ : Sg) (s_1 : Sg) : Int32 := (m_lakes_k9 σ s_1 (m_gather_s s_1))
def m_lakes_k5_s (σ : Sg) (s_1 : Sg) : Sg := (m_lakes_k9_s σ s_1 (m_gather_s s_1))
def m_lakes (σ : Sg) : Int32 := (m_lakes_k5 σ (si σ 0 (0) (nI (0))))
def m_lakes_s (σ : Sg) : Sg := (m_lakes_k5_s σ (si σ 0 (0) (nI (0))))
def m_houseOf_j93 (σ : Sg) (h : Int32) (what : Int32) (x_3 : Int32) (s_8 : Sg) (x_16 : Int32) : Int32 := x_16
def m_houseOf_j93_s (σ : Sg) (h : Int32) (what : Int32) (x_3 : Int32) (s_8 : Sg) (x_16 : Int32) : Sg := s_8
def m_houseOf_j59 (σ : Sg) (h : Int32) (what : Int32) (x_3 : Int32) (s_8 : Sg) (x_24 : Int32) : Int32 := x_24
def m_houseOf_j59_s (σ : Sg) (h : Int32) (what : Int32) (x_3 : Int32) (s_8 : Sg) (x_24 : Int32) : Sg := s_8
def m_houseOf_k30 (σ : Sg) (h : Int32) (what : Int32) (x_3 : Int32) (s_8 : Sg) : Int32 := (if (m_refused σ x_3) = 0 then (if nI (2) ≤ what then (m_houseOf_j93 σ h what x_3 s_8 (if what = nI (2) then (s_8.1 17 ((h).toNatClampNeg)) else (if what = nI (3) then (s_8.1 18 ((h).toNatClampNeg)) else (m_worth s_8 h)))) else (m_houseOf_j59 σ h what x_3 s_8 (if what = 0 then (s_8.1 14 ((h).toNatClampNeg)) else (s_8.1 15 ((h).toNatClampNeg))))) else nI (0))
def m_houseOf_k30_s (σ : Sg) (h : Int32) (what : Int32) (x_3 : Int32) (s_8 : Sg) : Sg := (if (m_refused σ x_3) = 0 then (if nI (2) ≤ what then (m_houseOf_j93_s σ h what x_3 s_8 (if what = nI (2) then (s_8.1 17 ((h).toNatClampNeg)) else (if what = nI (3) then (s_8.1 18 ((h).toNatClampNeg)) else (m_worth s_8 h)))) else (m_houseOf_j59_s σ h what x_3 s_8 (if what = 0 then (s_8.1 14 ((h).toNatClampNeg)) else (s_8.1 15 ((h).toNatClampNeg))))) else s_8)
def m_houseOf_j27 (σ : Sg) (h : Int32) (what : Int32) (x_3 : Int32) : Int32 := (m_houseOf_k30 σ h what x_3 (m_refused_s σ x_3))
def m_houseOf_j27_s (σ : Sg) (h : Int32) (what : Int32) (x_3 : Int32) : Sg := (m_houseOf_k30_s σ h what x_3 (m_refused_s σ x_3))
def m_houseOf (σ : Sg) (h : Int32) (what : Int32) : Int32 := (m_houseOf_j27 σ h what (if (m_isHouse σ h) = 0 then nI (1) else (if (m_within what (nI (0)) (nI (4))) = 0 then nI (2) else nI (0))))
def m_houseOf_s (σ : Sg) (h : Int32) (what : Int32) : Sg := (m_houseOf_j27_s σ h what (if (m_isHouse σ h) = 0 then nI (1) else (if (m_within what (nI (0)) (nI (4))) = 0 then nI (2) else nI (0))))
def m_reading_j86 (σ : Sg) (b : Int32) (mo : Int32) (y : Int32) (x_3 : Int32) (x_10 : Int32) (s_15 : Sg) (x_21 : Int32) : Int32 := x_21
def m_reading_j86_s (σ : Sg) (b : Int32) (mo : Int32) (y : Int32) (x_3 : Int32) (x_10 : Int32) (s_15 : Sg) (x_21 : Int32) : Sg := s_15
def m_reading_k63 (σ : Sg) (b : Int32) (mo : Int32) (y : Int32) (x_3 : Int32) (x_10 : Int32) (s_15 : Sg) : Int32 := (m_reading_j86 σ b mo y x_3 x_10 s_15 (if (m_refused σ x_10) = 0 then (s_15.1 23 (((((nI (3000)) * (b)) + ((nI (5)) * (mo))) + (y)).toNatClampNeg)) else nI (0)))
def m_reading_k63_s (σ : Sg) (b : Int32) (mo : Int32) (y : Int32) (x_3 : Int32) (x_10 : Int32) (s_15 : Sg) : Sg := (m_reading_j86_s σ b mo y x_3 x_10 s_15 (if (m_refused σ x_10) = 0 then (s_15.1 23 (((((nI (3000)) * (b)) + ((nI (5)) * (mo))) + (y)).toNatClampNeg)) else nI (0)))
def m_reading_j60 (σ : Sg) (b : Int32) (mo : Int32) (y : Int32) (x_3 : Int32) (x_10 : Int32) : Int32 := (m_reading_k63 σ b mo y x_3 x_10 (m_refused_s σ x_10))
def m_reading_j60_s (σ : Sg) (b : Int32) (mo : Int32) (y : Int32) (x_3 : Int32) (x_10 : Int32) : Sg := (m_reading_k63_s σ b mo y x_3 x_10 (m_refused_s σ x_10))
def m_reading_j47 (σ : Sg) (b : Int32) (mo : Int32) (y : Int32) (x_3 : Int32) : Int32 := (m_reading_j60 σ b mo y x_3 (if x_3 = 0 then nI (1) else nI (0)))
def m_reading_j47_s (σ : Sg) (b : Int32) (mo : Int32) (y : Int32) (x_3 : Int32) : Sg := (m_reading_j60_s σ b mo y x_3 (if x_3 = 0 then nI (1) else nI (0)))
def m_reading (σ : Sg) (b : Int32) (mo : Int32) (y : Int32) : Int32 := (m_reading_j47 σ b mo y (if (m_within b (nI (0)) (((σ.1 19 0)) - (nI (1)))) = 0 then nI (0) else (if (m_within y (nI (0)) (nI (4))) = 0 then nI (0) else (if (m_within mo (σ.1 22 ((b).toNatClampNeg)) (((σ.1 1 0)) - (nI (1)))) = 0 then nI (0) else nI (1)))))
def m_reading_s (σ : Sg) (b : Int32) (mo : Int32) (y : Int32) : Sg := (m_reading_j47_s σ b mo y (if (m_within b (nI (0)) (((σ.1 19 0)) - (nI (1)))) = 0 then nI (0) else (if (m_within y (nI (0)) (nI (4))) = 0 then nI (0) else (if (m_within mo (σ.1 22 ((b).toNatClampNeg)) (((σ.1 1 0)) - (nI (1)))) = 0 then nI (0) else nI (1)))))
def m_claimOf_j36 (σ : Sg) (k : Int32) (x_3 : Int32) (s_8 : Sg) (x_14 : Int32) : Int32 := x_14
def m_claimOf_j36_s (σ : Sg) (k : Int32) (x_3 : Int32) (s_8 : Sg) (x_14 : Int32) : Sg := s_8
def m_claimOf_k23 (σ : Sg) (k : Int32) (x_3 : Int32) (s_8 : Sg) : Int32 := (m_claimOf_j36 σ k x_3 s_8 (if (m_refused σ x_3) = 0 then (s_8.1 25 ((k).toNatClampNeg)) else nI (0)))
def m_claimOf_k23_s (σ : Sg) (k : Int32) (x_3 : Int32) (s_8 : Sg) : Sg := (m_claimOf_j36_s σ k x_3 s_8 (if (m_refused σ x_3) = 0 then (s_8.1 25 ((k).toNatClampNeg)) else nI (0)))
def m_claimOf_j20 (σ : Sg) (k : Int32) (x_3 : Int32) : Int32 := (m_claimOf_k23 σ k x_3 (m_refused_s σ x_3))
def m_claimOf_j20_s (σ : Sg) (k : Int32) (x_3 : Int32) : Sg := (m_claimOf_k23_s σ k x_3 (m_refused_s σ x_3))
def m_claimOf (σ : Sg) (k : Int32) : Int32 := (m_claimOf_j20 σ k (if (m_within k (nI (0)) (((σ.1 24 0)) - (nI (1)))) = 0 then nI (1) else nI (0)))
def m_claimOf_s (σ : Sg) (k : Int32) : Sg := (m_claimOf_j20_s σ k (if (m_within k (nI (0)) (((σ.1 24 0)) - (nI (1)))) = 0 then nI (1) else nI (0)))
def m_claimAnew_k5 (σ : Sg) (k : Int32) (s_1 : Sg) : Int32 := (m_claimOf σ k)
def m_claimAnew_k5_s (σ : Sg) (k : Int32) (s_1 : Sg) : Sg := s_1
def m_claimAnew (σ : Sg) (k : Int32) : Int32 := (m_claimAnew_k5 σ k (m_claimOf_s σ k))
def m_claimAnew_s (σ : Sg) (k : Int32) : Sg := (m_claimAnew_k5_s σ k (m_claimOf_s σ k))
def m_inLand_x71 (σ : Sg) (kind : Int32) (z5 : Int64) (z71 : Int64) : Int64 := z71
def m_inLand_j115 (σ : Sg) (kind : Int32) (i71 : Nat) (z71 : Int64) (x_7 : Int64) : Int64 := (z71) + (x_7)
def m_inLand_b71 (σ : Sg) (kind : Int32) (i71 : Nat) (z71 : Int64) : Int64 := (m_inLand_j115 σ kind i71 z71 (if kind = 0 then ((nI (1000)) * ((σ.1 3 i71))).toInt64 else (if kind = nI (1) then ((σ.1 3 i71)).toInt64 else (0 : Int64))))
def m_inLand_x5 (σ : Sg) (kind : Int32) (z5 : Int64) : Int64 := (m_inLand_x71 σ kind z5 (lp (m_inLand_b71 σ kind) 25 z5))
def m_inLand_j60 (σ : Sg) (kind : Int32) (i5 : Nat) (z5 : Int64) (x_14 : Int64) : Int64 := (z5) + (x_14)
def m_inLand_b5 (σ : Sg) (kind : Int32) (i5 : Nat) (z5 : Int64) : Int64 := (m_inLand_j60 σ kind i5 z5 (if kind = 0 then ((σ.1 10 i5)).toInt64 else (if kind = nI (1) then (((σ.1 8 i5)) + ((σ.1 9 i5))).toInt64 else ((σ.1 11 i5)).toInt64)))
def m_inLand (σ : Sg) (kind : Int32) : Int64 := (m_inLand_x5 σ kind (lp (m_inLand_b5 σ kind) 125 (0 : Int64)))
def m_balance_j139 (σ : Sg) (kind : Int32) (what : Int32) (x_3 : Int32) (s_8 : Sg) (x_15 : Int64) (x_22 : Int64) (x_29 : Int64) : Int64 := x_29
def m_balance_j139_s (σ : Sg) (kind : Int32) (what : Int32) (x_3 : Int32) (s_8 : Sg) (x_15 : Int64) (x_22 : Int64) (x_29 : Int64) : Sg := s_8
def m_balance_j96 (σ : Sg) (kind : Int32) (what : Int32) (x_3 : Int32) (s_8 : Sg) (x_15 : Int64) (x_22 : Int64) : Int64 := (m_balance_j139 σ kind what x_3 s_8 x_15 x_22 (if what = 0 then (m_inLand s_8 kind) else (if what = nI (1) then x_15 else (if what = nI (2) then x_22 else ((x_15) - ((m_inLand s_8 kind))) - (x_22)))))
def m_balance_j96_s (σ : Sg) (kind : Int32) (what : Int32) (x_3 : Int32) (s_8 : Sg) (x_15 : Int64) (x_22 : Int64) : Sg := (m_balance_j139_s σ kind what x_3 s_8 x_15 x_22 (if what = 0 then (m_inLand s_8 kind) else (if what = nI (1) then x_15 else (if what = nI (2) then x_22 else ((x_15) - ((m_inLand s_8 kind))) - (x_22)))))
def m_balance_j59 (σ : Sg) (kind : Int32) (what : Int32) (x_3 : Int32) (s_8 : Sg) (x_15 : Int64) : Int64 := (m_balance_j96 σ kind what x_3 s_8 x_15 (if kind = 0 then ((1000 : Int64)) * ((s_8.2 29)) else (if kind = nI (1) then (s_8.2 29) else ((s_8.2 30)) + ((s_8.2 31)))))
def m_balance_j59_s (σ : Sg) (kind : Int32) (what : Int32) (x_3 : Int32) (s_8 : Sg) (x_15 : Int64) : Sg := (m_balance_j96_s σ kind what x_3 s_8 x_15 (if kind = 0 then ((1000 : Int64)) * ((s_8.2 29)) else (if kind = nI (1) then (s_8.2 29) else ((s_8.2 30)) + ((s_8.2 31)))))
def m_balance_k27 (σ : Sg) (kind : Int32) (what : Int32) (x_3 : Int32) (s_8 : Sg) : Int64 := (if (m_refused σ x_3) = 0 then (m_balance_j59 σ kind what x_3 s_8 (if kind = 0 then (s_8.2 26) else (if kind = nI (1) then (s_8.2 27) else (s_8.2 28)))) else (0 : Int64))
def m_balance_k27_s (σ : Sg) (kind : Int32) (what : Int32) (x_3 : Int32) (s_8 : Sg) : Sg := (if (m_refused σ x_3) = 0 then (m_balance_j59_s σ kind what x_3 s_8 (if kind = 0 then (s_8.2 26) else (if kind = nI (1) then (s_8.2 27) else (s_8.2 28)))) else s_8)
def m_balance_j24 (σ : Sg) (kind : Int32) (what : Int32) (x_3 : Int32) : Int64 := (m_balance_k27 σ kind what x_3 (m_refused_s σ x_3))
def m_balance_j24_s (σ : Sg) (kind : Int32) (what : Int32) (x_3 : Int32) : Sg := (m_balance_k27_s σ kind what x_3 (m_refused_s σ x_3))
def m_balance (σ : Sg) (kind : Int32) (what : Int32) : Int64 := (m_balance_j24 σ kind what (if (m_within kind (nI (0)) (nI (2))) = 0 then nI (1) else (if (m_within what (nI (0)) (nI (3))) = 0 then nI (1) else nI (0))))
def m_balance_s (σ : Sg) (kind : Int32) (what : Int32) : Sg := (m_balance_j24_s σ kind what (if (m_within kind (nI (0)) (nI (2))) = 0 then nI (1) else (if (m_within what (nI (0)) (nI (3))) = 0 then nI (1) else nI (0))))
def m_air_j40 (σ : Sg) (gas : Int32) (x_3 : Int32) (s_8 : Sg) (x_14 : Int64) : Int64 := x_14
def m_air_j40_s (σ : Sg) (gas : Int32) (x_3 : Int32) (s_8 : Sg) (x_14 : Int64) : Sg := s_8
def m_air_k18 (σ : Sg) (gas : Int32) (x_3 : Int32) (s_8 : Sg) : Int64 := (m_air_j40 σ gas x_3 s_8 (if (m_refused σ x_3) = 0 then (if gas = 0 then (s_8.2 30) else (s_8.2 31)) else (0 : Int64)))
def m_air_k18_s (σ : Sg) (gas : Int32) (x_3 : Int32) (s_8 : Sg) : Sg := (m_air_j40_s σ gas x_3 s_8 (if (m_refused σ x_3) = 0 then (if gas = 0 then (s_8.2 30) else (s_8.2 31)) else (0 : Int64)))
def m_air_j15 (σ : Sg) (gas : Int32) (x_3 : Int32) : Int64 := (m_air_k18 σ gas x_3 (m_refused_s σ x_3))
def m_air_j15_s (σ : Sg) (gas : Int32) (x_3 : Int32) : Sg := (m_air_k18_s σ gas x_3 (m_refused_s σ x_3))
def m_air (σ : Sg) (gas : Int32) : Int64 := (m_air_j15 σ gas (if (m_within gas (nI (0)) (nI (1))) = 0 then nI (1) else nI (0)))
def m_air_s (σ : Sg) (gas : Int32) : Sg := (m_air_j15_s σ gas (if (m_within gas (nI (0)) (nI (1))) = 0 then nI (1) else nI (0)))
def m_passOne_k267_s (σ : Sg) (air : Int32) (snow : Int32) (z2 : Sg) (s_3 : Sg) (z48 : Sg) (z67 : Sg) (τ_12 : Sg) (z96 : Sg) (z116 : Sg) (z169 : Sg) (s_22 : Sg) : Sg := s_22
def m_passOne_x169_s (σ : Sg) (air : Int32) (snow : Int32) (z2 : Sg) (s_3 : Sg) (z48 : Sg) (z67 : Sg) (τ_12 : Sg) (z96 : Sg) (z116 : Sg) (z169 : Sg) : Sg := (m_passOne_k267_s σ air snow z2 s_3 z48 z67 τ_12 z96 z116 z169 (si z169 1 (0) (((z169.1 1 0)) + (nI (1)))))
def m_passOne_x180 (i169 : Nat) (z169 : Sg) (z180 : Sg) : Sg := z180
def m_passOne_k245 (i169 : Nat) (i180 : Nat) (z180 : Sg) (s_27 : Sg) : Sg := s_27
def m_passOne_b180 (i169 : Nat) (i180 : Nat) (z180 : Sg) : Sg := (m_passOne_k245 i169 i180 z180 (si z180 23 ((((nI (3000 * i169)) + ((nI (5)) * ((z180.1 1 0)))) + (nI (i180))).toNatClampNeg) (((m_degreesOf z180 (((nI (5)) * ((z180.1 20 i169))) + (nI (i180))))) + ((((z180.1 21 i169)) * ((((z180.1 1 0)) + (nI (1))) - ((z180.1 22 i169)))) / (nI (12))))))
def m_passOne_b169  (i169 : Nat) (z169 : Sg) : Sg := (m_passOne_x180 i169 z169 (lp (m_passOne_b180 i169) 5 z169))
def m_passOne_x116_s (σ : Sg) (air : Int32) (snow : Int32) (z2 : Sg) (s_3 : Sg) (z48 : Sg) (z67 : Sg) (τ_12 : Sg) (z96 : Sg) (z116 : Sg) : Sg := (m_passOne_x169_s σ air snow z2 s_3 z48 z67 τ_12 z96 z116 (lp (m_passOne_b169) ((σ.1 19 0).toNatClampNeg) z116))
def m_passOne_k161 (i116 : Nat) (z116 : Sg) (x_32 : Int32) (s_36 : Sg) : Sg := s_36
def m_passOne_j159 (i116 : Nat) (z116 : Sg) (x_32 : Int32) : Sg := (m_passOne_k161 i116 z116 x_32 (si z116 17 (i116) (((z116.1 17 i116)) + (x_32))))
def m_passOne_b116  (i116 : Nat) (z116 : Sg) : Sg := (m_passOne_j159 i116 z116 (if (z116.1 10 ((((nI (5)) * ((z116.1 14 i116))) + ((z116.1 15 i116))).toNatClampNeg)) < 0 then nI (0) else nI (1)))
def m_passOne_x96_s (σ : Sg) (air : Int32) (snow : Int32) (z2 : Sg) (s_3 : Sg) (z48 : Sg) (z67 : Sg) (τ_12 : Sg) (z96 : Sg) : Sg := (m_passOne_x116_s σ air snow z2 s_3 z48 z67 τ_12 z96 (lp (m_passOne_b116) ((σ.1 13 0).toNatClampNeg) z96))
def m_passOne_k108 (air : Int32) (i96 : Nat) (z96 : Sg) (s_39 : Sg) : Sg := s_39
def m_passOne_b96 (air : Int32) (i96 : Nat) (z96 : Sg) : Sg := (m_passOne_k108 air i96 z96 (m_wake_s z96 i96 air))
def m_passOne_j94_s (σ : Sg) (air : Int32) (snow : Int32) (z2 : Sg) (s_3 : Sg) (z48 : Sg) (z67 : Sg) (τ_12 : Sg) : Sg := (m_passOne_x96_s σ air snow z2 s_3 z48 z67 τ_12 (lp (m_passOne_b96 air) 25 τ_12))
def m_passOne_x67_s (σ : Sg) (air : Int32) (snow : Int32) (z2 : Sg) (s_3 : Sg) (z48 : Sg) (z67 : Sg) : Sg := (m_passOne_j94_s σ air snow z2 s_3 z48 z67 (if (-20) < air then z67 else (m_crack_s z67)))
def m_passOne_k78 (i67 : Nat) (z67 : Sg) (s_42 : Sg) : Sg := s_42
def m_passOne_b67  (i67 : Nat) (z67 : Sg) : Sg := (m_passOne_k78 i67 z67 (m_flow_s z67 i67))
def m_passOne_x48_s (σ : Sg) (air : Int32) (snow : Int32) (z2 : Sg) (s_3 : Sg) (z48 : Sg) : Sg := (m_passOne_x67_s σ air snow z2 s_3 z48 (lp (m_passOne_b67) 25 z48))
def m_passOne_k59 (i48 : Nat) (z48 : Sg) (s_45 : Sg) : Sg := s_45
def m_passOne_b48  (i48 : Nat) (z48 : Sg) : Sg := (m_passOne_k59 i48 z48 (m_sink_s z48 i48))
def m_passOne_k46_s (σ : Sg) (air : Int32) (snow : Int32) (z2 : Sg) (s_3 : Sg) : Sg := (m_passOne_x48_s σ air snow z2 s_3 (lp (m_passOne_b48) 125 s_3))
def m_passOne_x2_s (σ : Sg) (air : Int32) (snow : Int32) (z2 : Sg) : Sg := (m_passOne_k46_s σ air snow z2 (m_heat_s z2 air))
def m_passOne_k35 (air : Int32) (snow : Int32) (i2 : Nat) (z2 : Sg) (x_50 : Int32) (s_54 : Sg) : Sg := s_54
def m_passOne_j34 (air : Int32) (snow : Int32) (i2 : Nat) (z2 : Sg) (x_50 : Int32) : Sg := (m_passOne_k35 air snow i2 z2 x_50 (si z2 4 (i2) (x_50)))
def m_passOne_b2 (air snow : Int32) (i2 : Nat) (z2 : Sg) : Sg := (m_passOne_j34 air snow i2 z2 (if 0 ≤ air then nI (0) else (m_lesser (nI (9)) (((z2.1 4 i2)) + (snow)))))
def m_passOne_s (σ : Sg) (air : Int32) (snow : Int32) : Sg := (m_passOne_x2_s σ air snow (lp (m_passOne_b2 air snow) 25 σ))
theorem ite_k {α : Type} {β : Type} {P : Prop} [Decidable P] (f g : α → β) (k : α) : (if P then f else g) k = if P then f k else g k := by split <;> rfl
theorem m_p2 (k : Nat) (hk : k ≠ 4) {air snow : Int32} (n : Nat) (z : Sg) : (lp (m_passOne_b2 air snow) n z).1 k = z.1 k := lp_kp (fun i z => by simp [m_passOne_b2, m_passOne_k267_s, m_passOne_x169_s, m_passOne_x180, m_passOne_k245, m_passOne_x116_s, m_passOne_k161, m_passOne_j159, m_passOne_x96_s, m_passOne_k108, m_passOne_j94_s, m_passOne_x67_s, m_passOne_k78, m_passOne_x48_s, m_passOne_k59, m_passOne_k46_s, m_passOne_x2_s, m_passOne_k35, m_passOne_j34, m_passOne_s, si, hk]) n z
theorem m_heat_k (k : Nat) (hk : k ≠ 10 ∧ k ≠ 12) {σ : Sg} {air : Int32} : (m_heat_s σ air).1 k = σ.1 k := by
  simp [m_heat_x194_s, m_heat_k234, m_heat_j231, m_heat_x27_s, m_heat_k186, m_heat_x111, m_heat_k169, m_heat_k155, m_heat_k106, m_heat_j84, m_heat_j66, m_heat_x2_s, m_heat_k19, m_heat_s, si, sl, hk, m_heat_k194 k hk.1, m_heat_k27 k hk.1, m_heat_k2 k hk.2]
theorem m_p48 (k : Nat) (hk : k ≠ 2 ∧ k ≠ 3 ∧ k ≠ 9 ∧ k ≠ 10) (n : Nat) (z : Sg) : (lp (m_passOne_b48) n z).1 k = z.1 k := lp_kp (fun i z => by simp [m_passOne_b48, m_passOne_k267_s, m_passOne_x169_s, m_passOne_x180, m_passOne_k245, m_passOne_x116_s, m_passOne_k161, m_passOne_j159, m_passOne_x96_s, m_passOne_k108, m_passOne_j94_s, m_passOne_x67_s, m_passOne_k78, m_passOne_x48_s, m_passOne_k59, m_passOne_k46_s, m_passOne_x2_s, m_passOne_k35, m_passOne_j34, m_passOne_s, m_sink_k65_s, m_sink_k53_s, m_sink_k41_s, m_sink_k27_s, m_sink_s, si, sl, hk]) n z
theorem m_p67 (k : Nat) (hk : k ≠ 3) (n : Nat) (z : Sg) : (lp (m_passOne_b67) n z).1 k = z.1 k := lp_kp (fun i z => by simp [m_passOne_b67, m_passOne_k267_s, m_passOne_x169_s, m_passOne_x180, m_passOne_k245, m_passOne_x116_s, m_passOne_k161, m_passOne_j159, m_passOne_x96_s, m_passOne_k108, m_passOne_j94_s, m_passOne_x67_s, m_passOne_k78, m_passOne_x48_s, m_passOne_k59, m_passOne_k46_s, m_passOne_x2_s, m_passOne_k35, m_passOne_j34, m_passOne_s, m_flow_j152_s, m_flow_k141, m_flow_t113n, m_flow_x4_s, m_flow_j76, m_flow_j63, m_flow_s, si, sl, hk, apply_ite Prod.fst, ite_k]) n z
theorem m_crack_k (k : Nat) (hk : k ≠ 2 ∧ k ≠ 3 ∧ k ≠ 6 ∧ k ≠ 9 ∧ k ≠ 10) (z : Sg) : (m_crack_s z).1 k = z.1 k := by simp [m_crack_j132_s, m_crack_k120, m_crack_k110, m_crack_k100, m_crack_t76n, m_crack_k70_s, m_crack_x4_s, m_crack_j36, m_crack_s, si, sl, hk, apply_ite Prod.fst, ite_k]
theorem m_pcr {P : Prop} [Decidable P] (k : Nat) (hk : k ≠ 2 ∧ k ≠ 3 ∧ k ≠ 6 ∧ k ≠ 9 ∧ k ≠ 10) (z : Sg) : (if P then z else (m_crack_s z)).1 k = z.1 k := by
  split
  · rfl
  · exact m_crack_k k hk z
theorem m_wake_k4 (k : Nat) (hk : k ≠ 11) (c n : Nat) (z : Sg) : (lp (m_wake_b4 c) n z).1 k = z.1 k := lp_kp (fun i z => by simp [m_wake_b4, m_wake_j166_s, m_wake_x4_s, m_wake_j115, m_wake_j111, m_wake_k91, m_wake_j87, m_wake_k67, m_wake_t22n, m_wake_s, si, sl, hk, apply_ite Prod.fst, ite_k]) n z
theorem m_p96 (k : Nat) (hk : k ≠ 11) {air : Int32} (n : Nat) (z : Sg) : (lp (m_passOne_b96 air) n z).1 k = z.1 k := lp_kp (fun i z => by simp [m_passOne_b96, m_passOne_k267_s, m_passOne_x169_s, m_passOne_x180, m_passOne_k245, m_passOne_x116_s, m_passOne_k161, m_passOne_j159, m_passOne_x96_s, m_passOne_k108, m_passOne_j94_s, m_passOne_x67_s, m_passOne_k78, m_passOne_x48_s, m_passOne_k59, m_passOne_k46_s, m_passOne_x2_s, m_passOne_k35, m_passOne_j34, m_passOne_s, m_wake_j166_s, m_wake_x4_s, m_wake_j115, m_wake_j111, m_wake_k91, m_wake_j87, m_wake_k67, m_wake_t22n, m_wake_s, si, sl, hk, apply_ite Prod.fst, ite_k, m_wake_k4 k hk]) n z
theorem m_p116 (k : Nat) (hk : k ≠ 17) (n : Nat) (z : Sg) : (lp (m_passOne_b116) n z).1 k = z.1 k := lp_kp (fun i z => by simp [m_passOne_b116, m_passOne_k267_s, m_passOne_x169_s, m_passOne_x180, m_passOne_k245, m_passOne_x116_s, m_passOne_k161, m_passOne_j159, m_passOne_x96_s, m_passOne_k108, m_passOne_j94_s, m_passOne_x67_s, m_passOne_k78, m_passOne_x48_s, m_passOne_k59, m_passOne_k46_s, m_passOne_x2_s, m_passOne_k35, m_passOne_j34, m_passOne_s, si, hk]) n z
theorem m_p180 (k : Nat) (hk : k ≠ 23) (b n : Nat) (z : Sg) : (lp (m_passOne_b180 b) n z).1 k = z.1 k := lp_kp (fun i z => by simp [m_passOne_b180, m_passOne_k267_s, m_passOne_x169_s, m_passOne_x180, m_passOne_k245, m_passOne_x116_s, m_passOne_k161, m_passOne_j159, m_passOne_x96_s, m_passOne_k108, m_passOne_j94_s, m_passOne_x67_s, m_passOne_k78, m_passOne_x48_s, m_passOne_k59, m_passOne_k46_s, m_passOne_x2_s, m_passOne_k35, m_passOne_j34, m_passOne_s, si, hk]) n z
theorem m_p169 (k : Nat) (hk : k ≠ 23) (n : Nat) (z : Sg) : (lp (m_passOne_b169) n z).1 k = z.1 k := lp_kp (fun i z => by simp [m_passOne_b169, m_passOne_k267_s, m_passOne_x169_s, m_passOne_x180, m_passOne_k245, m_passOne_x116_s, m_passOne_k161, m_passOne_j159, m_passOne_x96_s, m_passOne_k108, m_passOne_j94_s, m_passOne_x67_s, m_passOne_k78, m_passOne_x48_s, m_passOne_k59, m_passOne_k46_s, m_passOne_x2_s, m_passOne_k35, m_passOne_j34, m_passOne_s, si, hk, m_p180 k hk]) n z
theorem m_snow_in {x y : Int32} (hx : vp_in x 10) (hy : vp_in y 10) : vp_in (m_lesser (nI 9) (x + y)) 10 := by
  obtain ⟨i, hi, rfl⟩ := vp_in_of hx (by decide)
  obtain ⟨j, hj, rfl⟩ := vp_in_of hy (by decide)
  rw [nI_add]
  unfold m_lesser
  by_cases h : nI (i + j) ≤ nI 9
  · rw [if_pos h]
    exact vp_in_nI (by have := (nI_leI (by omega) (by decide)).mp h; omega) (by decide)
  · rw [if_neg h]; exact vp_in_nI (by decide) (by decide)
theorem m_ok_snow {σ : Sg} {air snow : Int32} (hO : mOK σ) (hs : vp_in snow 10) (i : Nat) (hi : i ≤ 25) : mOK (lp (m_passOne_b2 air snow) i σ) := by
  have hk : ∀ k, k ≠ 4 → (lp (m_passOne_b2 air snow) i σ).1 k = σ.1 k := fun k h => m_p2 k h i σ
  have h4 : ∀ c, c < 25 → vp_in ((lp (m_passOne_b2 air snow) i σ).1 4 c) 10 := by
    refine lp_inv (P := fun _ (z : Sg) => ∀ c, c < 25 → vp_in (z.1 4 c) 10) (fun c hc => (hO.2.2.2.2.2.2 c hc).1) ?_ i
    intro i z hz c hc
    simp only [m_passOne_b2, m_passOne_k267_s, m_passOne_x169_s, m_passOne_x180, m_passOne_k245, m_passOne_x116_s, m_passOne_k161, m_passOne_j159, m_passOne_x96_s, m_passOne_k108, m_passOne_j94_s, m_passOne_x67_s, m_passOne_k78, m_passOne_x48_s, m_passOne_k59, m_passOne_k46_s, m_passOne_x2_s, m_passOne_k35, m_passOne_j34, m_passOne_s]
    by_cases hci : c = i
    · subst hci
      simp only [si, upd, if_true]
      by_cases ha : 0 ≤ air
      · rw [if_pos ha]; exact vp_in_nI (by decide) (by decide)
      · rw [if_neg ha]; exact m_snow_in (hz c hc) hs
    · simp only [si, upd, if_true, if_neg hci]; exact hz c hc
  unfold mOK
  rw [hk 13 (by decide), hk 19 (by decide), hk 24 (by decide), hk 1 (by decide), hk 14 (by decide), hk 15 (by decide), hk 18 (by decide), hk 20 (by decide), hk 5 (by decide)]
  exact ⟨hO.1, hO.2.1, hO.2.2.1, hO.2.2.2.1, hO.2.2.2.2.1, hO.2.2.2.2.2.1, fun c hc => ⟨h4 c hc, (hO.2.2.2.2.2.2 c hc).2⟩⟩
def m_pass_x76 (σ : Sg) (months : Int32) (air : Int32) (snow : Int32) (x_3 : Int32) (x_10 : Int32) (s_15 : Sg) (z76 : Sg) : Int32 := (z76.1 1 0)
def m_pass_x76_s (σ : Sg) (months : Int32) (air : Int32) (snow : Int32) (x_3 : Int32) (x_10 : Int32) (s_15 : Sg) (z76 : Sg) : Sg := z76
def m_pass_k88 (air : Int32) (snow : Int32) (i76 : Nat) (z76 : Sg) (s_23 : Sg) : Sg := s_23
def m_pass_b76 (air snow : Int32) (i76 : Nat) (z76 : Sg) : Sg := (m_pass_k88 air snow i76 z76 (m_passOne_s z76 air snow))
def m_pass_k68 (σ : Sg) (months : Int32) (air : Int32) (snow : Int32) (x_3 : Int32) (x_10 : Int32) (s_15 : Sg) : Int32 := (if (m_refused σ x_10) = 0 then (m_pass_x76 σ months air snow x_3 x_10 s_15 (lp (m_pass_b76 air snow) ((months).toNatClampNeg) s_15)) else nI (0))
def m_pass_k68_s (σ : Sg) (months : Int32) (air : Int32) (snow : Int32) (x_3 : Int32) (x_10 : Int32) (s_15 : Sg) : Sg := (if (m_refused σ x_10) = 0 then (m_pass_x76_s σ months air snow x_3 x_10 s_15 (lp (m_pass_b76 air snow) ((months).toNatClampNeg) s_15)) else s_15)
def m_pass_j65 (σ : Sg) (months : Int32) (air : Int32) (snow : Int32) (x_3 : Int32) (x_10 : Int32) : Int32 := (m_pass_k68 σ months air snow x_3 x_10 (m_refused_s σ x_10))
def m_pass_j65_s (σ : Sg) (months : Int32) (air : Int32) (snow : Int32) (x_3 : Int32) (x_10 : Int32) : Sg := (m_pass_k68_s σ months air snow x_3 x_10 (m_refused_s σ x_10))
def m_pass_j36 (σ : Sg) (months : Int32) (air : Int32) (snow : Int32) (x_3 : Int32) : Int32 := (m_pass_j65 σ months air snow x_3 (if x_3 = 0 then nI (1) else (if ((σ.1 1 0)) + (months) ≤ nI (600) then nI (0) else nI (2))))
def m_pass_j36_s (σ : Sg) (months : Int32) (air : Int32) (snow : Int32) (x_3 : Int32) : Sg := (m_pass_j65_s σ months air snow x_3 (if x_3 = 0 then nI (1) else (if ((σ.1 1 0)) + (months) ≤ nI (600) then nI (0) else nI (2))))
def m_pass (σ : Sg) (months : Int32) (air : Int32) (snow : Int32) : Int32 := (m_pass_j36 σ months air snow (if (m_within months (nI (1)) (nI (24))) = 0 then nI (0) else (if (m_within air (-50) (nI (30))) = 0 then nI (0) else (if (m_within snow (nI (0)) (nI (9))) = 0 then nI (0) else nI (1)))))
def m_pass_s (σ : Sg) (months : Int32) (air : Int32) (snow : Int32) : Sg := (m_pass_j36_s σ months air snow (if (m_within months (nI (1)) (nI (24))) = 0 then nI (0) else (if (m_within air (-50) (nI (30))) = 0 then nI (0) else (if (m_within snow (nI (0)) (nI (9))) = 0 then nI (0) else nI (1)))))
theorem m_passOne_k (k : Nat) (hk : k = 5 ∨ 13 ≤ k ∧ k ≠ 17 ∧ k ≠ 23) {σ : Sg} {air snow : Int32} : (m_passOne_s σ air snow).1 k = σ.1 k := by
  simp only [m_passOne_k267_s, m_passOne_x169_s, m_passOne_x180, m_passOne_k245, m_passOne_x116_s, m_passOne_k161, m_passOne_j159, m_passOne_x96_s, m_passOne_k108, m_passOne_j94_s, m_passOne_x67_s, m_passOne_k78, m_passOne_x48_s, m_passOne_k59, m_passOne_k46_s, m_passOne_x2_s, m_passOne_k35, m_passOne_j34, m_passOne_s]
  simp only [si, if_neg (show ¬ k = 1 by omega)]
  rw [m_p169 k (by omega), m_p116 k (by omega), m_p96 k (by omega), m_pcr k (by omega), m_p67 k (by omega), m_p48 k (by omega), m_heat_k k (by omega), m_p2 k (by omega)]
theorem m_passOne_4 {σ : Sg} {air snow : Int32} : (m_passOne_s σ air snow).1 4 = (lp (m_passOne_b2 air snow) 25 σ).1 4 := by
  simp only [m_passOne_k267_s, m_passOne_x169_s, m_passOne_x180, m_passOne_k245, m_passOne_x116_s, m_passOne_k161, m_passOne_j159, m_passOne_x96_s, m_passOne_k108, m_passOne_j94_s, m_passOne_x67_s, m_passOne_k78, m_passOne_x48_s, m_passOne_k59, m_passOne_k46_s, m_passOne_x2_s, m_passOne_k35, m_passOne_j34, m_passOne_s]
  simp only [si, if_neg (show ¬ (4 : Nat) = 1 by decide)]
  rw [m_p169 4 (by decide), m_p116 4 (by decide), m_p96 4 (by decide), m_pcr 4 (by decide), m_p67 4 (by decide), m_p48 4 (by decide), m_heat_k 4 (by decide)]
theorem m_passOne_1 {σ : Sg} {air snow : Int32} : (m_passOne_s σ air snow).1 1 0 = σ.1 1 0 + nI 1 := by
  simp only [m_passOne_k267_s, m_passOne_x169_s, m_passOne_x180, m_passOne_k245, m_passOne_x116_s, m_passOne_k161, m_passOne_j159, m_passOne_x96_s, m_passOne_k108, m_passOne_j94_s, m_passOne_x67_s, m_passOne_k78, m_passOne_x48_s, m_passOne_k59, m_passOne_k46_s, m_passOne_x2_s, m_passOne_k35, m_passOne_j34, m_passOne_s]
  simp only [si, upd, if_true]
  rw [m_p169 1 (by decide), m_p116 1 (by decide), m_p96 1 (by decide), m_pcr 1 (by decide), m_p67 1 (by decide), m_p48 1 (by decide), m_heat_k 1 (by decide), m_p2 1 (by decide)]
theorem m_passOne_ok {σ : Sg} {air snow : Int32} (hO : mOK σ) (hm : vp_in (σ.1 1 0) 600) (hs : vp_in snow 10) : mOK (m_passOne_s σ air snow) := by
  have hk : ∀ k, (k = 5 ∨ 13 ≤ k ∧ k ≠ 17 ∧ k ≠ 23) → (m_passOne_s σ air snow).1 k = σ.1 k := fun k h => m_passOne_k k h
  have h4 := (m_ok_snow (air := air) hO hs 25 (Nat.le_refl _)).2.2.2.2.2.2
  unfold mOK
  rw [hk 13 (by decide), hk 19 (by decide), hk 24 (by decide), hk 14 (by decide), hk 15 (by decide), hk 18 (by decide), hk 20 (by decide), hk 5 (by decide), m_passOne_1, m_passOne_4]
  have e := vp_self hm
  have hl := vp_lt hm
  have e2 : (σ.1 1 0 + nI 1).toNatClampNeg = (σ.1 1 0).toNatClampNeg + 1 := by
    conv => lhs; rw [e]
    rw [nI_add, nI_clamp (by omega)]
  have h1 : vp_in (σ.1 1 0 + nI 1) 601 := by rw [e, nI_add]; exact vp_in_nI (by omega) (by decide)
  refine ⟨hO.1, hO.2.1, hO.2.2.1, h1, fun h hh => ?_, hO.2.2.2.2.2.1, fun c hc => ⟨(h4 c hc).1, (hO.2.2.2.2.2.2 c hc).2⟩⟩
  obtain ⟨g1, g2, g3, g4⟩ := hO.2.2.2.2.1 h hh
  exact ⟨g1, g2, g3, by omega⟩
theorem m_pass_inv {σ : Sg} {air snow : Int32} {n : Nat} (hO : mOK σ) (hn : (σ.1 1 0).toNatClampNeg + n ≤ 600) (hs : vp_in snow 10) (i : Nat) (hi : i ≤ n) : mOK (lp (m_pass_b76 air snow) i σ) ∧ (lp (m_pass_b76 air snow) i σ).1 1 0 = nI ((σ.1 1 0).toNatClampNeg + i) := by
  refine lp_invB (P := fun i (z : Sg) => mOK z ∧ z.1 1 0 = nI ((σ.1 1 0).toNatClampNeg + i)) (N := n) ⟨hO, vp_self hO.2.2.2.1⟩ ?_ i hi
  intro i z hi ⟨h1, h2⟩
  simp only [m_pass_b76, m_pass_x76, m_pass_x76_s, m_pass_k88, m_pass_k68, m_pass_k68_s, m_pass_j65, m_pass_j65_s, m_pass_j36, m_pass_j36_s, m_pass, m_pass_s]
  have hm : vp_in (z.1 1 0) 600 := by rw [h2]; exact vp_in_nI (by omega) (by decide)
  exact ⟨m_passOne_ok h1 hm hs, by rw [m_passOne_1, h2, nI_add]; rfl⟩
theorem ck_pass {P Q : Prop} [Decidable P] [Decidable Q] {x : Int32} (hx : x = if P then nI 1 else (if Q then nI 0 else nI 2)) (h : x = 0) : ¬ P ∧ Q := by
  subst hx
  by_cases hP : P
  · rw [if_pos hP] at h; exact absurd h n1_ne
  · rw [if_neg hP] at h
    refine ⟨hP, ?_⟩
    by_cases hQ : Q
    · exact hQ
    · rw [if_neg hQ] at h; exact absurd h n2_ne
theorem m_pass_le {x y : Int32} (hx : vp_in x 601) (hy : vp_in y 25) (h : x + y ≤ nI 600) : x.toNatClampNeg + y.toNatClampNeg ≤ 600 := by
  have e1 := vp_self hx
  have e2 := vp_self hy
  have l1 := vp_lt hx
  have l2 := vp_lt hy
  rw [e1, e2, nI_add] at h
  exact (nI_leI (by omega) (by decide)).mp h
theorem w_in1 {v : Int32} {n : Nat} (h : ¬ m_within v (nI 1) (nI n) = 0) (hn : n < 2 ^ 31) : vp_in v (n + 1) := by
  obtain ⟨h1, h2⟩ := w_within h
  rw [nI_toInt (by omega)] at h1
  rw [nI_toInt hn] at h2
  exact vp_in_iff.mpr ⟨by omega, by omega⟩
