/-! a month: heat is led -/
def inn (fa : Int32) (D : Nat → Int32) (i : Nat) : Nat → Int32
  | 0 => fa
  | l + 1 => if 5 ≤ l + 1 then -(nI 10) else nI 20 * (D (5 * i + l) - D (5 * i + (l + 1)))
theorem inn_cg {fa : Int32} {D D' : Nat → Int32} {i : Nat} (h : ∀ l, l < 5 → D (5 * i + l) = D' (5 * i + l)) (l : Nat) (hl : l ≤ 5) : inn fa D i l = inn fa D' i l := by
  match l, hl with
  | 0, _ => rfl
  | l + 1, hl =>
    show (if 5 ≤ l + 1 then -(nI 10) else nI 20 * (D (5 * i + l) - D (5 * i + (l + 1)))) = (if 5 ≤ l + 1 then -(nI 10) else nI 20 * (D' (5 * i + l) - D' (5 * i + (l + 1))))
    by_cases q : 5 ≤ l + 1
    · rw [if_pos q, if_pos q]
    · rw [if_neg q, if_neg q, h l (by omega), h (l + 1) (by omega)]
theorem inn_5 {fa : Int32} {D : Nat → Int32} {i n : Nat} (h : n = 4) : inn fa D i (n + 1) = -(nI 10) := if_pos (by omega)
theorem lead_c {z : Sg} {i : Nat} (fa : Int32) : ∀ l, l ≤ 5 → (lp (c_leadDown_b5 i (nI 10)) l (fa, z)).1 = inn fa (l_temperature z) i l ∧ ((∀ k, k ≠ 10 → (lp (c_leadDown_b5 i (nI 10)) l (fa, z)).2.1 k = z.1 k) ∧ (lp (c_leadDown_b5 i (nI 10)) l (fa, z)).2.2 = z.2) ∧ ∀ j, (lp (c_leadDown_b5 i (nI 10)) l (fa, z)).2.1 10 j = if 5 * i ≤ j ∧ j < 5 * i + l then z.1 10 j + (inn fa (l_temperature z) i (j - 5 * i) - inn fa (l_temperature z) i (j - 5 * i + 1)) else z.1 10 j := fun l => by
  induction l with
  | zero => exact fun _ => ⟨rfl, ⟨fun _ _ => rfl, rfl⟩, fun j => by rw [if_neg (by omega)]; rfl⟩
  | succ l ih =>
    intro hl
    obtain ⟨h1, ⟨h2, h3⟩, h4⟩ := ih (by omega)
    have e : lp (c_leadDown_b5 i (nI 10)) (l + 1) (fa, z) = c_leadDown_b5 i (nI 10) l (lp (c_leadDown_b5 i (nI 10)) l (fa, z)) := rfl
    rw [e]
    generalize lp (c_leadDown_b5 i (nI 10)) l (fa, z) = w at h1 h2 h3 h4 ⊢
    have eT : ∀ m, l ≤ m → l_temperature w.2 (5 * i + m) = l_temperature z (5 * i + m) := fun m hm => temp_cg (by rw [h2 8 (by decide)]) (by rw [h2 9 (by decide)]) (by rw [h4, if_neg (by omega)])
    have ew : c_leadDown_b5 i (nI 10) l w = (inn fa (l_temperature z) i (l + 1), si w.2 10 (5 * i + l) (w.2.1 10 (5 * i + l) + (w.1 - inn fa (l_temperature z) i (l + 1)))) := by
      unfold c_leadDown_b5 c_leadDown_j59 c_leadDown_k78
      rw [eT l (Nat.le_refl _), eT (l + 1) (by omega)]
      rfl
    rw [ew]
    refine ⟨rfl, ⟨fun k hk => ?_, h3⟩, fun j => ?_⟩
    · show (si w.2 10 _ _).1 k = _
      rw [si_ne hk]
      exact h2 k hk
    · show (si w.2 10 (5 * i + l) _).1 10 j = _
      by_cases q : j = 5 * i + l
      · subst q
        rw [si_eq, if_pos (by omega), h4, if_neg (by omega), h1, show 5 * i + l - 5 * i = l by omega]
      · rw [si_pj _ q, h4]
        by_cases q2 : 5 * i ≤ j ∧ j < 5 * i + l
        · rw [if_pos q2, if_pos ⟨q2.1, by omega⟩]
        · rw [if_neg q2, if_neg (fun y => q2 ⟨y.1, by omega⟩)]
theorem lead_m {ζ w0 : Sg} {i : Nat} (fa : Int32) (g0 : ∀ k, k ≠ 10 → w0.1 k = ζ.1 k) (g1 : ∀ j, w0.1 10 j = if j = 5 * i then ζ.1 10 j + fa else ζ.1 10 j) : ∀ l, l ≤ 4 → ((∀ k, k ≠ 10 → (lp (m_heat_b111 i) l w0).1 k = ζ.1 k) ∧ (lp (m_heat_b111 i) l w0).2 = w0.2) ∧ ∀ j, (lp (m_heat_b111 i) l w0).1 10 j = if 5 * i ≤ j ∧ j < 5 * i + l then ζ.1 10 j + inn fa (ζ.1 12) i (j - 5 * i) - inn fa (ζ.1 12) i (j - 5 * i + 1) else if j = 5 * i + l then ζ.1 10 j + inn fa (ζ.1 12) i l else ζ.1 10 j := fun l => by
  induction l with
  | zero => exact fun _ => ⟨⟨g0, rfl⟩, fun j => by
      rw [if_neg (by omega)]
      exact g1 j⟩
  | succ l ih =>
    intro hl
    obtain ⟨⟨h2, h3⟩, h4⟩ := ih (by omega)
    have e : lp (m_heat_b111 i) (l + 1) w0 = m_heat_b111 i l (lp (m_heat_b111 i) l w0) := rfl
    rw [e]
    generalize lp (m_heat_b111 i) l w0 = w at h2 h3 h4 ⊢
    have ex : inn fa (ζ.1 12) i (l + 1) = nI 20 * (ζ.1 12 (5 * i + l) - ζ.1 12 (5 * i + l + 1)) := if_neg (by omega)
    have ew : m_heat_b111 i l w = si (si w 10 (5 * i + l) (w.1 10 (5 * i + l) - inn fa (ζ.1 12) i (l + 1))) 10 (5 * i + l + 1) ((si w 10 (5 * i + l) (w.1 10 (5 * i + l) - inn fa (ζ.1 12) i (l + 1))).1 10 (5 * i + l + 1) + inn fa (ζ.1 12) i (l + 1)) := by
      unfold m_heat_b111 m_heat_k155 m_heat_k169
      rw [ex, h2 12 (by decide)]
    rw [ew]
    refine ⟨⟨fun k hk => ?_, h3⟩, fun j => ?_⟩
    · rw [si_ne hk, si_ne hk]
      exact h2 k hk
    · by_cases q1 : j = 5 * i + l + 1
      · subst q1
        rw [si_eq, si_pj _ (by omega), h4, if_neg (by omega), if_neg (by omega), if_neg (by omega), if_pos (by omega)]
      · rw [si_pj _ q1]
        by_cases q2 : j = 5 * i + l
        · subst q2
          rw [si_eq, h4, if_neg (by omega), if_pos rfl, if_pos (by omega), show 5 * i + l - 5 * i = l by omega]
        · rw [si_pj _ q2, h4]
          by_cases q3 : 5 * i ≤ j ∧ j < 5 * i + l
          · rw [if_pos q3, if_pos ⟨q3.1, by omega⟩]
          · rw [if_neg q3, if_neg q2, if_neg (by omega), if_neg (by omega)]
/-- what comes from the air -/
theorem prod_b {L d : Int} (h0 : 0 ≤ L) (h1 : L ≤ 30) : (0 ≤ d ∧ 0 ≤ L * d ∧ L * d ≤ 30 * d) ∨ (d < 0 ∧ 30 * d ≤ L * d ∧ L * d ≤ 0) := by
  by_cases q : 0 ≤ d
  · exact Or.inl ⟨q, Int.mul_nonneg h0 q, Int.mul_le_mul_of_nonneg_right h1 q⟩
  · obtain ⟨d', rfl⟩ : ∃ d' : Int, d = -d' := ⟨-d, by omega⟩
    have a := Int.mul_nonneg h0 (show 0 ≤ d' by omega)
    have b := Int.mul_le_mul_of_nonneg_right h1 (show 0 ≤ d' by omega)
    rw [Int.mul_neg]
    exact Or.inr ⟨by omega, by omega, by omega⟩
theorem div60 {c : Int} (h1 : 2 ≤ c) (h2 : c ≤ 17) : 0 ≤ (60 : Int).tdiv c ∧ (60 : Int).tdiv c ≤ 30 := by
  rcases (show c = 2 ∨ c = 3 ∨ c = 4 ∨ c = 5 ∨ c = 6 ∨ c = 7 ∨ c = 8 ∨ c = 9 ∨ c = 10 ∨ c = 11 ∨ c = 12 ∨ c = 13 ∨ c = 14 ∨ c = 15 ∨ c = 16 ∨ c = 17 by omega) with rfl | rfl | rfl | rfl | rfl | rfl | rfl | rfl | rfl | rfl | rfl | rfl | rfl | rfl | rfl | rfl <;> decide
theorem fa_mul {x a t : Int32} {L A : Int} (hx : x.toInt = L) (h0 : 0 ≤ L) (h1 : L ≤ 30) (ha : a.toInt = A) (a0 : -50 ≤ A) (a1 : A ≤ 30) (t0 : -50 ≤ t.toInt) (t1 : t.toInt ≤ 20000) : (x * (a - t)).toInt = L * (A - t.toInt) := by
  have hs : (a - t).toInt = A - t.toInt := by rw [i_sub (by omega) (by omega), ha]
  have p := prod_b (d := A - t.toInt) h0 h1
  rw [i_mul (by rw [hx, hs]; omega) (by rw [hx, hs]; omega), hx, hs]
theorem fa_i {z : Sg} {i : Nat} {air : Int32} (s4 : vp_in (z.1 4 i) 10) (s5 : vp_in (z.1 5 i) 4) (a0 : -50 ≤ air.toInt) (a1 : air.toInt ≤ 30) (t0 : -50 ≤ (l_temperature z (5 * i)).toInt) (t1 : (l_temperature z (5 * i)).toInt ≤ 20000) : ∃ L A : Int, ((0 ≤ L ∧ L ≤ 30) ∧ -50 ≤ A ∧ A ≤ 30) ∧ (c_heatFromAir z i air).toInt = L * (A - (l_temperature z (5 * i)).toInt) := by
  have q4 := vp_in_iff.mp s4
  have q5 := vp_in_iff.mp s5
  have hm : (nI 2 * z.1 5 i).toInt = 2 * (z.1 5 i).toInt := by rw [i_mul (by rw [k_2]; omega) (by rw [k_2]; omega), k_2]
  have hp : (nI 2 + z.1 4 i).toInt = 2 + (z.1 4 i).toInt := by rw [i_add (by rw [k_2]; omega) (by rw [k_2]; omega), k_2]
  have hc : (nI 2 + z.1 4 i + nI 2 * z.1 5 i).toInt = 2 + (z.1 4 i).toInt + 2 * (z.1 5 i).toInt := by rw [i_add (by rw [hm, hp]; omega) (by rw [hm, hp]; omega), hm, hp]
  unfold c_heatFromAir c_heatFromAir_j58
  by_cases q : c_isLake z i = 0
  · rw [if_pos q, if_neg (by rw [i_le, hc, z_0]; omega)]
    have hd := div60 (c := 2 + (z.1 4 i).toInt + 2 * (z.1 5 i).toInt) (by omega) (by omega)
    exact ⟨_, _, ⟨hd, a0, a1⟩, fa_mul (by rw [i_div (by rw [hc]; omega), k_60, hc]) hd.1 hd.2 rfl a0 a1 t0 t1⟩
  · rw [if_neg q]
    refine ⟨30, max air.toInt 0, ⟨⟨by decide, by decide⟩, by omega, by omega⟩, fa_mul k_30 (by decide) (by decide) (by rw [w_max_i, k_0]) (by omega) (by omega) t0 t1⟩
theorem fa_eq {nh nb nc : Nat} {z ζ : Sg} (h : AG nh nb nc z ζ) {i : Nat} (hi : i < 25) {air : Int32} (s4 : vp_in (z.1 4 i) 10) (s5 : vp_in (z.1 5 i) 4) : c_heatFromAir z i air = (if m_isLake ζ (nI i) = 0 then nI 60 / (nI 2 + ζ.1 4 i + nI 2 * ζ.1 5 i) else nI 30) * ((if m_isLake ζ (nI i) = 0 then air else m_greater (nI 0) air) - l_temperature z (5 * i)) := by
  have q4 := vp_in_iff.mp s4
  have q5 := vp_in_iff.mp s5
  have hm : (nI 2 * z.1 5 i).toInt = 2 * (z.1 5 i).toInt := by rw [i_mul (by rw [k_2]; omega) (by rw [k_2]; omega), k_2]
  have hp : (nI 2 + z.1 4 i).toInt = 2 + (z.1 4 i).toInt := by rw [i_add (by rw [k_2]; omega) (by rw [k_2]; omega), k_2]
  have hc : (nI 2 + z.1 4 i + nI 2 * z.1 5 i).toInt = 2 + (z.1 4 i).toInt + 2 * (z.1 5 i).toInt := by rw [i_add (by rw [hm, hp]; omega) (by rw [hm, hp]; omega), hm, hp]
  have e4 := h.cell (k := 4) (by omega) hi
  have e5 := h.cell (k := 5) (by omega) hi
  rw [← h.lake hi, ← e4, ← e5]
  unfold c_heatFromAir c_heatFromAir_j58
  by_cases q : c_isLake z i = 0
  · rw [if_pos q, if_pos q, if_pos q, if_neg (by rw [i_le, hc, z_0]; omega)]
    first | done | rfl
  · rw [if_neg q, if_neg q, if_neg q, max_2]
    first | done | rfl
/-- the energy of a layer afterwards -/
theorem e_sum {e a b : Int32} {A B : Int} (ha : a.toInt = A) (hb : b.toInt = B) (h1 : -100000000 ≤ e.toInt ∧ e.toInt ≤ 100000000) (h2 : -100000000 ≤ A ∧ A ≤ 100000000) (h3 : -100000000 ≤ B ∧ B ≤ 100000000) : (e + (a - b)).toInt = e.toInt + (A - B) := by
  have hs : (a - b).toInt = A - B := by rw [i_sub (by rw [ha, hb]; omega) (by rw [ha, hb]; omega), ha, hb]
  rw [i_add (by rw [hs]; omega) (by rw [hs]; omega), hs]
theorem heat_0 {e t u P L A t1 T : Int} (h : TE e t u) (hL : 0 ≤ L) (hL2 : L ≤ 30) (hA : -50 ≤ A) (hA2 : A ≤ 30) (hP : P = L * (A - t)) (ht : -50 ≤ t) (ht2 : t ≤ T) (h1 : -50 ≤ t1) (h2 : t1 ≤ T) (hT : 300 ≤ T) (hu : 0 ≤ u) : -5099 ≤ e + (P - 20 * (t - t1)) ∧ e + (P - 20 * (t - t1)) ≤ 1000 * u + 100 * (T + 1) + 99 := by
  have p := prod_b (d := A - t) hL hL2
  rw [← hP] at p
  clear hP
  unfold TE at h
  omega
theorem heat_m {e t u t0 t1 T : Int} (h : TE e t u) (ht : -50 ≤ t) (ht2 : t ≤ T) (h1 : -50 ≤ t1) (h2 : t1 ≤ T) (h3 : -50 ≤ t0) (h4 : t0 ≤ T) (hT : 300 ≤ T) (hu : 0 ≤ u) : -5099 ≤ e + (20 * (t0 - t) - 20 * (t - t1)) ∧ e + (20 * (t0 - t) - 20 * (t - t1)) ≤ 1000 * u + 100 * (T + 1) + 99 := by
  unfold TE at h
  omega
theorem heat_4 {e t u t0 T : Int} (h : TE e t u) (ht : -50 ≤ t) (ht2 : t ≤ T) (h3 : -50 ≤ t0) (h4 : t0 ≤ T) (hT : 300 ≤ T) (hu : 0 ≤ u) : -5099 ≤ e + (20 * (t0 - t) - -10) ∧ e + (20 * (t0 - t) - -10) ≤ 1000 * u + 100 * (T + 1) + 99 := by
  unfold TE at h
  omega
theorem inn_b {T C : Int} {σ : Sg} (hB : BL T C σ) (h0 : 300 ≤ T) (hT : T ≤ 20000) {i : Nat} (hi : i < 25) {fa : Int32} {L A : Int} (hL : (0 ≤ L ∧ L ≤ 30) ∧ -50 ≤ A ∧ A ≤ 30) (hfa : fa.toInt = L * (A - (l_temperature σ (5 * i)).toInt)) {l : Nat} (hl : l < 5) : -5099 ≤ (σ.1 10 (5 * i + l) + (inn fa (l_temperature σ) i l - inn fa (l_temperature σ) i (l + 1))).toInt ∧ (σ.1 10 (5 * i + l) + (inn fa (l_temperature σ) i l - inn fa (l_temperature σ) i (l + 1))).toInt ≤ 1000 * ((σ.1 8 (5 * i + l)).toInt + (σ.1 9 (5 * i + l)).toInt) + 100 * (T + 1) + 99 := by
  have tb := fun m (hm : m < 5) => temp_b hB (by omega) hT (j := 5 * i + m) (by omega)
  have te := temp_i hB hT (j := 5 * i + l) (by omega)
  obtain ⟨⟨p0, p9⟩, ⟨x0, x9⟩, ⟨e1, e2⟩, -⟩ := hB (5 * i + l) (by omega)
  have iS : ∀ m, m < 4 → (inn fa (l_temperature σ) i (m + 1)).toInt = 20 * ((l_temperature σ (5 * i + m)).toInt - (l_temperature σ (5 * i + (m + 1))).toInt) := fun m hm => by
    have ex : inn fa (l_temperature σ) i (m + 1) = nI 20 * (l_temperature σ (5 * i + m) - l_temperature σ (5 * i + (m + 1))) := if_neg (by omega)
    have b1 := tb m (by omega)
    have b2 := tb (m + 1) (by omega)
    have hs : (l_temperature σ (5 * i + m) - l_temperature σ (5 * i + (m + 1))).toInt = (l_temperature σ (5 * i + m)).toInt - (l_temperature σ (5 * i + (m + 1))).toInt := i_sub (by omega) (by omega)
    rw [ex, i_mul (by rw [k_20, hs]; omega) (by rw [k_20, hs]; omega), k_20, hs]
  have i5 : ∀ n, n = 4 → (inn fa (l_temperature σ) i (n + 1)).toInt = -10 := fun n hn => by
    have ex : inn fa (l_temperature σ) i (n + 1) = -(nI 10) := if_pos (by omega)
    rw [ex]
    decide
  have bl := tb l hl
  by_cases q0 : l = 0
  · subst q0
    have p := prod_b (d := A - (l_temperature σ (5 * i)).toInt) hL.1.1 hL.1.2
    have b1 := tb (0 + 1) (by omega)
    have i1 := iS 0 (by omega)
    have ei : inn fa (l_temperature σ) i 0 = fa := rfl
    rw [ei, e_sum hfa i1 (by omega) (by rw [Nat.add_zero] at bl; omega) (by omega)]
    exact heat_0 te hL.1.1 hL.1.2 hL.2.1 hL.2.2 rfl bl.1 bl.2 b1.1 b1.2 h0 (by omega)
  · obtain ⟨m, rfl⟩ : ∃ m, l = m + 1 := ⟨l - 1, by omega⟩
    have b0 := tb m (by omega)
    have i0 := iS m (by omega)
    by_cases q4 : m = 3
    · subst q4
      rw [e_sum i0 (i5 (3 + 1) rfl) (by omega) (by omega) (by omega)]
      exact heat_4 te bl.1 bl.2 b0.1 b0.2 h0 (by omega)
    · have b1 := tb (m + 1 + 1) (by omega)
      have i1 := iS (m + 1) (by omega)
      rw [e_sum i0 i1 (by omega) (by omega) (by omega)]
      exact heat_m te bl.1 bl.2 b1.1 b1.2 b0.1 b0.2 h0 (by omega)
