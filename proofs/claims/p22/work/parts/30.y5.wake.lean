/-! a month: carbon wakes -/
theorem woke_p {t c : Int32} (t1 : t.toInt ≤ 20000) (c0 : 0 ≤ c.toInt) (c1 : c.toInt ≤ 3000) : (w_max t (nI 0) * c).toInt = max t.toInt 0 * c.toInt ∧ 0 ≤ max t.toInt 0 * c.toInt ∧ max t.toInt 0 * c.toInt ≤ 60000000 := by
  have hm : (w_max t (nI 0)).toInt = max t.toInt 0 := by rw [w_max_i, k_0]
  have a := Int.mul_nonneg (show 0 ≤ max t.toInt 0 by omega) c0
  have b := Int.mul_le_mul_of_nonneg_right (show max t.toInt 0 ≤ 20000 by omega) c0
  exact ⟨by rw [i_mul (by rw [hm]; omega) (by rw [hm]; omega), hm], a, by omega⟩
theorem woke_i {t c : Int32} (t1 : t.toInt ≤ 20000) (c0 : 0 ≤ c.toInt) (c1 : c.toInt ≤ 3000) : (w_max t (nI 0) * c / nI 1000).toInt = max t.toInt 0 * c.toInt / 1000 := by
  obtain ⟨h1, h2, h3⟩ := woke_p t1 c0 c1
  rw [i_div (by rw [k_1000]; decide), k_1000, h1, Int.tdiv_eq_ediv_of_nonneg h2]
theorem woke_b {t c : Int32} (t1 : t.toInt ≤ 20000) (c0 : 0 ≤ c.toInt) (c1 : c.toInt ≤ 3000) : 0 ≤ (w_min (w_max t (nI 0) * c / nI 1000) c).toInt ∧ (w_min (w_max t (nI 0) * c / nI 1000) c).toInt ≤ c.toInt := by
  obtain ⟨h1, h2, h3⟩ := woke_p t1 c0 c1
  rw [w_min_i, woke_i t1 c0 c1]
  omega
theorem woke_0 {t c : Int32} (t1 : t.toInt ≤ 0) (c0 : 0 ≤ c.toInt) (c1 : c.toInt ≤ 3000) : w_min (w_max t (nI 0) * c / nI 1000) c = 0 := by
  refine Int32.toInt_inj.mp ?_
  rw [w_min_i, woke_i (by omega) c0 c1, show max t.toInt 0 = 0 by omega, Int.zero_mul, z_0]
  omega
theorem woke_eq {t c : Int32} (t0 : 0 < t.toInt) (t1 : t.toInt ≤ 20000) (c0 : 0 ≤ c.toInt) (c1 : c.toInt ≤ 3000) : m_lesser ((t.toInt64 * c.toInt64 / (1000 : Int64)).toInt32) c = w_min (w_max t (nI 0) * c / nI 1000) c := by
  have e : (t.toInt64 * c.toInt64 / (1000 : Int64)).toInt32 = w_max t (nI 0) * c / nI 1000 := by
    refine Int32.toInt_inj.mp ?_
    obtain ⟨h1, h2, h3⟩ := woke_p t1 c0 c1
    have hi := woke_i t1 c0 c1
    rw [show max t.toInt 0 = t.toInt by omega] at h2 h3 hi
    have k64 : ((1000 : Int64)).toInt = 1000 := by decide
    have hm : (t.toInt64 * c.toInt64).toInt = t.toInt * c.toInt := by
      rw [Int64.toInt_mul, Int32.toInt_toInt64, Int32.toInt_toInt64]
      exact Int.bmod_eq_of_le (by omega) (by omega)
    have hd : (t.toInt64 * c.toInt64 / (1000 : Int64)).toInt = t.toInt * c.toInt / 1000 := by
      rw [Int64.toInt_div, hm, k64, Int.tdiv_eq_ediv_of_nonneg h2]
      exact Int.bmod_eq_of_le (by omega) (by omega)
    rw [Int64.toInt_toInt32, hd, hi]
    exact Int.bmod_eq_of_le (by omega) (by omega)
  rw [e, min_1]
/-- one cell's layers, on both sides, while their carbon wakes -/
def WQ (z ζ : Sg) (lk : Int32) (l : Nat) (w : Int32 × Sg) (t : Sg) : Prop := ((∀ k, k ≠ 11 → w.2.1 k = z.1 k) ∧ ∀ k, k ≠ 11 → t.1 k = ζ.1 k) ∧ (∀ j, j < 125 → w.2.1 11 j = t.1 11 j ∧ 0 ≤ (w.2.1 11 j).toInt ∧ (w.2.1 11 j).toInt ≤ (z.1 11 j).toInt) ∧ (0 ≤ w.1.toInt ∧ w.1.toInt ≤ 3000 * (l : Int)) ∧ w.2.2 = z.2 ∧ (∀ k, k ≠ 30 → k ≠ 31 → t.2 k = ζ.2 k) ∧ t.2 30 = ζ.2 30 + (if lk = 0 then w.1.toInt64 else 0) ∧ t.2 31 = ζ.2 31 + (if lk = 0 then 0 else w.1.toInt64)
theorem WQ_step {z ζ : Sg} {T C : Int} {nh nb nc : Nat} (hA : AG nh nb nc z ζ) (hB : BL T C z) (h0 : 0 ≤ T) (hT : T ≤ 20000) (hC : C ≤ 3000) {i l : Nat} (hi : i < 25) (hl : l < 5) {w : Int32 × Sg} {t : Sg} (h : WQ z ζ (m_isLake ζ (nI i)) l w t) : WQ z ζ (m_isLake ζ (nI i)) (l + 1) (c_wakeCarbon_b4 i l w) (m_wake_b4 i l t) := by
  obtain ⟨⟨hz, hζ⟩, hc, ⟨s0, s1⟩, hw2, ht2, h30, h31⟩ := h
  obtain ⟨k, hk⟩ : ∃ k : Nat, k = 5 * i + l := ⟨_, rfl⟩
  have hk5 : k < 125 := by omega
  obtain ⟨c1, c2, c3⟩ := hc k hk5
  have dz := (hB k hk5).2.2.2
  have tz := temp_b hB h0 hT hk5
  have etz : l_temperature w.2 k = l_temperature z k := temp_cg (by rw [hz 8 (by decide)]) (by rw [hz 9 (by decide)]) (by rw [hz 10 (by decide)])
  have etm : m_degreesOf t (nI k) = l_temperature z k := by
    rw [← etz]
    exact (temp_eq (by rw [hz 8 (by decide), hζ 8 (by decide)]; exact hA.lay (by omega) hk5) (by rw [hz 9 (by decide), hζ 9 (by decide)]; exact hA.lay (by omega) hk5) (by rw [hz 10 (by decide), hζ 10 (by decide)]; exact hA.lay (by omega) hk5) (by omega)).symm
  obtain ⟨o, ho⟩ : ∃ o : Int32, o = w_min (w_max (l_temperature z k) (nI 0) * w.2.1 11 k / nI 1000) (w.2.1 11 k) := ⟨_, rfl⟩
  have ob := woke_b (t := l_temperature z k) (c := w.2.1 11 k) (by omega) c2 (by omega)
  rw [← ho] at ob
  have kz : c_wakeCarbon_b4 i l w = (w.1 + o, si w.2 11 k (w.2.1 11 k - o)) := by
    unfold c_wakeCarbon_b4 c_wakeCarbon_k23 l_wakeCarbon l_wakeCarbon_s l_wakeCarbon_k37 l_wakeCarbon_k37_s
    rw [← hk, etz, ← ho]
  have hco : (w.2.1 11 k - o).toInt = (w.2.1 11 k).toInt - o.toInt := i_sub (by omega) (by omega)
  have hso : (w.1 + o).toInt = w.1.toInt + o.toInt := i_add (by omega) (by omega)
  have hlk : ∀ (a : Sg), a.1 3 = ζ.1 3 → m_isLake a (nI i) = m_isLake ζ (nI i) := fun a ha => by
    unfold m_isLake m_isLake_j15
    rw [ha]
  rw [kz]
  by_cases q : (l_temperature z k).toInt ≤ 0
  · have o0 : o = 0 := by
      rw [ho]
      exact woke_0 q c2 (by omega)
    have kt : m_wake_b4 i l t = t := by
      unfold m_wake_b4 m_wake_j115
      rw [← hk, etm, if_pos (by rw [i_le, z_0]; exact q)]
    have r0 : ∀ x : Int32, x - 0 = x := fun x => by grind
    have e0 : si w.2 11 k (w.2.1 11 k) = w.2 := by
      refine Prod.ext (funext fun b => funext fun x => ?_) rfl
      show (si w.2 11 k (w.2.1 11 k)).1 b x = w.2.1 b x
      rw [si_at]
      by_cases q2 : b = 11 ∧ x = k
      · rw [if_pos q2, q2.1, q2.2]
      · rw [if_neg q2]
    rw [kt, o0, Int32.add_zero, r0, e0]
    exact ⟨⟨hz, hζ⟩, hc, ⟨s0, by show w.1.toInt ≤ _; omega⟩, hw2, ht2, h30, h31⟩
  · have kt : m_wake_b4 i l t = sl (sl (si t 11 k (t.1 11 k - o)) 31 (t.2 31 + (if m_isLake ζ (nI i) = 0 then 0 else o.toInt64))) 30 (t.2 30 + (if m_isLake ζ (nI i) = 0 then o.toInt64 else 0)) := by
      have ew : m_lesser (((m_degreesOf t (nI k)).toInt64 * (t.1 11 k).toInt64 / (1000 : Int64)).toInt32) (t.1 11 k) = o := by
        rw [etm, ← c1, ho]
        exact woke_eq (by omega) (by omega) c2 (by omega)
      have L1 : m_isLake (si t 11 k (t.1 11 k - o)) (nI i) = m_isLake ζ (nI i) := hlk _ (by rw [si_ne (by decide), hζ 3 (by decide)])
      have L2 : ∀ v : Int64, m_isLake (sl (si t 11 k (t.1 11 k - o)) 31 v) (nI i) = m_isLake ζ (nI i) := fun v => hlk _ (by rw [sl_1, si_ne (by decide), hζ 3 (by decide)])
      unfold m_wake_b4 m_wake_j115 m_wake_t22n m_wake_k67 m_wake_j87 m_wake_k91 m_wake_j111
      rw [← hk, ew, etm, if_neg (by rw [i_le, z_0]; exact q), L1, L2]
      rfl
    rw [kt]
    have hj : (w.1 + o).toInt64 = w.1.toInt64 + o.toInt64 := j_add (by omega) (by omega)
    refine ⟨⟨fun k' hk' => ?_, fun k' hk' => ?_⟩, fun j hj5 => ?_, ⟨by show 0 ≤ (w.1 + o).toInt; omega, by show (w.1 + o).toInt ≤ _; omega⟩, hw2, fun k' u1 u2 => ?_, ?_, ?_⟩
    · show (si w.2 11 k _).1 k' = _
      rw [si_ne hk']
      exact hz k' hk'
    · show (si t 11 k _).1 k' = _
      rw [si_ne hk']
      exact hζ k' hk'
    · show (si w.2 11 k _).1 11 j = (si t 11 k _).1 11 j ∧ 0 ≤ ((si w.2 11 k _).1 11 j).toInt ∧ ((si w.2 11 k _).1 11 j).toInt ≤ _
      obtain ⟨g1, g2, g3⟩ := hc j hj5
      rw [si_at, si_at]
      by_cases q2 : j = k
      · subst q2
        rw [if_pos ⟨rfl, rfl⟩, if_pos ⟨rfl, rfl⟩, g1]
        rw [g1] at hco g3 ob
        refine ⟨rfl, ?_, ?_⟩
        · rw [hco]; omega
        · rw [hco]; omega
      · rw [if_neg (fun y => q2 y.2), if_neg (fun y => q2 y.2)]
        exact ⟨g1, g2, g3⟩
    · rw [sl_at, if_neg u1, sl_at, if_neg u2]
      exact ht2 k' u1 u2
    · rw [sl_at, if_pos rfl, h30]
      show _ = ζ.2 30 + (if m_isLake ζ (nI i) = 0 then (w.1 + o).toInt64 else 0)
      rw [hj]
      by_cases q2 : m_isLake ζ (nI i) = 0
      · rw [if_pos q2, if_pos q2, if_pos q2, Int64.add_assoc]
      · rw [if_neg q2, if_neg q2]
        grind
    · rw [sl_at, if_neg (by decide), sl_at, if_pos rfl, h31]
      show _ = ζ.2 31 + (if m_isLake ζ (nI i) = 0 then 0 else (w.1 + o).toInt64)
      rw [hj]
      by_cases q2 : m_isLake ζ (nI i) = 0
      · rw [if_pos q2, if_pos q2]
        grind
      · rw [if_neg q2, if_neg q2, if_neg q2, Int64.add_assoc]
theorem cw_xs (σ : Sg) (i : Nat) (z : Int32 × Sg) : c_wakeCarbon_x4_s σ i z = z.2 := rfl
theorem cw_xv (σ : Sg) (i : Nat) (z : Int32 × Sg) : c_wakeCarbon_x4 σ i z = z.1 := rfl
theorem cw_s (z : Sg) (i n : Nat) (hn : n = 5) : c_wakeCarbon_s z i = (lp (c_wakeCarbon_b4 i) n (nI 0, z)).2 := by
  have e : c_wakeCarbon_s z i = c_wakeCarbon_x4_s z i (lp (c_wakeCarbon_b4 i) n (nI 0, z)) := by
    subst hn
    rfl
  exact e.trans (cw_xs _ _ _)
theorem cw_v (z : Sg) (i n : Nat) (hn : n = 5) : c_wakeCarbon z i = (lp (c_wakeCarbon_b4 i) n (nI 0, z)).1 := by
  have e : c_wakeCarbon z i = c_wakeCarbon_x4 z i (lp (c_wakeCarbon_b4 i) n (nI 0, z)) := by
    subst hn
    rfl
  exact e.trans (cw_xv _ _ _)
theorem wake_step {σ0 μ0 : Sg} {T C N : Int} {z ζ : Sg} (h : PH σ0 μ0 T (C + 3) N z ζ) (h0 : 0 ≤ T) (hT : T ≤ 20000) (hC0 : 0 ≤ C) (hC : C ≤ 2900) {i : Nat} (hi : i < 25) (hc : ∀ j, 5 * i ≤ j → j < 125 → (z.1 11 j).toInt ≤ C) (air : Int32) : PH σ0 μ0 T (C + 3) N (k_wakeCarbon_b2 air i z) (m_wake_s ζ i air) ∧ ∀ j, 5 * (i + 1) ≤ j → j < 125 → ((k_wakeCarbon_b2 air i z).1 11 j).toInt ≤ C := by
  have key := lp_rel (P := fun l w t => WQ z ζ (m_isLake ζ (nI i)) l w t) (f := c_wakeCarbon_b4 i) (g := m_wake_b4 i) (x := (nI 0, z)) (y := ζ) (N := 5) ⟨⟨fun _ _ => rfl, fun _ _ => rfl⟩, fun j hj => ⟨h.2.1.lay (by omega) hj, (h.2.2.2.1 j hj).2.2.2.1, Int.le_refl _⟩, ⟨by show 0 ≤ (nI 0).toInt; decide, by show (nI 0).toInt ≤ 3000 * ((0 : Nat) : Int); decide⟩, rfl, fun _ _ _ => rfl, by
      show ζ.2 30 = ζ.2 30 + (if m_isLake ζ (nI i) = 0 then (nI 0).toInt64 else 0)
      rw [show (nI 0).toInt64 = 0 by decide, ite_2, Int64.add_zero], by
      show ζ.2 31 = ζ.2 31 + (if m_isLake ζ (nI i) = 0 then 0 else (nI 0).toInt64)
      rw [show (nI 0).toInt64 = 0 by decide, ite_2, Int64.add_zero]⟩ (fun l w t hl hw => WQ_step h.2.1 h.2.2.2.1 h0 hT (by omega) hi hl hw) 5 (Nat.le_refl _)
  have hlake := h.2.1.lake hi
  have hv5 := vp_in_iff.mp (h.2.2.1 i hi).2
  have e5 := h.2.1.cell (k := 5) (by omega) hi
  have kz : k_wakeCarbon_b2 air i z = k_wakeCarbon_k43 air i z (if c_isLake z i = 0 then nI 0 else nI 1) (c_wakeCarbon_s z i) (sl (c_wakeCarbon_s z i) (30 + (if c_isLake z i = 0 then nI 0 else nI 1).toNatClampNeg) (z.2 (30 + (if c_isLake z i = 0 then nI 0 else nI 1).toNatClampNeg) + (c_wakeCarbon z i).toInt64)) := rfl
  rw [cw_s z i 5 rfl, cw_v z i 5 rfl] at kz
  have km : m_wake_s ζ i air = m_wake_x4_s ζ i air (lp (m_wake_b4 i) 5 ζ) := by
    unfold m_wake_s
    exact Eq.refl _
  rw [kz, km]
  generalize lp (c_wakeCarbon_b4 i) 5 (nI 0, z) = w at key ⊢
  generalize lp (m_wake_b4 i) 5 ζ = t at key ⊢
  obtain ⟨⟨hz, hζ⟩, hcw, -, hw2, ht2, h30, h31⟩ := key
  have hP : ∃ s : Sg, s = sl w.2 (30 + (if c_isLake z i = 0 then nI 0 else nI 1).toNatClampNeg) (z.2 (30 + (if c_isLake z i = 0 then nI 0 else nI 1).toNatClampNeg) + w.1.toInt64) ∧ s.1 = w.2.1 ∧ PH σ0 μ0 T (C + 3) N s t := by
    refine ⟨_, rfl, rfl, ⟨⟨fun k hk => (hz k (by omega)).trans (h.1.1 k hk), fun k hk => (hζ k (by omega)).trans (h.1.2 k hk)⟩, ⟨fun k j hv => ?_, fun k u1 u2 => ?_⟩, fun c hc => ?_, fun j hj => ?_, BW_of (fun c hc => by rw [sl_1, hz 3 (by decide)]) h.2.2.2.2⟩⟩
    · rw [sl_1]
      by_cases q : k = 11
      · subst q
        exact (hcw j (by unfold vis at hv; omega)).1
      · rw [hz k q, hζ k q]
        exact h.2.1.1 k j hv
    · have g := h.2.1.2 k u1 u2
      rw [sl_at, hlake, hw2]
      by_cases q : m_isLake ζ (nI i) = 0
      · rw [if_pos q, show 30 + (nI 0).toNatClampNeg = 30 by rw [nI_clamp (by decide)]]
        rw [if_pos q] at h30 h31
        by_cases q2 : k = 30
        · subst q2
          rw [if_pos rfl, h30, g]
        · rw [if_neg q2, g]
          by_cases q3 : k = 31
          · subst q3
            rw [h31, Int64.add_zero]
          · exact (ht2 k q2 q3).symm
      · rw [if_neg q, show 30 + (nI 1).toNatClampNeg = 31 by rw [nI_clamp (by decide)]]
        rw [if_neg q] at h30 h31
        by_cases q2 : k = 31
        · subst q2
          rw [if_pos rfl, h31, g]
        · rw [if_neg q2, g]
          by_cases q3 : k = 30
          · subst q3
            rw [h30, Int64.add_zero]
          · exact (ht2 k q3 q2).symm
    · rw [hζ 4 (by decide), hζ 5 (by decide)]
      exact h.2.2.1 c hc
    · rw [sl_1, hz 8 (by decide), hz 9 (by decide), hz 10 (by decide)]
      obtain ⟨b1, b2, b3, b4⟩ := h.2.2.2.1 j hj
      have g := hcw j hj
      exact ⟨b1, b2, b3, g.2.1, by omega⟩
  obtain ⟨s, hs, hs1, hP⟩ := hP
  rw [← hs]
  have hcs : ∀ j, 5 * i ≤ j → j < 125 → (s.1 11 j).toInt ≤ C := fun j h1 h2 => by
    rw [hs1]
    exact Int.le_trans (hcw j h2).2.2 (hc j h1 h2)
  have ls : c_isLake s i = m_isLake ζ (nI i) := by
    rw [← hlake]
    unfold c_isLake c_isLake_j13
    rw [hs1, hz 3 (by decide)]
  have lt : m_isLake t (nI i) = m_isLake ζ (nI i) := by
    unfold m_isLake m_isLake_j15
    rw [hζ 3 (by decide)]
  unfold k_wakeCarbon_k43 k_wakeCarbon_j86 m_wake_x4_s m_wake_j166_s
  rw [ls, lt]
  by_cases q1 : air ≤ 0
  · rw [if_pos q1, if_pos q1]
    exact ⟨hP, fun j h1 h2 => hcs j (by omega) h2⟩
  · rw [if_neg q1, if_neg q1]
    by_cases q2 : m_isLake ζ (nI i) = 0
    · rw [if_pos q2, if_pos q2]
      have f5 : s.1 5 i = t.1 5 i := hP.2.1.cell (by omega) hi
      have f11 : s.1 11 (5 * i) = t.1 11 (5 * i) := hP.2.1.lay (by omega) (by omega)
      have f30 := hP.2.1.2 30 (by omega) (by omega)
      have m5 : s.1 5 i = ζ.1 5 i := by rw [f5, hζ 5 (by decide)]
      have b11 := (hP.2.2.2.1 (5 * i) (by omega)).2.2.2
      have c11 := hcs (5 * i) (Nat.le_refl _) (by omega)
      have hsum : (s.1 11 (5 * i) + s.1 5 i).toInt = (s.1 11 (5 * i)).toInt + (s.1 5 i).toInt := by
        rw [m5]
        exact i_add (by omega) (by omega)
      have v5 : 0 ≤ (s.1 5 i).toInt ∧ (s.1 5 i).toInt ≤ 3 := by
        rw [m5]
        omega
      have ez : si (sl s (30 + 0) (s.2 (30 + 0) - (s.1 5 i).toInt64)) 11 (5 * i + 0) ((sl s (30 + 0) (s.2 (30 + 0) - (s.1 5 i).toInt64)).1 11 (5 * i + 0) + (sl s (30 + 0) (s.2 (30 + 0) - (s.1 5 i).toInt64)).1 5 i) = si (sl s 30 (s.2 30 - (s.1 5 i).toInt64)) 11 (5 * i) (s.1 11 (5 * i) + s.1 5 i) := rfl
      have et : si (sl t 30 (t.2 30 - (t.1 5 i).toInt64)) 11 (5 * i) ((sl t 30 (t.2 30 - (t.1 5 i).toInt64)).1 11 (5 * i) + (sl t 30 (t.2 30 - (t.1 5 i).toInt64)).1 5 i) = si (sl t 30 (t.2 30 - (t.1 5 i).toInt64)) 11 (5 * i) (t.1 11 (5 * i) + t.1 5 i) := rfl
      rw [ez, et]
      refine ⟨hP.upd (FF.rf.sl.si (by omega)) (FF.rf.sl.si (by omega)) ((hP.2.1.wl 30 (by rw [f30, f5])).wr 11 (5 * i) (by rw [f11, f5])) (by rw [si_ne (by decide), sl_1]) (by rw [si_ne (by decide), sl_1]) (5 * i) (fun k' h1 h2 x hx => by rw [si_pj _ hx, sl_1]) (fun hj => ?_) (BW_of (fun c hc => by rw [si_ne (by decide), sl_1]) hP.2.2.2.2), fun j h1 h2 => ?_⟩
      · obtain ⟨b1, b2, b3, b4⟩ := hP.2.2.2.1 (5 * i) hj
        rw [si_ne (k' := 8) (by decide), si_ne (k' := 9) (by decide), si_ne (k' := 10) (by decide), si_eq, sl_1, hsum]
        exact ⟨b1, b2, b3, by omega, by omega⟩
      · rw [si_pj _ (by omega), sl_1]
        exact hcs j (by omega) h2
    · rw [if_neg q2, if_neg q2]
      exact ⟨hP, fun j h1 h2 => hcs j (by omega) h2⟩
/-- 6: carbon wakes -/
theorem ph_wake {σ0 μ0 : Sg} {T C N : Int} {σ μ : Sg} (h : PH σ0 μ0 T C N σ μ) (h0 : 0 ≤ T) (hT : T ≤ 20000) (hC0 : 0 ≤ C) (hC : C ≤ 2900) (air : Int32) : PH σ0 μ0 T (C + 3) N (k_wakeCarbon_s σ air) (lp (m_passOne_b96 air) 25 μ) := by
  have es : k_wakeCarbon_s σ air = lp (k_wakeCarbon_b2 air) 25 σ := by
    unfold k_wakeCarbon_s k_wakeCarbon_x2_s
    exact Eq.refl _
  rw [es]
  refine (lp_rel (P := fun i z ζ => PH σ0 μ0 T (C + 3) N z ζ ∧ ∀ j, 5 * i ≤ j → j < 125 → (z.1 11 j).toInt ≤ C) (f := k_wakeCarbon_b2 air) (g := m_passOne_b96 air) (x := σ) (y := μ) (N := 25) ⟨h.mono (Int.le_refl _) (by omega) (Int.le_refl _), fun j _ hj => (h.2.2.2.1 j hj).2.2.2.2⟩ (fun i z ζ hi hz => ?_) 25 (Nat.le_refl _)).1
  have eb : m_passOne_b96 air i ζ = m_wake_s ζ i air := by
    unfold m_passOne_b96 m_passOne_k108
    exact Eq.refl _
  rw [eb]
  exact wake_step hz.1 h0 hT hC0 hC hi hz.2 air
