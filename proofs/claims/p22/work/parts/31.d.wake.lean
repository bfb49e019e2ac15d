/-! carbon that wakes balances -/
theorem ca_wake {z ζ : Sg} {T C : Int} {nh nb nc : Nat} (hA : AG nh nb nc z ζ) (hB : BL T C z) (h0 : 0 ≤ T) (hT : T ≤ 20000) (hC : C ≤ 3000) {i l : Nat} (hi : i < 25) (hl : l < 5) {w : Int32 × Sg} {t : Sg} {lk : Int32} (h : WQ z ζ lk l w t) : CA (c_wakeCarbon_b4 i l w).2 + (c_wakeCarbon_b4 i l w).1.toInt = CA w.2 + w.1.toInt := by
  obtain ⟨⟨hz, hζ⟩, hc, ⟨s0, s1⟩, hw2, ht2, h30, h31⟩ := h
  obtain ⟨k, hk⟩ : ∃ k : Nat, k = 5 * i + l := ⟨_, rfl⟩
  have hk5 : k < 125 := by omega
  obtain ⟨c1, c2, c3⟩ := hc k hk5
  have dz := (hB k hk5).2.2.2
  have tz := temp_b hB h0 hT hk5
  have etz : l_temperature w.2 k = l_temperature z k := temp_cg (by rw [hz 8 (by decide)]) (by rw [hz 9 (by decide)]) (by rw [hz 10 (by decide)])
  obtain ⟨o, ho⟩ : ∃ o : Int32, o = w_min (w_max (l_temperature z k) (nI 0) * w.2.1 11 k / nI 1000) (w.2.1 11 k) := ⟨_, rfl⟩
  have ob := woke_b (t := l_temperature z k) (c := w.2.1 11 k) (by omega) c2 (by omega)
  rw [← ho] at ob
  have kz : c_wakeCarbon_b4 i l w = (w.1 + o, si w.2 11 k (w.2.1 11 k - o)) := by
    unfold c_wakeCarbon_b4 c_wakeCarbon_k23 l_wakeCarbon l_wakeCarbon_s l_wakeCarbon_k37 l_wakeCarbon_k37_s
    rw [← hk, etz, ← ho]
  have hco : (w.2.1 11 k - o).toInt = (w.2.1 11 k).toInt - o.toInt := i_sub (by omega) (by omega)
  have hso : (w.1 + o).toInt = w.1.toInt + o.toInt := i_add (by omega) (by omega)
  rw [kz]
  show CA (si w.2 11 k (w.2.1 11 k - o)) + (w.1 + o).toInt = _
  rw [CA_at (k := k) (σ := w.2) hk5 (fun j hj => si_pj _ hj), si_eq, hco, hso]
  omega
theorem cv_wake_step {σ0 μ0 : Sg} {T C N D S M : Int} {z ζ : Sg} (h : PH σ0 μ0 T (C + 3) N z ζ) (h0 : 0 ≤ T) (hT : T ≤ 20000) (hC0 : 0 ≤ C) (hC : C ≤ 2900) {i : Nat} (hi : i < 25) (hc : ∀ j, 5 * i ≤ j → j < 125 → (z.1 11 j).toInt ≤ C) (air : Int32) (hv : CV D S M z) : ∃ S' M', CV D S' M' (k_wakeCarbon_b2 air i z) ∧ M ≤ M' ∧ M' ≤ M + 15000 := by
  have key := lp_rel (P := fun l (w : Int32 × Sg) t => WQ z ζ (m_isLake ζ (nI i)) l w t ∧ CA w.2 + w.1.toInt = CA z) (f := c_wakeCarbon_b4 i) (g := m_wake_b4 i) (x := (nI 0, z)) (y := ζ) (N := 5) ⟨⟨⟨fun _ _ => rfl, fun _ _ => rfl⟩, fun j hj => ⟨h.2.1.lay (by omega) hj, (h.2.2.2.1 j hj).2.2.2.1, Int.le_refl _⟩, ⟨by show 0 ≤ (nI 0).toInt; decide, by show (nI 0).toInt ≤ 3000 * ((0 : Nat) : Int); decide⟩, rfl, fun _ _ _ => rfl, by
      show ζ.2 30 = ζ.2 30 + (if m_isLake ζ (nI i) = 0 then (nI 0).toInt64 else 0)
      rw [show (nI 0).toInt64 = 0 by decide, ite_2, Int64.add_zero], by
      show ζ.2 31 = ζ.2 31 + (if m_isLake ζ (nI i) = 0 then 0 else (nI 0).toInt64)
      rw [show (nI 0).toInt64 = 0 by decide, ite_2, Int64.add_zero]⟩, by show CA z + (nI 0).toInt = CA z; rw [k_0]; omega⟩ (fun l w t hl hw => ⟨WQ_step h.2.1 h.2.2.2.1 h0 hT (by omega) hi hl hw.1, by
      rw [ca_wake h.2.1 h.2.2.2.1 h0 hT (by omega) hi hl hw.1]
      exact hw.2⟩) 5 (Nat.le_refl _)
  have hv5 := vp_in_iff.mp (h.2.2.1 i hi).2
  have e5 := h.2.1.cell (k := 5) (by omega) hi
  have kz : k_wakeCarbon_b2 air i z = k_wakeCarbon_k43 air i z (if c_isLake z i = 0 then nI 0 else nI 1) (c_wakeCarbon_s z i) (sl (c_wakeCarbon_s z i) (30 + (if c_isLake z i = 0 then nI 0 else nI 1).toNatClampNeg) (z.2 (30 + (if c_isLake z i = 0 then nI 0 else nI 1).toNatClampNeg) + (c_wakeCarbon z i).toInt64)) := rfl
  rw [cw_s z i 5 rfl, cw_v z i 5 rfl] at kz
  rw [kz]
  generalize lp (c_wakeCarbon_b4 i) 5 (nI 0, z) = w at key ⊢
  generalize lp (m_wake_b4 i) 5 ζ = t at key
  obtain ⟨⟨⟨hz, -⟩, hcw, ⟨w0, w1⟩, hw2, -⟩, hCA⟩ := key
  obtain ⟨v29, v30, v31, v26, v27, v28⟩ := id hv
  have hs : ∃ s : Sg, s = sl w.2 (30 + (if c_isLake z i = 0 then nI 0 else nI 1).toNatClampNeg) (z.2 (30 + (if c_isLake z i = 0 then nI 0 else nI 1).toNatClampNeg) + w.1.toInt64) ∧ s.1 = w.2.1 ∧ ∃ S' M', CV D S' M' s ∧ M ≤ M' ∧ M' ≤ M + 15000 := by
    have hswz : sw w.2 25 = sw z 25 := sw_of 25 (fun x _ => by rw [hz 3 (by decide)])
    have hE : ∀ (k : Nat) (v : Int64), HE (sl w.2 k v) = HE z + 0 := fun k v => by
      rw [Int.add_zero]
      exact HE_of (fun j _ => by rw [sl_1, hz 10 (by decide)]) hswz
    have hW : ∀ (k : Nat) (v : Int64), WA (sl w.2 k v) = WA z + 0 := fun k v => by
      rw [Int.add_zero]
      exact WA_of (fun j _ => by rw [sl_1, hz 8 (by decide)]) (fun j _ => by rw [sl_1, hz 9 (by decide)]) hswz
    have hC2 : ∀ (k : Nat) (v : Int64), CA (sl w.2 k v) = CA z + -w.1.toInt := fun k v => by
      have e : CA (sl w.2 k v) = CA w.2 := rfl
      rw [e]
      omega
    refine ⟨_, rfl, rfl, ?_⟩
    by_cases q : c_isLake z i = 0
    · rw [if_pos q, show 30 + (nI 0).toNatClampNeg = 30 by rw [nI_clamp (by decide)]]
      refine ⟨S + w.1.toInt, M, hv.go (hE _ _) (hW _ _) (hC2 _ _) ?_ ?_ ?_ (x := 0) (y := 0) (w := 0) ?_ ?_ ?_ (by omega) (by omega) (by omega), by omega, by omega⟩
      · rw [sl_at, if_neg (by decide), hw2]; exact v29
      · rw [sl_at, if_pos rfl, v30, oi_32, oi_add]
      · rw [sl_at, if_neg (by decide), hw2]; exact v31
      · rw [sl_at, if_neg (by decide), hw2]; exact oi_z rfl
      · rw [sl_at, if_neg (by decide), hw2]; exact oi_z rfl
      · rw [sl_at, if_neg (by decide), hw2]; exact oi_z rfl
    · rw [if_neg q, show 30 + (nI 1).toNatClampNeg = 31 by rw [nI_clamp (by decide)]]
      refine ⟨S, M + w.1.toInt, hv.go (hE _ _) (hW _ _) (hC2 _ _) ?_ ?_ ?_ (x := 0) (y := 0) (w := 0) ?_ ?_ ?_ (by omega) (by omega) (by omega), by omega, by omega⟩
      · rw [sl_at, if_neg (by decide), hw2]; exact v29
      · rw [sl_at, if_neg (by decide), hw2]; exact v30
      · rw [sl_at, if_pos rfl, v31, oi_32, oi_add]
      · rw [sl_at, if_neg (by decide), hw2]; exact oi_z rfl
      · rw [sl_at, if_neg (by decide), hw2]; exact oi_z rfl
      · rw [sl_at, if_neg (by decide), hw2]; exact oi_z rfl
  obtain ⟨s, hs, hs1, S', M', hv', m1, m2⟩ := hs
  rw [← hs]
  unfold k_wakeCarbon_k43 k_wakeCarbon_j86
  by_cases q1 : air ≤ 0
  · rw [if_pos q1]
    exact ⟨S', M', hv', m1, m2⟩
  · rw [if_neg q1]
    by_cases q2 : c_isLake s i = 0
    · rw [if_pos q2]
      have m5 : s.1 5 i = ζ.1 5 i := by rw [hs1, hz 5 (by decide), e5]
      have b11 := hcw (5 * i) (by omega)
      have c11 := hc (5 * i) (Nat.le_refl _) (by omega)
      have hsum : (s.1 11 (5 * i) + s.1 5 i).toInt = (s.1 11 (5 * i)).toInt + (s.1 5 i).toInt := by
        rw [m5, hs1]
        exact i_add (by omega) (by omega)
      have ez : si (sl s (30 + 0) (s.2 (30 + 0) - (s.1 5 i).toInt64)) 11 (5 * i + 0) ((sl s (30 + 0) (s.2 (30 + 0) - (s.1 5 i).toInt64)).1 11 (5 * i + 0) + (sl s (30 + 0) (s.2 (30 + 0) - (s.1 5 i).toInt64)).1 5 i) = si (sl s 30 (s.2 30 - (s.1 5 i).toInt64)) 11 (5 * i) (s.1 11 (5 * i) + s.1 5 i) := rfl
      rw [ez]
      obtain ⟨u29, u30, u31, u26, u27, u28⟩ := id hv'
      refine ⟨S' - (s.1 5 i).toInt, M', hv'.go (dE := 0) (dW := 0) (dC := (s.1 5 i).toInt) (x := 0) (y := 0) (w := 0) ?_ ?_ ?_ ?_ ?_ ?_ ?_ ?_ ?_ (by omega) (by omega) (by omega), m1, m2⟩
      · rw [Int.add_zero]
        exact HE_of (fun j _ => by rw [si_ne (by decide), sl_1]) (sw_of 25 (fun x _ => by rw [si_ne (by decide), sl_1]))
      · rw [Int.add_zero]
        exact WA_of (fun j _ => by rw [si_ne (by decide), sl_1]) (fun j _ => by rw [si_ne (by decide), sl_1]) (sw_of 25 (fun x _ => by rw [si_ne (by decide), sl_1]))
      · rw [CA_at (k := 5 * i) (σ := s) (by omega) (fun j hj => by rw [si_pj _ hj, sl_1]), si_eq, hsum]
        omega
      · rw [si_2, sl_at, if_neg (by decide)]; exact u29
      · rw [si_2, sl_at, if_pos rfl, u30, oi_32]
        exact (Int64.ofInt_sub _ _).symm
      · rw [si_2, sl_at, if_neg (by decide)]; exact u31
      · rw [si_2, sl_at, if_neg (by decide)]; exact oi_z rfl
      · rw [si_2, sl_at, if_neg (by decide)]; exact oi_z rfl
      · rw [si_2, sl_at, if_neg (by decide)]; exact oi_z rfl
    · rw [if_neg q2]
      exact ⟨S', M', hv', m1, m2⟩
/-- 6: carbon wakes -/
theorem cv_wake {σ0 μ0 : Sg} {T C N D S M : Int} {σ μ : Sg} (h : PH σ0 μ0 T C N σ μ) (h0 : 0 ≤ T) (hT : T ≤ 20000) (hC0 : 0 ≤ C) (hC : C ≤ 2900) (air : Int32) (hv : CV D S M σ) : ∃ S' M', CV D S' M' (k_wakeCarbon_s σ air) ∧ M ≤ M' ∧ M' ≤ M + 375000 := by
  have es : k_wakeCarbon_s σ air = lp (k_wakeCarbon_b2 air) 25 σ := by
    unfold k_wakeCarbon_s k_wakeCarbon_x2_s
    exact Eq.refl _
  rw [es]
  have key := (lp_rel (P := fun i z ζ => (PH σ0 μ0 T (C + 3) N z ζ ∧ ∀ j, 5 * i ≤ j → j < 125 → (z.1 11 j).toInt ≤ C) ∧ ∃ S' M', CV D S' M' z ∧ M ≤ M' ∧ M' ≤ M + 15000 * (i : Int)) (f := k_wakeCarbon_b2 air) (g := m_passOne_b96 air) (x := σ) (y := μ) (N := 25) ⟨⟨h.mono (Int.le_refl _) (by omega) (Int.le_refl _), fun j _ hj => (h.2.2.2.1 j hj).2.2.2.2⟩, S, M, hv, Int.le_refl _, by omega⟩ (fun i z ζ hi hz => ?_) 25 (Nat.le_refl _)).2
  · obtain ⟨S', M', k1, k2, k3⟩ := key
    exact ⟨S', M', k1, k2, by omega⟩
  · have eb : m_passOne_b96 air i ζ = m_wake_s ζ i air := by
      unfold m_passOne_b96 m_passOne_k108
      exact Eq.refl _
    rw [eb]
    obtain ⟨hz, S', M', k1, k2, k3⟩ := hz
    obtain ⟨S'', M'', g1, g2, g3⟩ := cv_wake_step hz.1 h0 hT hC0 hC hi hz.2 air k1
    exact ⟨wake_step hz.1 h0 hT hC0 hC hi hz.2 air, S'', M'', g1, by omega, by omega⟩
