def m_gather_x36_s (σ : Sg) (z2 : Sg) (z36 : Int32 × Sg) : Sg := z36.2
def m_gather_x44 (z36 : Int32 × Sg) (z44 : Int32 × Sg) : Int32 × Sg := (z44.1, z44.2)
def m_gather_j121 (i44 : Nat) (z44 : Int32 × Sg) (y_10 : Int32) (τ_11 : Sg) : Int32 × Sg := (y_10, τ_11)
def m_gather_b44  (i44 : Nat) (z44 : Int32 × Sg) : Int32 × Sg := (m_gather_j121 i44 z44 (if (m_beside (nI (i44 / 4)) (nI (i44 % 4))) = (-1) then z44.1 else (if (z44.2.1 7 (i44 / 4)) = (-1) then z44.1 else (if (z44.2.1 7 (((m_beside (nI (i44 / 4)) (nI (i44 % 4)))).toNatClampNeg)) = (-1) then z44.1 else (if (z44.2.1 7 (i44 / 4)) ≤ (z44.2.1 7 (((m_beside (nI (i44 / 4)) (nI (i44 % 4)))).toNatClampNeg)) then z44.1 else nI (1))))) (if (m_beside (nI (i44 / 4)) (nI (i44 % 4))) = (-1) then z44.2 else (if (z44.2.1 7 (i44 / 4)) = (-1) then z44.2 else (if (z44.2.1 7 (((m_beside (nI (i44 / 4)) (nI (i44 % 4)))).toNatClampNeg)) = (-1) then z44.2 else (if (z44.2.1 7 (i44 / 4)) ≤ (z44.2.1 7 (((m_beside (nI (i44 / 4)) (nI (i44 % 4)))).toNatClampNeg)) then z44.2 else (si z44.2 7 (i44 / 4) ((z44.2.1 7 (((m_beside (nI (i44 / 4)) (nI (i44 % 4)))).toNatClampNeg)))))))))
def m_gather_b36 (z36 : Int32 × Sg) : Int32 × Sg := (m_gather_x44 z36 (lp (m_gather_b44) 100 (nI (0), z36.2)))
def m_gather_w36 : Nat → Int32 × Sg → Int32 × Sg
  | 0, z => z
  | n + 1, z => if z.1 = 0 then z else m_gather_w36 n (m_gather_b36 z)
def m_gather_x2_s (σ : Sg) (z2 : Sg) : Sg := (m_gather_x36_s σ z2 (m_gather_w36 700 (nI (1), z2)))
def m_gather_k28 (i2 : Nat) (z2 : Sg) (x_23 : Int32) (s_27 : Sg) : Sg := s_27
def m_gather_j27 (i2 : Nat) (z2 : Sg) (x_23 : Int32) : Sg := (m_gather_k28 i2 z2 x_23 (si z2 7 (i2) (x_23)))
def m_gather_b2  (i2 : Nat) (z2 : Sg) : Sg := (m_gather_j27 i2 z2 (if (z2.1 3 i2) ≤ 0 then (-1) else nI (i2)))
def m_gather_s (σ : Sg) : Sg := (m_gather_x2_s σ (lp (m_gather_b2) 25 σ))
def isum (f : Nat → Int) : Nat → Int
  | 0 => 0
  | n + 1 => isum f n + f n
theorem isum_le {f g : Nat → Int} {n : Nat} (h : ∀ c, c < n → f c ≤ g c) : isum f n ≤ isum g n := by
  induction n with
  | zero => exact Int.le_refl _
  | succ n ih =>
    have h1 := ih (fun c hc => h c (by omega))
    have h2 := h n (by omega)
    show isum f n + f n ≤ isum g n + g n
    omega
theorem isum_lt {f g : Nat → Int} {n k : Nat} (hk : k < n) (h : ∀ c, c < n → f c ≤ g c) (hs : f k < g k) : isum f n < isum g n := by
  induction n with
  | zero => omega
  | succ n ih =>
    have h2 := h n (by omega)
    show isum f n + f n < isum g n + g n
    by_cases hn : k = n
    · subst hn
      have h1 := isum_le (n := k) (fun c hc => h c (by omega))
      omega
    · have h1 := ih (by omega) (fun c hc => h c (by omega))
      omega
theorem isum_c {c : Int} (n : Nat) : isum (fun _ => c) n = n * c := by
  induction n with
  | zero => show (0 : Int) = _; omega
  | succ n ih =>
    show isum (fun _ => c) n + c = _
    rw [ih, Int.natCast_succ, Int.add_mul]
    omega
def m_lab (σ : Sg) : Int := isum (fun c => (σ.1 7 c).toInt) 25
def m_gather_mu (z : Int32 × Sg) : Nat := if z.1 = 0 then 0 else 1 + (m_lab z.2 + 25).toNat
def m_gather_ok (n : Nat) (z : Int32 × Sg) : Prop := (∀ c, c < 25 → -1 ≤ (z.2.1 7 c).toInt) ∧ m_gather_mu z < n
theorem m_gather_ok_0 (z : Int32 × Sg) : ¬ m_gather_ok 0 z := fun h => absurd h.2 (Nat.not_lt_zero _)
theorem m_gather_cases (i : Nat) (w : Int32 × Sg) : m_gather_b44 i w = w ∨ (¬ m_beside (nI (i / 4)) (nI (i % 4)) = -1 ∧ ¬ w.2.1 7 (i / 4) = -1 ∧ ¬ w.2.1 7 (m_beside (nI (i / 4)) (nI (i % 4))).toNatClampNeg = -1 ∧ ¬ w.2.1 7 (i / 4) ≤ w.2.1 7 (m_beside (nI (i / 4)) (nI (i % 4))).toNatClampNeg ∧ m_gather_b44 i w = (nI 1, si w.2 7 (i / 4) (w.2.1 7 (m_beside (nI (i / 4)) (nI (i % 4))).toNatClampNeg))) := by
  by_cases h1 : m_beside (nI (i / 4)) (nI (i % 4)) = -1
  · exact Or.inl (by simp only [m_gather_b44, m_gather_x36_s, m_gather_x44, m_gather_j121, m_gather_x2_s, m_gather_k28, m_gather_j27, m_gather_s, if_pos h1])
  by_cases h2 : w.2.1 7 (i / 4) = -1
  · exact Or.inl (by simp only [m_gather_b44, m_gather_x36_s, m_gather_x44, m_gather_j121, m_gather_x2_s, m_gather_k28, m_gather_j27, m_gather_s, if_neg h1, if_pos h2])
  by_cases h3 : w.2.1 7 (m_beside (nI (i / 4)) (nI (i % 4))).toNatClampNeg = -1
  · exact Or.inl (by simp only [m_gather_b44, m_gather_x36_s, m_gather_x44, m_gather_j121, m_gather_x2_s, m_gather_k28, m_gather_j27, m_gather_s, if_neg h1, if_neg h2, if_pos h3])
  by_cases h4 : w.2.1 7 (i / 4) ≤ w.2.1 7 (m_beside (nI (i / 4)) (nI (i % 4))).toNatClampNeg
  · exact Or.inl (by simp only [m_gather_b44, m_gather_x36_s, m_gather_x44, m_gather_j121, m_gather_x2_s, m_gather_k28, m_gather_j27, m_gather_s, if_neg h1, if_neg h2, if_neg h3, if_pos h4])
  · exact Or.inr ⟨h1, h2, h3, h4, by simp only [m_gather_b44, m_gather_x36_s, m_gather_x44, m_gather_j121, m_gather_x2_s, m_gather_k28, m_gather_j27, m_gather_s, if_neg h1, if_neg h2, if_neg h3, if_neg h4]⟩
theorem m_gather_step (z : Sg) (hz : ∀ c, c < 25 → -1 ≤ (z.1 7 c).toInt) (i : Nat) (hi : i ≤ 100) : (∀ c, c < 25 → -1 ≤ ((lp (m_gather_b44) i (nI 0, z)).2.1 7 c).toInt) ∧ m_lab (lp (m_gather_b44) i (nI 0, z)).2 ≤ m_lab z ∧ ((lp (m_gather_b44) i (nI 0, z)).1 = 0 ∨ m_lab (lp (m_gather_b44) i (nI 0, z)).2 < m_lab z) := by
  refine lp_invB (f := m_gather_b44) (z := (nI 0, z)) (n := i) (P := fun _ w => (∀ c, c < 25 → -1 ≤ (w.2.1 7 c).toInt) ∧ m_lab w.2 ≤ m_lab z ∧ (w.1 = 0 ∨ m_lab w.2 < m_lab z)) (N := 100) (by dsimp only; exact ⟨hz, Int.le_refl _, Or.inl n0_eq⟩) ?_ hi
  intro i w hi ⟨h1, h2, h3⟩
  rcases m_gather_cases i w with h | ⟨hb, g1, g2, g3, h⟩
  · rw [h]; exact ⟨h1, h2, h3⟩
  · rw [h]
    have hin := vp_lt (m_beside_tab (i / 4) (by omega) (i % 4) (by omega) hb)
    generalize (m_beside (nI (i / 4)) (nI (i % 4))).toNatClampNeg = j at hin g2 g3
    rw [i_le] at g3
    have hl : m_lab (si w.2 7 (i / 4) (w.2.1 7 j)) < m_lab w.2 := by
      refine isum_lt (k := i / 4) (by omega) (fun c hc => ?_) ?_
      · by_cases hci : c = i / 4
        · subst hci; simp only [si, upd, if_true]; omega
        · simp only [si, upd, if_true, if_neg hci]; omega
      · simp only [si, upd, if_true]; omega
    refine ⟨fun c hc => ?_, by show m_lab (si w.2 7 (i / 4) (w.2.1 7 j)) ≤ _; omega, Or.inr (by show m_lab (si w.2 7 (i / 4) (w.2.1 7 j)) < _; omega)⟩
    by_cases hci : c = i / 4
    · subst hci; simp only [si, upd, if_true]; exact h1 j hin
    · simp only [si, upd, if_true, if_neg hci]; exact h1 c hc
theorem m_gather_ok_s {n : Nat} {z : Int32 × Sg} (h : m_gather_ok (n + 1) z) (hz : ¬ z.1 = 0) : m_gather_ok n (m_gather_b36 z) := by
  obtain ⟨h1, h2⟩ := h
  obtain ⟨s1, s2, s3⟩ := m_gather_step z.2 h1 100 (Nat.le_refl _)
  have e : m_gather_b36 z = lp (m_gather_b44) 100 (nI 0, z.2) := by simp only [m_gather_b36, m_gather_x36_s, m_gather_x44, m_gather_j121, m_gather_x2_s, m_gather_k28, m_gather_j27, m_gather_s]
  unfold m_gather_mu at h2
  rw [if_neg hz] at h2
  refine ⟨by rw [e]; exact s1, ?_⟩
  rw [e]
  generalize lp (m_gather_b44) 100 (nI 0, z.2) = w at s1 s2 s3
  unfold m_gather_mu
  by_cases hw : w.1 = 0
  · rw [if_pos hw]; omega
  · rw [if_neg hw]
    have h3 := s3.resolve_left hw
    have h4 : -25 ≤ m_lab w.2 := by
      have q := isum_le (f := fun _ => -1) (g := fun c => (w.2.1 7 c).toInt) (n := 25) s1
      rw [isum_c] at q
      exact q
    omega
theorem m_gather_lab0 (σ : Sg) (i : Nat) : ∀ c, c < i → c < 25 → (lp (m_gather_b2) i σ).1 7 c = (if σ.1 3 c ≤ 0 then -1 else nI c) := by
  refine (lp_inv (P := fun i (z : Sg) => (∀ c, c < i → c < 25 → z.1 7 c = (if σ.1 3 c ≤ 0 then -1 else nI c)) ∧ z.1 3 = σ.1 3) ⟨fun c hc => absurd hc (by omega), rfl⟩ ?_ i).1
  intro i z ⟨h1, h2⟩
  simp only [m_gather_b2, m_gather_x36_s, m_gather_x44, m_gather_j121, m_gather_x2_s, m_gather_k28, m_gather_j27, m_gather_s]
  refine ⟨fun c hc h25 => ?_, by simpa [si] using h2⟩
  by_cases hci : c = i
  · subst hci; simp only [si, upd, if_true, h2]
  · simp only [si, upd, if_true, if_neg hci]; exact h1 c (by omega) h25
theorem m_gather_ok_i (σ : Sg) : m_gather_ok 700 (nI 1, lp (m_gather_b2) 25 σ) := by
  have hb : ∀ c, c < 25 → -1 ≤ ((lp (m_gather_b2) 25 σ).1 7 c).toInt ∧ ((lp (m_gather_b2) 25 σ).1 7 c).toInt ≤ 24 := by
    intro c hc
    rw [m_gather_lab0 σ 25 c hc hc]
    by_cases h : σ.1 3 c ≤ 0
    · rw [if_pos h]; exact ⟨by decide, by decide⟩
    · rw [if_neg h, nI_toInt (by omega)]; omega
  refine ⟨fun c hc => (hb c hc).1, ?_⟩
  unfold m_gather_mu
  rw [if_neg n1_ne]
  have q := isum_le (f := fun c => ((lp (m_gather_b2) 25 σ).1 7 c).toInt) (g := fun _ => 24) (n := 25) (fun c hc => (hb c hc).2)
  rw [isum_c] at q
  have q2 : m_lab (lp (m_gather_b2) 25 σ) ≤ 600 := q
  dsimp only
  omega
set_option maxHeartbeats 4000000 in
set_option maxRecDepth 100000 in
theorem cm_gather (l : Launch) (G : va_G) (cI cZ : ClassId) (a : Nat → Nat) (σ : Sg)  : mV l yX6_gather wsX6_gather ({ frames := 1, cells := 0, slots := 0, locals := 21 } : Room) G cI cZ a σ [] (m_gather_s σ) := by
  unfold mV
  refine Met.ofW (cc := cX6_gather) (maxL := 5) (ret := none) (by decide) rfl ?_
  intro p e s m args below meth c s₁ B hml hv
  obtain ⟨rfl, hP, hK, hD⟩ := hv
  have hx := B.exec
  have hb := B.bytes
  have hr := B.returns
  have hts := atoms_spec (ws := wsX6_gather) B.pre
  have hown : s.vm.findClass RX6 = some m.cls := findClass_of_methodNamed B.named
  have hlocks := B.notSynchronized
  have hS : va_S (mA a) s.heap s.heap [] := va_S.rf
  have hin : ∀ w ∈ wsX60, w ∈ wsX6_gather := fun w h => List.mem_cons_of_mem _ (List.mem_append_right _ h)
  have hl := lv_entry ([.ref (a 0)]) (n := 5) (Nat.le_of_ble_eq_true rfl)
  rw [lg_entry_eq]
  generalize (lg_sl ([.ref (a 0)]) ++ List.replicate (5 - (lg_sl ([.ref (a 0)])).length) Slot.unset).toArray = ls at hl ⊢
  have hl : lv_has ls 5 [(0, .ref (a 0))] := hl
  refine w_named (fun WW hWW => ?_)
  have hP : va_P G vwCl (wm cI cZ a σ) s.heap := hP
  refine lv_iconst (v := nI (0)) hx hb dX6_gather_0 (by decide) ?_
  refine lv_istore_n (lv' := [(1, .int (nI (0))), (0, .ref (a 0))]) hx hb dX6_gather_1 rfl hl (by decide) rfl (fun ls hl => ?_)
  have L2 : ∀ (n2 i2 : Nat), i2 ≤ 25 → 25 + 1 ≤ i2 + n2 → ∀ (z2 : Sg), z2 = lp (m_gather_b2) i2 σ → ∀ (H : Heap) (locs : List Loc), va_P G vwCl (wm cI cZ a z2) H → va_D (mA a) (wm cI cZ a z2) → va_S (mA a) s.heap H locs → ∀ (ls : Array Slot), lv_has ls 5 [(1, .int (nI (i2))), (0, .ref (a 0))] → WW H locs 0 0 (F0 m 2 ls []) := by
    intro n2
    induction n2 with
    | zero => intro i2 h1 h2; exact absurd h2 (by omega)
    | succ n2 ih2 =>
      intro i2 hi2 hn2 z2 hz2  H locs hP hD hS ls hl
      refine (hWW _ _ _ _ _).mpr ?_
      refine lv_iload_n hx hb dX6_gather_2 rfl (lv_at hl 0 rfl) ?_
      refine lv_bipush (v := nI (25)) hx hb dX6_gather_3 (by decide) ?_
      refine n_icmp_ge (x := i2) (y := 25) (tgt := 34) hx hb (by omega) (by omega) dX6_gather_5 (by decide) (fun c_1 => ?_) (fun c_1 => ?_)
      · have hiN : 25 = i2 := by omega
        subst hiN
        have hR_2 : m_gather_s σ = m_gather_x2_s σ z2 := (by have q_ := hz2.symm; subst q_; unfold m_gather_s; rfl)
        refine lv_iconst (v := nI (1)) hx hb dX6_gather_34 (by decide) ?_
        refine lv_istore_n (lv' := [(1, .int (nI (1))), (0, .ref (a 0))]) hx hb dX6_gather_35 rfl hl (by decide) rfl (fun ls hl => ?_)
        have L36 : ∀ (n36 : Nat) (z36 : Int32 × Sg), m_gather_ok n36 z36 → m_gather_w36 n36 z36 = m_gather_w36 700 (nI (1), z2) → ∀ (H : Heap) (locs : List Loc), va_P G vwCl (wm cI cZ a z36.2) H → va_D (mA a) (wm cI cZ a z36.2) → va_S (mA a) s.heap H locs → ∀ (ls : Array Slot), lv_has ls 5 [(1, .int (z36.1)), (0, .ref (a 0))] → WW H locs 0 0 (F0 m 36 ls []) := by
          intro n36
          induction n36 with
          | zero => intro z36 hk36; exact absurd hk36 (m_gather_ok_0 _)
          | succ n36 ih36 =>
            intro z36 hk36 hz36 H locs hP hD hS ls hl
            refine (hWW _ _ _ _ _).mpr ?_
            refine lv_iload_n hx hb dX6_gather_36 rfl (lv_at hl 0 rfl) ?_
            refine lv_if_eq (x := z36.1) (tgt := 130) hx hb dX6_gather_37 (by decide) (fun c_3 => ?_) (fun c_3 => ?_)
            · have hR36 : z36 = m_gather_w36 700 (nI (1), z2) := by rw [← hz36]; show z36 = (if z36.1 = 0 then z36 else _); rw [if_pos c_3]
              have hR_4 : m_gather_s σ = m_gather_x36_s σ z2 z36 := (Eq.trans hR_2 (by have q_ := hR36.symm; subst q_; unfold m_gather_x2_s; rfl))
              exact m_vret hx hb hr hlocks hP hK hD hS dX6_gather_130 (Eq.trans (by unfold m_gather_x36_s; rfl) hR_4.symm)
            · refine lv_iconst (v := nI (0)) hx hb dX6_gather_40 (by decide) ?_
              refine lv_istore_n (lv' := [(1, .int (nI (0))), (0, .ref (a 0))]) hx hb dX6_gather_41 rfl hl (by decide) rfl (fun ls hl => ?_)
              refine lv_iconst (v := nI (0)) hx hb dX6_gather_42 (by decide) ?_
              refine lv_istore_n (lv' := [(2, .int (nI (0))), (1, .int (nI (0))), (0, .ref (a 0))]) hx hb dX6_gather_43 rfl hl (by decide) rfl (fun ls hl => ?_)
              have L44 : ∀ (n44 i44 : Nat), i44 ≤ 100 → 100 + 1 ≤ i44 + n44 → ∀ (z44 : Int32 × Sg), z44 = lp (m_gather_b44) i44 (nI (0), z36.2) → ∀ (H : Heap) (locs : List Loc), va_P G vwCl (wm cI cZ a z44.2) H → va_D (mA a) (wm cI cZ a z44.2) → va_S (mA a) s.heap H locs → ∀ (ls : Array Slot), lv_has ls 5 [(2, .int (nI (i44))), (1, .int (z44.1)), (0, .ref (a 0))] → WW H locs 0 0 (F0 m 44 ls []) := by
                intro n44
                induction n44 with
                | zero => intro i44 h1 h2; exact absurd h2 (by omega)
                | succ n44 ih44 =>
                  intro i44 hi44 hn44 z44 hz44  H locs hP hD hS ls hl
                  refine (hWW _ _ _ _ _).mpr ?_
                  refine lv_iload_n hx hb dX6_gather_44 rfl (lv_at hl 0 rfl) ?_
                  refine lv_bipush (v := nI (100)) hx hb dX6_gather_45 (by decide) ?_
                  refine n_icmp_ge (x := i44) (y := 100) (tgt := 127) hx hb (by omega) (by omega) dX6_gather_47 (by decide) (fun c_5 => ?_) (fun c_5 => ?_)
                  · have hiN : 100 = i44 := by omega
                    subst hiN
                    have hR_6 : m_gather_b36 z36 = m_gather_x44 z36 z44 := (by have q_ := hz44.symm; subst q_; unfold m_gather_b36; rfl)
                    refine lv_goto (tgt := 36) hx hb dX6_gather_127 (by decide) ?_
                    have e_7 : (z44.1, z44.2) = m_gather_b36 z36 := (Eq.trans (by unfold m_gather_x44; rfl) hR_6.symm)
                    exact (hWW _ _ _ _ _).mp (ih36 ((z44.1, z44.2)) (by rw [e_7]; exact m_gather_ok_s hk36 c_3) (by rw [e_7, ← hz36]; show _ = (if z36.1 = 0 then z36 else _); rw [if_neg c_3]) _ _ hP hD hS _ (lv_sub hl [1, 2] rfl))
                  · refine lv_iload_n hx hb dX6_gather_50 rfl (lv_at hl 0 rfl) ?_
                    refine lv_iconst (v := nI (4)) hx hb dX6_gather_51 (by decide) ?_
                    refine n_div (x := i44) (y := 4) hx hb (by omega) (by omega) (by omega) dX6_gather_52 ?_
                    refine lv_istore_n (lv' := [(3, .int (nI (i44 / 4))), (2, .int (nI (i44))), (1, .int (z44.1)), (0, .ref (a 0))]) hx hb dX6_gather_53 rfl hl (by decide) rfl (fun ls hl => ?_)
                    refine lv_iload_n hx hb dX6_gather_54 rfl (lv_at hl 0 rfl) ?_
                    refine lv_iload_n hx hb dX6_gather_55 rfl (lv_at hl 1 rfl) ?_
                    refine lv_iconst (v := nI (4)) hx hb dX6_gather_56 (by decide) ?_
                    refine n_rem (x := i44) (y := 4) hx hb (by omega) (by omega) (by omega) dX6_gather_57 ?_
                    refine m_callS (As := [.int (nI (i44 / 4)), .int (nI (i44 % 4))]) (rest := []) ⟨hx, hb, hml, hown, hts⟩ (cm_beside l (nI (i44 / 4)) (nI (i44 % 4)) ) (va_cwS 2 hts gX6_gather_X6_beside rfl rfl rfl (by decide +kernel) ⟨Nat.le_of_ble_eq_true rfl, Nat.le_of_ble_eq_true rfl⟩) hP hS rfl hl.1 rfl (Nat.le_of_ble_eq_true rfl) dX6_gather_58 ⟨Nat.zero_le _, Nat.zero_le _⟩ (fun H locs hP hS => ?_)
                    refine lv_istore (lv' := [(4, .int ((m_beside (nI (i44 / 4)) (nI (i44 % 4))))), (3, .int (nI (i44 / 4))), (2, .int (nI (i44))), (1, .int (z44.1)), (0, .ref (a 0))]) hx hb dX6_gather_61 hl (by decide) rfl (fun ls hl => ?_)
                    refine lv_iload hx hb dX6_gather_63 (lv_at hl 0 rfl) ?_
                    refine lv_iconst (v := (-1)) hx hb dX6_gather_65 (by decide) ?_
                    have J121_12 : ∀ (y_10 : Int32), y_10 = (if (m_beside (nI (i44 / 4)) (nI (i44 % 4))) = (-1) then z44.1 else (if (z44.2.1 7 (i44 / 4)) = (-1) then z44.1 else (if (z44.2.1 7 (((m_beside (nI (i44 / 4)) (nI (i44 % 4)))).toNatClampNeg)) = (-1) then z44.1 else (if (z44.2.1 7 (i44 / 4)) ≤ (z44.2.1 7 (((m_beside (nI (i44 / 4)) (nI (i44 % 4)))).toNatClampNeg)) then z44.1 else nI (1))))) → ∀ (τ_11 : Sg), τ_11 = (if (m_beside (nI (i44 / 4)) (nI (i44 % 4))) = (-1) then z44.2 else (if (z44.2.1 7 (i44 / 4)) = (-1) then z44.2 else (if (z44.2.1 7 (((m_beside (nI (i44 / 4)) (nI (i44 % 4)))).toNatClampNeg)) = (-1) then z44.2 else (if (z44.2.1 7 (i44 / 4)) ≤ (z44.2.1 7 (((m_beside (nI (i44 / 4)) (nI (i44 % 4)))).toNatClampNeg)) then z44.2 else (si z44.2 7 (i44 / 4) ((z44.2.1 7 (((m_beside (nI (i44 / 4)) (nI (i44 % 4)))).toNatClampNeg)))))))) → ∀ (H : Heap) (locs : List Loc), va_P G vwCl (wm cI cZ a τ_11) H → va_D (mA a) (wm cI cZ a τ_11) → va_S (mA a) s.heap H locs → ∀ (ls : Array Slot), lv_has ls 5 [(4, .int ((m_beside (nI (i44 / 4)) (nI (i44 % 4))))), (3, .int (nI (i44 / 4))), (2, .int (nI (i44))), (1, .int (y_10)), (0, .ref (a 0))] → WW H locs 0 0 (F0 m 121 ls []) := by
                      intro y_10 h_13 τ_11 h_14 H locs hP hD hS ls hl
                      refine (hWW _ _ _ _ _).mpr ?_
                      have hR_15 : m_gather_b44 i44 z44 = m_gather_j121 i44 z44 y_10 τ_11 := (by have q_ := h_14.symm; subst q_; have q_ := h_13.symm; subst q_; unfold m_gather_b44; rfl)
                      refine n_iinc (x := i44) (dN := 1) (k := 2) (lv' := [(2, .int (nI (i44 + 1))), (4, .int ((m_beside (nI (i44 / 4)) (nI (i44 % 4))))), (3, .int (nI (i44 / 4))), (1, .int (y_10)), (0, .ref (a 0))]) hx hb dX6_gather_121 hl rfl (by decide) rfl (fun ls hl => ?_)
                      refine lv_goto (tgt := 44) hx hb dX6_gather_124 (by decide) ?_
                      exact (hWW _ _ _ _ _).mp (ih44 (i44 + 1) (by omega) (by omega) ((y_10, τ_11)) (by show _ = m_gather_b44 i44 (lp (m_gather_b44) i44 (nI (0), z36.2)); rw [← hz44]; exact (Eq.trans (by unfold m_gather_j121; rfl) hR_15.symm))  _ _ hP hD hS _ (lv_sub hl [0, 3, 4] rfl))
                    refine lv_icmp_eq (x := (m_beside (nI (i44 / 4)) (nI (i44 % 4)))) (y := (-1)) (tgt := 121) hx hb dX6_gather_66 (by decide) (fun c_8 => ?_) (fun c_8 => ?_)
                    · exact (hWW _ _ _ _ _).mp (J121_12 _ (by simp only [if_pos c_8]) _ (by simp only [if_pos c_8]) _ _ hP hD hS _ (lv_sub hl [0, 1, 2, 3, 4] rfl))
                    · refine lv_aload_n hx hb dX6_gather_69 rfl (lv_at hl 4 rfl) ?_
                      refine m_get (v := .ref (a 7)) hx hb hts hin hown hK hP 7 (by decide) rfl (index := 25) (List.mem_of_getElem? (i := 1) rfl) dX6_gather_70 ?_
                      refine lv_iload_n hx hb dX6_gather_73 rfl (lv_at hl 1 rfl) ?_
                      refine m_ald (j := i44 / 4) hx hb hK hP 6 7 rfl (by decide) (by omega) dX6_gather_74 ?_
                      refine W.eq (g2 := F0 m 75 ls [.int ((z44.2.1 7 (i44 / 4)))]) rfl ?_
                      refine lv_iconst (v := (-1)) hx hb dX6_gather_75 (by decide) ?_
                      refine lv_icmp_eq (x := (z44.2.1 7 (i44 / 4))) (y := (-1)) (tgt := 121) hx hb dX6_gather_76 (by decide) (fun c_16 => ?_) (fun c_16 => ?_)
                      · exact (hWW _ _ _ _ _).mp (J121_12 _ (by simp only [if_neg c_8, if_pos c_16]) _ (by simp only [if_neg c_8, if_pos c_16]) _ _ hP hD hS _ (lv_sub hl [0, 1, 2, 3, 4] rfl))
                      · refine lv_aload_n hx hb dX6_gather_79 rfl (lv_at hl 4 rfl) ?_
                        refine m_get (v := .ref (a 7)) hx hb hts hin hown hK hP 7 (by decide) rfl (index := 25) (List.mem_of_getElem? (i := 1) rfl) dX6_gather_80 ?_
                        refine lv_iload hx hb dX6_gather_83 (lv_at hl 0 rfl) ?_
                        refine m_aldI (j := (m_beside (nI (i44 / 4)) (nI (i44 % 4)))) hx hb hK hP 6 7 rfl (m_beside_tab (i44 / 4) (by omega) (i44 % 4) (by omega) c_8) dX6_gather_85 ?_
                        refine W.eq (g2 := F0 m 86 ls [.int ((z44.2.1 7 (((m_beside (nI (i44 / 4)) (nI (i44 % 4)))).toNatClampNeg)))]) rfl ?_
                        refine lv_iconst (v := (-1)) hx hb dX6_gather_86 (by decide) ?_
                        refine lv_icmp_eq (x := (z44.2.1 7 (((m_beside (nI (i44 / 4)) (nI (i44 % 4)))).toNatClampNeg))) (y := (-1)) (tgt := 121) hx hb dX6_gather_87 (by decide) (fun c_17 => ?_) (fun c_17 => ?_)
                        · exact (hWW _ _ _ _ _).mp (J121_12 _ (by simp only [if_neg c_8, if_neg c_16, if_pos c_17]) _ (by simp only [if_neg c_8, if_neg c_16, if_pos c_17]) _ _ hP hD hS _ (lv_sub hl [0, 1, 2, 3, 4] rfl))
                        · refine lv_aload_n hx hb dX6_gather_90 rfl (lv_at hl 4 rfl) ?_
                          refine m_get (v := .ref (a 7)) hx hb hts hin hown hK hP 7 (by decide) rfl (index := 25) (List.mem_of_getElem? (i := 1) rfl) dX6_gather_91 ?_
                          refine lv_iload hx hb dX6_gather_94 (lv_at hl 0 rfl) ?_
                          refine m_aldI (j := (m_beside (nI (i44 / 4)) (nI (i44 % 4)))) hx hb hK hP 6 7 rfl (m_beside_tab (i44 / 4) (by omega) (i44 % 4) (by omega) c_8) dX6_gather_96 ?_
                          refine W.eq (g2 := F0 m 97 ls [.int ((z44.2.1 7 (((m_beside (nI (i44 / 4)) (nI (i44 % 4)))).toNatClampNeg)))]) rfl ?_
                          refine lv_aload_n hx hb dX6_gather_97 rfl (lv_at hl 4 rfl) ?_
                          refine m_get (v := .ref (a 7)) hx hb hts hin hown hK hP 7 (by decide) rfl (index := 25) (List.mem_of_getElem? (i := 1) rfl) dX6_gather_98 ?_
                          refine lv_iload_n hx hb dX6_gather_101 rfl (lv_at hl 1 rfl) ?_
                          refine m_ald (j := i44 / 4) hx hb hK hP 6 7 rfl (by decide) (by omega) dX6_gather_102 ?_
                          refine W.eq (g2 := F0 m 103 ls [.int ((z44.2.1 7 (i44 / 4))), .int ((z44.2.1 7 (((m_beside (nI (i44 / 4)) (nI (i44 % 4)))).toNatClampNeg)))]) rfl ?_
                          refine lv_icmp_ge (x := (z44.2.1 7 (((m_beside (nI (i44 / 4)) (nI (i44 % 4)))).toNatClampNeg))) (y := (z44.2.1 7 (i44 / 4))) (tgt := 121) hx hb dX6_gather_103 (by decide) (fun c_18 => ?_) (fun c_18 => ?_)
                          · exact (hWW _ _ _ _ _).mp (J121_12 _ (by simp only [if_neg c_8, if_neg c_16, if_neg c_17, if_pos c_18]) _ (by simp only [if_neg c_8, if_neg c_16, if_neg c_17, if_pos c_18]) _ _ hP hD hS _ (lv_sub hl [0, 1, 2, 3, 4] rfl))
                          · refine lv_aload_n hx hb dX6_gather_106 rfl (lv_at hl 4 rfl) ?_
                            refine m_get (v := .ref (a 7)) hx hb hts hin hown hK hP 7 (by decide) rfl (index := 25) (List.mem_of_getElem? (i := 1) rfl) dX6_gather_107 ?_
                            refine lv_iload_n hx hb dX6_gather_110 rfl (lv_at hl 1 rfl) ?_
                            refine lv_aload_n hx hb dX6_gather_111 rfl (lv_at hl 4 rfl) ?_
                            refine m_get (v := .ref (a 7)) hx hb hts hin hown hK hP 7 (by decide) rfl (index := 25) (List.mem_of_getElem? (i := 1) rfl) dX6_gather_112 ?_
                            refine lv_iload hx hb dX6_gather_115 (lv_at hl 0 rfl) ?_
                            refine m_aldI (j := (m_beside (nI (i44 / 4)) (nI (i44 % 4)))) hx hb hK hP 6 7 rfl (m_beside_tab (i44 / 4) (by omega) (i44 % 4) (by omega) c_8) dX6_gather_117 ?_
                            refine W.eq (g2 := F0 m 118 ls [.int ((z44.2.1 7 (((m_beside (nI (i44 / 4)) (nI (i44 % 4)))).toNatClampNeg))), .int (nI (i44 / 4)), .ref (a 7)]) rfl ?_
                            refine m_ast (j := i44 / 4) (v := (z44.2.1 7 (((m_beside (nI (i44 / 4)) (nI (i44 % 4)))).toNatClampNeg))) hx hb hK hP hD hS 6 7 rfl rfl (by decide) (by omega) dX6_gather_118 (fun H locs hP hD hS => ?_)
                            obtain ⟨s_19, e_20⟩ : ∃ z : Sg, z = (si z44.2 7 (i44 / 4) ((z44.2.1 7 (((m_beside (nI (i44 / 4)) (nI (i44 % 4)))).toNatClampNeg)))) := ⟨_, rfl⟩
                            rw [← e_20] at hP hD
                            refine lv_iconst (v := nI (1)) hx hb dX6_gather_119 (by decide) ?_
                            refine lv_istore_n (lv' := [(1, .int (nI (1))), (4, .int ((m_beside (nI (i44 / 4)) (nI (i44 % 4))))), (3, .int (nI (i44 / 4))), (2, .int (nI (i44))), (0, .ref (a 0))]) hx hb dX6_gather_120 rfl hl (by decide) rfl (fun ls hl => ?_)
                            exact (hWW _ _ _ _ _).mp (J121_12 _ (by have q_ := e_20.symm; subst q_; simp only [if_neg c_8, if_neg c_16, if_neg c_17, if_neg c_18]) _ (by have q_ := e_20.symm; subst q_; simp only [if_neg c_8, if_neg c_16, if_neg c_17, if_neg c_18]) _ _ hP hD hS _ (lv_sub hl [1, 2, 3, 0, 4] rfl))
              exact (hWW _ _ _ _ _).mp (L44 (100 + 1) 0 (Nat.zero_le _) (by omega) (nI (0), z36.2) rfl  _ _ hP hD hS _ (lv_sub hl [0, 1, 2] rfl))
        exact (hWW _ _ _ _ _).mp (L36 700 (nI (1), z2) (by rw [hz2]; exact m_gather_ok_i σ) rfl _ _ hP hD hS _ (lv_sub hl [0, 1] rfl))
      · refine lv_aload_n hx hb dX6_gather_8 rfl (lv_at hl 1 rfl) ?_
        refine m_get (v := .ref (a 7)) hx hb hts hin hown hK hP 7 (by decide) rfl (index := 25) (List.mem_of_getElem? (i := 1) rfl) dX6_gather_9 ?_
        refine lv_iload_n hx hb dX6_gather_12 rfl (lv_at hl 0 rfl) ?_
        refine lv_aload_n hx hb dX6_gather_13 rfl (lv_at hl 1 rfl) ?_
        refine m_get (v := .ref (a 3)) hx hb hts hin hown hK hP 3 (by decide) rfl (index := 13) (List.mem_of_getElem? (i := 2) rfl) dX6_gather_14 ?_
        refine lv_iload_n hx hb dX6_gather_17 rfl (lv_at hl 0 rfl) ?_
        refine m_ald (j := i2) hx hb hK hP 2 3 rfl (by decide) (by omega) dX6_gather_18 ?_
        refine W.eq (g2 := F0 m 19 ls [.int ((z2.1 3 i2)), .int (nI (i2)), .ref (a 7)]) rfl ?_
        have J27_24 : ∀ (x_23 : Int32), x_23 = (if (z2.1 3 i2) ≤ 0 then (-1) else nI (i2)) → ∀ (H : Heap) (locs : List Loc), va_P G vwCl (wm cI cZ a z2) H → va_D (mA a) (wm cI cZ a z2) → va_S (mA a) s.heap H locs → ∀ (ls : Array Slot), lv_has ls 5 [(1, .int (nI (i2))), (0, .ref (a 0))] → WW H locs 0 0 (F0 m 27 ls [.int (x_23), .int (nI (i2)), .ref (a 7)]) := by
          intro x_23 h_25 H locs hP hD hS ls hl
          refine (hWW _ _ _ _ _).mpr ?_
          have hR_26 : m_gather_b2 i2 z2 = m_gather_j27 i2 z2 x_23 := (by have q_ := h_25.symm; subst q_; unfold m_gather_b2; rfl)
          refine m_ast (j := i2) (v := x_23) hx hb hK hP hD hS 6 7 rfl rfl (by decide) (by omega) dX6_gather_27 (fun H locs hP hD hS => ?_)
          obtain ⟨s_27, e_28⟩ : ∃ z : Sg, z = (si z2 7 (i2) (x_23)) := ⟨_, rfl⟩
          rw [← e_28] at hP hD
          have hR_29 : m_gather_b2 i2 z2 = m_gather_k28 i2 z2 x_23 s_27 := (Eq.trans hR_26 (by have q_ := e_28.symm; subst q_; unfold m_gather_j27; rfl))
          refine n_iinc (x := i2) (dN := 1) (k := 0) (lv' := [(1, .int (nI (i2 + 1))), (0, .ref (a 0))]) hx hb dX6_gather_28 hl rfl (by decide) rfl (fun ls hl => ?_)
          refine lv_goto (tgt := 2) hx hb dX6_gather_31 (by decide) ?_
          exact (hWW _ _ _ _ _).mp (ih2 (i2 + 1) (by omega) (by omega) (s_27) (by show _ = m_gather_b2 i2 (lp (m_gather_b2) i2 σ); rw [← hz2]; exact (Eq.trans (by unfold m_gather_k28; rfl) hR_29.symm))  _ _ hP hD hS _ (lv_sub hl [0, 1] rfl))
        refine lv_if_le (x := (z2.1 3 i2)) (tgt := 26) hx hb dX6_gather_19 (by decide) (fun c_21 => ?_) (fun c_21 => ?_)
        · refine lv_iconst (v := (-1)) hx hb dX6_gather_26 (by decide) ?_
          exact (hWW _ _ _ _ _).mp (J27_24 _ (by simp only [if_pos c_21]) _ _ hP hD hS _ (lv_sub hl [0, 1] rfl))
        · refine lv_iload_n hx hb dX6_gather_22 rfl (lv_at hl 0 rfl) ?_
          refine lv_goto (tgt := 27) hx hb dX6_gather_23 (by decide) ?_
          exact (hWW _ _ _ _ _).mp (J27_24 _ (by simp only [if_neg c_21]) _ _ hP hD hS _ (lv_sub hl [0, 1] rfl))
  exact (hWW _ _ _ _ _).mp (L2 (25 + 1) 0 (Nat.zero_le _) (by omega) σ rfl  _ _ hP hD hS _ (lv_sub hl [0, 1] rfl))
