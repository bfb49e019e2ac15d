def m_flow_j152_s (σ : Sg) (k : Nat) (z4 : Int32) (τ_5 : Sg) : Sg := τ_5
def m_flow_k141 (σ : Sg) (k : Nat) (z4 : Int32) (s_9 : Sg) : Sg := (si s_9 3 ((z4).toNatClampNeg) (((s_9.1 3 ((z4).toNatClampNeg))) + ((m_lesser (σ.1 3 k) ((((((σ.1 2 k)) + ((σ.1 3 k))) - ((σ.1 2 ((z4).toNatClampNeg)))) - ((σ.1 3 ((z4).toNatClampNeg)))) / (nI (2)))))))
def m_flow_t113n (σ : Sg) (k : Nat) (z4 : Int32) : Sg := (m_flow_k141 σ k z4 (si σ 3 (k) (((σ.1 3 k)) - ((m_lesser (σ.1 3 k) ((((((σ.1 2 k)) + ((σ.1 3 k))) - ((σ.1 2 ((z4).toNatClampNeg)))) - ((σ.1 3 ((z4).toNatClampNeg)))) / (nI (2))))))))
def m_flow_x4_s (σ : Sg) (k : Nat) (z4 : Int32) : Sg := (m_flow_j152_s σ k z4 (if ((((σ.1 2 k)) + ((σ.1 3 k))) - ((σ.1 2 ((z4).toNatClampNeg)))) - ((σ.1 3 ((z4).toNatClampNeg))) ≤ nI (1) then σ else (m_flow_t113n σ k z4)))
def m_flow_j76 (σ : Sg) (k : Nat) (i4 : Nat) (z4 : Int32) (x_15 : Int32) (x_21 : Int32) : Int32 := x_21
def m_flow_j63 (σ : Sg) (k : Nat) (i4 : Nat) (z4 : Int32) (x_15 : Int32) : Int32 := (m_flow_j76 σ k i4 z4 x_15 (if x_15 = 0 then z4 else (m_beside (nI (k)) (nI (i4)))))
def m_flow_b4 (σ : Sg) (k : Nat) (i4 : Nat) (z4 : Int32) : Int32 := (m_flow_j63 σ k i4 z4 (if (m_beside (nI (k)) (nI (i4))) = (-1) then nI (0) else (if z4 = (-1) then nI (1) else (if ((σ.1 2 ((z4).toNatClampNeg))) + ((σ.1 3 ((z4).toNatClampNeg))) ≤ ((σ.1 2 (((m_beside (nI (k)) (nI (i4)))).toNatClampNeg))) + ((σ.1 3 (((m_beside (nI (k)) (nI (i4)))).toNatClampNeg))) then nI (0) else nI (1)))))
def m_flow_s (σ : Sg) (k : Nat) : Sg := (m_flow_x4_s σ k (lp (m_flow_b4 σ k) 4 (-1)))
theorem m_flow_inv (σ : Sg) {k : Nat} (hk : k < 25) (i : Nat) (hi : i ≤ 4) : (∀ w, w < i → lp (m_flow_b4 σ k) i (-1) = -1 → m_beside (nI k) (nI w) = -1) ∧ (¬ lp (m_flow_b4 σ k) i (-1) = -1 → vp_in (lp (m_flow_b4 σ k) i (-1)) 25) := by
  refine lp_invB (P := fun i z => (∀ w, w < i → z = -1 → m_beside (nI k) (nI w) = -1) ∧ (¬ z = -1 → vp_in z 25)) (N := 4) ⟨fun w hw => absurd hw (by omega), fun h => absurd rfl h⟩ ?_ i hi
  intro i z hi ⟨h1, h2⟩
  simp only [m_flow_b4, m_flow_j152_s, m_flow_k141, m_flow_t113n, m_flow_x4_s, m_flow_j76, m_flow_j63, m_flow_s]
  by_cases hb : m_beside (nI k) (nI i) = -1
  · rw [if_pos hb, if_pos n0_eq]
    exact ⟨fun w hw hz => (Nat.lt_succ_iff_lt_or_eq.mp hw).elim (fun h => h1 w h hz) (fun h => h ▸ hb), h2⟩
  · rw [if_neg hb]
    have hin := m_beside_tab k hk i hi hb
    by_cases hz : z = -1
    · rw [if_pos hz, if_neg n1_ne]
      exact ⟨fun w _ h => absurd h hb, fun _ => hin⟩
    · rw [if_neg hz]
      by_cases hle : ((σ.1 2 (z).toNatClampNeg) + (σ.1 3 (z).toNatClampNeg)) ≤ ((σ.1 2 (m_beside (nI k) (nI i)).toNatClampNeg) + (σ.1 3 (m_beside (nI k) (nI i)).toNatClampNeg))
      · rw [if_pos hle, if_pos n0_eq]
        exact ⟨fun w _ h => absurd h hz, h2⟩
      · rw [if_neg hle, if_neg n1_ne]
        exact ⟨fun w _ h => absurd h hb, fun _ => hin⟩
theorem m_flow_end {k : Nat} {z : Int32} (hk : k < 25) (h : (∀ w, w < 4 → z = -1 → m_beside (nI k) (nI w) = -1) ∧ (¬ z = -1 → vp_in z 25)) : vp_in z 25 := by
  refine h.2 (fun hz => ?_)
  obtain ⟨w, hw, hn⟩ := m_beside_some k hk
  exact hn (h.1 w hw hz)
set_option maxHeartbeats 4000000 in
set_option maxRecDepth 100000 in
theorem cm_flow (l : Launch) (G : va_G) (cI cZ : ClassId) (a : Nat → Nat) (σ : Sg) (k : Nat) (hk : k < 25) : mV l yX6_flow wsX6_flow ({ frames := 1, cells := 0, slots := 0, locals := 21 } : Room) G cI cZ a σ [.int (nI (k))] (m_flow_s σ k) := by
  unfold mV
  refine Met.ofW (cc := cX6_flow) (maxL := 6) (ret := none) (by decide) rfl ?_
  intro p e s m args below meth c s₁ B hml hv
  obtain ⟨rfl, hP, hK, hD⟩ := hv
  have hx := B.exec
  have hb := B.bytes
  have hr := B.returns
  have hts := atoms_spec (ws := wsX6_flow) B.pre
  have hown : s.vm.findClass RX6 = some m.cls := findClass_of_methodNamed B.named
  have hlocks := B.notSynchronized
  have hS : va_S (mA a) s.heap s.heap [] := va_S.rf
  have hin : ∀ w ∈ wsX60, w ∈ wsX6_flow := fun w h => List.mem_cons_of_mem _ (List.mem_append_right _ h)
  have hl := lv_entry ([.ref (a 0), .int (nI (k))]) (n := 6) (Nat.le_of_ble_eq_true rfl)
  rw [lg_entry_eq]
  generalize (lg_sl ([.ref (a 0), .int (nI (k))]) ++ List.replicate (6 - (lg_sl ([.ref (a 0), .int (nI (k))])).length) Slot.unset).toArray = ls at hl ⊢
  have hl : lv_has ls 6 [(0, .ref (a 0)), (1, .int (nI (k)))] := hl
  refine w_named (fun WW hWW => ?_)
  have hP : va_P G vwCl (wm cI cZ a σ) s.heap := hP
  refine lv_iconst (v := (-1)) hx hb dX6_flow_0 (by decide) ?_
  refine lv_istore_n (lv' := [(2, .int ((-1))), (0, .ref (a 0)), (1, .int (nI (k)))]) hx hb dX6_flow_1 rfl hl (by decide) rfl (fun ls hl => ?_)
  refine lv_iconst (v := nI (0)) hx hb dX6_flow_2 (by decide) ?_
  refine lv_istore_n (lv' := [(3, .int (nI (0))), (2, .int ((-1))), (0, .ref (a 0)), (1, .int (nI (k)))]) hx hb dX6_flow_3 rfl hl (by decide) rfl (fun ls hl => ?_)
  have L4 : ∀ (n4 i4 : Nat), i4 ≤ 4 → 4 + 1 ≤ i4 + n4 → ∀ (z4 : Int32), z4 = lp (m_flow_b4 σ k) i4 (-1) → ∀ (H : Heap) (locs : List Loc), va_P G vwCl (wm cI cZ a σ) H → va_D (mA a) (wm cI cZ a σ) → va_S (mA a) s.heap H locs → ∀ (ls : Array Slot), lv_has ls 6 [(3, .int (nI (i4))), (2, .int (z4)), (0, .ref (a 0)), (1, .int (nI (k)))] → WW H locs 0 0 (F0 m 4 ls []) := by
    intro n4
    induction n4 with
    | zero => intro i4 h1 h2; exact absurd h2 (by omega)
    | succ n4 ih4 =>
      intro i4 hi4 hn4 z4 hz4  H locs hP hD hS ls hl
      refine (hWW _ _ _ _ _).mpr ?_
      have hv := m_flow_inv σ hk i4 hi4; rw [← hz4] at hv
      refine lv_iload_n hx hb dX6_flow_4 rfl (lv_at hl 0 rfl) ?_
      refine lv_iconst (v := nI (4)) hx hb dX6_flow_5 (by decide) ?_
      refine n_icmp_ge (x := i4) (y := 4) (tgt := 83) hx hb (by omega) (by omega) dX6_flow_6 (by decide) (fun c_1 => ?_) (fun c_1 => ?_)
      · have hiN : 4 = i4 := by omega
        subst hiN
        have hR_2 : m_flow_s σ k = m_flow_x4_s σ k z4 := (by have q_ := hz4.symm; subst q_; unfold m_flow_s; rfl)
        have hq : vp_in z4 25 := m_flow_end hk hv
        refine lv_aload_n hx hb dX6_flow_83 rfl (lv_at hl 2 rfl) ?_
        refine m_get (v := .ref (a 2)) hx hb hts hin hown hK hP 2 (by decide) rfl (index := 7) (List.mem_of_getElem? (i := 1) rfl) dX6_flow_84 ?_
        refine lv_iload_n hx hb dX6_flow_87 rfl (lv_at hl 3 rfl) ?_
        refine m_ald (j := k) hx hb hK hP 1 2 rfl (by decide) (by omega) dX6_flow_88 ?_
        refine W.eq (g2 := F0 m 89 ls [.int ((σ.1 2 k))]) rfl ?_
        refine lv_aload_n hx hb dX6_flow_89 rfl (lv_at hl 2 rfl) ?_
        refine m_get (v := .ref (a 3)) hx hb hts hin hown hK hP 3 (by decide) rfl (index := 13) (List.mem_of_getElem? (i := 2) rfl) dX6_flow_90 ?_
        refine lv_iload_n hx hb dX6_flow_93 rfl (lv_at hl 3 rfl) ?_
        refine m_ald (j := k) hx hb hK hP 2 3 rfl (by decide) (by omega) dX6_flow_94 ?_
        refine W.eq (g2 := F0 m 95 ls [.int ((σ.1 3 k)), .int ((σ.1 2 k))]) rfl ?_
        refine lv_iadd (x := (σ.1 2 k)) (y := (σ.1 3 k)) hx hb dX6_flow_95 ?_
        refine lv_aload_n hx hb dX6_flow_96 rfl (lv_at hl 2 rfl) ?_
        refine m_get (v := .ref (a 2)) hx hb hts hin hown hK hP 2 (by decide) rfl (index := 7) (List.mem_of_getElem? (i := 1) rfl) dX6_flow_97 ?_
        refine lv_iload_n hx hb dX6_flow_100 rfl (lv_at hl 1 rfl) ?_
        refine m_aldI (j := z4) hx hb hK hP 1 2 rfl (hq) dX6_flow_101 ?_
        refine W.eq (g2 := F0 m 102 ls [.int ((σ.1 2 ((z4).toNatClampNeg))), .int (((σ.1 2 k)) + ((σ.1 3 k)))]) rfl ?_
        refine lv_isub (x := ((σ.1 2 k)) + ((σ.1 3 k))) (y := (σ.1 2 ((z4).toNatClampNeg))) hx hb dX6_flow_102 ?_
        refine lv_aload_n hx hb dX6_flow_103 rfl (lv_at hl 2 rfl) ?_
        refine m_get (v := .ref (a 3)) hx hb hts hin hown hK hP 3 (by decide) rfl (index := 13) (List.mem_of_getElem? (i := 2) rfl) dX6_flow_104 ?_
        refine lv_iload_n hx hb dX6_flow_107 rfl (lv_at hl 1 rfl) ?_
        refine m_aldI (j := z4) hx hb hK hP 2 3 rfl (hq) dX6_flow_108 ?_
        refine W.eq (g2 := F0 m 109 ls [.int ((σ.1 3 ((z4).toNatClampNeg))), .int ((((σ.1 2 k)) + ((σ.1 3 k))) - ((σ.1 2 ((z4).toNatClampNeg))))]) rfl ?_
        refine lv_isub (x := (((σ.1 2 k)) + ((σ.1 3 k))) - ((σ.1 2 ((z4).toNatClampNeg)))) (y := (σ.1 3 ((z4).toNatClampNeg))) hx hb dX6_flow_109 ?_
        refine lv_istore_n (lv' := [(3, .int (((((σ.1 2 k)) + ((σ.1 3 k))) - ((σ.1 2 ((z4).toNatClampNeg)))) - ((σ.1 3 ((z4).toNatClampNeg))))), (2, .int (z4)), (0, .ref (a 0)), (1, .int (nI (k)))]) hx hb dX6_flow_110 rfl hl (by decide) rfl (fun ls hl => ?_)
        refine lv_iload_n hx hb dX6_flow_111 rfl (lv_at hl 0 rfl) ?_
        refine lv_iconst (v := nI (1)) hx hb dX6_flow_112 (by decide) ?_
        have J152_6 : ∀ (τ_5 : Sg), τ_5 = (if ((((σ.1 2 k)) + ((σ.1 3 k))) - ((σ.1 2 ((z4).toNatClampNeg)))) - ((σ.1 3 ((z4).toNatClampNeg))) ≤ nI (1) then σ else (m_flow_t113n σ k z4)) → ∀ (H : Heap) (locs : List Loc), va_P G vwCl (wm cI cZ a τ_5) H → va_D (mA a) (wm cI cZ a τ_5) → va_S (mA a) s.heap H locs → ∀ (ls : Array Slot), lv_has ls 6 [(3, .int (((((σ.1 2 k)) + ((σ.1 3 k))) - ((σ.1 2 ((z4).toNatClampNeg)))) - ((σ.1 3 ((z4).toNatClampNeg))))), (2, .int (z4)), (0, .ref (a 0)), (1, .int (nI (k)))] → WW H locs 0 0 (F0 m 152 ls []) := by
          intro τ_5 h_7 H locs hP hD hS ls hl
          refine (hWW _ _ _ _ _).mpr ?_
          have hR_8 : m_flow_s σ k = m_flow_j152_s σ k z4 τ_5 := (Eq.trans hR_2 (by have q_ := h_7.symm; subst q_; unfold m_flow_x4_s; rfl))
          exact m_vret hx hb hr hlocks hP hK hD hS dX6_flow_152 (Eq.trans (by unfold m_flow_j152_s; rfl) hR_8.symm)
        refine lv_icmp_le (x := ((((σ.1 2 k)) + ((σ.1 3 k))) - ((σ.1 2 ((z4).toNatClampNeg)))) - ((σ.1 3 ((z4).toNatClampNeg)))) (y := nI (1)) (tgt := 152) hx hb dX6_flow_113 (by decide) (fun c_3 => ?_) (fun c_3 => ?_)
        · exact (hWW _ _ _ _ _).mp (J152_6 _ (by simp only [if_pos c_3]) _ _ hP hD hS _ (lv_sub hl [0, 1, 2, 3] rfl))
        · refine lv_aload_n hx hb dX6_flow_116 rfl (lv_at hl 2 rfl) ?_
          refine m_get (v := .ref (a 3)) hx hb hts hin hown hK hP 3 (by decide) rfl (index := 13) (List.mem_of_getElem? (i := 2) rfl) dX6_flow_117 ?_
          refine lv_iload_n hx hb dX6_flow_120 rfl (lv_at hl 3 rfl) ?_
          refine m_ald (j := k) hx hb hK hP 2 3 rfl (by decide) (by omega) dX6_flow_121 ?_
          refine W.eq (g2 := F0 m 122 ls [.int ((σ.1 3 k))]) rfl ?_
          refine lv_iload_n hx hb dX6_flow_122 rfl (lv_at hl 0 rfl) ?_
          refine lv_iconst (v := nI (2)) hx hb dX6_flow_123 (by decide) ?_
          refine lv_idiv (x := ((((σ.1 2 k)) + ((σ.1 3 k))) - ((σ.1 2 ((z4).toNatClampNeg)))) - ((σ.1 3 ((z4).toNatClampNeg)))) (y := nI (2)) hx hb dX6_flow_124 (by decide) ?_
          refine m_callS (As := [.int ((σ.1 3 k)), .int ((((((σ.1 2 k)) + ((σ.1 3 k))) - ((σ.1 2 ((z4).toNatClampNeg)))) - ((σ.1 3 ((z4).toNatClampNeg)))) / (nI (2)))]) (rest := []) ⟨hx, hb, hml, hown, hts⟩ (cm_lesser l (σ.1 3 k) ((((((σ.1 2 k)) + ((σ.1 3 k))) - ((σ.1 2 ((z4).toNatClampNeg)))) - ((σ.1 3 ((z4).toNatClampNeg)))) / (nI (2))) ) (va_cwS 2 hts gX6_flow_X6_lesser rfl rfl rfl (by decide +kernel) ⟨Nat.le_of_ble_eq_true rfl, Nat.le_of_ble_eq_true rfl⟩) hP hS rfl hl.1 rfl (Nat.le_of_ble_eq_true rfl) dX6_flow_125 ⟨Nat.zero_le _, Nat.zero_le _⟩ (fun H locs hP hS => ?_)
          refine lv_istore (lv' := [(4, .int ((m_lesser (σ.1 3 k) ((((((σ.1 2 k)) + ((σ.1 3 k))) - ((σ.1 2 ((z4).toNatClampNeg)))) - ((σ.1 3 ((z4).toNatClampNeg)))) / (nI (2)))))), (3, .int (((((σ.1 2 k)) + ((σ.1 3 k))) - ((σ.1 2 ((z4).toNatClampNeg)))) - ((σ.1 3 ((z4).toNatClampNeg))))), (2, .int (z4)), (0, .ref (a 0)), (1, .int (nI (k)))]) hx hb dX6_flow_128 hl (by decide) rfl (fun ls hl => ?_)
          refine lv_aload_n hx hb dX6_flow_130 rfl (lv_at hl 3 rfl) ?_
          refine m_get (v := .ref (a 3)) hx hb hts hin hown hK hP 3 (by decide) rfl (index := 13) (List.mem_of_getElem? (i := 2) rfl) dX6_flow_131 ?_
          refine lv_iload_n hx hb dX6_flow_134 rfl (lv_at hl 4 rfl) ?_
          refine lv_dup2_11 hx hb dX6_flow_135 rfl rfl ?_
          refine m_ald (j := k) hx hb hK hP 2 3 rfl (by decide) (by omega) dX6_flow_136 ?_
          refine W.eq (g2 := F0 m 137 ls [.int ((σ.1 3 k)), .int (nI (k)), .ref (a 3)]) rfl ?_
          refine lv_iload hx hb dX6_flow_137 (lv_at hl 0 rfl) ?_
          refine lv_isub (x := (σ.1 3 k)) (y := (m_lesser (σ.1 3 k) ((((((σ.1 2 k)) + ((σ.1 3 k))) - ((σ.1 2 ((z4).toNatClampNeg)))) - ((σ.1 3 ((z4).toNatClampNeg)))) / (nI (2))))) hx hb dX6_flow_139 ?_
          refine m_ast (j := k) (v := ((σ.1 3 k)) - ((m_lesser (σ.1 3 k) ((((((σ.1 2 k)) + ((σ.1 3 k))) - ((σ.1 2 ((z4).toNatClampNeg)))) - ((σ.1 3 ((z4).toNatClampNeg)))) / (nI (2)))))) hx hb hK hP hD hS 2 3 rfl rfl (by decide) (by omega) dX6_flow_140 (fun H locs hP hD hS => ?_)
          obtain ⟨s_9, e_10⟩ : ∃ z : Sg, z = (si σ 3 (k) (((σ.1 3 k)) - ((m_lesser (σ.1 3 k) ((((((σ.1 2 k)) + ((σ.1 3 k))) - ((σ.1 2 ((z4).toNatClampNeg)))) - ((σ.1 3 ((z4).toNatClampNeg)))) / (nI (2))))))) := ⟨_, rfl⟩
          rw [← e_10] at hP hD
          have hR_11 : m_flow_t113n σ k z4 = m_flow_k141 σ k z4 s_9 := (by have q_ := e_10.symm; subst q_; unfold m_flow_t113n; rfl)
          refine lv_aload_n hx hb dX6_flow_141 rfl (lv_at hl 3 rfl) ?_
          refine m_get (v := .ref (a 3)) hx hb hts hin hown hK hP 3 (by decide) rfl (index := 13) (List.mem_of_getElem? (i := 2) rfl) dX6_flow_142 ?_
          refine lv_iload_n hx hb dX6_flow_145 rfl (lv_at hl 2 rfl) ?_
          refine lv_dup2_11 hx hb dX6_flow_146 rfl rfl ?_
          refine m_aldI (j := z4) hx hb hK hP 2 3 rfl (hq) dX6_flow_147 ?_
          refine W.eq (g2 := F0 m 148 ls [.int ((s_9.1 3 ((z4).toNatClampNeg))), .int (z4), .ref (a 3)]) rfl ?_
          refine lv_iload hx hb dX6_flow_148 (lv_at hl 0 rfl) ?_
          refine lv_iadd (x := (s_9.1 3 ((z4).toNatClampNeg))) (y := (m_lesser (σ.1 3 k) ((((((σ.1 2 k)) + ((σ.1 3 k))) - ((σ.1 2 ((z4).toNatClampNeg)))) - ((σ.1 3 ((z4).toNatClampNeg)))) / (nI (2))))) hx hb dX6_flow_150 ?_
          refine m_astI (j := z4) (v := ((s_9.1 3 ((z4).toNatClampNeg))) + ((m_lesser (σ.1 3 k) ((((((σ.1 2 k)) + ((σ.1 3 k))) - ((σ.1 2 ((z4).toNatClampNeg)))) - ((σ.1 3 ((z4).toNatClampNeg)))) / (nI (2)))))) hx hb hK hP hD hS 2 3 rfl rfl (hq) dX6_flow_151 (fun H locs hP hD hS => ?_)
          have q_12 : (si s_9 3 ((z4).toNatClampNeg) (((s_9.1 3 ((z4).toNatClampNeg))) + ((m_lesser (σ.1 3 k) ((((((σ.1 2 k)) + ((σ.1 3 k))) - ((σ.1 2 ((z4).toNatClampNeg)))) - ((σ.1 3 ((z4).toNatClampNeg)))) / (nI (2))))))) = m_flow_t113n σ k z4 := (Eq.trans (by unfold m_flow_k141; rfl) hR_11.symm)
          exact (hWW _ _ _ _ _).mp (J152_6 _ (by rw [if_neg c_3]; exact q_12) _ _ hP hD hS _ (lv_sub hl [1, 2, 3, 4] rfl))
      · refine lv_iload_n hx hb dX6_flow_9 rfl (lv_at hl 3 rfl) ?_
        refine lv_iload_n hx hb dX6_flow_10 rfl (lv_at hl 0 rfl) ?_
        refine m_callS (As := [.int (nI (k)), .int (nI (i4))]) (rest := []) ⟨hx, hb, hml, hown, hts⟩ (cm_beside l (nI (k)) (nI (i4)) ) (va_cwS 2 hts gX6_flow_X6_beside rfl rfl rfl (by decide +kernel) ⟨Nat.le_of_ble_eq_true rfl, Nat.le_of_ble_eq_true rfl⟩) hP hS rfl hl.1 rfl (Nat.le_of_ble_eq_true rfl) dX6_flow_11 ⟨Nat.zero_le _, Nat.zero_le _⟩ (fun H locs hP hS => ?_)
        refine lv_istore (lv' := [(4, .int ((m_beside (nI (k)) (nI (i4))))), (3, .int (nI (i4))), (2, .int (z4)), (0, .ref (a 0)), (1, .int (nI (k)))]) hx hb dX6_flow_14 hl (by decide) rfl (fun ls hl => ?_)
        refine lv_iload hx hb dX6_flow_16 (lv_at hl 0 rfl) ?_
        refine lv_iconst (v := (-1)) hx hb dX6_flow_18 (by decide) ?_
        have J63_16 : ∀ (x_15 : Int32), x_15 = (if (m_beside (nI (k)) (nI (i4))) = (-1) then nI (0) else (if z4 = (-1) then nI (1) else (if ((σ.1 2 ((z4).toNatClampNeg))) + ((σ.1 3 ((z4).toNatClampNeg))) ≤ ((σ.1 2 (((m_beside (nI (k)) (nI (i4)))).toNatClampNeg))) + ((σ.1 3 (((m_beside (nI (k)) (nI (i4)))).toNatClampNeg))) then nI (0) else nI (1)))) → ∀ (H : Heap) (locs : List Loc), va_P G vwCl (wm cI cZ a σ) H → va_D (mA a) (wm cI cZ a σ) → va_S (mA a) s.heap H locs → ∀ (ls : Array Slot), lv_has ls 6 [(4, .int ((m_beside (nI (k)) (nI (i4))))), (3, .int (nI (i4))), (2, .int (z4)), (0, .ref (a 0)), (1, .int (nI (k)))] → WW H locs 0 0 (F0 m 63 ls [.int (x_15)]) := by
          intro x_15 h_17 H locs hP hD hS ls hl
          refine (hWW _ _ _ _ _).mpr ?_
          have hR_18 : m_flow_b4 σ k i4 z4 = m_flow_j63 σ k i4 z4 x_15 := (by have q_ := h_17.symm; subst q_; unfold m_flow_b4; rfl)
          refine lv_istore (lv' := [(5, .int (x_15)), (4, .int ((m_beside (nI (k)) (nI (i4))))), (3, .int (nI (i4))), (2, .int (z4)), (0, .ref (a 0)), (1, .int (nI (k)))]) hx hb dX6_flow_63 hl (by decide) rfl (fun ls hl => ?_)
          refine lv_iload hx hb dX6_flow_65 (lv_at hl 0 rfl) ?_
          have J76_22 : ∀ (x_21 : Int32), x_21 = (if x_15 = 0 then z4 else (m_beside (nI (k)) (nI (i4)))) → ∀ (H : Heap) (locs : List Loc), va_P G vwCl (wm cI cZ a σ) H → va_D (mA a) (wm cI cZ a σ) → va_S (mA a) s.heap H locs → ∀ (ls : Array Slot), lv_has ls 6 [(5, .int (x_15)), (4, .int ((m_beside (nI (k)) (nI (i4))))), (3, .int (nI (i4))), (2, .int (z4)), (0, .ref (a 0)), (1, .int (nI (k)))] → WW H locs 0 0 (F0 m 76 ls [.int (x_21)]) := by
            intro x_21 h_23 H locs hP hD hS ls hl
            refine (hWW _ _ _ _ _).mpr ?_
            have hR_24 : m_flow_b4 σ k i4 z4 = m_flow_j76 σ k i4 z4 x_15 x_21 := (Eq.trans hR_18 (by have q_ := h_23.symm; subst q_; unfold m_flow_j63; rfl))
            refine lv_istore_n (lv' := [(2, .int (x_21)), (5, .int (x_15)), (4, .int ((m_beside (nI (k)) (nI (i4))))), (3, .int (nI (i4))), (0, .ref (a 0)), (1, .int (nI (k)))]) hx hb dX6_flow_76 rfl hl (by decide) rfl (fun ls hl => ?_)
            refine n_iinc (x := i4) (dN := 1) (k := 3) (lv' := [(3, .int (nI (i4 + 1))), (2, .int (x_21)), (5, .int (x_15)), (4, .int ((m_beside (nI (k)) (nI (i4))))), (0, .ref (a 0)), (1, .int (nI (k)))]) hx hb dX6_flow_77 hl rfl (by decide) rfl (fun ls hl => ?_)
            refine lv_goto (tgt := 4) hx hb dX6_flow_80 (by decide) ?_
            exact (hWW _ _ _ _ _).mp (ih4 (i4 + 1) (by omega) (by omega) (x_21) (by show _ = m_flow_b4 σ k i4 (lp (m_flow_b4 σ k) i4 (-1)); rw [← hz4]; exact (Eq.trans (by unfold m_flow_j76; rfl) hR_24.symm))  _ _ hP hD hS _ (lv_sub hl [0, 1, 4, 5] rfl))
          refine lv_if_eq (x := x_15) (tgt := 75) hx hb dX6_flow_67 (by decide) (fun c_19 => ?_) (fun c_19 => ?_)
          · refine lv_iload_n hx hb dX6_flow_75 rfl (lv_at hl 3 rfl) ?_
            exact (hWW _ _ _ _ _).mp (J76_22 _ (by simp only [if_pos c_19]) _ _ hP hD hS _ (lv_sub hl [0, 1, 2, 3, 4, 5] rfl))
          · refine lv_iload hx hb dX6_flow_70 (lv_at hl 1 rfl) ?_
            refine lv_goto (tgt := 76) hx hb dX6_flow_72 (by decide) ?_
            exact (hWW _ _ _ _ _).mp (J76_22 _ (by simp only [if_neg c_19]) _ _ hP hD hS _ (lv_sub hl [0, 1, 2, 3, 4, 5] rfl))
        refine lv_icmp_eq (x := (m_beside (nI (k)) (nI (i4)))) (y := (-1)) (tgt := 62) hx hb dX6_flow_19 (by decide) (fun c_13 => ?_) (fun c_13 => ?_)
        · refine lv_iconst (v := nI (0)) hx hb dX6_flow_62 (by decide) ?_
          exact (hWW _ _ _ _ _).mp (J63_16 _ (by simp only [if_pos c_13]) _ _ hP hD hS _ (lv_sub hl [0, 1, 2, 3, 4] rfl))
        · refine lv_iload_n hx hb dX6_flow_22 rfl (lv_at hl 2 rfl) ?_
          refine lv_iconst (v := (-1)) hx hb dX6_flow_23 (by decide) ?_
          refine lv_icmp_eq (x := z4) (y := (-1)) (tgt := 58) hx hb dX6_flow_24 (by decide) (fun c_25 => ?_) (fun c_25 => ?_)
          · refine lv_iconst (v := nI (1)) hx hb dX6_flow_58 (by decide) ?_
            refine lv_goto (tgt := 63) hx hb dX6_flow_59 (by decide) ?_
            exact (hWW _ _ _ _ _).mp (J63_16 _ (by simp only [if_neg c_13, if_pos c_25]) _ _ hP hD hS _ (lv_sub hl [0, 1, 2, 3, 4] rfl))
          · refine lv_aload_n hx hb dX6_flow_27 rfl (lv_at hl 3 rfl) ?_
            refine m_get (v := .ref (a 2)) hx hb hts hin hown hK hP 2 (by decide) rfl (index := 7) (List.mem_of_getElem? (i := 1) rfl) dX6_flow_28 ?_
            refine lv_iload hx hb dX6_flow_31 (lv_at hl 0 rfl) ?_
            refine m_aldI (j := (m_beside (nI (k)) (nI (i4)))) hx hb hK hP 1 2 rfl (m_beside_tab k hk i4 (by omega) c_13) dX6_flow_33 ?_
            refine W.eq (g2 := F0 m 34 ls [.int ((σ.1 2 (((m_beside (nI (k)) (nI (i4)))).toNatClampNeg)))]) rfl ?_
            refine lv_aload_n hx hb dX6_flow_34 rfl (lv_at hl 3 rfl) ?_
            refine m_get (v := .ref (a 3)) hx hb hts hin hown hK hP 3 (by decide) rfl (index := 13) (List.mem_of_getElem? (i := 2) rfl) dX6_flow_35 ?_
            refine lv_iload hx hb dX6_flow_38 (lv_at hl 0 rfl) ?_
            refine m_aldI (j := (m_beside (nI (k)) (nI (i4)))) hx hb hK hP 2 3 rfl (m_beside_tab k hk i4 (by omega) c_13) dX6_flow_40 ?_
            refine W.eq (g2 := F0 m 41 ls [.int ((σ.1 3 (((m_beside (nI (k)) (nI (i4)))).toNatClampNeg))), .int ((σ.1 2 (((m_beside (nI (k)) (nI (i4)))).toNatClampNeg)))]) rfl ?_
            refine lv_iadd (x := (σ.1 2 (((m_beside (nI (k)) (nI (i4)))).toNatClampNeg))) (y := (σ.1 3 (((m_beside (nI (k)) (nI (i4)))).toNatClampNeg))) hx hb dX6_flow_41 ?_
            refine lv_aload_n hx hb dX6_flow_42 rfl (lv_at hl 3 rfl) ?_
            refine m_get (v := .ref (a 2)) hx hb hts hin hown hK hP 2 (by decide) rfl (index := 7) (List.mem_of_getElem? (i := 1) rfl) dX6_flow_43 ?_
            refine lv_iload_n hx hb dX6_flow_46 rfl (lv_at hl 2 rfl) ?_
            refine m_aldI (j := z4) hx hb hK hP 1 2 rfl (hv.2 c_25) dX6_flow_47 ?_
            refine W.eq (g2 := F0 m 48 ls [.int ((σ.1 2 ((z4).toNatClampNeg))), .int (((σ.1 2 (((m_beside (nI (k)) (nI (i4)))).toNatClampNeg))) + ((σ.1 3 (((m_beside (nI (k)) (nI (i4)))).toNatClampNeg))))]) rfl ?_
            refine lv_aload_n hx hb dX6_flow_48 rfl (lv_at hl 3 rfl) ?_
            refine m_get (v := .ref (a 3)) hx hb hts hin hown hK hP 3 (by decide) rfl (index := 13) (List.mem_of_getElem? (i := 2) rfl) dX6_flow_49 ?_
            refine lv_iload_n hx hb dX6_flow_52 rfl (lv_at hl 2 rfl) ?_
            refine m_aldI (j := z4) hx hb hK hP 2 3 rfl (hv.2 c_25) dX6_flow_53 ?_
            refine W.eq (g2 := F0 m 54 ls [.int ((σ.1 3 ((z4).toNatClampNeg))), .int ((σ.1 2 ((z4).toNatClampNeg))), .int (((σ.1 2 (((m_beside (nI (k)) (nI (i4)))).toNatClampNeg))) + ((σ.1 3 (((m_beside (nI (k)) (nI (i4)))).toNatClampNeg))))]) rfl ?_
            refine lv_iadd (x := (σ.1 2 ((z4).toNatClampNeg))) (y := (σ.1 3 ((z4).toNatClampNeg))) hx hb dX6_flow_54 ?_
            refine lv_icmp_ge (x := ((σ.1 2 (((m_beside (nI (k)) (nI (i4)))).toNatClampNeg))) + ((σ.1 3 (((m_beside (nI (k)) (nI (i4)))).toNatClampNeg)))) (y := ((σ.1 2 ((z4).toNatClampNeg))) + ((σ.1 3 ((z4).toNatClampNeg)))) (tgt := 62) hx hb dX6_flow_55 (by decide) (fun c_26 => ?_) (fun c_26 => ?_)
            · refine lv_iconst (v := nI (0)) hx hb dX6_flow_62 (by decide) ?_
              exact (hWW _ _ _ _ _).mp (J63_16 _ (by simp only [if_neg c_13, if_neg c_25, if_pos c_26]) _ _ hP hD hS _ (lv_sub hl [0, 1, 2, 3, 4] rfl))
            · refine lv_iconst (v := nI (1)) hx hb dX6_flow_58 (by decide) ?_
              refine lv_goto (tgt := 63) hx hb dX6_flow_59 (by decide) ?_
              exact (hWW _ _ _ _ _).mp (J63_16 _ (by simp only [if_neg c_13, if_neg c_25, if_neg c_26]) _ _ hP hD hS _ (lv_sub hl [0, 1, 2, 3, 4] rfl))
  exact (hWW _ _ _ _ _).mp (L4 (4 + 1) 0 (Nat.zero_le _) (by omega) (-1) rfl  _ _ hP hD hS _ (lv_sub hl [0, 1, 2, 3] rfl))
