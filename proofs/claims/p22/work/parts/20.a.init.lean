/-! the class's constructor -/
/-- the land as at first -/
def s0i (k j : Nat) : Int32 := if k = 2 then nI 100 else if k = 5 then nI 2 else if k = 36 then -1 else if k = 8 then nI 5 else if k = 9 then (if j % 5 = 2 then nI 3 else if j % 5 = 1 ∨ j % 5 = 3 then nI 2 else nI 0) else if k = 10 then -1000 else if k = 11 then nI 400 else 0
def s00 : Sg := (s0i, fun _ => 0)
theorem s00_0 {k j : Nat} (h : k ≠ 2 ∧ k ≠ 5 ∧ k ≠ 36 ∧ k ≠ 8 ∧ k ≠ 9 ∧ k ≠ 10 ∧ k ≠ 11) : s00.1 k j = 0 := by
  show s0i k j = 0
  simp [s0i, h]
theorem s00_2 {j : Nat} : s00.1 2 j = nI 100 := rfl
theorem s00_5 {j : Nat} : s00.1 5 j = nI 2 := rfl
theorem s00_36 {j : Nat} : s00.1 36 j = -1 := rfl
theorem s00_8 {j : Nat} : s00.1 8 j = nI 5 := rfl
theorem s00_10 {j : Nat} : s00.1 10 j = -1000 := rfl
theorem s00_11 {j : Nat} : s00.1 11 j = nI 400 := rfl
theorem s00_9 {i j : Nat} (hj : j < 5) : s00.1 9 (5 * i + j) = if j = 2 then nI 3 else if j = 1 ∨ j = 3 then nI 2 else nI 0 := by
  have e : (5 * i + j) % 5 = j := by omega
  show (if (5 * i + j) % 5 = 2 then nI 3 else if (5 * i + j) % 5 = 1 ∨ (5 * i + j) % 5 = 3 then nI 2 else nI 0) = _
  rw [e]
theorem arrV_ext {cI : ClassId} {N : Nat} {f g : Nat → Value} (h : ∀ j, j < N → f j = g j) : arrV cI N f = arrV cI N g := by
  unfold arrV
  congr 1
  congr 1
  funext j
  exact h j.val j.isLt
theorem va_at.row {G : va_G} {a N : Nat} {cI : ClassId} {f g : Nat → Option Nat} {H : Heap} (h : va_at G vwCl (a, .inl (cI, N, .inr (.inr (.inr (.inr f))))) H) (e : ∀ j, j < N → f j = g j) : va_at G vwCl (a, .inl (cI, N, .inr (.inr (.inr (.inr g))))) H := by
  have h1 : H[a]? = some (vp_cell cI (N, .inr (.inr (.inr (.inr f))))) := h
  show H[a]? = some (vp_cell cI (N, .inr (.inr (.inr (.inr g)))))
  rw [h1, vp_cell_q, vp_cell_q]
  exact congrArg some (arrV_ext (fun j hj => by rw [e j hj]))
/-- a new cell is the picture's -/
theorem s00_blk {G : va_G} {ids : Nat → ClassId} {b i : Nat} {H : Heap} (h0 : va_at G vwCl (b, .inr (2, [.ref (b + 1), .int (nI 100), .int 0, .int 0, .int (nI 2), .int 0, .int (-1)])) H) (h1 : va_at G vwCl (b + 1, .inl (ids 4, 5, .inr (.inr (.inr (.inr (va_up (va_up (va_up (va_up (va_up (fun _ => none) 0 (some (b + 1 + 1))) 1 (some (b + 1 + 2))) 2 (some (b + 1 + 3))) 3 (some (b + 1 + 4))) 4 (some (b + 1 + 5)))))))) H)
    (l0 : va_at G vwCl (b + 1 + 1, .inr (5, [.int (nI 5), .int (nI 0), .int (-1000), .int (nI 400)])) H) (l1 : va_at G vwCl (b + 1 + 2, .inr (5, [.int (nI 5), .int (nI 2), .int (-1000), .int (nI 400)])) H) (l2 : va_at G vwCl (b + 1 + 3, .inr (5, [.int (nI 5), .int (nI 3), .int (-1000), .int (nI 400)])) H) (l3 : va_at G vwCl (b + 1 + 4, .inr (5, [.int (nI 5), .int (nI 2), .int (-1000), .int (nI 400)])) H) (l4 : va_at G vwCl (b + 1 + 5, .inr (5, [.int (nI 5), .int (nI 0), .int (-1000), .int (nI 400)])) H) : XBP G ids b i s00 H := by
  refine ⟨?_, ?_, fun j hj => ?_⟩
  · unfold cellE
    rw [s00_2, s00_0 (k := 3) (by decide), s00_0 (k := 4) (by decide), s00_5, s00_0 (k := 6) (by decide), s00_36]
    exact h0
  · unfold rowE
    refine h1.row (fun j hj => ?_)
    rcases (show j = 0 ∨ j = 1 ∨ j = 2 ∨ j = 3 ∨ j = 4 by omega) with rfl | rfl | rfl | rfl | rfl <;> simp [va_up]
  · unfold XLP
    rw [s00_8, s00_9 hj, s00_10, s00_11]
    rcases (show j = 0 ∨ j = 1 ∨ j = 2 ∨ j = 3 ∨ j = 4 by omega) with rfl | rfl | rfl | rfl | rfl
    · exact l0
    · exact l1
    · exact l2
    · exact l3
    · exact l4
def yPn (av : List Value) (G : va_G) (ids : Nat → ClassId) (tS tE : Nat) (A : Nat → Prop) (Pic : Heap → Prop) : Array Value → State → Prop := va_Pc av (fun U => Pic U.heap ∧ va_K G vwCl (cTy ids) U ∧ cST tS tE A U U.heap ∧ va_Nw (.methodLinkNest RX5 43 yX1_init "Wakeground") U)
theorem yPn_blind {G : va_G} {ids : Nat → ClassId} {tS tE : Nat} {A : Nat → Prop} {Pic : Heap → Prop} {av : List Value} : FrameBlind (yPn av G ids tS tE A Pic) := fun _ U g mk q => ⟨q.1, q.2.1, va_K.moved (u := U) (U := U.calling g mk _) (Vm.Alike.refl U.vm) q.2.2.1, cST.moved (u := U) (U := U.calling g mk _) (Vm.Alike.refl U.vm) q.2.2.2.1, va_Nw.same rfl rfl q.2.2.2.2⟩
def k_init_k128_2_s (s_102 : Sg) (s_106 : Sg) (s_110 : Sg) : Sg := s_110
def k_init_k128_1_s (s_102 : Sg) (s_106 : Sg) : Sg := (k_init_k128_2_s s_102 s_106 (sl s_106 (26 + 2) ((k_amountInLand s_106 (nI (2))))))
def k_init_k128_s (s_102 : Sg) : Sg := (k_init_k128_1_s s_102 (sl s_102 (26 + 1) ((k_amountInLand s_102 (nI (1))))))
def k_init_s : Sg := (k_init_k128_s (sl s00 (26 + 0) ((k_amountInLand s00 (nI (0))))))
set_option maxHeartbeats 4000000 in
set_option maxRecDepth 100000 in
theorem cn_X5_init (l : Launch) (G : va_G) (ids : Nat → ClassId) (tS tE o : Nat) : Met l yX5_init wsX5_init ({ frames := 4, cells := 183, slots := 889, locals := 89 } : Room) (yPn [.ref o] G ids tS tE (cpG o (o + 184)) (fun H : Heap => H.size = o + 1 ∧ va_at G vwCl (o, .inr (6, [.null, .null, .null, .null, .int (0), .null, .null, .long (0), .null, .null])) H)) (va_Qv (fun _ : Unit => True) (fun _ t => CPic G ids o (o + 184) tE (fun _ _ => 0) (fun _ => 0) k_init_s t.heap) (cpG o (o + 184))) 183 889 (cpG o (o + 184)) := by
  refine Met.ofW (cc := cX5_init) (maxL := 2) (ret := none) (by decide) rfl ?_
  intro p e s m args below meth c s₁ B hml hv
  obtain ⟨rfl, ⟨hsz, hh⟩, hK, hZ, hNest⟩ := hv
  have hx := B.exec
  have hb := B.bytes
  have hr := B.returns
  have hts := atoms_spec (ws := wsX5_init) B.pre
  have hown : s.vm.findClass RX5 = some m.cls := findClass_of_methodNamed B.named
  have hlocks := B.notSynchronized
  have hin2 := (name_of_methodNamed B.named B.method).1
  have hS : va_S (cpG o (o + 184)) s.heap s.heap [] := va_S.rf
  have hin_wsX50 : ∀ w ∈ wsX50, w ∈ wsX5_init := fun w h => List.mem_cons_of_mem _ (List.mem_append_left _ (List.mem_append_left _ (List.mem_append_left _ (List.mem_append_right _ h))))
  have hin_wsJx4a65c0 : ∀ w ∈ wsJx4a65c0, w ∈ wsX5_init := fun w h => List.mem_cons_of_mem _ (List.mem_append_left _ (List.mem_append_left _ (List.mem_append_right _ h)))
  have hin_wsX10 : ∀ w ∈ wsX10, w ∈ wsX5_init := fun w h => List.mem_cons_of_mem _ (List.mem_append_left _ (List.mem_append_right _ h))
  have hin_wsX40 : ∀ w ∈ wsX40, w ∈ wsX5_init := fun w h => List.mem_cons_of_mem _ (List.mem_append_right _ h)
  have L78 : ∀ (n78 i : Nat), i ≤ 25 → 26 ≤ i + n78 → ∀ (H : Heap) (locs : List Loc), H.size = o + 9 + 7 * i → va_at G vwCl (o, .inr (6, [.ref (o + 1), .ref (o + 2), .ref (o + 3), .ref (o + 4), .int (0), .ref (o + 5), .ref (o + 6), .long (0), .ref (o + 7), .ref (o + 8)])) H → va_at G vwCl (o + 1, .inl (ids 3, 25, .inr (.inr (.inr (.inr (fun j => if j < i then some (o + 9 + 7 * j) else none)))))) H → va_at G vwCl (o + 2, .inr (0, [.int (nI (0)), .ref (tE), .int (0)])) H → va_at G vwCl (o + 3, .inr (0, [.int (nI (0)), .ref (tE), .int (0)])) H → va_at G vwCl (o + 4, .inr (0, [.int (nI (0)), .ref (tE), .int (0)])) H → va_at G vwCl (o + 5, .inl (ids 2, 3, .inr (.inl (fun _ => 0)))) H → va_at G vwCl (o + 6, .inl (ids 2, 2, .inr (.inl (fun _ => 0)))) H → va_at G vwCl (o + 7, .inl (ids 0, 25, .inl (fun _ => 0))) H → va_at G vwCl (o + 8, .inl (ids 1, 25, .inl (fun _ => 0))) H → (∀ j, j < i → XBP G ids (o + 9 + 7 * j) j s00 H) → va_S (cpG o (o + 184)) s.heap H locs → ∀ ls : Array Slot, lv_has ls 2 [(1, .int (nI i)), (0, .ref o)] → W p l e (headSpec wsX5_init ({ frames := 4, cells := 183, slots := 889, locals := 89 } : Room)).room s m #[.ref o] below meth c H locs (8 + 7 * i) (89 + 32 * i) (MQ below (va_Qv (fun _ : Unit => True) (fun _ t => CPic G ids o (o + 184) tE (fun _ _ => 0) (fun _ => 0) k_init_s t.heap) (cpG o (o + 184))) #[.ref o] s 183 889 (cpG o (o + 184))) (F0 m 78 ls []) := by
    intro n78
    induction n78 with
    | zero => intro i h1 h2; exact absurd h2 (by omega)
    | succ n78 ih78 =>
      intro i hi78 hn78 H locs hsz hh hc1 hc2 hc3 hc4 hc5 hc6 hc7 hc8 hX hS ls hl
      refine lv_iload_n hx hb dX5_init_78 rfl (lv_at hl 0 rfl) ?_
      refine lv_aload_n hx hb dX5_init_79 rfl (lv_at hl 1 rfl) ?_
      refine x_get (C := RX5) (T := TX5) (N := 10) (ci := 6) (fs := [.ref (o + 1), .ref (o + 2), .ref (o + 3), .ref (o + 4), .int (0), .ref (o + 5), .ref (o + 6), .long (0), .ref (o + 7), .ref (o + 8)]) (v := .ref (o + 1)) hx hb hts hin_wsX50 hown hK hh rfl 0 (by decide) (index := 11) (List.mem_of_getElem? (i := 5) rfl) rfl dX5_init_80 ?_
      refine x_alen hx hb hK 3 rfl hc1 (n := 25) rfl dX5_init_83 ?_
      refine n_icmp_ge (x := i) (y := 25) (tgt := 106) hx hb (by omega) (by omega) dX5_init_84 (by decide) (fun c1 => ?_) (fun c1 => ?_)
      · have hi25 : i = 25 := by omega
        subst hi25
        have hP : CPic G ids o (o + 184) tE (fun _ _ => 0) (fun _ => 0) s00 H := by
          have hN0 : ∀ L, cpN s00 L = 0 := fun L => by
            unfold cpN
            rcases cpF_3 L with q | q | q <;> rw [q, s00_0 (by decide)] <;> rfl
          have hU5 : ∀ x, cpU s00 x → 5 ≤ x.1 := fun x hx => by
            have h9 := cpU_lt hx
            obtain ⟨k, j⟩ := x
            simp only at h9
            show 5 ≤ k
            rcases (show k = 0 ∨ k = 1 ∨ k = 2 ∨ k = 3 ∨ k = 4 ∨ 5 ≤ k by omega) with rfl | rfl | rfl | rfl | rfl | h
            · exact absurd (hN0 j) hx.2
            · exact absurd hx (by show ¬ j < cpN s00 0; rw [hN0]; omega)
            · exact absurd hx (by show ¬ j < cpN s00 1; rw [hN0]; omega)
            · exact absurd hx (by show ¬ j < cpN s00 1; rw [hN0]; omega)
            · exact absurd hx (by show ¬ j < cpN s00 2; rw [hN0]; omega)
            · exact h
          have eL : ∀ L, cpL tE (fun _ _ => 0) s00 L = .inr (0, [.int 0, .ref tE, .int 0]) := fun L => by
            unfold cpL
            rw [hN0, if_pos rfl, s00_0 (k := 34) (by decide)]
            rcases cpF_3 L with q | q | q <;> rw [q, s00_0 (by decide)]
          have eK : cpK s00 = fun _ => 0 := by funext i; unfold cpK s00; split <;> rfl
          have eJ : cpJ s00 = fun _ => 0 := by funext i; unfold cpJ s00; split <;> rfl
          have e32 : s00.1 32 = fun _ => 0 := by funext j; exact s00_0 (by decide)
          have e33 : s00.1 33 = fun _ => 0 := by funext j; exact s00_0 (by decide)
          refine ⟨fun x hx => ?_, fun x hx h5 => ?_, fun x y hx hy h5 _ _ => ?_, Nat.le_refl _, fun L hL => ?_⟩
          · have h5 := hU5 x hx
            have h9 := cpU_lt hx
            obtain ⟨k, j⟩ := x
            simp only at h5 h9
            rcases (show k = 5 ∨ k = 6 ∨ k = 7 ∨ k = 8 by omega) with rfl | rfl | rfl | rfl
            · have hj : j < 9 := hx
              rw [cpA_5]
              rcases (show j = 0 ∨ j = 1 ∨ j = 2 ∨ j = 3 ∨ j = 4 ∨ j = 5 ∨ j = 6 ∨ j = 7 ∨ j = 8 by omega) with rfl | rfl | rfl | rfl | rfl | rfl | rfl | rfl | rfl
              · rw [cpC_50]; unfold cpO; rw [s00_0 (k := 1) (by decide)]; exact hh
              · rw [cpC_51]
                refine hc1.row (fun j hj => ?_)
                rw [if_pos hj]
              · rw [cpC_52, eL]; exact hc2
              · rw [cpC_53, eL]; exact hc3
              · rw [cpC_54, eL]; exact hc4
              · rw [cpC_55, eK]; exact hc5
              · rw [cpC_56, eJ]; exact hc6
              · rw [cpC_57, e32]; exact hc7
              · rw [cpC_58, e33]; exact hc8
            · exact CPic.join1 (hX j hx) rfl
            · exact CPic.join2 (hX j hx) rfl
            · have hj : j < 125 := hx
              exact CPic.join3 (hX (j / 5) (by omega)) rfl
          · exact absurd (hU5 x hx) (by omega)
          · exact absurd (hU5 x hx) (by omega)
          · rw [hN0]
            exact ⟨Nat.zero_le _, (show (0 : Nat) < 2 ^ 31 by decide)⟩
        refine w_named (fun WW hWW => ?_)
        refine lv_iconst (v := nI (0)) hx hb dX5_init_106 (by decide) ?_
        refine lv_istore_n (lv' := [(1, .int (nI (0))), (0, .ref (o))]) hx hb dX5_init_107 rfl hl (by decide) rfl (fun ls hl => ?_)
        refine lv_iload_n hx hb dX5_init_108 rfl (lv_at hl 0 rfl) ?_
        refine lv_aload_n hx hb dX5_init_109 rfl (lv_at hl 1 rfl) ?_
        refine x_get (C := RX5) (T := TX5) (N := 10) (ci := 6) (fs := (cpOf o s00)) (v := .ref (o + 5)) hx hb hts hin_wsX50 hown hK hP.main rfl 5 (by decide) (index := 28) (List.mem_of_getElem? (i := 13) rfl) rfl dX5_init_110 ?_
        refine x_alen hx hb hK 2 rfl hP.came (n := 3) rfl dX5_init_113 ?_
        refine n_icmp_ge (x := 0) (y := 3) (tgt := 134) hx hb (by omega) (by omega) dX5_init_114 (by decide) (fun c_101 => absurd c_101 (by omega)) (fun c_101 => ?_)
        refine lv_aload_n hx hb dX5_init_117 rfl (lv_at hl 1 rfl) ?_
        refine x_get (C := RX5) (T := TX5) (N := 10) (ci := 6) (fs := (cpOf o s00)) (v := .ref (o + 5)) hx hb hts hin_wsX50 hown hK hP.main rfl 5 (by decide) (index := 28) (List.mem_of_getElem? (i := 13) rfl) rfl dX5_init_118 ?_
        refine lv_iload_n hx hb dX5_init_121 rfl (lv_at hl 0 rfl) ?_
        refine lv_aload_n hx hb dX5_init_122 rfl (lv_at hl 1 rfl) ?_
        refine lv_iload_n hx hb dX5_init_123 rfl (lv_at hl 0 rfl) ?_
        refine y_callL (As := [.int (nI (0))]) (rest := [.int (nI (0)), .ref (o + 5)]) ⟨hx, hb, hml, hown, hts⟩ (ck_amountInLand l G ids o (o + 184) tS tE (fun _ _ => 0) (fun _ => 0) s00 (nI (0))) (cwV 1 hts gX5_init_X5_amountInLand rfl rfl rfl (by decide +kernel) ⟨Nat.le_of_ble_eq_true rfl, Nat.le_of_ble_eq_true rfl⟩) hK hZ hP.main rfl hP hS rfl hl.1 rfl (Nat.le_of_ble_eq_true rfl) dX5_init_124 ⟨Nat.le_of_ble_eq_true rfl, Nat.le_of_ble_eq_true rfl⟩ (fun H locs hP hS => ?_)
        refine p_cameN (x := (k_amountInLand s00 (nI (0)))) hx hb hK hP hS (j := 0) (by omega) dX5_init_127 (fun H locs hP hS => ?_)
        obtain ⟨s_102, e_103⟩ : ∃ z : Sg, z = (sl s00 (26 + 0) ((k_amountInLand s00 (nI (0))))) := ⟨_, rfl⟩
        rw [← e_103] at hP
        have hR_104 : k_init_s = k_init_k128_s s_102 := (by have q_ := e_103.symm; subst q_; unfold k_init_s; rfl)
        refine n_iinc (x := 0) (dN := 1) (k := 0) (lv' := [(1, .int (nI (1))), (0, .ref (o))]) hx hb dX5_init_128 hl rfl (by decide) rfl (fun ls hl => ?_)
        refine lv_goto (tgt := 108) hx hb dX5_init_131 (by decide) ?_
        refine lv_iload_n hx hb dX5_init_108 rfl (lv_at hl 0 rfl) ?_
        refine lv_aload_n hx hb dX5_init_109 rfl (lv_at hl 1 rfl) ?_
        refine x_get (C := RX5) (T := TX5) (N := 10) (ci := 6) (fs := (cpOf o s_102)) (v := .ref (o + 5)) hx hb hts hin_wsX50 hown hK hP.main rfl 5 (by decide) (index := 28) (List.mem_of_getElem? (i := 13) rfl) rfl dX5_init_110 ?_
        refine x_alen hx hb hK 2 rfl hP.came (n := 3) rfl dX5_init_113 ?_
        refine n_icmp_ge (x := 1) (y := 3) (tgt := 134) hx hb (by omega) (by omega) dX5_init_114 (by decide) (fun c_105 => absurd c_105 (by omega)) (fun c_105 => ?_)
        refine lv_aload_n hx hb dX5_init_117 rfl (lv_at hl 1 rfl) ?_
        refine x_get (C := RX5) (T := TX5) (N := 10) (ci := 6) (fs := (cpOf o s_102)) (v := .ref (o + 5)) hx hb hts hin_wsX50 hown hK hP.main rfl 5 (by decide) (index := 28) (List.mem_of_getElem? (i := 13) rfl) rfl dX5_init_118 ?_
        refine lv_iload_n hx hb dX5_init_121 rfl (lv_at hl 0 rfl) ?_
        refine lv_aload_n hx hb dX5_init_122 rfl (lv_at hl 1 rfl) ?_
        refine lv_iload_n hx hb dX5_init_123 rfl (lv_at hl 0 rfl) ?_
        refine y_callL (As := [.int (nI (1))]) (rest := [.int (nI (1)), .ref (o + 5)]) ⟨hx, hb, hml, hown, hts⟩ (ck_amountInLand l G ids o (o + 184) tS tE (fun _ _ => 0) (fun _ => 0) s_102 (nI (1))) (cwV 1 hts gX5_init_X5_amountInLand rfl rfl rfl (by decide +kernel) ⟨Nat.le_of_ble_eq_true rfl, Nat.le_of_ble_eq_true rfl⟩) hK hZ hP.main rfl hP hS rfl hl.1 rfl (Nat.le_of_ble_eq_true rfl) dX5_init_124 ⟨Nat.le_of_ble_eq_true rfl, Nat.le_of_ble_eq_true rfl⟩ (fun H locs hP hS => ?_)
        refine p_cameN (x := (k_amountInLand s_102 (nI (1)))) hx hb hK hP hS (j := 1) (by omega) dX5_init_127 (fun H locs hP hS => ?_)
        obtain ⟨s_106, e_107⟩ : ∃ z : Sg, z = (sl s_102 (26 + 1) ((k_amountInLand s_102 (nI (1))))) := ⟨_, rfl⟩
        rw [← e_107] at hP
        have hR_108 : k_init_s = k_init_k128_1_s s_102 s_106 := (Eq.trans hR_104 (by have q_ := e_107.symm; subst q_; unfold k_init_k128_s; rfl))
        refine n_iinc (x := 1) (dN := 1) (k := 0) (lv' := [(1, .int (nI (2))), (0, .ref (o))]) hx hb dX5_init_128 hl rfl (by decide) rfl (fun ls hl => ?_)
        refine lv_goto (tgt := 108) hx hb dX5_init_131 (by decide) ?_
        refine lv_iload_n hx hb dX5_init_108 rfl (lv_at hl 0 rfl) ?_
        refine lv_aload_n hx hb dX5_init_109 rfl (lv_at hl 1 rfl) ?_
        refine x_get (C := RX5) (T := TX5) (N := 10) (ci := 6) (fs := (cpOf o s_106)) (v := .ref (o + 5)) hx hb hts hin_wsX50 hown hK hP.main rfl 5 (by decide) (index := 28) (List.mem_of_getElem? (i := 13) rfl) rfl dX5_init_110 ?_
        refine x_alen hx hb hK 2 rfl hP.came (n := 3) rfl dX5_init_113 ?_
        refine n_icmp_ge (x := 2) (y := 3) (tgt := 134) hx hb (by omega) (by omega) dX5_init_114 (by decide) (fun c_109 => absurd c_109 (by omega)) (fun c_109 => ?_)
        refine lv_aload_n hx hb dX5_init_117 rfl (lv_at hl 1 rfl) ?_
        refine x_get (C := RX5) (T := TX5) (N := 10) (ci := 6) (fs := (cpOf o s_106)) (v := .ref (o + 5)) hx hb hts hin_wsX50 hown hK hP.main rfl 5 (by decide) (index := 28) (List.mem_of_getElem? (i := 13) rfl) rfl dX5_init_118 ?_
        refine lv_iload_n hx hb dX5_init_121 rfl (lv_at hl 0 rfl) ?_
        refine lv_aload_n hx hb dX5_init_122 rfl (lv_at hl 1 rfl) ?_
        refine lv_iload_n hx hb dX5_init_123 rfl (lv_at hl 0 rfl) ?_
        refine y_callL (As := [.int (nI (2))]) (rest := [.int (nI (2)), .ref (o + 5)]) ⟨hx, hb, hml, hown, hts⟩ (ck_amountInLand l G ids o (o + 184) tS tE (fun _ _ => 0) (fun _ => 0) s_106 (nI (2))) (cwV 1 hts gX5_init_X5_amountInLand rfl rfl rfl (by decide +kernel) ⟨Nat.le_of_ble_eq_true rfl, Nat.le_of_ble_eq_true rfl⟩) hK hZ hP.main rfl hP hS rfl hl.1 rfl (Nat.le_of_ble_eq_true rfl) dX5_init_124 ⟨Nat.le_of_ble_eq_true rfl, Nat.le_of_ble_eq_true rfl⟩ (fun H locs hP hS => ?_)
        refine p_cameN (x := (k_amountInLand s_106 (nI (2)))) hx hb hK hP hS (j := 2) (by omega) dX5_init_127 (fun H locs hP hS => ?_)
        obtain ⟨s_110, e_111⟩ : ∃ z : Sg, z = (sl s_106 (26 + 2) ((k_amountInLand s_106 (nI (2))))) := ⟨_, rfl⟩
        rw [← e_111] at hP
        have hR_112 : k_init_s = k_init_k128_2_s s_102 s_106 s_110 := (Eq.trans hR_108 (by have q_ := e_111.symm; subst q_; unfold k_init_k128_1_s; rfl))
        refine n_iinc (x := 2) (dN := 1) (k := 0) (lv' := [(1, .int (nI (3))), (0, .ref (o))]) hx hb dX5_init_128 hl rfl (by decide) rfl (fun ls hl => ?_)
        refine lv_goto (tgt := 108) hx hb dX5_init_131 (by decide) ?_
        refine lv_iload_n hx hb dX5_init_108 rfl (lv_at hl 0 rfl) ?_
        refine lv_aload_n hx hb dX5_init_109 rfl (lv_at hl 1 rfl) ?_
        refine x_get (C := RX5) (T := TX5) (N := 10) (ci := 6) (fs := (cpOf o s_110)) (v := .ref (o + 5)) hx hb hts hin_wsX50 hown hK hP.main rfl 5 (by decide) (index := 28) (List.mem_of_getElem? (i := 13) rfl) rfl dX5_init_110 ?_
        refine x_alen hx hb hK 2 rfl hP.came (n := 3) rfl dX5_init_113 ?_
        refine n_icmp_ge (x := 3) (y := 3) (tgt := 134) hx hb (by omega) (by omega) dX5_init_114 (by decide) (fun c_113 => ?_) (fun c_113 => absurd c_113 (by omega))
        have hsp : s_110 = k_init_s := (Eq.trans (by unfold k_init_k128_2_s; rfl) hR_112.symm)
        rw [hsp] at hP
        exact w_vret (Pic1 := CPic G ids o (o + 184) tE (fun _ _ => 0) (fun _ => 0) k_init_s) hx hb hr hlocks (Nat.le_of_ble_eq_true rfl) (Nat.le_of_ble_eq_true rfl) hP hS dX5_init_134
      · refine lv_aload_n hx hb dX5_init_87 rfl (lv_at hl 1 rfl) ?_
        refine x_get (C := RX5) (T := TX5) (N := 10) (ci := 6) (fs := [.ref (o + 1), .ref (o + 2), .ref (o + 3), .ref (o + 4), .int (0), .ref (o + 5), .ref (o + 6), .long (0), .ref (o + 7), .ref (o + 8)]) (v := .ref (o + 1)) hx hb hts hin_wsX50 hown hK hh rfl 0 (by decide) (index := 11) (List.mem_of_getElem? (i := 5) rfl) rfl dX5_init_88 ?_
        refine lv_iload_n hx hb dX5_init_91 rfl (lv_at hl 0 rfl) ?_
        refine x_new (C := RX1) (T := TX1) (N := 7) (ci := 2) (fs := [.null, .int 0, .int 0, .int 0, .int 0, .int 0, .int 0]) (c1 := 8 + 7 * i + 1) (s1 := 89 + 32 * i + 7) (q := o + 9 + 7 * i) hx hb hts hin_wsX10 tyX1 tyX1_ok hown (List.mem_of_getElem? (i := 4) rfl) (List.mem_of_getElem? (i := 19) rfl) (List.mem_of_getElem? (i := 20) rfl) hK hS rfl (fun j hj => by rcases (show j = 0 ∨ j = 1 ∨ j = 2 ∨ j = 3 ∨ j = 4 ∨ j = 5 ∨ j = 6 by omega) with rfl | rfl | rfl | rfl | rfl | rfl | rfl <;> rfl) (by show 8 + 7 * i + 1 ≤ 183; omega) (by show 89 + 32 * i + 7 ≤ 889; omega) dX5_init_92 rfl rfl hsz (fun H1 hm hq_ hS => ?_)
        replace hh := hh.kept (hm.2 _ hh.lt)
        replace hc1 := hc1.kept (hm.2 _ hc1.lt)
        replace hc2 := hc2.kept (hm.2 _ hc2.lt)
        replace hc3 := hc3.kept (hm.2 _ hc3.lt)
        replace hc4 := hc4.kept (hm.2 _ hc4.lt)
        replace hc5 := hc5.kept (hm.2 _ hc5.lt)
        replace hc6 := hc6.kept (hm.2 _ hc6.lt)
        replace hc7 := hc7.kept (hm.2 _ hc7.lt)
        replace hc8 := hc8.kept (hm.2 _ hc8.lt)
        replace hX : ∀ j, j < i → XBP G ids (o + 9 + 7 * j) j s00 H1 := fun j hj => (hX j hj).of (fun q h1 _ _ => hm.2 q h1) (fun _ _ => rfl) (fun _ _ _ _ _ => rfl)
        replace hsz : H1.size = o + 9 + 7 * i + 1 := by rw [hm.1, hsz]
        clear hm
        refine lv_dup hx hb dX5_init_95 rfl ?_
        refine va_callv (va_runIN (As := []) (rest := [.ref (o + 9 + 7 * i), .int (nI i), .ref (o + 1)]) ⟨hx, hb, hml, hown, hts⟩ (cn_X1_init l G ids tS tE (o + 9 + 7 * i) (o + 9 + 7 * i + 1)) ⟨va_cnB (rm := ({ frames := 2, cells := 6, slots := 25, locals := 41 } : Room)) 0 hts gX5_init_X1_init_n43 rfl rfl rfl hNest (hts _ (List.mem_of_getElem? (i := 20) rfl)) (by decide +kernel) ⟨Nat.le_of_ble_eq_true rfl, Nat.le_of_ble_eq_true rfl⟩, rfl, hts _ (List.mem_of_getElem? (i := 36) rfl)⟩ ⟨yPc_blind, fun U hU hW => ⟨rfl, by rw [hU]; exact ⟨hsz, hq_⟩, va_K.moved hW.alike hK, (cST_at hZ hS hU hW.alike).narrow (fun q h => by (try dsimp only at h); unfold cpG; omega)⟩⟩ rfl rfl hl.1 rfl (lv_room (Nat.le_of_ble_eq_true rfl)) dX5_init_96 ⟨by show 8 + 7 * i + 1 + 6 ≤ 183; omega, by show 89 + 32 * i + 7 + 25 ≤ 889; omega⟩) hS (fun q _ h => by (try dsimp only at h); unfold cpG; omega) (fun q h => by (try dsimp only at h); unfold cpG; omega) (fun u t H2 locs2 ht hvm hw hB hz2 hk2 hS => ?_)
        rw [ht] at hB
        obtain ⟨hsz2, b0, b1, b2, b3, b4, b5, b6⟩ := hB
        have hXn : XBP G ids (o + 9 + 7 * i) i s00 H2 := s00_blk b0 b1 b2 b3 b4 b5 b6
        replace hh := hh.kept (hk2 _ hh.lt (by show ¬ (o = o + 9 + 7 * i ∨ o + 9 + 7 * i + 1 ≤ o); omega))
        replace hc1 := hc1.kept (hk2 _ hc1.lt (by show ¬ (o + 1 = o + 9 + 7 * i ∨ o + 9 + 7 * i + 1 ≤ o + 1); omega))
        replace hc2 := hc2.kept (hk2 _ hc2.lt (by show ¬ (o + 2 = o + 9 + 7 * i ∨ o + 9 + 7 * i + 1 ≤ o + 2); omega))
        replace hc3 := hc3.kept (hk2 _ hc3.lt (by show ¬ (o + 3 = o + 9 + 7 * i ∨ o + 9 + 7 * i + 1 ≤ o + 3); omega))
        replace hc4 := hc4.kept (hk2 _ hc4.lt (by show ¬ (o + 4 = o + 9 + 7 * i ∨ o + 9 + 7 * i + 1 ≤ o + 4); omega))
        replace hc5 := hc5.kept (hk2 _ hc5.lt (by show ¬ (o + 5 = o + 9 + 7 * i ∨ o + 9 + 7 * i + 1 ≤ o + 5); omega))
        replace hc6 := hc6.kept (hk2 _ hc6.lt (by show ¬ (o + 6 = o + 9 + 7 * i ∨ o + 9 + 7 * i + 1 ≤ o + 6); omega))
        replace hc7 := hc7.kept (hk2 _ hc7.lt (by show ¬ (o + 7 = o + 9 + 7 * i ∨ o + 9 + 7 * i + 1 ≤ o + 7); omega))
        replace hc8 := hc8.kept (hk2 _ hc8.lt (by show ¬ (o + 8 = o + 9 + 7 * i ∨ o + 9 + 7 * i + 1 ≤ o + 8); omega))
        replace hX : ∀ j, j < i → XBP G ids (o + 9 + 7 * j) j s00 H2 := fun j hj => (hX j hj).of (fun q h1 h2 h3 => hk2 q h1 (by show ¬ (q = o + 9 + 7 * i ∨ o + 9 + 7 * i + 1 ≤ q); omega)) (fun _ _ => rfl) (fun _ _ _ _ _ => rfl)
        refine x_aast (r := (RX1, TX1, 7)) hx hb hK 3 rfl hc1 (by unfold cpG; omega) hS b0 rfl vb_asgS (i := nI i) (vp_in_nI (by omega) (by decide)) dX5_init_99 (fun H3 locs3 h9 ho hS => ?_)
        rw [nI_clamp (by omega)] at h9
        replace hh := hh.only ho (show o ≠ o + 1 by omega)
        replace hc2 := hc2.only ho (show o + 2 ≠ o + 1 by omega)
        replace hc3 := hc3.only ho (show o + 3 ≠ o + 1 by omega)
        replace hc4 := hc4.only ho (show o + 4 ≠ o + 1 by omega)
        replace hc5 := hc5.only ho (show o + 5 ≠ o + 1 by omega)
        replace hc6 := hc6.only ho (show o + 6 ≠ o + 1 by omega)
        replace hc7 := hc7.only ho (show o + 7 ≠ o + 1 by omega)
        replace hc8 := hc8.only ho (show o + 8 ≠ o + 1 by omega)
        have hX3 : ∀ j, j < i + 1 → XBP G ids (o + 9 + 7 * j) j s00 H3 := fun j hj => by
          by_cases hji : j = i
          · subst hji
            exact hXn.of (fun q h1 h2 h3 => ho.2 q (by omega)) (fun _ _ => rfl) (fun _ _ _ _ _ => rfl)
          · exact (hX j (by omega)).of (fun q h1 h2 h3 => ho.2 q (by omega)) (fun _ _ => rfl) (fun _ _ _ _ _ => rfl)
        have hc1' : va_at G vwCl (o + 1, .inl (ids 3, 25, .inr (.inr (.inr (.inr (fun j => if j < i + 1 then some (o + 9 + 7 * j) else none)))))) H3 := by
          refine h9.row (fun j hj => ?_)
          unfold va_up
          (try dsimp only)
          by_cases hji : j = i
          · rw [if_pos hji, if_pos (by omega), hji]
          · rw [if_neg hji]
            by_cases h2 : j < i
            · rw [if_pos h2, if_pos (by omega)]
            · rw [if_neg h2, if_neg (by omega)]
        refine n_iinc (x := i) (dN := 1) (k := 0) (lv' := [(1, .int (nI (i + 1))), (0, .ref o)]) hx hb dX5_init_100 hl rfl (by decide) rfl (fun ls hl => ?_)
        refine lv_goto (tgt := 78) hx hb dX5_init_103 (by decide) ?_
        exact ih78 (i + 1) (by omega) (by omega) H3 locs3 (by rw [ho.1, hsz2]; omega) hh hc1' hc2 hc3 hc4 hc5 hc6 hc7 hc8 hX3 hS ls hl
  obtain ⟨n0, hn0⟩ : ∃ q : Nat, q = o + 1 := ⟨_, rfl⟩
  rw [← hn0] at hsz
  have lt_hh : o < n0 := by omega
  have hl := lv_entry ([.ref (o)]) (n := 2) (Nat.le_of_ble_eq_true rfl)
  rw [lg_entry_eq]
  generalize (lg_sl ([.ref (o)]) ++ List.replicate (2 - (lg_sl ([.ref (o)])).length) Slot.unset).toArray = ls at hl ⊢
  have hl : lv_has ls 2 [(0, .ref (o))] := hl
  refine lv_aload_n hx hb dX5_init_0 rfl (lv_at hl 0 rfl) ?_
  refine W.objInit hx hb hown (hts _ (List.mem_of_getElem? (i := 1) rfl)) (hts _ (List.mem_of_getElem? (i := 2) rfl)) (hts _ (List.mem_of_getElem? (i := 3) rfl)) rfl (by rw [hml]; exact hl.1) rfl dX5_init_1 (Nat.le_of_ble_eq_true rfl) (Nat.le_of_ble_eq_true rfl) ?_
  refine lv_aload_n hx hb dX5_init_4 rfl (lv_at hl 0 rfl) ?_
  refine lv_bipush (v := nI (25)) hx hb dX5_init_5 (by decide) ?_
  refine x_newq (cI := ids 3) (N' := 25) (c1 := 1) (s1 := 25) (q := n0) hx hb hown (hts _ (List.mem_of_getElem? (i := 4) rfl)) hZ.2.2.2.2.2.2.2.1 hK 3 rfl hS (nI_pos (by omega)) (nI_clamp (by omega)) (by omega) (Nat.le_of_ble_eq_true rfl) (Nat.le_of_ble_eq_true rfl) dX5_init_7 rfl rfl hsz (fun H hm hc1 hS => ?_)
  replace hh := hh.kept (hm.2 _ hh.lt)
  replace hsz : H.size = n0 + 1 := by rw [hm.1, hsz]
  clear hm
  refine x_putF (C := RX5) (T := TX5) (N := 10) (ci := 6) (fs := [.null, .null, .null, .null, .int (0), .null, .null, .long (0), .null, .null]) (ty := (.array (.object "Wakeground$Cell"))) (v := .ref (n0)) hx hb hts hin_wsX50 tyX5 tyX5_ok nmX5 hown hK hh (by unfold cpG; omega) hS rfl 0 (by decide) (index := 11) (List.mem_of_getElem? (i := 5) rfl) rfl hin2 rfl (by decide +kernel) rfl rfl (Nat.le_of_ble_eq_true rfl) dX5_init_10 (fun H locs h9 ho hS => ?_)
  replace hh : va_at G vwCl (o, .inr (6, [.ref (n0), .null, .null, .null, .int (0), .null, .null, .long (0), .null, .null])) H := h9
  replace hc1 := hc1.only ho (show n0 ≠ o by omega)
  replace hsz : H.size = n0 + 1 := ho.1.trans hsz
  clear ho
  refine lv_aload_n hx hb dX5_init_13 rfl (lv_at hl 0 rfl) ?_
  refine x_new (C := RJx4a65c) (T := TJx4a65c) (N := 3) (ci := 0) (fs := [.int (0), .null, .int (0)]) (c1 := 2) (s1 := 28) (q := n0 + 1) hx hb hts hin_wsJx4a65c0 tyJx4a65c tyJx4a65c_ok hown (List.mem_of_getElem? (i := 6) rfl) (List.mem_of_getElem? (i := 7) rfl) (List.mem_of_getElem? (i := 8) rfl) hK hS rfl (fun j hj => by rcases (show j = 0 ∨ j = 1 ∨ j = 2 by omega) with rfl | rfl | rfl <;> rfl) (Nat.le_of_ble_eq_true rfl) (Nat.le_of_ble_eq_true rfl) dX5_init_14 rfl rfl hsz (fun H hm hc2 hS => ?_)
  replace hh := hh.kept (hm.2 _ hh.lt)
  replace hc1 := hc1.kept (hm.2 _ hc1.lt)
  replace hsz : H.size = n0 + 2 := by rw [hm.1, hsz]
  clear hm
  refine lv_dup hx hb dX5_init_17 rfl ?_
  refine w_init (As := []) (rest := [.ref (n0 + 1), .ref (o)]) (c1 := 2) (s1 := 28) (fun q h => by (try dsimp only at h); unfold cpG; omega) ⟨hx, hb, hml, hown, hts⟩ (cn_Jx4a65c_init_da8c8 l G ids tS tE (n0 + 1) (n0 + 2)) (cwI 0 hts gX5_init_Jx4a65c_init_da8c8 rfl rfl rfl (hts _ (List.mem_of_getElem? (i := 8) rfl)) (hts _ (List.mem_of_getElem? (i := 21) rfl)) (hts _ (List.mem_of_getElem? (i := 22) rfl)) rfl (by decide +kernel) ⟨Nat.le_of_ble_eq_true rfl, Nat.le_of_ble_eq_true rfl⟩) hK hZ ⟨hsz, hc2⟩ hS rfl hl.1 rfl (Nat.le_of_ble_eq_true rfl) dX5_init_18 ⟨Nat.le_of_ble_eq_true rfl, (Nat.le_of_ble_eq_true rfl)⟩ rfl rfl (fun H locs hP1 _ hk1 hS => ?_)
  replace hh := hh.kept (hk1 _ hh.lt (by show ¬ (o = n0 + 1); omega))
  replace hc1 := hc1.kept (hk1 _ hc1.lt (by show ¬ (n0 = n0 + 1); omega))
  clear hk1
  obtain ⟨hsz, hc2⟩ := hP1
  refine x_putF (C := RX5) (T := TX5) (N := 10) (ci := 6) (fs := [.ref (n0), .null, .null, .null, .int (0), .null, .null, .long (0), .null, .null]) (ty := (.object "java/util/ArrayList")) (v := .ref (n0 + 1)) hx hb hts hin_wsX50 tyX5 tyX5_ok nmX5 hown hK hh (by unfold cpG; omega) hS rfl 1 (by decide) (index := 18) (List.mem_of_getElem? (i := 9) rfl) rfl hin2 rfl (by decide +kernel) rfl rfl (Nat.le_of_ble_eq_true rfl) dX5_init_21 (fun H locs h9 ho hS => ?_)
  replace hh : va_at G vwCl (o, .inr (6, [.ref (n0), .ref (n0 + 1), .null, .null, .int (0), .null, .null, .long (0), .null, .null])) H := h9
  replace hc1 := hc1.only ho (show n0 ≠ o by omega)
  replace hc2 := hc2.only ho (show n0 + 1 ≠ o by omega)
  replace hsz : H.size = n0 + 2 := ho.1.trans hsz
  clear ho
  refine lv_aload_n hx hb dX5_init_24 rfl (lv_at hl 0 rfl) ?_
  refine x_new (C := RJx4a65c) (T := TJx4a65c) (N := 3) (ci := 0) (fs := [.int (0), .null, .int (0)]) (c1 := 3) (s1 := 31) (q := n0 + 2) hx hb hts hin_wsJx4a65c0 tyJx4a65c tyJx4a65c_ok hown (List.mem_of_getElem? (i := 6) rfl) (List.mem_of_getElem? (i := 7) rfl) (List.mem_of_getElem? (i := 8) rfl) hK hS rfl (fun j hj => by rcases (show j = 0 ∨ j = 1 ∨ j = 2 by omega) with rfl | rfl | rfl <;> rfl) (Nat.le_of_ble_eq_true rfl) (Nat.le_of_ble_eq_true rfl) dX5_init_25 rfl rfl hsz (fun H hm hc3 hS => ?_)
  replace hh := hh.kept (hm.2 _ hh.lt)
  replace hc1 := hc1.kept (hm.2 _ hc1.lt)
  replace hc2 := hc2.kept (hm.2 _ hc2.lt)
  replace hsz : H.size = n0 + 3 := by rw [hm.1, hsz]
  clear hm
  refine lv_dup hx hb dX5_init_28 rfl ?_
  refine w_init (As := []) (rest := [.ref (n0 + 2), .ref (o)]) (c1 := 3) (s1 := 31) (fun q h => by (try dsimp only at h); unfold cpG; omega) ⟨hx, hb, hml, hown, hts⟩ (cn_Jx4a65c_init_da8c8 l G ids tS tE (n0 + 2) (n0 + 3)) (cwI 0 hts gX5_init_Jx4a65c_init_da8c8 rfl rfl rfl (hts _ (List.mem_of_getElem? (i := 8) rfl)) (hts _ (List.mem_of_getElem? (i := 21) rfl)) (hts _ (List.mem_of_getElem? (i := 22) rfl)) rfl (by decide +kernel) ⟨Nat.le_of_ble_eq_true rfl, Nat.le_of_ble_eq_true rfl⟩) hK hZ ⟨hsz, hc3⟩ hS rfl hl.1 rfl (Nat.le_of_ble_eq_true rfl) dX5_init_29 ⟨Nat.le_of_ble_eq_true rfl, (Nat.le_of_ble_eq_true rfl)⟩ rfl rfl (fun H locs hP1 _ hk1 hS => ?_)
  replace hh := hh.kept (hk1 _ hh.lt (by show ¬ (o = n0 + 2); omega))
  replace hc1 := hc1.kept (hk1 _ hc1.lt (by show ¬ (n0 = n0 + 2); omega))
  replace hc2 := hc2.kept (hk1 _ hc2.lt (by show ¬ ((n0 + 1) = n0 + 2); omega))
  clear hk1
  obtain ⟨hsz, hc3⟩ := hP1
  refine x_putF (C := RX5) (T := TX5) (N := 10) (ci := 6) (fs := [.ref (n0), .ref (n0 + 1), .null, .null, .int (0), .null, .null, .long (0), .null, .null]) (ty := (.object "java/util/ArrayList")) (v := .ref (n0 + 2)) hx hb hts hin_wsX50 tyX5 tyX5_ok nmX5 hown hK hh (by unfold cpG; omega) hS rfl 2 (by decide) (index := 22) (List.mem_of_getElem? (i := 10) rfl) rfl hin2 rfl (by decide +kernel) rfl rfl (Nat.le_of_ble_eq_true rfl) dX5_init_32 (fun H locs h9 ho hS => ?_)
  replace hh : va_at G vwCl (o, .inr (6, [.ref (n0), .ref (n0 + 1), .ref (n0 + 2), .null, .int (0), .null, .null, .long (0), .null, .null])) H := h9
  replace hc1 := hc1.only ho (show n0 ≠ o by omega)
  replace hc2 := hc2.only ho (show n0 + 1 ≠ o by omega)
  replace hc3 := hc3.only ho (show n0 + 2 ≠ o by omega)
  replace hsz : H.size = n0 + 3 := ho.1.trans hsz
  clear ho
  refine lv_aload_n hx hb dX5_init_35 rfl (lv_at hl 0 rfl) ?_
  refine x_new (C := RJx4a65c) (T := TJx4a65c) (N := 3) (ci := 0) (fs := [.int (0), .null, .int (0)]) (c1 := 4) (s1 := 34) (q := n0 + 3) hx hb hts hin_wsJx4a65c0 tyJx4a65c tyJx4a65c_ok hown (List.mem_of_getElem? (i := 6) rfl) (List.mem_of_getElem? (i := 7) rfl) (List.mem_of_getElem? (i := 8) rfl) hK hS rfl (fun j hj => by rcases (show j = 0 ∨ j = 1 ∨ j = 2 by omega) with rfl | rfl | rfl <;> rfl) (Nat.le_of_ble_eq_true rfl) (Nat.le_of_ble_eq_true rfl) dX5_init_36 rfl rfl hsz (fun H hm hc4 hS => ?_)
  replace hh := hh.kept (hm.2 _ hh.lt)
  replace hc1 := hc1.kept (hm.2 _ hc1.lt)
  replace hc2 := hc2.kept (hm.2 _ hc2.lt)
  replace hc3 := hc3.kept (hm.2 _ hc3.lt)
  replace hsz : H.size = n0 + 4 := by rw [hm.1, hsz]
  clear hm
  refine lv_dup hx hb dX5_init_39 rfl ?_
  refine w_init (As := []) (rest := [.ref (n0 + 3), .ref (o)]) (c1 := 4) (s1 := 34) (fun q h => by (try dsimp only at h); unfold cpG; omega) ⟨hx, hb, hml, hown, hts⟩ (cn_Jx4a65c_init_da8c8 l G ids tS tE (n0 + 3) (n0 + 4)) (cwI 0 hts gX5_init_Jx4a65c_init_da8c8 rfl rfl rfl (hts _ (List.mem_of_getElem? (i := 8) rfl)) (hts _ (List.mem_of_getElem? (i := 21) rfl)) (hts _ (List.mem_of_getElem? (i := 22) rfl)) rfl (by decide +kernel) ⟨Nat.le_of_ble_eq_true rfl, Nat.le_of_ble_eq_true rfl⟩) hK hZ ⟨hsz, hc4⟩ hS rfl hl.1 rfl (Nat.le_of_ble_eq_true rfl) dX5_init_40 ⟨Nat.le_of_ble_eq_true rfl, (Nat.le_of_ble_eq_true rfl)⟩ rfl rfl (fun H locs hP1 _ hk1 hS => ?_)
  replace hh := hh.kept (hk1 _ hh.lt (by show ¬ (o = n0 + 3); omega))
  replace hc1 := hc1.kept (hk1 _ hc1.lt (by show ¬ (n0 = n0 + 3); omega))
  replace hc2 := hc2.kept (hk1 _ hc2.lt (by show ¬ ((n0 + 1) = n0 + 3); omega))
  replace hc3 := hc3.kept (hk1 _ hc3.lt (by show ¬ ((n0 + 2) = n0 + 3); omega))
  clear hk1
  obtain ⟨hsz, hc4⟩ := hP1
  refine x_putF (C := RX5) (T := TX5) (N := 10) (ci := 6) (fs := [.ref (n0), .ref (n0 + 1), .ref (n0 + 2), .null, .int (0), .null, .null, .long (0), .null, .null]) (ty := (.object "java/util/ArrayList")) (v := .ref (n0 + 3)) hx hb hts hin_wsX50 tyX5 tyX5_ok nmX5 hown hK hh (by unfold cpG; omega) hS rfl 3 (by decide) (index := 25) (List.mem_of_getElem? (i := 11) rfl) rfl hin2 rfl (by decide +kernel) rfl rfl (Nat.le_of_ble_eq_true rfl) dX5_init_43 (fun H locs h9 ho hS => ?_)
  replace hh : va_at G vwCl (o, .inr (6, [.ref (n0), .ref (n0 + 1), .ref (n0 + 2), .ref (n0 + 3), .int (0), .null, .null, .long (0), .null, .null])) H := h9
  replace hc1 := hc1.only ho (show n0 ≠ o by omega)
  replace hc2 := hc2.only ho (show n0 + 1 ≠ o by omega)
  replace hc3 := hc3.only ho (show n0 + 2 ≠ o by omega)
  replace hc4 := hc4.only ho (show n0 + 3 ≠ o by omega)
  replace hsz : H.size = n0 + 4 := ho.1.trans hsz
  clear ho
  refine lv_aload_n hx hb dX5_init_46 rfl (lv_at hl 0 rfl) ?_
  refine lv_iconst (v := nI (3)) hx hb dX5_init_47 (by decide) ?_
  refine x_newa (atype := .long) (ty := .long) (cI := ids 2) (N' := 3) (a0 := (3, .inr (.inl (fun _ => 0)))) (c1 := 5) (s1 := 37) (q := n0 + 4) hx hb (hts _ (List.mem_of_getElem? (i := 12) rfl)) rfl hK 2 (cTy_nm hK).2.2 hS rfl (nI_pos (by omega)) (nI_clamp (by omega)) (by first | decide | (show _ * 4 ≤ _; omega)) (Nat.le_of_ble_eq_true rfl) (Nat.le_of_ble_eq_true rfl) dX5_init_48 rfl rfl hsz (fun H hm hc5 hS => ?_)
  replace hh := hh.kept (hm.2 _ hh.lt)
  replace hc1 := hc1.kept (hm.2 _ hc1.lt)
  replace hc2 := hc2.kept (hm.2 _ hc2.lt)
  replace hc3 := hc3.kept (hm.2 _ hc3.lt)
  replace hc4 := hc4.kept (hm.2 _ hc4.lt)
  replace hsz : H.size = n0 + 5 := by rw [hm.1, hsz]
  clear hm
  refine x_putF (C := RX5) (T := TX5) (N := 10) (ci := 6) (fs := [.ref (n0), .ref (n0 + 1), .ref (n0 + 2), .ref (n0 + 3), .int (0), .null, .null, .long (0), .null, .null]) (ty := (.array .long)) (v := .ref (n0 + 4)) hx hb hts hin_wsX50 tyX5 tyX5_ok nmX5 hown hK hh (by unfold cpG; omega) hS rfl 5 (by decide) (index := 28) (List.mem_of_getElem? (i := 13) rfl) rfl hin2 rfl (by decide +kernel) rfl rfl (Nat.le_of_ble_eq_true rfl) dX5_init_50 (fun H locs h9 ho hS => ?_)
  replace hh : va_at G vwCl (o, .inr (6, [.ref (n0), .ref (n0 + 1), .ref (n0 + 2), .ref (n0 + 3), .int (0), .ref (n0 + 4), .null, .long (0), .null, .null])) H := h9
  replace hc1 := hc1.only ho (show n0 ≠ o by omega)
  replace hc2 := hc2.only ho (show n0 + 1 ≠ o by omega)
  replace hc3 := hc3.only ho (show n0 + 2 ≠ o by omega)
  replace hc4 := hc4.only ho (show n0 + 3 ≠ o by omega)
  replace hc5 := hc5.only ho (show n0 + 4 ≠ o by omega)
  replace hsz : H.size = n0 + 5 := ho.1.trans hsz
  clear ho
  refine lv_aload_n hx hb dX5_init_53 rfl (lv_at hl 0 rfl) ?_
  refine lv_iconst (v := nI (2)) hx hb dX5_init_54 (by decide) ?_
  refine x_newa (atype := .long) (ty := .long) (cI := ids 2) (N' := 2) (a0 := (2, .inr (.inl (fun _ => 0)))) (c1 := 6) (s1 := 39) (q := n0 + 5) hx hb (hts _ (List.mem_of_getElem? (i := 12) rfl)) rfl hK 2 (cTy_nm hK).2.2 hS rfl (nI_pos (by omega)) (nI_clamp (by omega)) (by first | decide | (show _ * 4 ≤ _; omega)) (Nat.le_of_ble_eq_true rfl) (Nat.le_of_ble_eq_true rfl) dX5_init_55 rfl rfl hsz (fun H hm hc6 hS => ?_)
  replace hh := hh.kept (hm.2 _ hh.lt)
  replace hc1 := hc1.kept (hm.2 _ hc1.lt)
  replace hc2 := hc2.kept (hm.2 _ hc2.lt)
  replace hc3 := hc3.kept (hm.2 _ hc3.lt)
  replace hc4 := hc4.kept (hm.2 _ hc4.lt)
  replace hc5 := hc5.kept (hm.2 _ hc5.lt)
  replace hsz : H.size = n0 + 6 := by rw [hm.1, hsz]
  clear hm
  refine x_putF (C := RX5) (T := TX5) (N := 10) (ci := 6) (fs := [.ref (n0), .ref (n0 + 1), .ref (n0 + 2), .ref (n0 + 3), .int (0), .ref (n0 + 4), .null, .long (0), .null, .null]) (ty := (.array .long)) (v := .ref (n0 + 5)) hx hb hts hin_wsX50 tyX5 tyX5_ok nmX5 hown hK hh (by unfold cpG; omega) hS rfl 6 (by decide) (index := 32) (List.mem_of_getElem? (i := 14) rfl) rfl hin2 rfl (by decide +kernel) rfl rfl (Nat.le_of_ble_eq_true rfl) dX5_init_57 (fun H locs h9 ho hS => ?_)
  replace hh : va_at G vwCl (o, .inr (6, [.ref (n0), .ref (n0 + 1), .ref (n0 + 2), .ref (n0 + 3), .int (0), .ref (n0 + 4), .ref (n0 + 5), .long (0), .null, .null])) H := h9
  replace hc1 := hc1.only ho (show n0 ≠ o by omega)
  replace hc2 := hc2.only ho (show n0 + 1 ≠ o by omega)
  replace hc3 := hc3.only ho (show n0 + 2 ≠ o by omega)
  replace hc4 := hc4.only ho (show n0 + 3 ≠ o by omega)
  replace hc5 := hc5.only ho (show n0 + 4 ≠ o by omega)
  replace hc6 := hc6.only ho (show n0 + 5 ≠ o by omega)
  replace hsz : H.size = n0 + 6 := ho.1.trans hsz
  clear ho
  refine lv_aload_n hx hb dX5_init_60 rfl (lv_at hl 0 rfl) ?_
  refine lv_bipush (v := nI (25)) hx hb dX5_init_61 (by decide) ?_
  refine x_newa (atype := .int) (ty := .int) (cI := ids 0) (N' := 25) (a0 := (25, .inl (fun _ => 0))) (c1 := 7) (s1 := 64) (q := n0 + 6) hx hb (hts _ (List.mem_of_getElem? (i := 15) rfl)) rfl hK 0 (cTy_nm hK).1 hS rfl (nI_pos (by omega)) (nI_clamp (by omega)) (by first | decide | (show _ * 4 ≤ _; omega)) (Nat.le_of_ble_eq_true rfl) (Nat.le_of_ble_eq_true rfl) dX5_init_63 rfl rfl hsz (fun H hm hc7 hS => ?_)
  replace hh := hh.kept (hm.2 _ hh.lt)
  replace hc1 := hc1.kept (hm.2 _ hc1.lt)
  replace hc2 := hc2.kept (hm.2 _ hc2.lt)
  replace hc3 := hc3.kept (hm.2 _ hc3.lt)
  replace hc4 := hc4.kept (hm.2 _ hc4.lt)
  replace hc5 := hc5.kept (hm.2 _ hc5.lt)
  replace hc6 := hc6.kept (hm.2 _ hc6.lt)
  replace hsz : H.size = n0 + 7 := by rw [hm.1, hsz]
  clear hm
  refine x_putF (C := RX5) (T := TX5) (N := 10) (ci := 6) (fs := [.ref (n0), .ref (n0 + 1), .ref (n0 + 2), .ref (n0 + 3), .int (0), .ref (n0 + 4), .ref (n0 + 5), .long (0), .null, .null]) (ty := (.array .int)) (v := .ref (n0 + 6)) hx hb hts hin_wsX50 tyX5 tyX5_ok nmX5 hown hK hh (by unfold cpG; omega) hS rfl 8 (by decide) (index := 35) (List.mem_of_getElem? (i := 16) rfl) rfl hin2 rfl (by decide +kernel) rfl rfl (Nat.le_of_ble_eq_true rfl) dX5_init_65 (fun H locs h9 ho hS => ?_)
  replace hh : va_at G vwCl (o, .inr (6, [.ref (n0), .ref (n0 + 1), .ref (n0 + 2), .ref (n0 + 3), .int (0), .ref (n0 + 4), .ref (n0 + 5), .long (0), .ref (n0 + 6), .null])) H := h9
  replace hc1 := hc1.only ho (show n0 ≠ o by omega)
  replace hc2 := hc2.only ho (show n0 + 1 ≠ o by omega)
  replace hc3 := hc3.only ho (show n0 + 2 ≠ o by omega)
  replace hc4 := hc4.only ho (show n0 + 3 ≠ o by omega)
  replace hc5 := hc5.only ho (show n0 + 4 ≠ o by omega)
  replace hc6 := hc6.only ho (show n0 + 5 ≠ o by omega)
  replace hc7 := hc7.only ho (show n0 + 6 ≠ o by omega)
  replace hsz : H.size = n0 + 7 := ho.1.trans hsz
  clear ho
  refine lv_aload_n hx hb dX5_init_68 rfl (lv_at hl 0 rfl) ?_
  refine lv_bipush (v := nI (25)) hx hb dX5_init_69 (by decide) ?_
  refine x_newa (atype := .boolean) (ty := .boolean) (cI := ids 1) (N' := 25) (a0 := (25, .inl (fun _ => 0))) (c1 := 8) (s1 := 89) (q := n0 + 7) hx hb (hts _ (List.mem_of_getElem? (i := 17) rfl)) rfl hK 1 (cTy_nm hK).2.1 hS rfl (nI_pos (by omega)) (nI_clamp (by omega)) (by first | decide | (show _ * 4 ≤ _; omega)) (Nat.le_of_ble_eq_true rfl) (Nat.le_of_ble_eq_true rfl) dX5_init_71 rfl rfl hsz (fun H hm hc8 hS => ?_)
  replace hh := hh.kept (hm.2 _ hh.lt)
  replace hc1 := hc1.kept (hm.2 _ hc1.lt)
  replace hc2 := hc2.kept (hm.2 _ hc2.lt)
  replace hc3 := hc3.kept (hm.2 _ hc3.lt)
  replace hc4 := hc4.kept (hm.2 _ hc4.lt)
  replace hc5 := hc5.kept (hm.2 _ hc5.lt)
  replace hc6 := hc6.kept (hm.2 _ hc6.lt)
  replace hc7 := hc7.kept (hm.2 _ hc7.lt)
  replace hsz : H.size = n0 + 8 := by rw [hm.1, hsz]
  clear hm
  refine x_putF (C := RX5) (T := TX5) (N := 10) (ci := 6) (fs := [.ref (n0), .ref (n0 + 1), .ref (n0 + 2), .ref (n0 + 3), .int (0), .ref (n0 + 4), .ref (n0 + 5), .long (0), .ref (n0 + 6), .null]) (ty := (.array .boolean)) (v := .ref (n0 + 7)) hx hb hts hin_wsX50 tyX5 tyX5_ok nmX5 hown hK hh (by unfold cpG; omega) hS rfl 9 (by decide) (index := 39) (List.mem_of_getElem? (i := 18) rfl) rfl hin2 rfl (by decide +kernel) rfl rfl (Nat.le_of_ble_eq_true rfl) dX5_init_73 (fun H locs h9 ho hS => ?_)
  replace hh : va_at G vwCl (o, .inr (6, [.ref (n0), .ref (n0 + 1), .ref (n0 + 2), .ref (n0 + 3), .int (0), .ref (n0 + 4), .ref (n0 + 5), .long (0), .ref (n0 + 6), .ref (n0 + 7)])) H := h9
  replace hc1 := hc1.only ho (show n0 ≠ o by omega)
  replace hc2 := hc2.only ho (show n0 + 1 ≠ o by omega)
  replace hc3 := hc3.only ho (show n0 + 2 ≠ o by omega)
  replace hc4 := hc4.only ho (show n0 + 3 ≠ o by omega)
  replace hc5 := hc5.only ho (show n0 + 4 ≠ o by omega)
  replace hc6 := hc6.only ho (show n0 + 5 ≠ o by omega)
  replace hc7 := hc7.only ho (show n0 + 6 ≠ o by omega)
  replace hc8 := hc8.only ho (show n0 + 7 ≠ o by omega)
  replace hsz : H.size = n0 + 8 := ho.1.trans hsz
  clear ho
  refine lv_iconst (v := nI (0)) hx hb dX5_init_76 (by decide) ?_
  refine lv_istore_n (lv' := [(1, .int (nI (0))), (0, .ref (o))]) hx hb dX5_init_77 rfl hl (by decide) rfl (fun ls hl => ?_)
  subst hn0
  exact L78 26 0 (by omega) (by omega) _ _ (by omega) hh (hc1.row (fun j _ => (if_neg (by omega)).symm)) hc2 hc3 hc4 hc5 hc6 hc7 hc8 (fun j hj => absurd hj (by omega)) hS ls hl
