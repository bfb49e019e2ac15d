set_option maxHeartbeats 4000000 in
set_option maxRecDepth 100000 in
theorem law_ground {p : Program} {l : Launch} {e : Env} {s : State} {m : MethodId} {below : List Frame} {meth : Method} {c : Code} {b L : Nat} {xs : Nat → Int32} {G : va_G} {ids : Nat → ClassId} {tS tE o r qo z : Nat} (C0 : lX p l s m meth c b L xs G ids tS tE o r qo z) {cells slots i : Nat} {H : Heap} {locs : List Loc} {ls : Array Slot} {Q : State → Prop} {σ μ : Sg} (hi : i + 7 ≤ L) (hc : cells + 10 ≤ 601024) (hs : slots + 4000 ≤ 7293034)
    (hP : lPic G ids o z tE σ H) (hO : ∃ v, lOut G ids qo v H) (hW : va_P G vwCl (wm (ids 0) (ids 1) (aM r) μ) H) (hS : va_S (fun q => s.heap.size ≤ q) s.heap H locs) (hl : lv_has ls 8 [(4, .int (nI (i))), (3, .ref (qo)), (2, .ref (r)), (1, .ref (o)), (0, .ref (b))])
    (hMO : mOK μ) (hp1 : (m_ground_s μ (xs (i + 1)) (xs (i + 2)) (xs (i + 3)) (xs (i + 4)) (xs (i + 5)) (xs (i + 6))).1 0 0 = nI (lC [1, 2] (kx_ground σ (xs (i + 1)) (xs (i + 2)) (xs (i + 3)) (xs (i + 4)) (xs (i + 5)) (xs (i + 6)))))
    (kk : ∀ (H1 : Heap) (locs1 : List Loc) (ls1 : Array Slot), lPic G ids o z tE (if (kx_ground σ (xs (i + 1)) (xs (i + 2)) (xs (i + 3)) (xs (i + 4)) (xs (i + 5)) (xs (i + 6))) = 0 then (k_ground_s σ (xs (i + 1)) (xs (i + 2)) (xs (i + 3)) (xs (i + 4)) (xs (i + 5)) (xs (i + 6))) else σ) H1 → (∃ v, lOut G ids qo v H1) → va_P G vwCl (wm (ids 0) (ids 1) (aM r) (m_ground_s μ (xs (i + 1)) (xs (i + 2)) (xs (i + 3)) (xs (i + 4)) (xs (i + 5)) (xs (i + 6)))) H1 → va_S (fun q => s.heap.size ≤ q) s.heap H1 locs1 → lv_has ls1 8 [(4, .int (nI (i))), (3, .ref (qo)), (2, .ref (r)), (1, .ref (o)), (0, .ref (b))] → W p l e room_1 s m #[Value.ref b] below meth c H1 locs1 (cells + 10) (slots + 4000) Q (F0 m 1334 ls1 [])) : W p l e room_1 s m #[Value.ref b] below meth c H locs cells slots Q (F0 m 132 ls []) := by
  obtain ⟨hx, hb, hml, hown, hts, hX, hbl, hl0, hK, hZ, hN, ho1, ho2, ho3, ho4, hL⟩ := C0
  have hbA : ¬ (fun q : Nat => s.heap.size ≤ q) b := Nat.not_le.mpr hbl
  have hL31 : L < 2 ^ 31 := by omega
  have hKm : va_K G vwCl (mTy (ids 0) (ids 1)) s := hK.sub [0, 1] rfl
  have hA0 : ∀ q, mA (aM r) q → (fun q : Nat => s.heap.size ≤ q) q := fun q h => by have h1 := mA_in h; show s.heap.size ≤ q; omega
  refine lv_aload_n hx hb dL_law_132 rfl (lv_at hl 3 rfl) ?_
  refine lv_aload_n hx hb dL_law_133 rfl (lv_at hl 4 rfl) ?_
  refine lv_iload hx hb dL_law_134 (lv_at hl 0 rfl) ?_
  refine lv_iconst (v := nI (1)) hx hb dL_law_136 (by decide) ?_
  refine n_add (x := i) (y := 1) hx hb dL_law_137 ?_
  refine l_sld hx hb hX hbl hbA hS (j := i + 1) (by omega) hL31 dL_law_138 ?_
  refine lv_aload_n hx hb dL_law_139 rfl (lv_at hl 4 rfl) ?_
  refine lv_iload hx hb dL_law_140 (lv_at hl 0 rfl) ?_
  refine lv_iconst (v := nI (2)) hx hb dL_law_142 (by decide) ?_
  refine n_add (x := i) (y := 2) hx hb dL_law_143 ?_
  refine l_sld hx hb hX hbl hbA hS (j := i + 2) (by omega) hL31 dL_law_144 ?_
  refine lv_aload_n hx hb dL_law_145 rfl (lv_at hl 4 rfl) ?_
  refine lv_iload hx hb dL_law_146 (lv_at hl 0 rfl) ?_
  refine lv_iconst (v := nI (3)) hx hb dL_law_148 (by decide) ?_
  refine n_add (x := i) (y := 3) hx hb dL_law_149 ?_
  refine l_sld hx hb hX hbl hbA hS (j := i + 3) (by omega) hL31 dL_law_150 ?_
  refine lv_aload_n hx hb dL_law_151 rfl (lv_at hl 4 rfl) ?_
  refine lv_iload hx hb dL_law_152 (lv_at hl 0 rfl) ?_
  refine lv_iconst (v := nI (4)) hx hb dL_law_154 (by decide) ?_
  refine n_add (x := i) (y := 4) hx hb dL_law_155 ?_
  refine l_sld hx hb hX hbl hbA hS (j := i + 4) (by omega) hL31 dL_law_156 ?_
  refine lv_aload_n hx hb dL_law_157 rfl (lv_at hl 4 rfl) ?_
  refine lv_iload hx hb dL_law_158 (lv_at hl 0 rfl) ?_
  refine lv_iconst (v := nI (5)) hx hb dL_law_160 (by decide) ?_
  refine n_add (x := i) (y := 5) hx hb dL_law_161 ?_
  refine l_sld hx hb hX hbl hbA hS (j := i + 5) (by omega) hL31 dL_law_162 ?_
  refine lv_aload_n hx hb dL_law_163 rfl (lv_at hl 4 rfl) ?_
  refine lv_iload hx hb dL_law_164 (lv_at hl 0 rfl) ?_
  refine lv_bipush (v := nI (6)) hx hb dL_law_166 (by decide) ?_
  refine n_add (x := i) (y := 6) hx hb dL_law_168 ?_
  refine l_sld hx hb hX hbl hbA hS (j := i + 6) (by omega) hL31 dL_law_169 ?_
  refine l_wrap (As := [.ref (o), .int (xs (i + 1)), .int (xs (i + 2)), .int (xs (i + 3)), .int (xs (i + 4)), .int (xs (i + 5)), .int (xs (i + 6))]) (rest := []) ⟨hx, hb, hml, hown, hts⟩ (lc_ground l hl0 G ids tS tE o z qo (by omega) ho4 σ (xs (i + 1)) (xs (i + 2)) (xs (i + 3)) (xs (i + 4)) (xs (i + 5)) (xs (i + 6))) (vx_cwSW 7 hts gL_law_L_ground rfl rfl rfl (by decide +kernel) ⟨Nat.le_of_ble_eq_true rfl, Nat.le_of_ble_eq_true rfl⟩) hK hZ hN ho1 ho2 ho3 ho4 hP hO hW hS rfl hl.1 rfl (Nat.le_of_ble_eq_true rfl) dL_law_170 ⟨by show cells + 6 ≤ 601024; omega, by show slots + 36 ≤ 7293034; omega⟩ (fun H locs hP hO hW hS => ?_)
  refine lv_istore (lv' := [(5, .int (nI (lC [1, 2] (kx_ground σ (xs (i + 1)) (xs (i + 2)) (xs (i + 3)) (xs (i + 4)) (xs (i + 5)) (xs (i + 6)))))), (4, .int (nI (i))), (3, .ref (qo)), (2, .ref (r)), (1, .ref (o)), (0, .ref (b))]) hx hb dL_law_173 hl (by decide) rfl (fun ls hl => ?_)
  refine lv_aload_n hx hb dL_law_175 rfl (lv_at hl 3 rfl) ?_
  refine lv_aload_n hx hb dL_law_176 rfl (lv_at hl 5 rfl) ?_
  refine lv_iload hx hb dL_law_177 (lv_at hl 1 rfl) ?_
  refine lv_iconst (v := nI (1)) hx hb dL_law_179 (by decide) ?_
  refine n_add (x := i) (y := 1) hx hb dL_law_180 ?_
  refine l_sld hx hb hX hbl hbA hS (j := i + 1) (by omega) hL31 dL_law_181 ?_
  refine lv_aload_n hx hb dL_law_182 rfl (lv_at hl 5 rfl) ?_
  refine lv_iload hx hb dL_law_183 (lv_at hl 1 rfl) ?_
  refine lv_iconst (v := nI (2)) hx hb dL_law_185 (by decide) ?_
  refine n_add (x := i) (y := 2) hx hb dL_law_186 ?_
  refine l_sld hx hb hX hbl hbA hS (j := i + 2) (by omega) hL31 dL_law_187 ?_
  refine lv_aload_n hx hb dL_law_188 rfl (lv_at hl 5 rfl) ?_
  refine lv_iload hx hb dL_law_189 (lv_at hl 1 rfl) ?_
  refine lv_iconst (v := nI (3)) hx hb dL_law_191 (by decide) ?_
  refine n_add (x := i) (y := 3) hx hb dL_law_192 ?_
  refine l_sld hx hb hX hbl hbA hS (j := i + 3) (by omega) hL31 dL_law_193 ?_
  refine lv_aload_n hx hb dL_law_194 rfl (lv_at hl 5 rfl) ?_
  refine lv_iload hx hb dL_law_195 (lv_at hl 1 rfl) ?_
  refine lv_iconst (v := nI (4)) hx hb dL_law_197 (by decide) ?_
  refine n_add (x := i) (y := 4) hx hb dL_law_198 ?_
  refine l_sld hx hb hX hbl hbA hS (j := i + 4) (by omega) hL31 dL_law_199 ?_
  refine lv_aload_n hx hb dL_law_200 rfl (lv_at hl 5 rfl) ?_
  refine lv_iload hx hb dL_law_201 (lv_at hl 1 rfl) ?_
  refine lv_iconst (v := nI (5)) hx hb dL_law_203 (by decide) ?_
  refine n_add (x := i) (y := 5) hx hb dL_law_204 ?_
  refine l_sld hx hb hX hbl hbA hS (j := i + 5) (by omega) hL31 dL_law_205 ?_
  refine lv_aload_n hx hb dL_law_206 rfl (lv_at hl 5 rfl) ?_
  refine lv_iload hx hb dL_law_207 (lv_at hl 1 rfl) ?_
  refine lv_bipush (v := nI (6)) hx hb dL_law_209 (by decide) ?_
  refine n_add (x := i) (y := 6) hx hb dL_law_211 ?_
  refine l_sld hx hb hX hbl hbA hS (j := i + 6) (by omega) hL31 dL_law_212 ?_
  refine m_callV (As := [.int (xs (i + 1)), .int (xs (i + 2)), .int (xs (i + 3)), .int (xs (i + 4)), .int (xs (i + 5)), .int (xs (i + 6))]) (rest := []) hA0 ⟨hx, hb, hml, hown, hts⟩ (cm_ground l G (ids 0) (ids 1) (aM r) μ (xs (i + 1)) (xs (i + 2)) (xs (i + 3)) (xs (i + 4)) (xs (i + 5)) (xs (i + 6))) (cwV 6 hts gL_law_X6_ground rfl rfl rfl (by decide +kernel) ⟨Nat.le_of_ble_eq_true rfl, Nat.le_of_ble_eq_true rfl⟩) hKm hW (aM_DA r (ids 0) (ids 1) μ) hS rfl hl.1 rfl (Nat.le_of_ble_eq_true rfl) dL_law_213 ⟨by show (cells + 6) ≤ 601024; omega, by show (slots + 36) ≤ 7293034; omega⟩ (fun H1 locs1 hW1 _ _ hk hS1 => ?_)
  obtain ⟨hP1, hO1⟩ := l_keep ho2 ho3 ho4 hP hO hk
  clear hk
  refine lv_aload_n hx hb dL_law_216 rfl (lv_at hl 3 rfl) ?_
  refine m_callI (As := []) (rest := []) hA0 ⟨hx, hb, hml, hown, hts⟩ (cm_thrown l G (ids 0) (ids 1) (aM r) (m_ground_s μ (xs (i + 1)) (xs (i + 2)) (xs (i + 3)) (xs (i + 4)) (xs (i + 5)) (xs (i + 6)))) (cwV 0 hts gL_law_X6_thrown rfl rfl rfl (by decide +kernel) ⟨Nat.le_of_ble_eq_true rfl, Nat.le_of_ble_eq_true rfl⟩) hKm hW1 (aM_DA r (ids 0) (ids 1) (m_ground_s μ (xs (i + 1)) (xs (i + 2)) (xs (i + 3)) (xs (i + 4)) (xs (i + 5)) (xs (i + 6)))) hS1 rfl hl.1 rfl (Nat.le_of_ble_eq_true rfl) dL_law_217 ⟨by show (cells + 6) ≤ 601024; omega, by show (slots + 36) ≤ 7293034; omega⟩ (fun H2 locs2 hW2 _ _ hk hS2 => ?_)
  obtain ⟨hP2, hO2⟩ := l_keep ho2 ho3 ho4 hP1 hO1 hk
  clear hk
  refine lv_iload hx hb dL_law_220 (lv_at hl 0 rfl) ?_
  refine lv_icmp_eq (x := (m_thrown (m_ground_s μ (xs (i + 1)) (xs (i + 2)) (xs (i + 3)) (xs (i + 4)) (xs (i + 5)) (xs (i + 6))))) (y := (nI (lC [1, 2] (kx_ground σ (xs (i + 1)) (xs (i + 2)) (xs (i + 3)) (xs (i + 4)) (xs (i + 5)) (xs (i + 6)))))) (tgt := 227) hx hb dL_law_222 (by decide) (fun _ => ?_) (fun c9 => absurd hp1 c9)
  refine lv_goto (tgt := 1334) hx hb dL_law_227 (by decide) ?_
  exact W.widen (by omega) (by omega) (kk _ _ _ hP2 (hO2.imp (fun v h => h.1)) hW2 hS2 (lv_sub hl [1, 2, 3, 4, 5] rfl))
set_option maxHeartbeats 4000000 in
set_option maxRecDepth 100000 in
theorem law_moss {p : Program} {l : Launch} {e : Env} {s : State} {m : MethodId} {below : List Frame} {meth : Method} {c : Code} {b L : Nat} {xs : Nat → Int32} {G : va_G} {ids : Nat → ClassId} {tS tE o r qo z : Nat} (C0 : lX p l s m meth c b L xs G ids tS tE o r qo z) {cells slots i : Nat} {H : Heap} {locs : List Loc} {ls : Array Slot} {Q : State → Prop} {σ μ : Sg} (hi : i + 7 ≤ L) (hc : cells + 10 ≤ 601024) (hs : slots + 4000 ≤ 7293034)
    (hP : lPic G ids o z tE σ H) (hO : ∃ v, lOut G ids qo v H) (hW : va_P G vwCl (wm (ids 0) (ids 1) (aM r) μ) H) (hS : va_S (fun q => s.heap.size ≤ q) s.heap H locs) (hl : lv_has ls 8 [(4, .int (nI (i))), (3, .ref (qo)), (2, .ref (r)), (1, .ref (o)), (0, .ref (b))])
    (hMO : mOK μ) (hp1 : (m_moss_s μ (xs (i + 1)) (xs (i + 2))).1 0 0 = nI (lC [1, 2] (kx_moss σ (xs (i + 1)) (xs (i + 2))))) (hp2 : (kx_moss σ (xs (i + 1)) (xs (i + 2))) = 0 → (k_moss σ (xs (i + 1)) (xs (i + 2))) = (m_moss μ (xs (i + 1)) (xs (i + 2))))
    (kk : ∀ (H1 : Heap) (locs1 : List Loc) (ls1 : Array Slot), lPic G ids o z tE (if (kx_moss σ (xs (i + 1)) (xs (i + 2))) = 0 then (k_moss_s σ (xs (i + 1)) (xs (i + 2))) else σ) H1 → (∃ v, lOut G ids qo v H1) → va_P G vwCl (wm (ids 0) (ids 1) (aM r) (m_moss_s μ (xs (i + 1)) (xs (i + 2)))) H1 → va_S (fun q => s.heap.size ≤ q) s.heap H1 locs1 → lv_has ls1 8 [(4, .int (nI (i))), (3, .ref (qo)), (2, .ref (r)), (1, .ref (o)), (0, .ref (b))] → W p l e room_1 s m #[Value.ref b] below meth c H1 locs1 (cells + 10) (slots + 4000) Q (F0 m 1334 ls1 [])) : W p l e room_1 s m #[Value.ref b] below meth c H locs cells slots Q (F0 m 230 ls []) := by
  obtain ⟨hx, hb, hml, hown, hts, hX, hbl, hl0, hK, hZ, hN, ho1, ho2, ho3, ho4, hL⟩ := C0
  have hbA : ¬ (fun q : Nat => s.heap.size ≤ q) b := Nat.not_le.mpr hbl
  have hL31 : L < 2 ^ 31 := by omega
  have hKm : va_K G vwCl (mTy (ids 0) (ids 1)) s := hK.sub [0, 1] rfl
  have hA0 : ∀ q, mA (aM r) q → (fun q : Nat => s.heap.size ≤ q) q := fun q h => by have h1 := mA_in h; show s.heap.size ≤ q; omega
  refine lv_aload_n hx hb dL_law_230 rfl (lv_at hl 3 rfl) ?_
  refine lv_aload_n hx hb dL_law_231 rfl (lv_at hl 4 rfl) ?_
  refine lv_iload hx hb dL_law_232 (lv_at hl 0 rfl) ?_
  refine lv_iconst (v := nI (1)) hx hb dL_law_234 (by decide) ?_
  refine n_add (x := i) (y := 1) hx hb dL_law_235 ?_
  refine l_sld hx hb hX hbl hbA hS (j := i + 1) (by omega) hL31 dL_law_236 ?_
  refine lv_aload_n hx hb dL_law_237 rfl (lv_at hl 4 rfl) ?_
  refine lv_iload hx hb dL_law_238 (lv_at hl 0 rfl) ?_
  refine lv_iconst (v := nI (2)) hx hb dL_law_240 (by decide) ?_
  refine n_add (x := i) (y := 2) hx hb dL_law_241 ?_
  refine l_sld hx hb hX hbl hbA hS (j := i + 2) (by omega) hL31 dL_law_242 ?_
  refine lv_aload_n hx hb dL_law_243 rfl (lv_at hl 1 rfl) ?_
  refine l_wrap (As := [.ref (o), .int (xs (i + 1)), .int (xs (i + 2)), .ref (qo)]) (rest := []) ⟨hx, hb, hml, hown, hts⟩ (lc_moss l hl0 G ids tS tE o z qo (by omega) ho4 σ (xs (i + 1)) (xs (i + 2))) (vx_cwSW 4 hts gL_law_L_moss rfl rfl rfl (by decide +kernel) ⟨Nat.le_of_ble_eq_true rfl, Nat.le_of_ble_eq_true rfl⟩) hK hZ hN ho1 ho2 ho3 ho4 hP hO hW hS rfl hl.1 rfl (Nat.le_of_ble_eq_true rfl) dL_law_244 ⟨by show cells + 2 ≤ 601024; omega, by show slots + 12 ≤ 7293034; omega⟩ (fun H locs hP hO hW hS => ?_)
  refine lv_istore (lv' := [(5, .int (nI (lC [1, 2] (kx_moss σ (xs (i + 1)) (xs (i + 2)))))), (4, .int (nI (i))), (3, .ref (qo)), (2, .ref (r)), (1, .ref (o)), (0, .ref (b))]) hx hb dL_law_247 hl (by decide) rfl (fun ls hl => ?_)
  refine lv_aload_n hx hb dL_law_249 rfl (lv_at hl 3 rfl) ?_
  refine lv_aload_n hx hb dL_law_250 rfl (lv_at hl 5 rfl) ?_
  refine lv_iload hx hb dL_law_251 (lv_at hl 1 rfl) ?_
  refine lv_iconst (v := nI (1)) hx hb dL_law_253 (by decide) ?_
  refine n_add (x := i) (y := 1) hx hb dL_law_254 ?_
  refine l_sld hx hb hX hbl hbA hS (j := i + 1) (by omega) hL31 dL_law_255 ?_
  refine lv_aload_n hx hb dL_law_256 rfl (lv_at hl 5 rfl) ?_
  refine lv_iload hx hb dL_law_257 (lv_at hl 1 rfl) ?_
  refine lv_iconst (v := nI (2)) hx hb dL_law_259 (by decide) ?_
  refine n_add (x := i) (y := 2) hx hb dL_law_260 ?_
  refine l_sld hx hb hX hbl hbA hS (j := i + 2) (by omega) hL31 dL_law_261 ?_
  refine m_callI (As := [.int (xs (i + 1)), .int (xs (i + 2))]) (rest := []) hA0 ⟨hx, hb, hml, hown, hts⟩ (cm_moss l G (ids 0) (ids 1) (aM r) μ (xs (i + 1)) (xs (i + 2))) (cwV 2 hts gL_law_X6_moss rfl rfl rfl (by decide +kernel) ⟨Nat.le_of_ble_eq_true rfl, Nat.le_of_ble_eq_true rfl⟩) hKm hW (aM_DA r (ids 0) (ids 1) μ) hS rfl hl.1 rfl (Nat.le_of_ble_eq_true rfl) dL_law_262 ⟨by show (cells + 2) ≤ 601024; omega, by show (slots + 12) ≤ 7293034; omega⟩ (fun H1 locs1 hW1 _ _ hk hS1 => ?_)
  obtain ⟨hP1, hO1⟩ := l_keep ho2 ho3 ho4 hP hO hk
  clear hk
  refine lv_istore (lv' := [(6, .int (m_moss μ (xs (i + 1)) (xs (i + 2)))), (5, .int (nI (lC [1, 2] (kx_moss σ (xs (i + 1)) (xs (i + 2)))))), (4, .int (nI (i))), (3, .ref (qo)), (2, .ref (r)), (1, .ref (o)), (0, .ref (b))]) hx hb dL_law_265 hl (by decide) rfl (fun ls hl => ?_)
  refine lv_aload_n hx hb dL_law_267 rfl (lv_at hl 4 rfl) ?_
  refine m_callI (As := []) (rest := []) hA0 ⟨hx, hb, hml, hown, hts⟩ (cm_thrown l G (ids 0) (ids 1) (aM r) (m_moss_s μ (xs (i + 1)) (xs (i + 2)))) (cwV 0 hts gL_law_X6_thrown rfl rfl rfl (by decide +kernel) ⟨Nat.le_of_ble_eq_true rfl, Nat.le_of_ble_eq_true rfl⟩) hKm hW1 (aM_DA r (ids 0) (ids 1) (m_moss_s μ (xs (i + 1)) (xs (i + 2)))) hS1 rfl hl.1 rfl (Nat.le_of_ble_eq_true rfl) dL_law_268 ⟨by show (cells + 2) ≤ 601024; omega, by show (slots + 12) ≤ 7293034; omega⟩ (fun H2 locs2 hW2 _ _ hk hS2 => ?_)
  obtain ⟨hP2, hO2⟩ := l_keep ho2 ho3 ho4 hP1 hO1 hk
  clear hk
  refine lv_iload hx hb dL_law_271 (lv_at hl 1 rfl) ?_
  refine lv_icmp_eq (x := (m_thrown (m_moss_s μ (xs (i + 1)) (xs (i + 2))))) (y := (nI (lC [1, 2] (kx_moss σ (xs (i + 1)) (xs (i + 2)))))) (tgt := 278) hx hb dL_law_273 (by decide) (fun _ => ?_) (fun c9 => absurd hp1 c9)
  refine lv_iload hx hb dL_law_278 (lv_at hl 1 rfl) ?_
  refine lv_if_ne (x := (nI (lC [1, 2] (kx_moss σ (xs (i + 1)) (xs (i + 2)))))) (tgt := 295) hx hb dL_law_280 (by decide) (fun _ => ?_) (fun c9 => ?_)
  · refine lv_goto (tgt := 1334) hx hb dL_law_295 (by decide) ?_
    exact W.widen (by omega) (by omega) (kk _ _ _ hP2 (hO2.imp (fun v h => h.1)) hW2 hS2 (lv_sub hl [2, 3, 4, 5, 6] rfl))
  · have hX0 : (kx_moss σ (xs (i + 1)) (xs (i + 2))) = 0 := lC_c (S := [1, 2]) (by decide) (kxK_moss σ (xs (i + 1)) (xs (i + 2))) c9
    obtain ⟨v9, hv9, hg9⟩ := hO2
    have hg := hg9 hX0
    dsimp only at hg
    rw [hp2 hX0] at hg
    subst hg
    obtain ⟨f9, hf9, hf0⟩ := hv9
    refine lv_aload_n hx hb dL_law_283 rfl (lv_at hl 3 rfl) ?_
    refine lv_iconst (v := nI (0)) hx hb dL_law_284 (by decide) ?_
    refine x_lald (v := (m_moss μ (xs (i + 1)) (xs (i + 2))).toInt64) hx hb hK hf9 (j := nI 0) (vp_in_nI (by decide) (by decide)) (by rw [nI_clamp (by decide)]; exact hf0) dL_law_285 ?_
    refine lv_iload hx hb dL_law_286 (lv_at hl 0 rfl) ?_
    refine lv_i2l (v := (m_moss μ (xs (i + 1)) (xs (i + 2))).toInt64) hx hb dL_law_288 rfl ?_
    refine W.lcmp hx hb dL_law_289 ?_
    refine lv_if_eq (tgt := 295) hx hb dL_law_290 (by decide) (fun _ => ?_) (fun c9 => absurd (lcmp_self _) c9)
    refine lv_goto (tgt := 1334) hx hb dL_law_295 (by decide) ?_
    exact W.widen (by omega) (by omega) (kk _ _ _ hP2 ⟨_, f9, hf9, hf0⟩ hW2 hS2 (lv_sub hl [2, 3, 4, 5, 6] rfl))
set_option maxHeartbeats 4000000 in
set_option maxRecDepth 100000 in
theorem law_pass {p : Program} {l : Launch} {e : Env} {s : State} {m : MethodId} {below : List Frame} {meth : Method} {c : Code} {b L : Nat} {xs : Nat → Int32} {G : va_G} {ids : Nat → ClassId} {tS tE o r qo z : Nat} (C0 : lX p l s m meth c b L xs G ids tS tE o r qo z) {cells slots i : Nat} {H : Heap} {locs : List Loc} {ls : Array Slot} {Q : State → Prop} {σ μ : Sg} (hi : i + 7 ≤ L) (hc : cells + 10 ≤ 601024) (hs : slots + 4000 ≤ 7293034)
    (hP : lPic G ids o z tE σ H) (hO : ∃ v, lOut G ids qo v H) (hW : va_P G vwCl (wm (ids 0) (ids 1) (aM r) μ) H) (hS : va_S (fun q => s.heap.size ≤ q) s.heap H locs) (hl : lv_has ls 8 [(4, .int (nI (i))), (3, .ref (qo)), (2, .ref (r)), (1, .ref (o)), (0, .ref (b))])
    (hMO : mOK μ) (hO : cOK σ) (hR : cRd σ) (hp1 : (m_pass_s μ (xs (i + 1)) (xs (i + 2)) (xs (i + 3))).1 0 0 = nI (lC [2, 3] (kx_pass σ (xs (i + 1)) (xs (i + 2)) (xs (i + 3))))) (hp2 : (kx_pass σ (xs (i + 1)) (xs (i + 2)) (xs (i + 3))) = 0 → (k_pass σ (xs (i + 1)) (xs (i + 2)) (xs (i + 3))) = (m_pass μ (xs (i + 1)) (xs (i + 2)) (xs (i + 3))))
    (kk : ∀ (H1 : Heap) (locs1 : List Loc) (ls1 : Array Slot), lPic G ids o z tE (if (kx_pass σ (xs (i + 1)) (xs (i + 2)) (xs (i + 3))) = 0 then (k_pass_s σ (xs (i + 1)) (xs (i + 2)) (xs (i + 3))) else σ) H1 → (∃ v, lOut G ids qo v H1) → va_P G vwCl (wm (ids 0) (ids 1) (aM r) (m_pass_s μ (xs (i + 1)) (xs (i + 2)) (xs (i + 3)))) H1 → va_S (fun q => s.heap.size ≤ q) s.heap H1 locs1 → lv_has ls1 8 [(4, .int (nI (i))), (3, .ref (qo)), (2, .ref (r)), (1, .ref (o)), (0, .ref (b))] → W p l e room_1 s m #[Value.ref b] below meth c H1 locs1 (cells + 10) (slots + 4000) Q (F0 m 1334 ls1 [])) : W p l e room_1 s m #[Value.ref b] below meth c H locs cells slots Q (F0 m 298 ls []) := by
  obtain ⟨hx, hb, hml, hown, hts, hX, hbl, hl0, hK, hZ, hN, ho1, ho2, ho3, ho4, hL⟩ := C0
  have hbA : ¬ (fun q : Nat => s.heap.size ≤ q) b := Nat.not_le.mpr hbl
  have hL31 : L < 2 ^ 31 := by omega
  have hKm : va_K G vwCl (mTy (ids 0) (ids 1)) s := hK.sub [0, 1] rfl
  have hA0 : ∀ q, mA (aM r) q → (fun q : Nat => s.heap.size ≤ q) q := fun q h => by have h1 := mA_in h; show s.heap.size ≤ q; omega
  refine lv_aload_n hx hb dL_law_298 rfl (lv_at hl 3 rfl) ?_
  refine lv_aload_n hx hb dL_law_299 rfl (lv_at hl 4 rfl) ?_
  refine lv_iload hx hb dL_law_300 (lv_at hl 0 rfl) ?_
  refine lv_iconst (v := nI (1)) hx hb dL_law_302 (by decide) ?_
  refine n_add (x := i) (y := 1) hx hb dL_law_303 ?_
  refine l_sld hx hb hX hbl hbA hS (j := i + 1) (by omega) hL31 dL_law_304 ?_
  refine lv_aload_n hx hb dL_law_305 rfl (lv_at hl 4 rfl) ?_
  refine lv_iload hx hb dL_law_306 (lv_at hl 0 rfl) ?_
  refine lv_iconst (v := nI (2)) hx hb dL_law_308 (by decide) ?_
  refine n_add (x := i) (y := 2) hx hb dL_law_309 ?_
  refine l_sld hx hb hX hbl hbA hS (j := i + 2) (by omega) hL31 dL_law_310 ?_
  refine lv_aload_n hx hb dL_law_311 rfl (lv_at hl 4 rfl) ?_
  refine lv_iload hx hb dL_law_312 (lv_at hl 0 rfl) ?_
  refine lv_iconst (v := nI (3)) hx hb dL_law_314 (by decide) ?_
  refine n_add (x := i) (y := 3) hx hb dL_law_315 ?_
  refine l_sld hx hb hX hbl hbA hS (j := i + 3) (by omega) hL31 dL_law_316 ?_
  refine lv_aload_n hx hb dL_law_317 rfl (lv_at hl 1 rfl) ?_
  refine l_wrap (As := [.ref (o), .int (xs (i + 1)), .int (xs (i + 2)), .int (xs (i + 3)), .ref (qo)]) (rest := []) ⟨hx, hb, hml, hown, hts⟩ (lc_pass l hl0 G ids tS tE o z qo (by omega) ho4 σ (xs (i + 1)) (xs (i + 2)) (xs (i + 3)) hO hR) (vx_cwSW 5 hts gL_law_L_pass rfl rfl rfl (by decide +kernel) ⟨Nat.le_of_ble_eq_true rfl, Nat.le_of_ble_eq_true rfl⟩) hK hZ hN ho1 ho2 ho3 ho4 hP hO hW hS rfl hl.1 rfl (Nat.le_of_ble_eq_true rfl) dL_law_318 ⟨by show cells + 4 ≤ 601024; omega, by show slots + 24 ≤ 7293034; omega⟩ (fun H locs hP hO hW hS => ?_)
  refine lv_istore (lv' := [(5, .int (nI (lC [2, 3] (kx_pass σ (xs (i + 1)) (xs (i + 2)) (xs (i + 3)))))), (4, .int (nI (i))), (3, .ref (qo)), (2, .ref (r)), (1, .ref (o)), (0, .ref (b))]) hx hb dL_law_321 hl (by decide) rfl (fun ls hl => ?_)
  refine lv_aload_n hx hb dL_law_323 rfl (lv_at hl 3 rfl) ?_
  refine lv_aload_n hx hb dL_law_324 rfl (lv_at hl 5 rfl) ?_
  refine lv_iload hx hb dL_law_325 (lv_at hl 1 rfl) ?_
  refine lv_iconst (v := nI (1)) hx hb dL_law_327 (by decide) ?_
  refine n_add (x := i) (y := 1) hx hb dL_law_328 ?_
  refine l_sld hx hb hX hbl hbA hS (j := i + 1) (by omega) hL31 dL_law_329 ?_
  refine lv_aload_n hx hb dL_law_330 rfl (lv_at hl 5 rfl) ?_
  refine lv_iload hx hb dL_law_331 (lv_at hl 1 rfl) ?_
  refine lv_iconst (v := nI (2)) hx hb dL_law_333 (by decide) ?_
  refine n_add (x := i) (y := 2) hx hb dL_law_334 ?_
  refine l_sld hx hb hX hbl hbA hS (j := i + 2) (by omega) hL31 dL_law_335 ?_
  refine lv_aload_n hx hb dL_law_336 rfl (lv_at hl 5 rfl) ?_
  refine lv_iload hx hb dL_law_337 (lv_at hl 1 rfl) ?_
  refine lv_iconst (v := nI (3)) hx hb dL_law_339 (by decide) ?_
  refine n_add (x := i) (y := 3) hx hb dL_law_340 ?_
  refine l_sld hx hb hX hbl hbA hS (j := i + 3) (by omega) hL31 dL_law_341 ?_
  refine m_callI (As := [.int (xs (i + 1)), .int (xs (i + 2)), .int (xs (i + 3))]) (rest := []) hA0 ⟨hx, hb, hml, hown, hts⟩ (cm_pass l G (ids 0) (ids 1) (aM r) μ (xs (i + 1)) (xs (i + 2)) (xs (i + 3)) hMO) (cwV 3 hts gL_law_X6_pass rfl rfl rfl (by decide +kernel) ⟨Nat.le_of_ble_eq_true rfl, Nat.le_of_ble_eq_true rfl⟩) hKm hW (aM_DA r (ids 0) (ids 1) μ) hS rfl hl.1 rfl (Nat.le_of_ble_eq_true rfl) dL_law_342 ⟨by show (cells + 4) ≤ 601024; omega, by show (slots + 24) ≤ 7293034; omega⟩ (fun H1 locs1 hW1 _ _ hk hS1 => ?_)
  obtain ⟨hP1, hO1⟩ := l_keep ho2 ho3 ho4 hP hO hk
  clear hk
  refine lv_istore (lv' := [(6, .int (m_pass μ (xs (i + 1)) (xs (i + 2)) (xs (i + 3)))), (5, .int (nI (lC [2, 3] (kx_pass σ (xs (i + 1)) (xs (i + 2)) (xs (i + 3)))))), (4, .int (nI (i))), (3, .ref (qo)), (2, .ref (r)), (1, .ref (o)), (0, .ref (b))]) hx hb dL_law_345 hl (by decide) rfl (fun ls hl => ?_)
  refine lv_aload_n hx hb dL_law_347 rfl (lv_at hl 4 rfl) ?_
  refine m_callI (As := []) (rest := []) hA0 ⟨hx, hb, hml, hown, hts⟩ (cm_thrown l G (ids 0) (ids 1) (aM r) (m_pass_s μ (xs (i + 1)) (xs (i + 2)) (xs (i + 3)))) (cwV 0 hts gL_law_X6_thrown rfl rfl rfl (by decide +kernel) ⟨Nat.le_of_ble_eq_true rfl, Nat.le_of_ble_eq_true rfl⟩) hKm hW1 (aM_DA r (ids 0) (ids 1) (m_pass_s μ (xs (i + 1)) (xs (i + 2)) (xs (i + 3)))) hS1 rfl hl.1 rfl (Nat.le_of_ble_eq_true rfl) dL_law_348 ⟨by show (cells + 4) ≤ 601024; omega, by show (slots + 24) ≤ 7293034; omega⟩ (fun H2 locs2 hW2 _ _ hk hS2 => ?_)
  obtain ⟨hP2, hO2⟩ := l_keep ho2 ho3 ho4 hP1 hO1 hk
  clear hk
  refine lv_iload hx hb dL_law_351 (lv_at hl 1 rfl) ?_
  refine lv_icmp_eq (x := (m_thrown (m_pass_s μ (xs (i + 1)) (xs (i + 2)) (xs (i + 3))))) (y := (nI (lC [2, 3] (kx_pass σ (xs (i + 1)) (xs (i + 2)) (xs (i + 3)))))) (tgt := 358) hx hb dL_law_353 (by decide) (fun _ => ?_) (fun c9 => absurd hp1 c9)
  refine lv_iload hx hb dL_law_358 (lv_at hl 1 rfl) ?_
  refine lv_if_ne (x := (nI (lC [2, 3] (kx_pass σ (xs (i + 1)) (xs (i + 2)) (xs (i + 3)))))) (tgt := 375) hx hb dL_law_360 (by decide) (fun _ => ?_) (fun c9 => ?_)
  · refine lv_goto (tgt := 1334) hx hb dL_law_375 (by decide) ?_
    exact W.widen (by omega) (by omega) (kk _ _ _ hP2 (hO2.imp (fun v h => h.1)) hW2 hS2 (lv_sub hl [2, 3, 4, 5, 6] rfl))
  · have hX0 : (kx_pass σ (xs (i + 1)) (xs (i + 2)) (xs (i + 3))) = 0 := lC_c (S := [2, 3]) (by decide) (kxK_pass σ (xs (i + 1)) (xs (i + 2)) (xs (i + 3))) c9
    obtain ⟨v9, hv9, hg9⟩ := hO2
    have hg := hg9 hX0
    dsimp only at hg
    rw [hp2 hX0] at hg
    subst hg
    obtain ⟨f9, hf9, hf0⟩ := hv9
    refine lv_aload_n hx hb dL_law_363 rfl (lv_at hl 3 rfl) ?_
    refine lv_iconst (v := nI (0)) hx hb dL_law_364 (by decide) ?_
    refine x_lald (v := (m_pass μ (xs (i + 1)) (xs (i + 2)) (xs (i + 3))).toInt64) hx hb hK hf9 (j := nI 0) (vp_in_nI (by decide) (by decide)) (by rw [nI_clamp (by decide)]; exact hf0) dL_law_365 ?_
    refine lv_iload hx hb dL_law_366 (lv_at hl 0 rfl) ?_
    refine lv_i2l (v := (m_pass μ (xs (i + 1)) (xs (i + 2)) (xs (i + 3))).toInt64) hx hb dL_law_368 rfl ?_
    refine W.lcmp hx hb dL_law_369 ?_
    refine lv_if_eq (tgt := 375) hx hb dL_law_370 (by decide) (fun _ => ?_) (fun c9 => absurd (lcmp_self _) c9)
    refine lv_goto (tgt := 1334) hx hb dL_law_375 (by decide) ?_
    exact W.widen (by omega) (by omega) (kk _ _ _ hP2 ⟨_, f9, hf9, hf0⟩ hW2 hS2 (lv_sub hl [2, 3, 4, 5, 6] rfl))
set_option maxHeartbeats 4000000 in
set_option maxRecDepth 100000 in
theorem law_fire {p : Program} {l : Launch} {e : Env} {s : State} {m : MethodId} {below : List Frame} {meth : Method} {c : Code} {b L : Nat} {xs : Nat → Int32} {G : va_G} {ids : Nat → ClassId} {tS tE o r qo z : Nat} (C0 : lX p l s m meth c b L xs G ids tS tE o r qo z) {cells slots i : Nat} {H : Heap} {locs : List Loc} {ls : Array Slot} {Q : State → Prop} {σ μ : Sg} (hi : i + 7 ≤ L) (hc : cells + 10 ≤ 601024) (hs : slots + 4000 ≤ 7293034)
    (hP : lPic G ids o z tE σ H) (hO : ∃ v, lOut G ids qo v H) (hW : va_P G vwCl (wm (ids 0) (ids 1) (aM r) μ) H) (hS : va_S (fun q => s.heap.size ≤ q) s.heap H locs) (hl : lv_has ls 8 [(4, .int (nI (i))), (3, .ref (qo)), (2, .ref (r)), (1, .ref (o)), (0, .ref (b))])
    (hMO : mOK μ) (hp1 : (m_fire_s μ (xs (i + 1))).1 0 0 = nI (lC [1, 3] (kx_fire σ (xs (i + 1))))) (hp2 : (kx_fire σ (xs (i + 1))) = 0 → (k_fire σ (xs (i + 1))) = (m_fire μ (xs (i + 1))))
    (kk : ∀ (H1 : Heap) (locs1 : List Loc) (ls1 : Array Slot), lPic G ids o z tE (if (kx_fire σ (xs (i + 1))) = 0 then (k_fire_s σ (xs (i + 1))) else σ) H1 → (∃ v, lOut G ids qo v H1) → va_P G vwCl (wm (ids 0) (ids 1) (aM r) (m_fire_s μ (xs (i + 1)))) H1 → va_S (fun q => s.heap.size ≤ q) s.heap H1 locs1 → lv_has ls1 8 [(4, .int (nI (i))), (3, .ref (qo)), (2, .ref (r)), (1, .ref (o)), (0, .ref (b))] → W p l e room_1 s m #[Value.ref b] below meth c H1 locs1 (cells + 10) (slots + 4000) Q (F0 m 1334 ls1 [])) : W p l e room_1 s m #[Value.ref b] below meth c H locs cells slots Q (F0 m 378 ls []) := by
  obtain ⟨hx, hb, hml, hown, hts, hX, hbl, hl0, hK, hZ, hN, ho1, ho2, ho3, ho4, hL⟩ := C0
  have hbA : ¬ (fun q : Nat => s.heap.size ≤ q) b := Nat.not_le.mpr hbl
  have hL31 : L < 2 ^ 31 := by omega
  have hKm : va_K G vwCl (mTy (ids 0) (ids 1)) s := hK.sub [0, 1] rfl
  have hA0 : ∀ q, mA (aM r) q → (fun q : Nat => s.heap.size ≤ q) q := fun q h => by have h1 := mA_in h; show s.heap.size ≤ q; omega
  refine lv_aload_n hx hb dL_law_378 rfl (lv_at hl 3 rfl) ?_
  refine lv_aload_n hx hb dL_law_379 rfl (lv_at hl 4 rfl) ?_
  refine lv_iload hx hb dL_law_380 (lv_at hl 0 rfl) ?_
  refine lv_iconst (v := nI (1)) hx hb dL_law_382 (by decide) ?_
  refine n_add (x := i) (y := 1) hx hb dL_law_383 ?_
  refine l_sld hx hb hX hbl hbA hS (j := i + 1) (by omega) hL31 dL_law_384 ?_
  refine lv_aload_n hx hb dL_law_385 rfl (lv_at hl 1 rfl) ?_
  refine l_wrap (As := [.ref (o), .int (xs (i + 1)), .ref (qo)]) (rest := []) ⟨hx, hb, hml, hown, hts⟩ (lc_fire l hl0 G ids tS tE o z qo (by omega) ho4 σ (xs (i + 1))) (vx_cwSW 3 hts gL_law_L_fire rfl rfl rfl (by decide +kernel) ⟨Nat.le_of_ble_eq_true rfl, Nat.le_of_ble_eq_true rfl⟩) hK hZ hN ho1 ho2 ho3 ho4 hP hO hW hS rfl hl.1 rfl (Nat.le_of_ble_eq_true rfl) dL_law_386 ⟨by show cells + 2 ≤ 601024; omega, by show slots + 12 ≤ 7293034; omega⟩ (fun H locs hP hO hW hS => ?_)
  refine lv_istore (lv' := [(5, .int (nI (lC [1, 3] (kx_fire σ (xs (i + 1)))))), (4, .int (nI (i))), (3, .ref (qo)), (2, .ref (r)), (1, .ref (o)), (0, .ref (b))]) hx hb dL_law_389 hl (by decide) rfl (fun ls hl => ?_)
  refine lv_aload_n hx hb dL_law_391 rfl (lv_at hl 3 rfl) ?_
  refine lv_aload_n hx hb dL_law_392 rfl (lv_at hl 5 rfl) ?_
  refine lv_iload hx hb dL_law_393 (lv_at hl 1 rfl) ?_
  refine lv_iconst (v := nI (1)) hx hb dL_law_395 (by decide) ?_
  refine n_add (x := i) (y := 1) hx hb dL_law_396 ?_
  refine l_sld hx hb hX hbl hbA hS (j := i + 1) (by omega) hL31 dL_law_397 ?_
  refine m_callI (As := [.int (xs (i + 1))]) (rest := []) hA0 ⟨hx, hb, hml, hown, hts⟩ (cm_fire l G (ids 0) (ids 1) (aM r) μ (xs (i + 1))) (cwV 1 hts gL_law_X6_fire rfl rfl rfl (by decide +kernel) ⟨Nat.le_of_ble_eq_true rfl, Nat.le_of_ble_eq_true rfl⟩) hKm hW (aM_DA r (ids 0) (ids 1) μ) hS rfl hl.1 rfl (Nat.le_of_ble_eq_true rfl) dL_law_398 ⟨by show (cells + 2) ≤ 601024; omega, by show (slots + 12) ≤ 7293034; omega⟩ (fun H1 locs1 hW1 _ _ hk hS1 => ?_)
  obtain ⟨hP1, hO1⟩ := l_keep ho2 ho3 ho4 hP hO hk
  clear hk
  refine lv_istore (lv' := [(6, .int (m_fire μ (xs (i + 1)))), (5, .int (nI (lC [1, 3] (kx_fire σ (xs (i + 1)))))), (4, .int (nI (i))), (3, .ref (qo)), (2, .ref (r)), (1, .ref (o)), (0, .ref (b))]) hx hb dL_law_401 hl (by decide) rfl (fun ls hl => ?_)
  refine lv_aload_n hx hb dL_law_403 rfl (lv_at hl 4 rfl) ?_
  refine m_callI (As := []) (rest := []) hA0 ⟨hx, hb, hml, hown, hts⟩ (cm_thrown l G (ids 0) (ids 1) (aM r) (m_fire_s μ (xs (i + 1)))) (cwV 0 hts gL_law_X6_thrown rfl rfl rfl (by decide +kernel) ⟨Nat.le_of_ble_eq_true rfl, Nat.le_of_ble_eq_true rfl⟩) hKm hW1 (aM_DA r (ids 0) (ids 1) (m_fire_s μ (xs (i + 1)))) hS1 rfl hl.1 rfl (Nat.le_of_ble_eq_true rfl) dL_law_404 ⟨by show (cells + 2) ≤ 601024; omega, by show (slots + 12) ≤ 7293034; omega⟩ (fun H2 locs2 hW2 _ _ hk hS2 => ?_)
  obtain ⟨hP2, hO2⟩ := l_keep ho2 ho3 ho4 hP1 hO1 hk
  clear hk
  refine lv_iload hx hb dL_law_407 (lv_at hl 1 rfl) ?_
  refine lv_icmp_eq (x := (m_thrown (m_fire_s μ (xs (i + 1))))) (y := (nI (lC [1, 3] (kx_fire σ (xs (i + 1)))))) (tgt := 414) hx hb dL_law_409 (by decide) (fun _ => ?_) (fun c9 => absurd hp1 c9)
  refine lv_iload hx hb dL_law_414 (lv_at hl 1 rfl) ?_
  refine lv_if_ne (x := (nI (lC [1, 3] (kx_fire σ (xs (i + 1)))))) (tgt := 431) hx hb dL_law_416 (by decide) (fun _ => ?_) (fun c9 => ?_)
  · refine lv_goto (tgt := 1334) hx hb dL_law_431 (by decide) ?_
    exact W.widen (by omega) (by omega) (kk _ _ _ hP2 (hO2.imp (fun v h => h.1)) hW2 hS2 (lv_sub hl [2, 3, 4, 5, 6] rfl))
  · have hX0 : (kx_fire σ (xs (i + 1))) = 0 := lC_c (S := [1, 3]) (by decide) (kxK_fire σ (xs (i + 1))) c9
    obtain ⟨v9, hv9, hg9⟩ := hO2
    have hg := hg9 hX0
    dsimp only at hg
    rw [hp2 hX0] at hg
    subst hg
    obtain ⟨f9, hf9, hf0⟩ := hv9
    refine lv_aload_n hx hb dL_law_419 rfl (lv_at hl 3 rfl) ?_
    refine lv_iconst (v := nI (0)) hx hb dL_law_420 (by decide) ?_
    refine x_lald (v := (m_fire μ (xs (i + 1))).toInt64) hx hb hK hf9 (j := nI 0) (vp_in_nI (by decide) (by decide)) (by rw [nI_clamp (by decide)]; exact hf0) dL_law_421 ?_
    refine lv_iload hx hb dL_law_422 (lv_at hl 0 rfl) ?_
    refine lv_i2l (v := (m_fire μ (xs (i + 1))).toInt64) hx hb dL_law_424 rfl ?_
    refine W.lcmp hx hb dL_law_425 ?_
    refine lv_if_eq (tgt := 431) hx hb dL_law_426 (by decide) (fun _ => ?_) (fun c9 => absurd (lcmp_self _) c9)
    refine lv_goto (tgt := 1334) hx hb dL_law_431 (by decide) ?_
    exact W.widen (by omega) (by omega) (kk _ _ _ hP2 ⟨_, f9, hf9, hf0⟩ hW2 hS2 (lv_sub hl [2, 3, 4, 5, 6] rfl))
set_option maxHeartbeats 4000000 in
set_option maxRecDepth 100000 in
theorem law_breach {p : Program} {l : Launch} {e : Env} {s : State} {m : MethodId} {below : List Frame} {meth : Method} {c : Code} {b L : Nat} {xs : Nat → Int32} {G : va_G} {ids : Nat → ClassId} {tS tE o r qo z : Nat} (C0 : lX p l s m meth c b L xs G ids tS tE o r qo z) {cells slots i : Nat} {H : Heap} {locs : List Loc} {ls : Array Slot} {Q : State → Prop} {σ μ : Sg} (hi : i + 7 ≤ L) (hc : cells + 10 ≤ 601024) (hs : slots + 4000 ≤ 7293034)
    (hP : lPic G ids o z tE σ H) (hO : ∃ v, lOut G ids qo v H) (hW : va_P G vwCl (wm (ids 0) (ids 1) (aM r) μ) H) (hS : va_S (fun q => s.heap.size ≤ q) s.heap H locs) (hl : lv_has ls 8 [(4, .int (nI (i))), (3, .ref (qo)), (2, .ref (r)), (1, .ref (o)), (0, .ref (b))])
    (hMO : mOK μ) (hp1 : (m_breach_s μ (xs (i + 1))).1 0 0 = nI (lC [1, 3] (kx_breach σ (xs (i + 1))))) (hp2 : (kx_breach σ (xs (i + 1))) = 0 → (k_breach σ (xs (i + 1))) = (m_breach μ (xs (i + 1))))
    (kk : ∀ (H1 : Heap) (locs1 : List Loc) (ls1 : Array Slot), lPic G ids o z tE (if (kx_breach σ (xs (i + 1))) = 0 then (k_breach_s σ (xs (i + 1))) else σ) H1 → (∃ v, lOut G ids qo v H1) → va_P G vwCl (wm (ids 0) (ids 1) (aM r) (m_breach_s μ (xs (i + 1)))) H1 → va_S (fun q => s.heap.size ≤ q) s.heap H1 locs1 → lv_has ls1 8 [(4, .int (nI (i))), (3, .ref (qo)), (2, .ref (r)), (1, .ref (o)), (0, .ref (b))] → W p l e room_1 s m #[Value.ref b] below meth c H1 locs1 (cells + 10) (slots + 4000) Q (F0 m 1334 ls1 [])) : W p l e room_1 s m #[Value.ref b] below meth c H locs cells slots Q (F0 m 434 ls []) := by
  obtain ⟨hx, hb, hml, hown, hts, hX, hbl, hl0, hK, hZ, hN, ho1, ho2, ho3, ho4, hL⟩ := C0
  have hbA : ¬ (fun q : Nat => s.heap.size ≤ q) b := Nat.not_le.mpr hbl
  have hL31 : L < 2 ^ 31 := by omega
  have hKm : va_K G vwCl (mTy (ids 0) (ids 1)) s := hK.sub [0, 1] rfl
  have hA0 : ∀ q, mA (aM r) q → (fun q : Nat => s.heap.size ≤ q) q := fun q h => by have h1 := mA_in h; show s.heap.size ≤ q; omega
  refine lv_aload_n hx hb dL_law_434 rfl (lv_at hl 3 rfl) ?_
  refine lv_aload_n hx hb dL_law_435 rfl (lv_at hl 4 rfl) ?_
  refine lv_iload hx hb dL_law_436 (lv_at hl 0 rfl) ?_
  refine lv_iconst (v := nI (1)) hx hb dL_law_438 (by decide) ?_
  refine n_add (x := i) (y := 1) hx hb dL_law_439 ?_
  refine l_sld hx hb hX hbl hbA hS (j := i + 1) (by omega) hL31 dL_law_440 ?_
  refine lv_aload_n hx hb dL_law_441 rfl (lv_at hl 1 rfl) ?_
  refine l_wrap (As := [.ref (o), .int (xs (i + 1)), .ref (qo)]) (rest := []) ⟨hx, hb, hml, hown, hts⟩ (lc_breach l hl0 G ids tS tE o z qo (by omega) ho4 σ (xs (i + 1))) (vx_cwSW 3 hts gL_law_L_breach rfl rfl rfl (by decide +kernel) ⟨Nat.le_of_ble_eq_true rfl, Nat.le_of_ble_eq_true rfl⟩) hK hZ hN ho1 ho2 ho3 ho4 hP hO hW hS rfl hl.1 rfl (Nat.le_of_ble_eq_true rfl) dL_law_442 ⟨by show cells + 2 ≤ 601024; omega, by show slots + 12 ≤ 7293034; omega⟩ (fun H locs hP hO hW hS => ?_)
  refine lv_istore (lv' := [(5, .int (nI (lC [1, 3] (kx_breach σ (xs (i + 1)))))), (4, .int (nI (i))), (3, .ref (qo)), (2, .ref (r)), (1, .ref (o)), (0, .ref (b))]) hx hb dL_law_445 hl (by decide) rfl (fun ls hl => ?_)
  refine lv_aload_n hx hb dL_law_447 rfl (lv_at hl 3 rfl) ?_
  refine lv_aload_n hx hb dL_law_448 rfl (lv_at hl 5 rfl) ?_
  refine lv_iload hx hb dL_law_449 (lv_at hl 1 rfl) ?_
  refine lv_iconst (v := nI (1)) hx hb dL_law_451 (by decide) ?_
  refine n_add (x := i) (y := 1) hx hb dL_law_452 ?_
  refine l_sld hx hb hX hbl hbA hS (j := i + 1) (by omega) hL31 dL_law_453 ?_
  refine m_callI (As := [.int (xs (i + 1))]) (rest := []) hA0 ⟨hx, hb, hml, hown, hts⟩ (cm_breach l G (ids 0) (ids 1) (aM r) μ (xs (i + 1))) (cwV 1 hts gL_law_X6_breach rfl rfl rfl (by decide +kernel) ⟨Nat.le_of_ble_eq_true rfl, Nat.le_of_ble_eq_true rfl⟩) hKm hW (aM_DA r (ids 0) (ids 1) μ) hS rfl hl.1 rfl (Nat.le_of_ble_eq_true rfl) dL_law_454 ⟨by show (cells + 2) ≤ 601024; omega, by show (slots + 12) ≤ 7293034; omega⟩ (fun H1 locs1 hW1 _ _ hk hS1 => ?_)
  obtain ⟨hP1, hO1⟩ := l_keep ho2 ho3 ho4 hP hO hk
  clear hk
  refine lv_istore (lv' := [(6, .int (m_breach μ (xs (i + 1)))), (5, .int (nI (lC [1, 3] (kx_breach σ (xs (i + 1)))))), (4, .int (nI (i))), (3, .ref (qo)), (2, .ref (r)), (1, .ref (o)), (0, .ref (b))]) hx hb dL_law_457 hl (by decide) rfl (fun ls hl => ?_)
  refine lv_aload_n hx hb dL_law_459 rfl (lv_at hl 4 rfl) ?_
  refine m_callI (As := []) (rest := []) hA0 ⟨hx, hb, hml, hown, hts⟩ (cm_thrown l G (ids 0) (ids 1) (aM r) (m_breach_s μ (xs (i + 1)))) (cwV 0 hts gL_law_X6_thrown rfl rfl rfl (by decide +kernel) ⟨Nat.le_of_ble_eq_true rfl, Nat.le_of_ble_eq_true rfl⟩) hKm hW1 (aM_DA r (ids 0) (ids 1) (m_breach_s μ (xs (i + 1)))) hS1 rfl hl.1 rfl (Nat.le_of_ble_eq_true rfl) dL_law_460 ⟨by show (cells + 2) ≤ 601024; omega, by show (slots + 12) ≤ 7293034; omega⟩ (fun H2 locs2 hW2 _ _ hk hS2 => ?_)
  obtain ⟨hP2, hO2⟩ := l_keep ho2 ho3 ho4 hP1 hO1 hk
  clear hk
  refine lv_iload hx hb dL_law_463 (lv_at hl 1 rfl) ?_
  refine lv_icmp_eq (x := (m_thrown (m_breach_s μ (xs (i + 1))))) (y := (nI (lC [1, 3] (kx_breach σ (xs (i + 1)))))) (tgt := 470) hx hb dL_law_465 (by decide) (fun _ => ?_) (fun c9 => absurd hp1 c9)
  refine lv_iload hx hb dL_law_470 (lv_at hl 1 rfl) ?_
  refine lv_if_ne (x := (nI (lC [1, 3] (kx_breach σ (xs (i + 1)))))) (tgt := 487) hx hb dL_law_472 (by decide) (fun _ => ?_) (fun c9 => ?_)
  · refine lv_goto (tgt := 1334) hx hb dL_law_487 (by decide) ?_
    exact W.widen (by omega) (by omega) (kk _ _ _ hP2 (hO2.imp (fun v h => h.1)) hW2 hS2 (lv_sub hl [2, 3, 4, 5, 6] rfl))
  · have hX0 : (kx_breach σ (xs (i + 1))) = 0 := lC_c (S := [1, 3]) (by decide) (kxK_breach σ (xs (i + 1))) c9
    obtain ⟨v9, hv9, hg9⟩ := hO2
    have hg := hg9 hX0
    dsimp only at hg
    rw [hp2 hX0] at hg
    subst hg
    obtain ⟨f9, hf9, hf0⟩ := hv9
    refine lv_aload_n hx hb dL_law_475 rfl (lv_at hl 3 rfl) ?_
    refine lv_iconst (v := nI (0)) hx hb dL_law_476 (by decide) ?_
    refine x_lald (v := (m_breach μ (xs (i + 1))).toInt64) hx hb hK hf9 (j := nI 0) (vp_in_nI (by decide) (by decide)) (by rw [nI_clamp (by decide)]; exact hf0) dL_law_477 ?_
    refine lv_iload hx hb dL_law_478 (lv_at hl 0 rfl) ?_
    refine lv_i2l (v := (m_breach μ (xs (i + 1))).toInt64) hx hb dL_law_480 rfl ?_
    refine W.lcmp hx hb dL_law_481 ?_
    refine lv_if_eq (tgt := 487) hx hb dL_law_482 (by decide) (fun _ => ?_) (fun c9 => absurd (lcmp_self _) c9)
    refine lv_goto (tgt := 1334) hx hb dL_law_487 (by decide) ?_
    exact W.widen (by omega) (by omega) (kk _ _ _ hP2 ⟨_, f9, hf9, hf0⟩ hW2 hS2 (lv_sub hl [2, 3, 4, 5, 6] rfl))
set_option maxHeartbeats 4000000 in
set_option maxRecDepth 100000 in
theorem law_house {p : Program} {l : Launch} {e : Env} {s : State} {m : MethodId} {below : List Frame} {meth : Method} {c : Code} {b L : Nat} {xs : Nat → Int32} {G : va_G} {ids : Nat → ClassId} {tS tE o r qo z : Nat} (C0 : lX p l s m meth c b L xs G ids tS tE o r qo z) {cells slots i : Nat} {H : Heap} {locs : List Loc} {ls : Array Slot} {Q : State → Prop} {σ μ : Sg} {ic : Int32} (hi : i + 7 ≤ L) (hc : cells + 10 ≤ 601024) (hs : slots + 4000 ≤ 7293034)
    (hP : lPic G ids o z tE σ H) (hO : ∃ v, lOut G ids qo v H) (hW : va_P G vwCl (wm (ids 0) (ids 1) (aM r) μ) H) (hS : va_S (fun q => s.heap.size ≤ q) s.heap H locs) (hl : lv_has ls 8 [(4, .int (nI (i))), (3, .ref (qo)), (2, .ref (r)), (1, .ref (o)), (0, .ref (b))])
    (hMO : mOK μ) (hO : cOK σ) (hC : cCl σ) (hp1 : (m_house_s μ (xs (i + 1)) (xs (i + 2)) ic).1 0 0 = nI (lC [1, 3] (kx_house σ (xs (i + 1)) (xs (i + 2)) ic))) (hp2 : (kx_house σ (xs (i + 1)) (xs (i + 2)) ic) = 0 → (k_house σ (xs (i + 1)) (xs (i + 2)) ic) = (m_house μ (xs (i + 1)) (xs (i + 2)) ic)) (hic0 : xs (i + 3) = 0 → ic = nI 0) (hic1 : ¬ xs (i + 3) = 0 → ic = nI 1)
    (kk : ∀ (H1 : Heap) (locs1 : List Loc) (ls1 : Array Slot), lPic G ids o z tE (if (kx_house σ (xs (i + 1)) (xs (i + 2)) ic) = 0 then (k_house_s σ (xs (i + 1)) (xs (i + 2)) ic) else σ) H1 → (∃ v, lOut G ids qo v H1) → va_P G vwCl (wm (ids 0) (ids 1) (aM r) (m_house_s μ (xs (i + 1)) (xs (i + 2)) ic)) H1 → va_S (fun q => s.heap.size ≤ q) s.heap H1 locs1 → lv_has ls1 8 [(4, .int (nI (i))), (3, .ref (qo)), (2, .ref (r)), (1, .ref (o)), (0, .ref (b))] → W p l e room_1 s m #[Value.ref b] below meth c H1 locs1 (cells + 10) (slots + 4000) Q (F0 m 1334 ls1 [])) : W p l e room_1 s m #[Value.ref b] below meth c H locs cells slots Q (F0 m 490 ls []) := by
  obtain ⟨hx, hb, hml, hown, hts, hX, hbl, hl0, hK, hZ, hN, ho1, ho2, ho3, ho4, hL⟩ := C0
  have hbA : ¬ (fun q : Nat => s.heap.size ≤ q) b := Nat.not_le.mpr hbl
  have hL31 : L < 2 ^ 31 := by omega
  have hKm : va_K G vwCl (mTy (ids 0) (ids 1)) s := hK.sub [0, 1] rfl
  have hA0 : ∀ q, mA (aM r) q → (fun q : Nat => s.heap.size ≤ q) q := fun q h => by have h1 := mA_in h; show s.heap.size ≤ q; omega
  have hz : ic = 0 ∨ ic = 1 := by
    by_cases q : xs (i + 3) = 0
    · exact Or.inl (hic0 q)
    · exact Or.inr (hic1 q)
  refine lv_aload_n hx hb dL_law_490 rfl (lv_at hl 3 rfl) ?_
  refine lv_aload_n hx hb dL_law_491 rfl (lv_at hl 4 rfl) ?_
  refine lv_iload hx hb dL_law_492 (lv_at hl 0 rfl) ?_
  refine lv_iconst (v := nI (1)) hx hb dL_law_494 (by decide) ?_
  refine n_add (x := i) (y := 1) hx hb dL_law_495 ?_
  refine l_sld hx hb hX hbl hbA hS (j := i + 1) (by omega) hL31 dL_law_496 ?_
  refine lv_aload_n hx hb dL_law_497 rfl (lv_at hl 4 rfl) ?_
  refine lv_iload hx hb dL_law_498 (lv_at hl 0 rfl) ?_
  refine lv_iconst (v := nI (2)) hx hb dL_law_500 (by decide) ?_
  refine n_add (x := i) (y := 2) hx hb dL_law_501 ?_
  refine l_sld hx hb hX hbl hbA hS (j := i + 2) (by omega) hL31 dL_law_502 ?_
  refine lv_aload_n hx hb dL_law_503 rfl (lv_at hl 4 rfl) ?_
  refine lv_iload hx hb dL_law_504 (lv_at hl 0 rfl) ?_
  refine lv_iconst (v := nI (3)) hx hb dL_law_506 (by decide) ?_
  refine n_add (x := i) (y := 3) hx hb dL_law_507 ?_
  refine l_sld hx hb hX hbl hbA hS (j := i + 3) (by omega) hL31 dL_law_508 ?_
  have J517 : W p l e room_1 s m #[Value.ref b] below meth c H locs cells slots Q (F0 m 517 ls [.int (ic), .int (xs (i + 2)), .int (xs (i + 1)), .ref (o)]) := by
    refine lv_aload_n hx hb dL_law_517 rfl (lv_at hl 1 rfl) ?_
    refine l_wrap (As := [.ref (o), .int (xs (i + 1)), .int (xs (i + 2)), .int (ic), .ref (qo)]) (rest := []) ⟨hx, hb, hml, hown, hts⟩ (lc_house l hl0 G ids tS tE o z qo (by omega) ho4 σ (xs (i + 1)) (xs (i + 2)) ic hO hC hz) (vx_cwSW 5 hts gL_law_L_house rfl rfl rfl (by decide +kernel) ⟨Nat.le_of_ble_eq_true rfl, Nat.le_of_ble_eq_true rfl⟩) hK hZ hN ho1 ho2 ho3 ho4 hP hO hW hS rfl hl.1 rfl (Nat.le_of_ble_eq_true rfl) dL_law_518 ⟨by show cells + 5 ≤ 601024; omega, by show slots + 83 ≤ 7293034; omega⟩ (fun H locs hP hO hW hS => ?_)
    refine lv_istore (lv' := [(5, .int (nI (lC [1, 3] (kx_house σ (xs (i + 1)) (xs (i + 2)) ic)))), (4, .int (nI (i))), (3, .ref (qo)), (2, .ref (r)), (1, .ref (o)), (0, .ref (b))]) hx hb dL_law_521 hl (by decide) rfl (fun ls hl => ?_)
    refine lv_aload_n hx hb dL_law_523 rfl (lv_at hl 3 rfl) ?_
    refine lv_aload_n hx hb dL_law_524 rfl (lv_at hl 5 rfl) ?_
    refine lv_iload hx hb dL_law_525 (lv_at hl 1 rfl) ?_
    refine lv_iconst (v := nI (1)) hx hb dL_law_527 (by decide) ?_
    refine n_add (x := i) (y := 1) hx hb dL_law_528 ?_
    refine l_sld hx hb hX hbl hbA hS (j := i + 1) (by omega) hL31 dL_law_529 ?_
    refine lv_aload_n hx hb dL_law_530 rfl (lv_at hl 5 rfl) ?_
    refine lv_iload hx hb dL_law_531 (lv_at hl 1 rfl) ?_
    refine lv_iconst (v := nI (2)) hx hb dL_law_533 (by decide) ?_
    refine n_add (x := i) (y := 2) hx hb dL_law_534 ?_
    refine l_sld hx hb hX hbl hbA hS (j := i + 2) (by omega) hL31 dL_law_535 ?_
    refine lv_aload_n hx hb dL_law_536 rfl (lv_at hl 5 rfl) ?_
    refine lv_iload hx hb dL_law_537 (lv_at hl 1 rfl) ?_
    refine lv_iconst (v := nI (3)) hx hb dL_law_539 (by decide) ?_
    refine n_add (x := i) (y := 3) hx hb dL_law_540 ?_
    refine l_sld hx hb hX hbl hbA hS (j := i + 3) (by omega) hL31 dL_law_541 ?_
    have J550 : W p l e room_1 s m #[Value.ref b] below meth c H locs (cells + 5) (slots + 83) Q (F0 m 550 ls [.int (ic), .int (xs (i + 2)), .int (xs (i + 1)), .ref (r)]) := by
      refine m_callI (As := [.int (xs (i + 1)), .int (xs (i + 2)), .int (ic)]) (rest := []) hA0 ⟨hx, hb, hml, hown, hts⟩ (cm_house l G (ids 0) (ids 1) (aM r) μ (xs (i + 1)) (xs (i + 2)) ic hMO) (cwV 3 hts gL_law_X6_house rfl rfl rfl (by decide +kernel) ⟨Nat.le_of_ble_eq_true rfl, Nat.le_of_ble_eq_true rfl⟩) hKm hW (aM_DA r (ids 0) (ids 1) μ) hS rfl hl.1 rfl (Nat.le_of_ble_eq_true rfl) dL_law_550 ⟨by show (cells + 5) ≤ 601024; omega, by show (slots + 83) ≤ 7293034; omega⟩ (fun H1 locs1 hW1 _ _ hk hS1 => ?_)
      obtain ⟨hP1, hO1⟩ := l_keep ho2 ho3 ho4 hP hO hk
      clear hk
      refine lv_istore (lv' := [(6, .int (m_house μ (xs (i + 1)) (xs (i + 2)) ic)), (5, .int (nI (lC [1, 3] (kx_house σ (xs (i + 1)) (xs (i + 2)) ic)))), (4, .int (nI (i))), (3, .ref (qo)), (2, .ref (r)), (1, .ref (o)), (0, .ref (b))]) hx hb dL_law_553 hl (by decide) rfl (fun ls hl => ?_)
      refine lv_aload_n hx hb dL_law_555 rfl (lv_at hl 4 rfl) ?_
      refine m_callI (As := []) (rest := []) hA0 ⟨hx, hb, hml, hown, hts⟩ (cm_thrown l G (ids 0) (ids 1) (aM r) (m_house_s μ (xs (i + 1)) (xs (i + 2)) ic)) (cwV 0 hts gL_law_X6_thrown rfl rfl rfl (by decide +kernel) ⟨Nat.le_of_ble_eq_true rfl, Nat.le_of_ble_eq_true rfl⟩) hKm hW1 (aM_DA r (ids 0) (ids 1) (m_house_s μ (xs (i + 1)) (xs (i + 2)) ic)) hS1 rfl hl.1 rfl (Nat.le_of_ble_eq_true rfl) dL_law_556 ⟨by show (cells + 5) ≤ 601024; omega, by show (slots + 83) ≤ 7293034; omega⟩ (fun H2 locs2 hW2 _ _ hk hS2 => ?_)
      obtain ⟨hP2, hO2⟩ := l_keep ho2 ho3 ho4 hP1 hO1 hk
      clear hk
      refine lv_iload hx hb dL_law_559 (lv_at hl 1 rfl) ?_
      refine lv_icmp_eq (x := (m_thrown (m_house_s μ (xs (i + 1)) (xs (i + 2)) ic))) (y := (nI (lC [1, 3] (kx_house σ (xs (i + 1)) (xs (i + 2)) ic)))) (tgt := 566) hx hb dL_law_561 (by decide) (fun _ => ?_) (fun c9 => absurd hp1 c9)
      refine lv_iload hx hb dL_law_566 (lv_at hl 1 rfl) ?_
      refine lv_if_ne (x := (nI (lC [1, 3] (kx_house σ (xs (i + 1)) (xs (i + 2)) ic)))) (tgt := 583) hx hb dL_law_568 (by decide) (fun _ => ?_) (fun c9 => ?_)
      · refine lv_goto (tgt := 1334) hx hb dL_law_583 (by decide) ?_
        exact W.widen (by omega) (by omega) (kk _ _ _ hP2 (hO2.imp (fun v h => h.1)) hW2 hS2 (lv_sub hl [2, 3, 4, 5, 6] rfl))
      · have hX0 : (kx_house σ (xs (i + 1)) (xs (i + 2)) ic) = 0 := lC_c (S := [1, 3]) (by decide) (kxK_house σ (xs (i + 1)) (xs (i + 2)) ic) c9
        obtain ⟨v9, hv9, hg9⟩ := hO2
        have hg := hg9 hX0
        dsimp only at hg
        rw [hp2 hX0] at hg
        subst hg
        obtain ⟨f9, hf9, hf0⟩ := hv9
        refine lv_aload_n hx hb dL_law_571 rfl (lv_at hl 3 rfl) ?_
        refine lv_iconst (v := nI (0)) hx hb dL_law_572 (by decide) ?_
        refine x_lald (v := (m_house μ (xs (i + 1)) (xs (i + 2)) ic).toInt64) hx hb hK hf9 (j := nI 0) (vp_in_nI (by decide) (by decide)) (by rw [nI_clamp (by decide)]; exact hf0) dL_law_573 ?_
        refine lv_iload hx hb dL_law_574 (lv_at hl 0 rfl) ?_
        refine lv_i2l (v := (m_house μ (xs (i + 1)) (xs (i + 2)) ic).toInt64) hx hb dL_law_576 rfl ?_
        refine W.lcmp hx hb dL_law_577 ?_
        refine lv_if_eq (tgt := 583) hx hb dL_law_578 (by decide) (fun _ => ?_) (fun c9 => absurd (lcmp_self _) c9)
        refine lv_goto (tgt := 1334) hx hb dL_law_583 (by decide) ?_
        exact W.widen (by omega) (by omega) (kk _ _ _ hP2 ⟨_, f9, hf9, hf0⟩ hW2 hS2 (lv_sub hl [2, 3, 4, 5, 6] rfl))
    refine lv_if_eq (x := xs (i + 3)) (tgt := 549) hx hb dL_law_542 (by decide) (fun c9 => ?_) (fun c9 => ?_)
    · refine lv_iconst (v := nI 0) hx hb dL_law_549 (by decide) ?_
      exact W.eq (g2 := F0 m 550 ls (.int ic :: .int (xs (i + 2)) :: .int (xs (i + 1)) :: .ref (r) :: [])) (by rw [hic0 c9]) J550
    · refine lv_iconst (v := nI 1) hx hb dL_law_545 (by decide) ?_
      refine lv_goto (tgt := 550) hx hb dL_law_546 (by decide) ?_
      exact W.eq (g2 := F0 m 550 ls (.int ic :: .int (xs (i + 2)) :: .int (xs (i + 1)) :: .ref (r) :: [])) (by rw [hic1 c9]) J550
  refine lv_if_eq (x := xs (i + 3)) (tgt := 516) hx hb dL_law_509 (by decide) (fun c9 => ?_) (fun c9 => ?_)
  · refine lv_iconst (v := nI 0) hx hb dL_law_516 (by decide) ?_
    exact W.eq (g2 := F0 m 517 ls (.int ic :: .int (xs (i + 2)) :: .int (xs (i + 1)) :: .ref (o) :: [])) (by rw [hic0 c9]) J517
  · refine lv_iconst (v := nI 1) hx hb dL_law_512 (by decide) ?_
    refine lv_goto (tgt := 517) hx hb dL_law_513 (by decide) ?_
    exact W.eq (g2 := F0 m 517 ls (.int ic :: .int (xs (i + 2)) :: .int (xs (i + 1)) :: .ref (o) :: [])) (by rw [hic1 c9]) J517
set_option maxHeartbeats 4000000 in
set_option maxRecDepth 100000 in
theorem law_borehole {p : Program} {l : Launch} {e : Env} {s : State} {m : MethodId} {below : List Frame} {meth : Method} {c : Code} {b L : Nat} {xs : Nat → Int32} {G : va_G} {ids : Nat → ClassId} {tS tE o r qo z : Nat} (C0 : lX p l s m meth c b L xs G ids tS tE o r qo z) {cells slots i : Nat} {H : Heap} {locs : List Loc} {ls : Array Slot} {Q : State → Prop} {σ μ : Sg} (hi : i + 7 ≤ L) (hc : cells + 10 ≤ 601024) (hs : slots + 4000 ≤ 7293034)
    (hP : lPic G ids o z tE σ H) (hO : ∃ v, lOut G ids qo v H) (hW : va_P G vwCl (wm (ids 0) (ids 1) (aM r) μ) H) (hS : va_S (fun q => s.heap.size ≤ q) s.heap H locs) (hl : lv_has ls 8 [(4, .int (nI (i))), (3, .ref (qo)), (2, .ref (r)), (1, .ref (o)), (0, .ref (b))])
    (hMO : mOK μ) (hO : cOK σ) (hp1 : (m_borehole_s μ (xs (i + 1)) (xs (i + 2))).1 0 0 = nI (lC [1, 2, 3] (kx_borehole σ (xs (i + 1)) (xs (i + 2))))) (hp2 : (kx_borehole σ (xs (i + 1)) (xs (i + 2))) = 0 → (k_borehole σ (xs (i + 1)) (xs (i + 2))) = (m_borehole μ (xs (i + 1)) (xs (i + 2))))
    (kk : ∀ (H1 : Heap) (locs1 : List Loc) (ls1 : Array Slot), lPic G ids o z tE (if (kx_borehole σ (xs (i + 1)) (xs (i + 2))) = 0 then (k_borehole_s σ (xs (i + 1)) (xs (i + 2))) else σ) H1 → (∃ v, lOut G ids qo v H1) → va_P G vwCl (wm (ids 0) (ids 1) (aM r) (m_borehole_s μ (xs (i + 1)) (xs (i + 2)))) H1 → va_S (fun q => s.heap.size ≤ q) s.heap H1 locs1 → lv_has ls1 8 [(4, .int (nI (i))), (3, .ref (qo)), (2, .ref (r)), (1, .ref (o)), (0, .ref (b))] → W p l e room_1 s m #[Value.ref b] below meth c H1 locs1 (cells + 10) (slots + 4000) Q (F0 m 1334 ls1 [])) : W p l e room_1 s m #[Value.ref b] below meth c H locs cells slots Q (F0 m 586 ls []) := by
  obtain ⟨hx, hb, hml, hown, hts, hX, hbl, hl0, hK, hZ, hN, ho1, ho2, ho3, ho4, hL⟩ := C0
  have hbA : ¬ (fun q : Nat => s.heap.size ≤ q) b := Nat.not_le.mpr hbl
  have hL31 : L < 2 ^ 31 := by omega
  have hKm : va_K G vwCl (mTy (ids 0) (ids 1)) s := hK.sub [0, 1] rfl
  have hA0 : ∀ q, mA (aM r) q → (fun q : Nat => s.heap.size ≤ q) q := fun q h => by have h1 := mA_in h; show s.heap.size ≤ q; omega
  refine lv_aload_n hx hb dL_law_586 rfl (lv_at hl 3 rfl) ?_
  refine lv_aload_n hx hb dL_law_587 rfl (lv_at hl 4 rfl) ?_
  refine lv_iload hx hb dL_law_588 (lv_at hl 0 rfl) ?_
  refine lv_iconst (v := nI (1)) hx hb dL_law_590 (by decide) ?_
  refine n_add (x := i) (y := 1) hx hb dL_law_591 ?_
  refine l_sld hx hb hX hbl hbA hS (j := i + 1) (by omega) hL31 dL_law_592 ?_
  refine lv_aload_n hx hb dL_law_593 rfl (lv_at hl 4 rfl) ?_
  refine lv_iload hx hb dL_law_594 (lv_at hl 0 rfl) ?_
  refine lv_iconst (v := nI (2)) hx hb dL_law_596 (by decide) ?_
  refine n_add (x := i) (y := 2) hx hb dL_law_597 ?_
  refine l_sld hx hb hX hbl hbA hS (j := i + 2) (by omega) hL31 dL_law_598 ?_
  refine lv_aload_n hx hb dL_law_599 rfl (lv_at hl 1 rfl) ?_
  refine l_wrap (As := [.ref (o), .int (xs (i + 1)), .int (xs (i + 2)), .ref (qo)]) (rest := []) ⟨hx, hb, hml, hown, hts⟩ (lc_borehole l hl0 G ids tS tE o z qo (by omega) ho4 σ (xs (i + 1)) (xs (i + 2)) hO) (vx_cwSW 4 hts gL_law_L_borehole rfl rfl rfl (by decide +kernel) ⟨Nat.le_of_ble_eq_true rfl, Nat.le_of_ble_eq_true rfl⟩) hK hZ hN ho1 ho2 ho3 ho4 hP hO hW hS rfl hl.1 rfl (Nat.le_of_ble_eq_true rfl) dL_law_600 ⟨by show cells + 6 ≤ 601024; omega, by show slots + 3083 ≤ 7293034; omega⟩ (fun H locs hP hO hW hS => ?_)
  refine lv_istore (lv' := [(5, .int (nI (lC [1, 2, 3] (kx_borehole σ (xs (i + 1)) (xs (i + 2)))))), (4, .int (nI (i))), (3, .ref (qo)), (2, .ref (r)), (1, .ref (o)), (0, .ref (b))]) hx hb dL_law_603 hl (by decide) rfl (fun ls hl => ?_)
  refine lv_aload_n hx hb dL_law_605 rfl (lv_at hl 3 rfl) ?_
  refine lv_aload_n hx hb dL_law_606 rfl (lv_at hl 5 rfl) ?_
  refine lv_iload hx hb dL_law_607 (lv_at hl 1 rfl) ?_
  refine lv_iconst (v := nI (1)) hx hb dL_law_609 (by decide) ?_
  refine n_add (x := i) (y := 1) hx hb dL_law_610 ?_
  refine l_sld hx hb hX hbl hbA hS (j := i + 1) (by omega) hL31 dL_law_611 ?_
  refine lv_aload_n hx hb dL_law_612 rfl (lv_at hl 5 rfl) ?_
  refine lv_iload hx hb dL_law_613 (lv_at hl 1 rfl) ?_
  refine lv_iconst (v := nI (2)) hx hb dL_law_615 (by decide) ?_
  refine n_add (x := i) (y := 2) hx hb dL_law_616 ?_
  refine l_sld hx hb hX hbl hbA hS (j := i + 2) (by omega) hL31 dL_law_617 ?_
  refine m_callI (As := [.int (xs (i + 1)), .int (xs (i + 2))]) (rest := []) hA0 ⟨hx, hb, hml, hown, hts⟩ (cm_borehole l G (ids 0) (ids 1) (aM r) μ (xs (i + 1)) (xs (i + 2)) hMO) (cwV 2 hts gL_law_X6_borehole rfl rfl rfl (by decide +kernel) ⟨Nat.le_of_ble_eq_true rfl, Nat.le_of_ble_eq_true rfl⟩) hKm hW (aM_DA r (ids 0) (ids 1) μ) hS rfl hl.1 rfl (Nat.le_of_ble_eq_true rfl) dL_law_618 ⟨by show (cells + 6) ≤ 601024; omega, by show (slots + 3083) ≤ 7293034; omega⟩ (fun H1 locs1 hW1 _ _ hk hS1 => ?_)
  obtain ⟨hP1, hO1⟩ := l_keep ho2 ho3 ho4 hP hO hk
  clear hk
  refine lv_istore (lv' := [(6, .int (m_borehole μ (xs (i + 1)) (xs (i + 2)))), (5, .int (nI (lC [1, 2, 3] (kx_borehole σ (xs (i + 1)) (xs (i + 2)))))), (4, .int (nI (i))), (3, .ref (qo)), (2, .ref (r)), (1, .ref (o)), (0, .ref (b))]) hx hb dL_law_621 hl (by decide) rfl (fun ls hl => ?_)
  refine lv_aload_n hx hb dL_law_623 rfl (lv_at hl 4 rfl) ?_
  refine m_callI (As := []) (rest := []) hA0 ⟨hx, hb, hml, hown, hts⟩ (cm_thrown l G (ids 0) (ids 1) (aM r) (m_borehole_s μ (xs (i + 1)) (xs (i + 2)))) (cwV 0 hts gL_law_X6_thrown rfl rfl rfl (by decide +kernel) ⟨Nat.le_of_ble_eq_true rfl, Nat.le_of_ble_eq_true rfl⟩) hKm hW1 (aM_DA r (ids 0) (ids 1) (m_borehole_s μ (xs (i + 1)) (xs (i + 2)))) hS1 rfl hl.1 rfl (Nat.le_of_ble_eq_true rfl) dL_law_624 ⟨by show (cells + 6) ≤ 601024; omega, by show (slots + 3083) ≤ 7293034; omega⟩ (fun H2 locs2 hW2 _ _ hk hS2 => ?_)
  obtain ⟨hP2, hO2⟩ := l_keep ho2 ho3 ho4 hP1 hO1 hk
  clear hk
  refine lv_iload hx hb dL_law_627 (lv_at hl 1 rfl) ?_
  refine lv_icmp_eq (x := (m_thrown (m_borehole_s μ (xs (i + 1)) (xs (i + 2))))) (y := (nI (lC [1, 2, 3] (kx_borehole σ (xs (i + 1)) (xs (i + 2)))))) (tgt := 634) hx hb dL_law_629 (by decide) (fun _ => ?_) (fun c9 => absurd hp1 c9)
  refine lv_iload hx hb dL_law_634 (lv_at hl 1 rfl) ?_
  refine lv_if_ne (x := (nI (lC [1, 2, 3] (kx_borehole σ (xs (i + 1)) (xs (i + 2)))))) (tgt := 651) hx hb dL_law_636 (by decide) (fun _ => ?_) (fun c9 => ?_)
  · refine lv_goto (tgt := 1334) hx hb dL_law_651 (by decide) ?_
    exact W.widen (by omega) (by omega) (kk _ _ _ hP2 (hO2.imp (fun v h => h.1)) hW2 hS2 (lv_sub hl [2, 3, 4, 5, 6] rfl))
  · have hX0 : (kx_borehole σ (xs (i + 1)) (xs (i + 2))) = 0 := lC_c (S := [1, 2, 3]) (by decide) (kxK_borehole σ (xs (i + 1)) (xs (i + 2))) c9
    obtain ⟨v9, hv9, hg9⟩ := hO2
    have hg := hg9 hX0
    dsimp only at hg
    rw [hp2 hX0] at hg
    subst hg
    obtain ⟨f9, hf9, hf0⟩ := hv9
    refine lv_aload_n hx hb dL_law_639 rfl (lv_at hl 3 rfl) ?_
    refine lv_iconst (v := nI (0)) hx hb dL_law_640 (by decide) ?_
    refine x_lald (v := (m_borehole μ (xs (i + 1)) (xs (i + 2))).toInt64) hx hb hK hf9 (j := nI 0) (vp_in_nI (by decide) (by decide)) (by rw [nI_clamp (by decide)]; exact hf0) dL_law_641 ?_
    refine lv_iload hx hb dL_law_642 (lv_at hl 0 rfl) ?_
    refine lv_i2l (v := (m_borehole μ (xs (i + 1)) (xs (i + 2))).toInt64) hx hb dL_law_644 rfl ?_
    refine W.lcmp hx hb dL_law_645 ?_
    refine lv_if_eq (tgt := 651) hx hb dL_law_646 (by decide) (fun _ => ?_) (fun c9 => absurd (lcmp_self _) c9)
    refine lv_goto (tgt := 1334) hx hb dL_law_651 (by decide) ?_
    exact W.widen (by omega) (by omega) (kk _ _ _ hP2 ⟨_, f9, hf9, hf0⟩ hW2 hS2 (lv_sub hl [2, 3, 4, 5, 6] rfl))
set_option maxHeartbeats 4000000 in
set_option maxRecDepth 100000 in
theorem law_claim {p : Program} {l : Launch} {e : Env} {s : State} {m : MethodId} {below : List Frame} {meth : Method} {c : Code} {b L : Nat} {xs : Nat → Int32} {G : va_G} {ids : Nat → ClassId} {tS tE o r qo z : Nat} (C0 : lX p l s m meth c b L xs G ids tS tE o r qo z) {cells slots i : Nat} {H : Heap} {locs : List Loc} {ls : Array Slot} {Q : State → Prop} {σ μ : Sg} (hi : i + 7 ≤ L) (hc : cells + 10 ≤ 601024) (hs : slots + 4000 ≤ 7293034)
    (hP : lPic G ids o z tE σ H) (hO : ∃ v, lOut G ids qo v H) (hW : va_P G vwCl (wm (ids 0) (ids 1) (aM r) μ) H) (hS : va_S (fun q => s.heap.size ≤ q) s.heap H locs) (hl : lv_has ls 8 [(4, .int (nI (i))), (3, .ref (qo)), (2, .ref (r)), (1, .ref (o)), (0, .ref (b))])
    (hMO : mOK μ) (hO : cOK σ) (hp1 : (m_claim_s μ (xs (i + 1))).1 0 0 = nI (lC [1, 3] (kx_claim σ (xs (i + 1))))) (hp2 : (kx_claim σ (xs (i + 1))) = 0 → (k_claim σ (xs (i + 1))) = (m_claim μ (xs (i + 1))))
    (kk : ∀ (H1 : Heap) (locs1 : List Loc) (ls1 : Array Slot), lPic G ids o z tE (if (kx_claim σ (xs (i + 1))) = 0 then (k_claim_s σ (xs (i + 1))) else σ) H1 → (∃ v, lOut G ids qo v H1) → va_P G vwCl (wm (ids 0) (ids 1) (aM r) (m_claim_s μ (xs (i + 1)))) H1 → va_S (fun q => s.heap.size ≤ q) s.heap H1 locs1 → lv_has ls1 8 [(4, .int (nI (i))), (3, .ref (qo)), (2, .ref (r)), (1, .ref (o)), (0, .ref (b))] → W p l e room_1 s m #[Value.ref b] below meth c H1 locs1 (cells + 10) (slots + 4000) Q (F0 m 1334 ls1 [])) : W p l e room_1 s m #[Value.ref b] below meth c H locs cells slots Q (F0 m 654 ls []) := by
  obtain ⟨hx, hb, hml, hown, hts, hX, hbl, hl0, hK, hZ, hN, ho1, ho2, ho3, ho4, hL⟩ := C0
  have hbA : ¬ (fun q : Nat => s.heap.size ≤ q) b := Nat.not_le.mpr hbl
  have hL31 : L < 2 ^ 31 := by omega
  have hKm : va_K G vwCl (mTy (ids 0) (ids 1)) s := hK.sub [0, 1] rfl
  have hA0 : ∀ q, mA (aM r) q → (fun q : Nat => s.heap.size ≤ q) q := fun q h => by have h1 := mA_in h; show s.heap.size ≤ q; omega
  refine lv_aload_n hx hb dL_law_654 rfl (lv_at hl 3 rfl) ?_
  refine lv_aload_n hx hb dL_law_655 rfl (lv_at hl 4 rfl) ?_
  refine lv_iload hx hb dL_law_656 (lv_at hl 0 rfl) ?_
  refine lv_iconst (v := nI (1)) hx hb dL_law_658 (by decide) ?_
  refine n_add (x := i) (y := 1) hx hb dL_law_659 ?_
  refine l_sld hx hb hX hbl hbA hS (j := i + 1) (by omega) hL31 dL_law_660 ?_
  refine lv_aload_n hx hb dL_law_661 rfl (lv_at hl 1 rfl) ?_
  refine l_wrap (As := [.ref (o), .int (xs (i + 1)), .ref (qo)]) (rest := []) ⟨hx, hb, hml, hown, hts⟩ (lc_claim l hl0 G ids tS tE o z qo (by omega) ho4 σ (xs (i + 1)) hO) (vx_cwSW 3 hts gL_law_L_claim rfl rfl rfl (by decide +kernel) ⟨Nat.le_of_ble_eq_true rfl, Nat.le_of_ble_eq_true rfl⟩) hK hZ hN ho1 ho2 ho3 ho4 hP hO hW hS rfl hl.1 rfl (Nat.le_of_ble_eq_true rfl) dL_law_662 ⟨by show cells + 4 ≤ 601024; omega, by show slots + 76 ≤ 7293034; omega⟩ (fun H locs hP hO hW hS => ?_)
  refine lv_istore (lv' := [(5, .int (nI (lC [1, 3] (kx_claim σ (xs (i + 1)))))), (4, .int (nI (i))), (3, .ref (qo)), (2, .ref (r)), (1, .ref (o)), (0, .ref (b))]) hx hb dL_law_665 hl (by decide) rfl (fun ls hl => ?_)
  refine lv_aload_n hx hb dL_law_667 rfl (lv_at hl 3 rfl) ?_
  refine lv_aload_n hx hb dL_law_668 rfl (lv_at hl 5 rfl) ?_
  refine lv_iload hx hb dL_law_669 (lv_at hl 1 rfl) ?_
  refine lv_iconst (v := nI (1)) hx hb dL_law_671 (by decide) ?_
  refine n_add (x := i) (y := 1) hx hb dL_law_672 ?_
  refine l_sld hx hb hX hbl hbA hS (j := i + 1) (by omega) hL31 dL_law_673 ?_
  refine m_callI (As := [.int (xs (i + 1))]) (rest := []) hA0 ⟨hx, hb, hml, hown, hts⟩ (cm_claim l G (ids 0) (ids 1) (aM r) μ (xs (i + 1)) hMO) (cwV 1 hts gL_law_X6_claim rfl rfl rfl (by decide +kernel) ⟨Nat.le_of_ble_eq_true rfl, Nat.le_of_ble_eq_true rfl⟩) hKm hW (aM_DA r (ids 0) (ids 1) μ) hS rfl hl.1 rfl (Nat.le_of_ble_eq_true rfl) dL_law_674 ⟨by show (cells + 4) ≤ 601024; omega, by show (slots + 76) ≤ 7293034; omega⟩ (fun H1 locs1 hW1 _ _ hk hS1 => ?_)
  obtain ⟨hP1, hO1⟩ := l_keep ho2 ho3 ho4 hP hO hk
  clear hk
  refine lv_istore (lv' := [(6, .int (m_claim μ (xs (i + 1)))), (5, .int (nI (lC [1, 3] (kx_claim σ (xs (i + 1)))))), (4, .int (nI (i))), (3, .ref (qo)), (2, .ref (r)), (1, .ref (o)), (0, .ref (b))]) hx hb dL_law_677 hl (by decide) rfl (fun ls hl => ?_)
  refine lv_aload_n hx hb dL_law_679 rfl (lv_at hl 4 rfl) ?_
  refine m_callI (As := []) (rest := []) hA0 ⟨hx, hb, hml, hown, hts⟩ (cm_thrown l G (ids 0) (ids 1) (aM r) (m_claim_s μ (xs (i + 1)))) (cwV 0 hts gL_law_X6_thrown rfl rfl rfl (by decide +kernel) ⟨Nat.le_of_ble_eq_true rfl, Nat.le_of_ble_eq_true rfl⟩) hKm hW1 (aM_DA r (ids 0) (ids 1) (m_claim_s μ (xs (i + 1)))) hS1 rfl hl.1 rfl (Nat.le_of_ble_eq_true rfl) dL_law_680 ⟨by show (cells + 4) ≤ 601024; omega, by show (slots + 76) ≤ 7293034; omega⟩ (fun H2 locs2 hW2 _ _ hk hS2 => ?_)
  obtain ⟨hP2, hO2⟩ := l_keep ho2 ho3 ho4 hP1 hO1 hk
  clear hk
  refine lv_iload hx hb dL_law_683 (lv_at hl 1 rfl) ?_
  refine lv_icmp_eq (x := (m_thrown (m_claim_s μ (xs (i + 1))))) (y := (nI (lC [1, 3] (kx_claim σ (xs (i + 1)))))) (tgt := 690) hx hb dL_law_685 (by decide) (fun _ => ?_) (fun c9 => absurd hp1 c9)
  refine lv_iload hx hb dL_law_690 (lv_at hl 1 rfl) ?_
  refine lv_if_ne (x := (nI (lC [1, 3] (kx_claim σ (xs (i + 1)))))) (tgt := 707) hx hb dL_law_692 (by decide) (fun _ => ?_) (fun c9 => ?_)
  · refine lv_goto (tgt := 1334) hx hb dL_law_707 (by decide) ?_
    exact W.widen (by omega) (by omega) (kk _ _ _ hP2 (hO2.imp (fun v h => h.1)) hW2 hS2 (lv_sub hl [2, 3, 4, 5, 6] rfl))
  · have hX0 : (kx_claim σ (xs (i + 1))) = 0 := lC_c (S := [1, 3]) (by decide) (kxK_claim σ (xs (i + 1))) c9
    obtain ⟨v9, hv9, hg9⟩ := hO2
    have hg := hg9 hX0
    dsimp only at hg
    rw [hp2 hX0] at hg
    subst hg
    obtain ⟨f9, hf9, hf0⟩ := hv9
    refine lv_aload_n hx hb dL_law_695 rfl (lv_at hl 3 rfl) ?_
    refine lv_iconst (v := nI (0)) hx hb dL_law_696 (by decide) ?_
    refine x_lald (v := (m_claim μ (xs (i + 1))).toInt64) hx hb hK hf9 (j := nI 0) (vp_in_nI (by decide) (by decide)) (by rw [nI_clamp (by decide)]; exact hf0) dL_law_697 ?_
    refine lv_iload hx hb dL_law_698 (lv_at hl 0 rfl) ?_
    refine lv_i2l (v := (m_claim μ (xs (i + 1))).toInt64) hx hb dL_law_700 rfl ?_
    refine W.lcmp hx hb dL_law_701 ?_
    refine lv_if_eq (tgt := 707) hx hb dL_law_702 (by decide) (fun _ => ?_) (fun c9 => absurd (lcmp_self _) c9)
    refine lv_goto (tgt := 1334) hx hb dL_law_707 (by decide) ?_
    exact W.widen (by omega) (by omega) (kk _ _ _ hP2 ⟨_, f9, hf9, hf0⟩ hW2 hS2 (lv_sub hl [2, 3, 4, 5, 6] rfl))
set_option maxHeartbeats 4000000 in
set_option maxRecDepth 100000 in
theorem law_month {p : Program} {l : Launch} {e : Env} {s : State} {m : MethodId} {below : List Frame} {meth : Method} {c : Code} {b L : Nat} {xs : Nat → Int32} {G : va_G} {ids : Nat → ClassId} {tS tE o r qo z : Nat} (C0 : lX p l s m meth c b L xs G ids tS tE o r qo z) {cells slots i : Nat} {H : Heap} {locs : List Loc} {ls : Array Slot} {Q : State → Prop} {σ μ : Sg} (hi : i + 7 ≤ L) (hc : cells + 10 ≤ 601024) (hs : slots + 4000 ≤ 7293034)
    (hP : lPic G ids o z tE σ H) (hO : ∃ v, lOut G ids qo v H) (hW : va_P G vwCl (wm (ids 0) (ids 1) (aM r) μ) H) (hS : va_S (fun q => s.heap.size ≤ q) s.heap H locs) (hl : lv_has ls 8 [(4, .int (nI (i))), (3, .ref (qo)), (2, .ref (r)), (1, .ref (o)), (0, .ref (b))])
    (hMO : mOK μ) (hp2 : (k_month σ) = (m_month μ))
    (kk : ∀ (H1 : Heap) (locs1 : List Loc) (ls1 : Array Slot), lPic G ids o z tE (σ) H1 → (∃ v, lOut G ids qo v H1) → va_P G vwCl (wm (ids 0) (ids 1) (aM r) (m_month_s μ)) H1 → va_S (fun q => s.heap.size ≤ q) s.heap H1 locs1 → lv_has ls1 8 [(4, .int (nI (i))), (3, .ref (qo)), (2, .ref (r)), (1, .ref (o)), (0, .ref (b))] → W p l e room_1 s m #[Value.ref b] below meth c H1 locs1 (cells + 10) (slots + 4000) Q (F0 m 1334 ls1 [])) : W p l e room_1 s m #[Value.ref b] below meth c H locs cells slots Q (F0 m 710 ls []) := by
  obtain ⟨hx, hb, hml, hown, hts, hX, hbl, hl0, hK, hZ, hN, ho1, ho2, ho3, ho4, hL⟩ := C0
  have hbA : ¬ (fun q : Nat => s.heap.size ≤ q) b := Nat.not_le.mpr hbl
  have hL31 : L < 2 ^ 31 := by omega
  have hKm : va_K G vwCl (mTy (ids 0) (ids 1)) s := hK.sub [0, 1] rfl
  have hA0 : ∀ q, mA (aM r) q → (fun q : Nat => s.heap.size ≤ q) q := fun q h => by have h1 := mA_in h; show s.heap.size ≤ q; omega
  have hAc : ∀ q, cpG o z q → s.heap.size ≤ q := fun q h => by rcases h with h | h <;> omega
  refine lv_aload_n hx hb dL_law_710 rfl (lv_at hl 3 rfl) ?_
  obtain ⟨d9, w9, hP, hwz⟩ := hP
  refine va_calli (va_runV (As := []) (rest := []) ⟨hx, hb, hml, hown, hts⟩ (ck_month l G ids o z tS tE d9 w9 σ) (cwV 0 hts gL_law_X5_month rfl rfl rfl (by decide +kernel) ⟨Nat.le_of_ble_eq_true rfl, Nat.le_of_ble_eq_true rfl⟩) ⟨yPc_blind, va_recv hK (va_P.one hP.main) (ci := 6) (q0 := 0) rfl rfl, fun U hU hW2 => ⟨rfl, by rw [hU]; exact hP, va_K.moved hW2.alike hK, (cST_at hZ hS hU hW2.alike).narrow hAc⟩⟩ rfl rfl hl.1 rfl (lv_room (Nat.le_of_ble_eq_true rfl)) dL_law_711 ⟨by show cells + 0 ≤ 601024; omega, by show slots + 0 ≤ 7293034; omega⟩) hS (fun q _ h => hAc q h) (fun q h => hAc q h) (fun r1 u t H locs ht hvm hw hB hz1 hk hS => ?_)
  subst hw
  rw [ht] at hB
  have hP : lPic G ids o z tE σ H := ⟨d9, w9, hB, hwz⟩
  obtain ⟨v9, hO⟩ := hO
  replace hO : ∃ v, lOut G ids qo v H := ⟨v9, hO.kept (fun q h1 h2 => hk q h1 (fun h => by rcases h with h | h <;> omega))⟩
  replace hW : va_P G vwCl (wm (ids 0) (ids 1) (aM r) μ) H := fun k q hq0 => (hW k q hq0).kept (hk q.1 (hW k q hq0).lt (fun h => by have hqa := wm_at hq0; rcases h with h | h <;> omega))
  refine lv_aload_n hx hb dL_law_714 rfl (lv_at hl 2 rfl) ?_
  refine m_callI (As := []) (rest := [.int (k_month σ)]) hA0 ⟨hx, hb, hml, hown, hts⟩ (cm_month l G (ids 0) (ids 1) (aM r) μ ) (cwV 0 hts gL_law_X6_month rfl rfl rfl (by decide +kernel) ⟨Nat.le_of_ble_eq_true rfl, Nat.le_of_ble_eq_true rfl⟩) hKm hW (aM_DA r (ids 0) (ids 1) μ) hS rfl hl.1 rfl (Nat.le_of_ble_eq_true rfl) dL_law_715 ⟨by show (cells + 0) ≤ 601024; omega, by show (slots + 0) ≤ 7293034; omega⟩ (fun H1 locs1 hW1 _ _ hk hS1 => ?_)
  replace hO : ∃ v, lOut G ids qo v H ∧ True := hO.imp (fun v h => ⟨h, trivial⟩)
  obtain ⟨hP1, hO1⟩ := l_keep ho2 ho3 ho4 hP hO hk
  clear hk
  refine lv_icmp_eq (x := (k_month σ)) (y := (m_month μ)) (tgt := 1334) hx hb dL_law_718 (by decide) (fun _ => ?_) (fun c9 => absurd hp2 c9)
  exact W.widen (by omega) (by omega) (kk _ _ _ hP1 (hO1.imp (fun v h => h.1)) hW1 hS1 (lv_sub hl [0, 1, 2, 3, 4] rfl))
set_option maxHeartbeats 4000000 in
set_option maxRecDepth 100000 in
theorem law_cellOf {p : Program} {l : Launch} {e : Env} {s : State} {m : MethodId} {below : List Frame} {meth : Method} {c : Code} {b L : Nat} {xs : Nat → Int32} {G : va_G} {ids : Nat → ClassId} {tS tE o r qo z : Nat} (C0 : lX p l s m meth c b L xs G ids tS tE o r qo z) {cells slots i : Nat} {H : Heap} {locs : List Loc} {ls : Array Slot} {Q : State → Prop} {σ μ : Sg} (hi : i + 7 ≤ L) (hc : cells + 10 ≤ 601024) (hs : slots + 4000 ≤ 7293034)
    (hP : lPic G ids o z tE σ H) (hO : ∃ v, lOut G ids qo v H) (hW : va_P G vwCl (wm (ids 0) (ids 1) (aM r) μ) H) (hS : va_S (fun q => s.heap.size ≤ q) s.heap H locs) (hl : lv_has ls 8 [(4, .int (nI (i))), (3, .ref (qo)), (2, .ref (r)), (1, .ref (o)), (0, .ref (b))])
    (hMO : mOK μ) (hp1 : (m_cellOf_s μ (xs (i + 1)) (xs (i + 2))).1 0 0 = nI (lC [1, 2] (kx_cellOf σ (xs (i + 1)) (xs (i + 2))))) (hp2 : (kx_cellOf σ (xs (i + 1)) (xs (i + 2))) = 0 → (k_cellOf σ (xs (i + 1)) (xs (i + 2))) = (m_cellOf μ (xs (i + 1)) (xs (i + 2))))
    (kk : ∀ (H1 : Heap) (locs1 : List Loc) (ls1 : Array Slot), lPic G ids o z tE (if (kx_cellOf σ (xs (i + 1)) (xs (i + 2))) = 0 then (k_cellOf_s σ (xs (i + 1)) (xs (i + 2))) else σ) H1 → (∃ v, lOut G ids qo v H1) → va_P G vwCl (wm (ids 0) (ids 1) (aM r) (m_cellOf_s μ (xs (i + 1)) (xs (i + 2)))) H1 → va_S (fun q => s.heap.size ≤ q) s.heap H1 locs1 → lv_has ls1 8 [(4, .int (nI (i))), (3, .ref (qo)), (2, .ref (r)), (1, .ref (o)), (0, .ref (b))] → W p l e room_1 s m #[Value.ref b] below meth c H1 locs1 (cells + 10) (slots + 4000) Q (F0 m 1334 ls1 [])) : W p l e room_1 s m #[Value.ref b] below meth c H locs cells slots Q (F0 m 723 ls []) := by
  obtain ⟨hx, hb, hml, hown, hts, hX, hbl, hl0, hK, hZ, hN, ho1, ho2, ho3, ho4, hL⟩ := C0
  have hbA : ¬ (fun q : Nat => s.heap.size ≤ q) b := Nat.not_le.mpr hbl
  have hL31 : L < 2 ^ 31 := by omega
  have hKm : va_K G vwCl (mTy (ids 0) (ids 1)) s := hK.sub [0, 1] rfl
  have hA0 : ∀ q, mA (aM r) q → (fun q : Nat => s.heap.size ≤ q) q := fun q h => by have h1 := mA_in h; show s.heap.size ≤ q; omega
  refine lv_aload_n hx hb dL_law_723 rfl (lv_at hl 3 rfl) ?_
  refine lv_aload_n hx hb dL_law_724 rfl (lv_at hl 4 rfl) ?_
  refine lv_iload hx hb dL_law_725 (lv_at hl 0 rfl) ?_
  refine lv_iconst (v := nI (1)) hx hb dL_law_727 (by decide) ?_
  refine n_add (x := i) (y := 1) hx hb dL_law_728 ?_
  refine l_sld hx hb hX hbl hbA hS (j := i + 1) (by omega) hL31 dL_law_729 ?_
  refine lv_aload_n hx hb dL_law_730 rfl (lv_at hl 4 rfl) ?_
  refine lv_iload hx hb dL_law_731 (lv_at hl 0 rfl) ?_
  refine lv_iconst (v := nI (2)) hx hb dL_law_733 (by decide) ?_
  refine n_add (x := i) (y := 2) hx hb dL_law_734 ?_
  refine l_sld hx hb hX hbl hbA hS (j := i + 2) (by omega) hL31 dL_law_735 ?_
  refine lv_aload_n hx hb dL_law_736 rfl (lv_at hl 1 rfl) ?_
  refine l_wrap (As := [.ref (o), .int (xs (i + 1)), .int (xs (i + 2)), .ref (qo)]) (rest := []) ⟨hx, hb, hml, hown, hts⟩ (lc_cellOf l hl0 G ids tS tE o z qo (by omega) ho4 σ (xs (i + 1)) (xs (i + 2))) (vx_cwSW 4 hts gL_law_L_cellOf rfl rfl rfl (by decide +kernel) ⟨Nat.le_of_ble_eq_true rfl, Nat.le_of_ble_eq_true rfl⟩) hK hZ hN ho1 ho2 ho3 ho4 hP hO hW hS rfl hl.1 rfl (Nat.le_of_ble_eq_true rfl) dL_law_737 ⟨by show cells + 2 ≤ 601024; omega, by show slots + 12 ≤ 7293034; omega⟩ (fun H locs hP hO hW hS => ?_)
  refine lv_istore (lv' := [(5, .int (nI (lC [1, 2] (kx_cellOf σ (xs (i + 1)) (xs (i + 2)))))), (4, .int (nI (i))), (3, .ref (qo)), (2, .ref (r)), (1, .ref (o)), (0, .ref (b))]) hx hb dL_law_740 hl (by decide) rfl (fun ls hl => ?_)
  refine lv_aload_n hx hb dL_law_742 rfl (lv_at hl 3 rfl) ?_
  refine lv_aload_n hx hb dL_law_743 rfl (lv_at hl 5 rfl) ?_
  refine lv_iload hx hb dL_law_744 (lv_at hl 1 rfl) ?_
  refine lv_iconst (v := nI (1)) hx hb dL_law_746 (by decide) ?_
  refine n_add (x := i) (y := 1) hx hb dL_law_747 ?_
  refine l_sld hx hb hX hbl hbA hS (j := i + 1) (by omega) hL31 dL_law_748 ?_
  refine lv_aload_n hx hb dL_law_749 rfl (lv_at hl 5 rfl) ?_
  refine lv_iload hx hb dL_law_750 (lv_at hl 1 rfl) ?_
  refine lv_iconst (v := nI (2)) hx hb dL_law_752 (by decide) ?_
  refine n_add (x := i) (y := 2) hx hb dL_law_753 ?_
  refine l_sld hx hb hX hbl hbA hS (j := i + 2) (by omega) hL31 dL_law_754 ?_
  refine m_callI (As := [.int (xs (i + 1)), .int (xs (i + 2))]) (rest := []) hA0 ⟨hx, hb, hml, hown, hts⟩ (cm_cellOf l G (ids 0) (ids 1) (aM r) μ (xs (i + 1)) (xs (i + 2)) hMO) (cwV 2 hts gL_law_X6_cellOf rfl rfl rfl (by decide +kernel) ⟨Nat.le_of_ble_eq_true rfl, Nat.le_of_ble_eq_true rfl⟩) hKm hW (aM_DA r (ids 0) (ids 1) μ) hS rfl hl.1 rfl (Nat.le_of_ble_eq_true rfl) dL_law_755 ⟨by show (cells + 2) ≤ 601024; omega, by show (slots + 12) ≤ 7293034; omega⟩ (fun H1 locs1 hW1 _ _ hk hS1 => ?_)
  obtain ⟨hP1, hO1⟩ := l_keep ho2 ho3 ho4 hP hO hk
  clear hk
  refine lv_istore (lv' := [(6, .int (m_cellOf μ (xs (i + 1)) (xs (i + 2)))), (5, .int (nI (lC [1, 2] (kx_cellOf σ (xs (i + 1)) (xs (i + 2)))))), (4, .int (nI (i))), (3, .ref (qo)), (2, .ref (r)), (1, .ref (o)), (0, .ref (b))]) hx hb dL_law_758 hl (by decide) rfl (fun ls hl => ?_)
  refine lv_aload_n hx hb dL_law_760 rfl (lv_at hl 4 rfl) ?_
  refine m_callI (As := []) (rest := []) hA0 ⟨hx, hb, hml, hown, hts⟩ (cm_thrown l G (ids 0) (ids 1) (aM r) (m_cellOf_s μ (xs (i + 1)) (xs (i + 2)))) (cwV 0 hts gL_law_X6_thrown rfl rfl rfl (by decide +kernel) ⟨Nat.le_of_ble_eq_true rfl, Nat.le_of_ble_eq_true rfl⟩) hKm hW1 (aM_DA r (ids 0) (ids 1) (m_cellOf_s μ (xs (i + 1)) (xs (i + 2)))) hS1 rfl hl.1 rfl (Nat.le_of_ble_eq_true rfl) dL_law_761 ⟨by show (cells + 2) ≤ 601024; omega, by show (slots + 12) ≤ 7293034; omega⟩ (fun H2 locs2 hW2 _ _ hk hS2 => ?_)
  obtain ⟨hP2, hO2⟩ := l_keep ho2 ho3 ho4 hP1 hO1 hk
  clear hk
  refine lv_iload hx hb dL_law_764 (lv_at hl 1 rfl) ?_
  refine lv_icmp_eq (x := (m_thrown (m_cellOf_s μ (xs (i + 1)) (xs (i + 2))))) (y := (nI (lC [1, 2] (kx_cellOf σ (xs (i + 1)) (xs (i + 2)))))) (tgt := 771) hx hb dL_law_766 (by decide) (fun _ => ?_) (fun c9 => absurd hp1 c9)
  refine lv_iload hx hb dL_law_771 (lv_at hl 1 rfl) ?_
  refine lv_if_ne (x := (nI (lC [1, 2] (kx_cellOf σ (xs (i + 1)) (xs (i + 2)))))) (tgt := 788) hx hb dL_law_773 (by decide) (fun _ => ?_) (fun c9 => ?_)
  · refine lv_goto (tgt := 1334) hx hb dL_law_788 (by decide) ?_
    exact W.widen (by omega) (by omega) (kk _ _ _ hP2 (hO2.imp (fun v h => h.1)) hW2 hS2 (lv_sub hl [2, 3, 4, 5, 6] rfl))
  · have hX0 : (kx_cellOf σ (xs (i + 1)) (xs (i + 2))) = 0 := lC_c (S := [1, 2]) (by decide) (kxK_cellOf σ (xs (i + 1)) (xs (i + 2))) c9
    obtain ⟨v9, hv9, hg9⟩ := hO2
    have hg := hg9 hX0
    dsimp only at hg
    rw [hp2 hX0] at hg
    subst hg
    obtain ⟨f9, hf9, hf0⟩ := hv9
    refine lv_aload_n hx hb dL_law_776 rfl (lv_at hl 3 rfl) ?_
    refine lv_iconst (v := nI (0)) hx hb dL_law_777 (by decide) ?_
    refine x_lald (v := (m_cellOf μ (xs (i + 1)) (xs (i + 2))).toInt64) hx hb hK hf9 (j := nI 0) (vp_in_nI (by decide) (by decide)) (by rw [nI_clamp (by decide)]; exact hf0) dL_law_778 ?_
    refine lv_iload hx hb dL_law_779 (lv_at hl 0 rfl) ?_
    refine lv_i2l (v := (m_cellOf μ (xs (i + 1)) (xs (i + 2))).toInt64) hx hb dL_law_781 rfl ?_
    refine W.lcmp hx hb dL_law_782 ?_
    refine lv_if_eq (tgt := 788) hx hb dL_law_783 (by decide) (fun _ => ?_) (fun c9 => absurd (lcmp_self _) c9)
    refine lv_goto (tgt := 1334) hx hb dL_law_788 (by decide) ?_
    exact W.widen (by omega) (by omega) (kk _ _ _ hP2 ⟨_, f9, hf9, hf0⟩ hW2 hS2 (lv_sub hl [2, 3, 4, 5, 6] rfl))
set_option maxHeartbeats 4000000 in
set_option maxRecDepth 100000 in
theorem law_layerOf {p : Program} {l : Launch} {e : Env} {s : State} {m : MethodId} {below : List Frame} {meth : Method} {c : Code} {b L : Nat} {xs : Nat → Int32} {G : va_G} {ids : Nat → ClassId} {tS tE o r qo z : Nat} (C0 : lX p l s m meth c b L xs G ids tS tE o r qo z) {cells slots i : Nat} {H : Heap} {locs : List Loc} {ls : Array Slot} {Q : State → Prop} {σ μ : Sg} (hi : i + 7 ≤ L) (hc : cells + 10 ≤ 601024) (hs : slots + 4000 ≤ 7293034)
    (hP : lPic G ids o z tE σ H) (hO : ∃ v, lOut G ids qo v H) (hW : va_P G vwCl (wm (ids 0) (ids 1) (aM r) μ) H) (hS : va_S (fun q => s.heap.size ≤ q) s.heap H locs) (hl : lv_has ls 8 [(4, .int (nI (i))), (3, .ref (qo)), (2, .ref (r)), (1, .ref (o)), (0, .ref (b))])
    (hMO : mOK μ) (hp1 : (m_layerOf_s μ (xs (i + 1)) (xs (i + 2)) (xs (i + 3))).1 0 0 = nI (lC [1, 2] (kx_layerOf σ (xs (i + 1)) (xs (i + 2)) (xs (i + 3))))) (hp2 : (kx_layerOf σ (xs (i + 1)) (xs (i + 2)) (xs (i + 3))) = 0 → (k_layerOf σ (xs (i + 1)) (xs (i + 2)) (xs (i + 3))) = (m_layerOf μ (xs (i + 1)) (xs (i + 2)) (xs (i + 3))))
    (kk : ∀ (H1 : Heap) (locs1 : List Loc) (ls1 : Array Slot), lPic G ids o z tE (if (kx_layerOf σ (xs (i + 1)) (xs (i + 2)) (xs (i + 3))) = 0 then σ else σ) H1 → (∃ v, lOut G ids qo v H1) → va_P G vwCl (wm (ids 0) (ids 1) (aM r) (m_layerOf_s μ (xs (i + 1)) (xs (i + 2)) (xs (i + 3)))) H1 → va_S (fun q => s.heap.size ≤ q) s.heap H1 locs1 → lv_has ls1 8 [(4, .int (nI (i))), (3, .ref (qo)), (2, .ref (r)), (1, .ref (o)), (0, .ref (b))] → W p l e room_1 s m #[Value.ref b] below meth c H1 locs1 (cells + 10) (slots + 4000) Q (F0 m 1334 ls1 [])) : W p l e room_1 s m #[Value.ref b] below meth c H locs cells slots Q (F0 m 791 ls []) := by
  obtain ⟨hx, hb, hml, hown, hts, hX, hbl, hl0, hK, hZ, hN, ho1, ho2, ho3, ho4, hL⟩ := C0
  have hbA : ¬ (fun q : Nat => s.heap.size ≤ q) b := Nat.not_le.mpr hbl
  have hL31 : L < 2 ^ 31 := by omega
  have hKm : va_K G vwCl (mTy (ids 0) (ids 1)) s := hK.sub [0, 1] rfl
  have hA0 : ∀ q, mA (aM r) q → (fun q : Nat => s.heap.size ≤ q) q := fun q h => by have h1 := mA_in h; show s.heap.size ≤ q; omega
  refine lv_aload_n hx hb dL_law_791 rfl (lv_at hl 3 rfl) ?_
  refine lv_aload_n hx hb dL_law_792 rfl (lv_at hl 4 rfl) ?_
  refine lv_iload hx hb dL_law_793 (lv_at hl 0 rfl) ?_
  refine lv_iconst (v := nI (1)) hx hb dL_law_795 (by decide) ?_
  refine n_add (x := i) (y := 1) hx hb dL_law_796 ?_
  refine l_sld hx hb hX hbl hbA hS (j := i + 1) (by omega) hL31 dL_law_797 ?_
  refine lv_aload_n hx hb dL_law_798 rfl (lv_at hl 4 rfl) ?_
  refine lv_iload hx hb dL_law_799 (lv_at hl 0 rfl) ?_
  refine lv_iconst (v := nI (2)) hx hb dL_law_801 (by decide) ?_
  refine n_add (x := i) (y := 2) hx hb dL_law_802 ?_
  refine l_sld hx hb hX hbl hbA hS (j := i + 2) (by omega) hL31 dL_law_803 ?_
  refine lv_aload_n hx hb dL_law_804 rfl (lv_at hl 4 rfl) ?_
  refine lv_iload hx hb dL_law_805 (lv_at hl 0 rfl) ?_
  refine lv_iconst (v := nI (3)) hx hb dL_law_807 (by decide) ?_
  refine n_add (x := i) (y := 3) hx hb dL_law_808 ?_
  refine l_sld hx hb hX hbl hbA hS (j := i + 3) (by omega) hL31 dL_law_809 ?_
  refine lv_aload_n hx hb dL_law_810 rfl (lv_at hl 1 rfl) ?_
  refine l_wrap (As := [.ref (o), .int (xs (i + 1)), .int (xs (i + 2)), .int (xs (i + 3)), .ref (qo)]) (rest := []) ⟨hx, hb, hml, hown, hts⟩ (lc_layerOf l hl0 G ids tS tE o z qo (by omega) ho4 σ (xs (i + 1)) (xs (i + 2)) (xs (i + 3))) (vx_cwSW 5 hts gL_law_L_layerOf rfl rfl rfl (by decide +kernel) ⟨Nat.le_of_ble_eq_true rfl, Nat.le_of_ble_eq_true rfl⟩) hK hZ hN ho1 ho2 ho3 ho4 hP hO hW hS rfl hl.1 rfl (Nat.le_of_ble_eq_true rfl) dL_law_811 ⟨by show cells + 3 ≤ 601024; omega, by show slots + 18 ≤ 7293034; omega⟩ (fun H locs hP hO hW hS => ?_)
  refine lv_istore (lv' := [(5, .int (nI (lC [1, 2] (kx_layerOf σ (xs (i + 1)) (xs (i + 2)) (xs (i + 3)))))), (4, .int (nI (i))), (3, .ref (qo)), (2, .ref (r)), (1, .ref (o)), (0, .ref (b))]) hx hb dL_law_814 hl (by decide) rfl (fun ls hl => ?_)
  refine lv_aload_n hx hb dL_law_816 rfl (lv_at hl 3 rfl) ?_
  refine lv_aload_n hx hb dL_law_817 rfl (lv_at hl 5 rfl) ?_
  refine lv_iload hx hb dL_law_818 (lv_at hl 1 rfl) ?_
  refine lv_iconst (v := nI (1)) hx hb dL_law_820 (by decide) ?_
  refine n_add (x := i) (y := 1) hx hb dL_law_821 ?_
  refine l_sld hx hb hX hbl hbA hS (j := i + 1) (by omega) hL31 dL_law_822 ?_
  refine lv_aload_n hx hb dL_law_823 rfl (lv_at hl 5 rfl) ?_
  refine lv_iload hx hb dL_law_824 (lv_at hl 1 rfl) ?_
  refine lv_iconst (v := nI (2)) hx hb dL_law_826 (by decide) ?_
  refine n_add (x := i) (y := 2) hx hb dL_law_827 ?_
  refine l_sld hx hb hX hbl hbA hS (j := i + 2) (by omega) hL31 dL_law_828 ?_
  refine lv_aload_n hx hb dL_law_829 rfl (lv_at hl 5 rfl) ?_
  refine lv_iload hx hb dL_law_830 (lv_at hl 1 rfl) ?_
  refine lv_iconst (v := nI (3)) hx hb dL_law_832 (by decide) ?_
  refine n_add (x := i) (y := 3) hx hb dL_law_833 ?_
  refine l_sld hx hb hX hbl hbA hS (j := i + 3) (by omega) hL31 dL_law_834 ?_
  refine m_callI (As := [.int (xs (i + 1)), .int (xs (i + 2)), .int (xs (i + 3))]) (rest := []) hA0 ⟨hx, hb, hml, hown, hts⟩ (cm_layerOf l G (ids 0) (ids 1) (aM r) μ (xs (i + 1)) (xs (i + 2)) (xs (i + 3))) (cwV 3 hts gL_law_X6_layerOf rfl rfl rfl (by decide +kernel) ⟨Nat.le_of_ble_eq_true rfl, Nat.le_of_ble_eq_true rfl⟩) hKm hW (aM_DA r (ids 0) (ids 1) μ) hS rfl hl.1 rfl (Nat.le_of_ble_eq_true rfl) dL_law_835 ⟨by show (cells + 3) ≤ 601024; omega, by show (slots + 18) ≤ 7293034; omega⟩ (fun H1 locs1 hW1 _ _ hk hS1 => ?_)
  obtain ⟨hP1, hO1⟩ := l_keep ho2 ho3 ho4 hP hO hk
  clear hk
  refine lv_istore (lv' := [(6, .int (m_layerOf μ (xs (i + 1)) (xs (i + 2)) (xs (i + 3)))), (5, .int (nI (lC [1, 2] (kx_layerOf σ (xs (i + 1)) (xs (i + 2)) (xs (i + 3)))))), (4, .int (nI (i))), (3, .ref (qo)), (2, .ref (r)), (1, .ref (o)), (0, .ref (b))]) hx hb dL_law_838 hl (by decide) rfl (fun ls hl => ?_)
  refine lv_aload_n hx hb dL_law_840 rfl (lv_at hl 4 rfl) ?_
  refine m_callI (As := []) (rest := []) hA0 ⟨hx, hb, hml, hown, hts⟩ (cm_thrown l G (ids 0) (ids 1) (aM r) (m_layerOf_s μ (xs (i + 1)) (xs (i + 2)) (xs (i + 3)))) (cwV 0 hts gL_law_X6_thrown rfl rfl rfl (by decide +kernel) ⟨Nat.le_of_ble_eq_true rfl, Nat.le_of_ble_eq_true rfl⟩) hKm hW1 (aM_DA r (ids 0) (ids 1) (m_layerOf_s μ (xs (i + 1)) (xs (i + 2)) (xs (i + 3)))) hS1 rfl hl.1 rfl (Nat.le_of_ble_eq_true rfl) dL_law_841 ⟨by show (cells + 3) ≤ 601024; omega, by show (slots + 18) ≤ 7293034; omega⟩ (fun H2 locs2 hW2 _ _ hk hS2 => ?_)
  obtain ⟨hP2, hO2⟩ := l_keep ho2 ho3 ho4 hP1 hO1 hk
  clear hk
  refine lv_iload hx hb dL_law_844 (lv_at hl 1 rfl) ?_
  refine lv_icmp_eq (x := (m_thrown (m_layerOf_s μ (xs (i + 1)) (xs (i + 2)) (xs (i + 3))))) (y := (nI (lC [1, 2] (kx_layerOf σ (xs (i + 1)) (xs (i + 2)) (xs (i + 3)))))) (tgt := 851) hx hb dL_law_846 (by decide) (fun _ => ?_) (fun c9 => absurd hp1 c9)
  refine lv_iload hx hb dL_law_851 (lv_at hl 1 rfl) ?_
  refine lv_if_ne (x := (nI (lC [1, 2] (kx_layerOf σ (xs (i + 1)) (xs (i + 2)) (xs (i + 3)))))) (tgt := 868) hx hb dL_law_853 (by decide) (fun _ => ?_) (fun c9 => ?_)
  · refine lv_goto (tgt := 1334) hx hb dL_law_868 (by decide) ?_
    exact W.widen (by omega) (by omega) (kk _ _ _ hP2 (hO2.imp (fun v h => h.1)) hW2 hS2 (lv_sub hl [2, 3, 4, 5, 6] rfl))
  · have hX0 : (kx_layerOf σ (xs (i + 1)) (xs (i + 2)) (xs (i + 3))) = 0 := lC_c (S := [1, 2]) (by decide) (kxK_layerOf σ (xs (i + 1)) (xs (i + 2)) (xs (i + 3))) c9
    obtain ⟨v9, hv9, hg9⟩ := hO2
    have hg := hg9 hX0
    dsimp only at hg
    rw [hp2 hX0] at hg
    subst hg
    obtain ⟨f9, hf9, hf0⟩ := hv9
    refine lv_aload_n hx hb dL_law_856 rfl (lv_at hl 3 rfl) ?_
    refine lv_iconst (v := nI (0)) hx hb dL_law_857 (by decide) ?_
    refine x_lald (v := (m_layerOf μ (xs (i + 1)) (xs (i + 2)) (xs (i + 3))).toInt64) hx hb hK hf9 (j := nI 0) (vp_in_nI (by decide) (by decide)) (by rw [nI_clamp (by decide)]; exact hf0) dL_law_858 ?_
    refine lv_iload hx hb dL_law_859 (lv_at hl 0 rfl) ?_
    refine lv_i2l (v := (m_layerOf μ (xs (i + 1)) (xs (i + 2)) (xs (i + 3))).toInt64) hx hb dL_law_861 rfl ?_
    refine W.lcmp hx hb dL_law_862 ?_
    refine lv_if_eq (tgt := 868) hx hb dL_law_863 (by decide) (fun _ => ?_) (fun c9 => absurd (lcmp_self _) c9)
    refine lv_goto (tgt := 1334) hx hb dL_law_868 (by decide) ?_
    exact W.widen (by omega) (by omega) (kk _ _ _ hP2 ⟨_, f9, hf9, hf0⟩ hW2 hS2 (lv_sub hl [2, 3, 4, 5, 6] rfl))
set_option maxHeartbeats 4000000 in
set_option maxRecDepth 100000 in
theorem law_neighbour {p : Program} {l : Launch} {e : Env} {s : State} {m : MethodId} {below : List Frame} {meth : Method} {c : Code} {b L : Nat} {xs : Nat → Int32} {G : va_G} {ids : Nat → ClassId} {tS tE o r qo z : Nat} (C0 : lX p l s m meth c b L xs G ids tS tE o r qo z) {cells slots i : Nat} {H : Heap} {locs : List Loc} {ls : Array Slot} {Q : State → Prop} {σ μ : Sg} (hi : i + 7 ≤ L) (hc : cells + 10 ≤ 601024) (hs : slots + 4000 ≤ 7293034)
    (hP : lPic G ids o z tE σ H) (hO : ∃ v, lOut G ids qo v H) (hW : va_P G vwCl (wm (ids 0) (ids 1) (aM r) μ) H) (hS : va_S (fun q => s.heap.size ≤ q) s.heap H locs) (hl : lv_has ls 8 [(4, .int (nI (i))), (3, .ref (qo)), (2, .ref (r)), (1, .ref (o)), (0, .ref (b))])
    (hMO : mOK μ) (hp1 : (m_neighbour_s μ (xs (i + 1)) (xs (i + 2))).1 0 0 = nI (lC [1] (kx_neighbour σ (xs (i + 1)) (xs (i + 2))))) (hp2 : (kx_neighbour σ (xs (i + 1)) (xs (i + 2))) = 0 → (k_neighbour σ (xs (i + 1)) (xs (i + 2))) = (m_neighbour μ (xs (i + 1)) (xs (i + 2))))
    (kk : ∀ (H1 : Heap) (locs1 : List Loc) (ls1 : Array Slot), lPic G ids o z tE (if (kx_neighbour σ (xs (i + 1)) (xs (i + 2))) = 0 then σ else σ) H1 → (∃ v, lOut G ids qo v H1) → va_P G vwCl (wm (ids 0) (ids 1) (aM r) (m_neighbour_s μ (xs (i + 1)) (xs (i + 2)))) H1 → va_S (fun q => s.heap.size ≤ q) s.heap H1 locs1 → lv_has ls1 8 [(4, .int (nI (i))), (3, .ref (qo)), (2, .ref (r)), (1, .ref (o)), (0, .ref (b))] → W p l e room_1 s m #[Value.ref b] below meth c H1 locs1 (cells + 10) (slots + 4000) Q (F0 m 1334 ls1 [])) : W p l e room_1 s m #[Value.ref b] below meth c H locs cells slots Q (F0 m 871 ls []) := by
  obtain ⟨hx, hb, hml, hown, hts, hX, hbl, hl0, hK, hZ, hN, ho1, ho2, ho3, ho4, hL⟩ := C0
  have hbA : ¬ (fun q : Nat => s.heap.size ≤ q) b := Nat.not_le.mpr hbl
  have hL31 : L < 2 ^ 31 := by omega
  have hKm : va_K G vwCl (mTy (ids 0) (ids 1)) s := hK.sub [0, 1] rfl
  have hA0 : ∀ q, mA (aM r) q → (fun q : Nat => s.heap.size ≤ q) q := fun q h => by have h1 := mA_in h; show s.heap.size ≤ q; omega
  refine lv_aload_n hx hb dL_law_871 rfl (lv_at hl 3 rfl) ?_
  refine lv_aload_n hx hb dL_law_872 rfl (lv_at hl 4 rfl) ?_
  refine lv_iload hx hb dL_law_873 (lv_at hl 0 rfl) ?_
  refine lv_iconst (v := nI (1)) hx hb dL_law_875 (by decide) ?_
  refine n_add (x := i) (y := 1) hx hb dL_law_876 ?_
  refine l_sld hx hb hX hbl hbA hS (j := i + 1) (by omega) hL31 dL_law_877 ?_
  refine lv_aload_n hx hb dL_law_878 rfl (lv_at hl 4 rfl) ?_
  refine lv_iload hx hb dL_law_879 (lv_at hl 0 rfl) ?_
  refine lv_iconst (v := nI (2)) hx hb dL_law_881 (by decide) ?_
  refine n_add (x := i) (y := 2) hx hb dL_law_882 ?_
  refine l_sld hx hb hX hbl hbA hS (j := i + 2) (by omega) hL31 dL_law_883 ?_
  refine lv_aload_n hx hb dL_law_884 rfl (lv_at hl 1 rfl) ?_
  refine l_wrap (As := [.ref (o), .int (xs (i + 1)), .int (xs (i + 2)), .ref (qo)]) (rest := []) ⟨hx, hb, hml, hown, hts⟩ (lc_neighbour l hl0 G ids tS tE o z qo (by omega) ho4 σ (xs (i + 1)) (xs (i + 2))) (vx_cwSW 4 hts gL_law_L_neighbour rfl rfl rfl (by decide +kernel) ⟨Nat.le_of_ble_eq_true rfl, Nat.le_of_ble_eq_true rfl⟩) hK hZ hN ho1 ho2 ho3 ho4 hP hO hW hS rfl hl.1 rfl (Nat.le_of_ble_eq_true rfl) dL_law_885 ⟨by show cells + 2 ≤ 601024; omega, by show slots + 12 ≤ 7293034; omega⟩ (fun H locs hP hO hW hS => ?_)
  refine lv_istore (lv' := [(5, .int (nI (lC [1] (kx_neighbour σ (xs (i + 1)) (xs (i + 2)))))), (4, .int (nI (i))), (3, .ref (qo)), (2, .ref (r)), (1, .ref (o)), (0, .ref (b))]) hx hb dL_law_888 hl (by decide) rfl (fun ls hl => ?_)
  refine lv_aload_n hx hb dL_law_890 rfl (lv_at hl 3 rfl) ?_
  refine lv_aload_n hx hb dL_law_891 rfl (lv_at hl 5 rfl) ?_
  refine lv_iload hx hb dL_law_892 (lv_at hl 1 rfl) ?_
  refine lv_iconst (v := nI (1)) hx hb dL_law_894 (by decide) ?_
  refine n_add (x := i) (y := 1) hx hb dL_law_895 ?_
  refine l_sld hx hb hX hbl hbA hS (j := i + 1) (by omega) hL31 dL_law_896 ?_
  refine lv_aload_n hx hb dL_law_897 rfl (lv_at hl 5 rfl) ?_
  refine lv_iload hx hb dL_law_898 (lv_at hl 1 rfl) ?_
  refine lv_iconst (v := nI (2)) hx hb dL_law_900 (by decide) ?_
  refine n_add (x := i) (y := 2) hx hb dL_law_901 ?_
  refine l_sld hx hb hX hbl hbA hS (j := i + 2) (by omega) hL31 dL_law_902 ?_
  refine m_callI (As := [.int (xs (i + 1)), .int (xs (i + 2))]) (rest := []) hA0 ⟨hx, hb, hml, hown, hts⟩ (cm_neighbour l G (ids 0) (ids 1) (aM r) μ (xs (i + 1)) (xs (i + 2))) (cwV 2 hts gL_law_X6_neighbour rfl rfl rfl (by decide +kernel) ⟨Nat.le_of_ble_eq_true rfl, Nat.le_of_ble_eq_true rfl⟩) hKm hW (aM_DA r (ids 0) (ids 1) μ) hS rfl hl.1 rfl (Nat.le_of_ble_eq_true rfl) dL_law_903 ⟨by show (cells + 2) ≤ 601024; omega, by show (slots + 12) ≤ 7293034; omega⟩ (fun H1 locs1 hW1 _ _ hk hS1 => ?_)
  obtain ⟨hP1, hO1⟩ := l_keep ho2 ho3 ho4 hP hO hk
  clear hk
  refine lv_istore (lv' := [(6, .int (m_neighbour μ (xs (i + 1)) (xs (i + 2)))), (5, .int (nI (lC [1] (kx_neighbour σ (xs (i + 1)) (xs (i + 2)))))), (4, .int (nI (i))), (3, .ref (qo)), (2, .ref (r)), (1, .ref (o)), (0, .ref (b))]) hx hb dL_law_906 hl (by decide) rfl (fun ls hl => ?_)
  refine lv_aload_n hx hb dL_law_908 rfl (lv_at hl 4 rfl) ?_
  refine m_callI (As := []) (rest := []) hA0 ⟨hx, hb, hml, hown, hts⟩ (cm_thrown l G (ids 0) (ids 1) (aM r) (m_neighbour_s μ (xs (i + 1)) (xs (i + 2)))) (cwV 0 hts gL_law_X6_thrown rfl rfl rfl (by decide +kernel) ⟨Nat.le_of_ble_eq_true rfl, Nat.le_of_ble_eq_true rfl⟩) hKm hW1 (aM_DA r (ids 0) (ids 1) (m_neighbour_s μ (xs (i + 1)) (xs (i + 2)))) hS1 rfl hl.1 rfl (Nat.le_of_ble_eq_true rfl) dL_law_909 ⟨by show (cells + 2) ≤ 601024; omega, by show (slots + 12) ≤ 7293034; omega⟩ (fun H2 locs2 hW2 _ _ hk hS2 => ?_)
  obtain ⟨hP2, hO2⟩ := l_keep ho2 ho3 ho4 hP1 hO1 hk
  clear hk
  refine lv_iload hx hb dL_law_912 (lv_at hl 1 rfl) ?_
  refine lv_icmp_eq (x := (m_thrown (m_neighbour_s μ (xs (i + 1)) (xs (i + 2))))) (y := (nI (lC [1] (kx_neighbour σ (xs (i + 1)) (xs (i + 2)))))) (tgt := 919) hx hb dL_law_914 (by decide) (fun _ => ?_) (fun c9 => absurd hp1 c9)
  refine lv_iload hx hb dL_law_919 (lv_at hl 1 rfl) ?_
  refine lv_if_ne (x := (nI (lC [1] (kx_neighbour σ (xs (i + 1)) (xs (i + 2)))))) (tgt := 936) hx hb dL_law_921 (by decide) (fun _ => ?_) (fun c9 => ?_)
  · refine lv_goto (tgt := 1334) hx hb dL_law_936 (by decide) ?_
    exact W.widen (by omega) (by omega) (kk _ _ _ hP2 (hO2.imp (fun v h => h.1)) hW2 hS2 (lv_sub hl [2, 3, 4, 5, 6] rfl))
  · have hX0 : (kx_neighbour σ (xs (i + 1)) (xs (i + 2))) = 0 := lC_c (S := [1]) (by decide) (kxK_neighbour σ (xs (i + 1)) (xs (i + 2))) c9
    obtain ⟨v9, hv9, hg9⟩ := hO2
    have hg := hg9 hX0
    dsimp only at hg
    rw [hp2 hX0] at hg
    subst hg
    obtain ⟨f9, hf9, hf0⟩ := hv9
    refine lv_aload_n hx hb dL_law_924 rfl (lv_at hl 3 rfl) ?_
    refine lv_iconst (v := nI (0)) hx hb dL_law_925 (by decide) ?_
    refine x_lald (v := (m_neighbour μ (xs (i + 1)) (xs (i + 2))).toInt64) hx hb hK hf9 (j := nI 0) (vp_in_nI (by decide) (by decide)) (by rw [nI_clamp (by decide)]; exact hf0) dL_law_926 ?_
    refine lv_iload hx hb dL_law_927 (lv_at hl 0 rfl) ?_
    refine lv_i2l (v := (m_neighbour μ (xs (i + 1)) (xs (i + 2))).toInt64) hx hb dL_law_929 rfl ?_
    refine W.lcmp hx hb dL_law_930 ?_
    refine lv_if_eq (tgt := 936) hx hb dL_law_931 (by decide) (fun _ => ?_) (fun c9 => absurd (lcmp_self _) c9)
    refine lv_goto (tgt := 1334) hx hb dL_law_936 (by decide) ?_
    exact W.widen (by omega) (by omega) (kk _ _ _ hP2 ⟨_, f9, hf9, hf0⟩ hW2 hS2 (lv_sub hl [2, 3, 4, 5, 6] rfl))
set_option maxHeartbeats 4000000 in
set_option maxRecDepth 100000 in
theorem law_lakes {p : Program} {l : Launch} {e : Env} {s : State} {m : MethodId} {below : List Frame} {meth : Method} {c : Code} {b L : Nat} {xs : Nat → Int32} {G : va_G} {ids : Nat → ClassId} {tS tE o r qo z : Nat} (C0 : lX p l s m meth c b L xs G ids tS tE o r qo z) {cells slots i : Nat} {H : Heap} {locs : List Loc} {ls : Array Slot} {Q : State → Prop} {σ μ : Sg} (hi : i + 7 ≤ L) (hc : cells + 10 ≤ 601024) (hs : slots + 4000 ≤ 7293034)
    (hP : lPic G ids o z tE σ H) (hO : ∃ v, lOut G ids qo v H) (hW : va_P G vwCl (wm (ids 0) (ids 1) (aM r) μ) H) (hS : va_S (fun q => s.heap.size ≤ q) s.heap H locs) (hl : lv_has ls 8 [(4, .int (nI (i))), (3, .ref (qo)), (2, .ref (r)), (1, .ref (o)), (0, .ref (b))])
    (hMO : mOK μ) (hp2 : (k_lakes σ) = (m_lakes μ))
    (kk : ∀ (H1 : Heap) (locs1 : List Loc) (ls1 : Array Slot), lPic G ids o z tE ((k_lakes_s σ)) H1 → (∃ v, lOut G ids qo v H1) → va_P G vwCl (wm (ids 0) (ids 1) (aM r) (m_lakes_s μ)) H1 → va_S (fun q => s.heap.size ≤ q) s.heap H1 locs1 → lv_has ls1 8 [(4, .int (nI (i))), (3, .ref (qo)), (2, .ref (r)), (1, .ref (o)), (0, .ref (b))] → W p l e room_1 s m #[Value.ref b] below meth c H1 locs1 (cells + 10) (slots + 4000) Q (F0 m 1334 ls1 [])) : W p l e room_1 s m #[Value.ref b] below meth c H locs cells slots Q (F0 m 939 ls []) := by
  obtain ⟨hx, hb, hml, hown, hts, hX, hbl, hl0, hK, hZ, hN, ho1, ho2, ho3, ho4, hL⟩ := C0
  have hbA : ¬ (fun q : Nat => s.heap.size ≤ q) b := Nat.not_le.mpr hbl
  have hL31 : L < 2 ^ 31 := by omega
  have hKm : va_K G vwCl (mTy (ids 0) (ids 1)) s := hK.sub [0, 1] rfl
  have hA0 : ∀ q, mA (aM r) q → (fun q : Nat => s.heap.size ≤ q) q := fun q h => by have h1 := mA_in h; show s.heap.size ≤ q; omega
  have hAc : ∀ q, cpG o z q → s.heap.size ≤ q := fun q h => by rcases h with h | h <;> omega
  refine lv_aload_n hx hb dL_law_939 rfl (lv_at hl 3 rfl) ?_
  obtain ⟨d9, w9, hP, hwz⟩ := hP
  refine va_calli (va_runV (As := []) (rest := []) ⟨hx, hb, hml, hown, hts⟩ (ck_lakes l G ids o z tS tE d9 w9 σ) (cwV 0 hts gL_law_X5_lakes rfl rfl rfl (by decide +kernel) ⟨Nat.le_of_ble_eq_true rfl, Nat.le_of_ble_eq_true rfl⟩) ⟨yPc_blind, va_recv hK (va_P.one hP.main) (ci := 6) (q0 := 0) rfl rfl, fun U hU hW2 => ⟨rfl, by rw [hU]; exact hP, va_K.moved hW2.alike hK, (cST_at hZ hS hU hW2.alike).narrow hAc⟩⟩ rfl rfl hl.1 rfl (lv_room (Nat.le_of_ble_eq_true rfl)) dL_law_940 ⟨by show cells + 0 ≤ 601024; omega, by show slots + 0 ≤ 7293034; omega⟩) hS (fun q _ h => hAc q h) (fun q h => hAc q h) (fun r1 u t H locs ht hvm hw hB hz1 hk hS => ?_)
  subst hw
  rw [ht] at hB
  have hP : lPic G ids o z tE (k_lakes_s σ) H := ⟨d9, w9, hB, hwz⟩
  obtain ⟨v9, hO⟩ := hO
  replace hO : ∃ v, lOut G ids qo v H := ⟨v9, hO.kept (fun q h1 h2 => hk q h1 (fun h => by rcases h with h | h <;> omega))⟩
  replace hW : va_P G vwCl (wm (ids 0) (ids 1) (aM r) μ) H := fun k q hq0 => (hW k q hq0).kept (hk q.1 (hW k q hq0).lt (fun h => by have hqa := wm_at hq0; rcases h with h | h <;> omega))
  refine lv_aload_n hx hb dL_law_943 rfl (lv_at hl 2 rfl) ?_
  refine m_callI (As := []) (rest := [.int (k_lakes σ)]) hA0 ⟨hx, hb, hml, hown, hts⟩ (cm_lakes l G (ids 0) (ids 1) (aM r) μ ) (cwV 0 hts gL_law_X6_lakes rfl rfl rfl (by decide +kernel) ⟨Nat.le_of_ble_eq_true rfl, Nat.le_of_ble_eq_true rfl⟩) hKm hW (aM_DA r (ids 0) (ids 1) μ) hS rfl hl.1 rfl (Nat.le_of_ble_eq_true rfl) dL_law_944 ⟨by show (cells + 0) ≤ 601024; omega, by show (slots + 0) ≤ 7293034; omega⟩ (fun H1 locs1 hW1 _ _ hk hS1 => ?_)
  replace hO : ∃ v, lOut G ids qo v H ∧ True := hO.imp (fun v h => ⟨h, trivial⟩)
  obtain ⟨hP1, hO1⟩ := l_keep ho2 ho3 ho4 hP hO hk
  clear hk
  refine lv_icmp_eq (x := (k_lakes σ)) (y := (m_lakes μ)) (tgt := 1334) hx hb dL_law_947 (by decide) (fun _ => ?_) (fun c9 => absurd hp2 c9)
  exact W.widen (by omega) (by omega) (kk _ _ _ hP1 (hO1.imp (fun v h => h.1)) hW1 hS1 (lv_sub hl [0, 1, 2, 3, 4] rfl))
set_option maxHeartbeats 4000000 in
set_option maxRecDepth 100000 in
theorem law_houseOf {p : Program} {l : Launch} {e : Env} {s : State} {m : MethodId} {below : List Frame} {meth : Method} {c : Code} {b L : Nat} {xs : Nat → Int32} {G : va_G} {ids : Nat → ClassId} {tS tE o r qo z : Nat} (C0 : lX p l s m meth c b L xs G ids tS tE o r qo z) {cells slots i : Nat} {H : Heap} {locs : List Loc} {ls : Array Slot} {Q : State → Prop} {σ μ : Sg} (hi : i + 7 ≤ L) (hc : cells + 10 ≤ 601024) (hs : slots + 4000 ≤ 7293034)
    (hP : lPic G ids o z tE σ H) (hO : ∃ v, lOut G ids qo v H) (hW : va_P G vwCl (wm (ids 0) (ids 1) (aM r) μ) H) (hS : va_S (fun q => s.heap.size ≤ q) s.heap H locs) (hl : lv_has ls 8 [(4, .int (nI (i))), (3, .ref (qo)), (2, .ref (r)), (1, .ref (o)), (0, .ref (b))])
    (hMO : mOK μ) (hO : cOK σ) (hp1 : (m_houseOf_s μ (xs (i + 1)) (xs (i + 2))).1 0 0 = nI (lC [1, 2] (kx_houseOf σ (xs (i + 1)) (xs (i + 2))))) (hp2 : (kx_houseOf σ (xs (i + 1)) (xs (i + 2))) = 0 → (k_houseOf σ (xs (i + 1)) (xs (i + 2))) = (m_houseOf μ (xs (i + 1)) (xs (i + 2))))
    (kk : ∀ (H1 : Heap) (locs1 : List Loc) (ls1 : Array Slot), lPic G ids o z tE (if (kx_houseOf σ (xs (i + 1)) (xs (i + 2))) = 0 then σ else σ) H1 → (∃ v, lOut G ids qo v H1) → va_P G vwCl (wm (ids 0) (ids 1) (aM r) (m_houseOf_s μ (xs (i + 1)) (xs (i + 2)))) H1 → va_S (fun q => s.heap.size ≤ q) s.heap H1 locs1 → lv_has ls1 8 [(4, .int (nI (i))), (3, .ref (qo)), (2, .ref (r)), (1, .ref (o)), (0, .ref (b))] → W p l e room_1 s m #[Value.ref b] below meth c H1 locs1 (cells + 10) (slots + 4000) Q (F0 m 1334 ls1 [])) : W p l e room_1 s m #[Value.ref b] below meth c H locs cells slots Q (F0 m 952 ls []) := by
  obtain ⟨hx, hb, hml, hown, hts, hX, hbl, hl0, hK, hZ, hN, ho1, ho2, ho3, ho4, hL⟩ := C0
  have hbA : ¬ (fun q : Nat => s.heap.size ≤ q) b := Nat.not_le.mpr hbl
  have hL31 : L < 2 ^ 31 := by omega
  have hKm : va_K G vwCl (mTy (ids 0) (ids 1)) s := hK.sub [0, 1] rfl
  have hA0 : ∀ q, mA (aM r) q → (fun q : Nat => s.heap.size ≤ q) q := fun q h => by have h1 := mA_in h; show s.heap.size ≤ q; omega
  refine lv_aload_n hx hb dL_law_952 rfl (lv_at hl 3 rfl) ?_
  refine lv_aload_n hx hb dL_law_953 rfl (lv_at hl 4 rfl) ?_
  refine lv_iload hx hb dL_law_954 (lv_at hl 0 rfl) ?_
  refine lv_iconst (v := nI (1)) hx hb dL_law_956 (by decide) ?_
  refine n_add (x := i) (y := 1) hx hb dL_law_957 ?_
  refine l_sld hx hb hX hbl hbA hS (j := i + 1) (by omega) hL31 dL_law_958 ?_
  refine lv_aload_n hx hb dL_law_959 rfl (lv_at hl 4 rfl) ?_
  refine lv_iload hx hb dL_law_960 (lv_at hl 0 rfl) ?_
  refine lv_iconst (v := nI (2)) hx hb dL_law_962 (by decide) ?_
  refine n_add (x := i) (y := 2) hx hb dL_law_963 ?_
  refine l_sld hx hb hX hbl hbA hS (j := i + 2) (by omega) hL31 dL_law_964 ?_
  refine lv_aload_n hx hb dL_law_965 rfl (lv_at hl 1 rfl) ?_
  refine l_wrap (As := [.ref (o), .int (xs (i + 1)), .int (xs (i + 2)), .ref (qo)]) (rest := []) ⟨hx, hb, hml, hown, hts⟩ (lc_houseOf l hl0 G ids tS tE o z qo (by omega) ho4 σ (xs (i + 1)) (xs (i + 2)) hO) (vx_cwSW 4 hts gL_law_L_houseOf rfl rfl rfl (by decide +kernel) ⟨Nat.le_of_ble_eq_true rfl, Nat.le_of_ble_eq_true rfl⟩) hK hZ hN ho1 ho2 ho3 ho4 hP hO hW hS rfl hl.1 rfl (Nat.le_of_ble_eq_true rfl) dL_law_966 ⟨by show cells + 2 ≤ 601024; omega, by show slots + 12 ≤ 7293034; omega⟩ (fun H locs hP hO hW hS => ?_)
  refine lv_istore (lv' := [(5, .int (nI (lC [1, 2] (kx_houseOf σ (xs (i + 1)) (xs (i + 2)))))), (4, .int (nI (i))), (3, .ref (qo)), (2, .ref (r)), (1, .ref (o)), (0, .ref (b))]) hx hb dL_law_969 hl (by decide) rfl (fun ls hl => ?_)
  refine lv_aload_n hx hb dL_law_971 rfl (lv_at hl 3 rfl) ?_
  refine lv_aload_n hx hb dL_law_972 rfl (lv_at hl 5 rfl) ?_
  refine lv_iload hx hb dL_law_973 (lv_at hl 1 rfl) ?_
  refine lv_iconst (v := nI (1)) hx hb dL_law_975 (by decide) ?_
  refine n_add (x := i) (y := 1) hx hb dL_law_976 ?_
  refine l_sld hx hb hX hbl hbA hS (j := i + 1) (by omega) hL31 dL_law_977 ?_
  refine lv_aload_n hx hb dL_law_978 rfl (lv_at hl 5 rfl) ?_
  refine lv_iload hx hb dL_law_979 (lv_at hl 1 rfl) ?_
  refine lv_iconst (v := nI (2)) hx hb dL_law_981 (by decide) ?_
  refine n_add (x := i) (y := 2) hx hb dL_law_982 ?_
  refine l_sld hx hb hX hbl hbA hS (j := i + 2) (by omega) hL31 dL_law_983 ?_
  refine m_callI (As := [.int (xs (i + 1)), .int (xs (i + 2))]) (rest := []) hA0 ⟨hx, hb, hml, hown, hts⟩ (cm_houseOf l G (ids 0) (ids 1) (aM r) μ (xs (i + 1)) (xs (i + 2)) hMO) (cwV 2 hts gL_law_X6_houseOf rfl rfl rfl (by decide +kernel) ⟨Nat.le_of_ble_eq_true rfl, Nat.le_of_ble_eq_true rfl⟩) hKm hW (aM_DA r (ids 0) (ids 1) μ) hS rfl hl.1 rfl (Nat.le_of_ble_eq_true rfl) dL_law_984 ⟨by show (cells + 2) ≤ 601024; omega, by show (slots + 12) ≤ 7293034; omega⟩ (fun H1 locs1 hW1 _ _ hk hS1 => ?_)
  obtain ⟨hP1, hO1⟩ := l_keep ho2 ho3 ho4 hP hO hk
  clear hk
  refine lv_istore (lv' := [(6, .int (m_houseOf μ (xs (i + 1)) (xs (i + 2)))), (5, .int (nI (lC [1, 2] (kx_houseOf σ (xs (i + 1)) (xs (i + 2)))))), (4, .int (nI (i))), (3, .ref (qo)), (2, .ref (r)), (1, .ref (o)), (0, .ref (b))]) hx hb dL_law_987 hl (by decide) rfl (fun ls hl => ?_)
  refine lv_aload_n hx hb dL_law_989 rfl (lv_at hl 4 rfl) ?_
  refine m_callI (As := []) (rest := []) hA0 ⟨hx, hb, hml, hown, hts⟩ (cm_thrown l G (ids 0) (ids 1) (aM r) (m_houseOf_s μ (xs (i + 1)) (xs (i + 2)))) (cwV 0 hts gL_law_X6_thrown rfl rfl rfl (by decide +kernel) ⟨Nat.le_of_ble_eq_true rfl, Nat.le_of_ble_eq_true rfl⟩) hKm hW1 (aM_DA r (ids 0) (ids 1) (m_houseOf_s μ (xs (i + 1)) (xs (i + 2)))) hS1 rfl hl.1 rfl (Nat.le_of_ble_eq_true rfl) dL_law_990 ⟨by show (cells + 2) ≤ 601024; omega, by show (slots + 12) ≤ 7293034; omega⟩ (fun H2 locs2 hW2 _ _ hk hS2 => ?_)
  obtain ⟨hP2, hO2⟩ := l_keep ho2 ho3 ho4 hP1 hO1 hk
  clear hk
  refine lv_iload hx hb dL_law_993 (lv_at hl 1 rfl) ?_
  refine lv_icmp_eq (x := (m_thrown (m_houseOf_s μ (xs (i + 1)) (xs (i + 2))))) (y := (nI (lC [1, 2] (kx_houseOf σ (xs (i + 1)) (xs (i + 2)))))) (tgt := 1000) hx hb dL_law_995 (by decide) (fun _ => ?_) (fun c9 => absurd hp1 c9)
  refine lv_iload hx hb dL_law_1000 (lv_at hl 1 rfl) ?_
  refine lv_if_ne (x := (nI (lC [1, 2] (kx_houseOf σ (xs (i + 1)) (xs (i + 2)))))) (tgt := 1017) hx hb dL_law_1002 (by decide) (fun _ => ?_) (fun c9 => ?_)
  · refine lv_goto (tgt := 1334) hx hb dL_law_1017 (by decide) ?_
    exact W.widen (by omega) (by omega) (kk _ _ _ hP2 (hO2.imp (fun v h => h.1)) hW2 hS2 (lv_sub hl [2, 3, 4, 5, 6] rfl))
  · have hX0 : (kx_houseOf σ (xs (i + 1)) (xs (i + 2))) = 0 := lC_c (S := [1, 2]) (by decide) (kxK_houseOf σ (xs (i + 1)) (xs (i + 2))) c9
    obtain ⟨v9, hv9, hg9⟩ := hO2
    have hg := hg9 hX0
    dsimp only at hg
    rw [hp2 hX0] at hg
    subst hg
    obtain ⟨f9, hf9, hf0⟩ := hv9
    refine lv_aload_n hx hb dL_law_1005 rfl (lv_at hl 3 rfl) ?_
    refine lv_iconst (v := nI (0)) hx hb dL_law_1006 (by decide) ?_
    refine x_lald (v := (m_houseOf μ (xs (i + 1)) (xs (i + 2))).toInt64) hx hb hK hf9 (j := nI 0) (vp_in_nI (by decide) (by decide)) (by rw [nI_clamp (by decide)]; exact hf0) dL_law_1007 ?_
    refine lv_iload hx hb dL_law_1008 (lv_at hl 0 rfl) ?_
    refine lv_i2l (v := (m_houseOf μ (xs (i + 1)) (xs (i + 2))).toInt64) hx hb dL_law_1010 rfl ?_
    refine W.lcmp hx hb dL_law_1011 ?_
    refine lv_if_eq (tgt := 1017) hx hb dL_law_1012 (by decide) (fun _ => ?_) (fun c9 => absurd (lcmp_self _) c9)
    refine lv_goto (tgt := 1334) hx hb dL_law_1017 (by decide) ?_
    exact W.widen (by omega) (by omega) (kk _ _ _ hP2 ⟨_, f9, hf9, hf0⟩ hW2 hS2 (lv_sub hl [2, 3, 4, 5, 6] rfl))
set_option maxHeartbeats 4000000 in
set_option maxRecDepth 100000 in
theorem law_reading {p : Program} {l : Launch} {e : Env} {s : State} {m : MethodId} {below : List Frame} {meth : Method} {c : Code} {b L : Nat} {xs : Nat → Int32} {G : va_G} {ids : Nat → ClassId} {tS tE o r qo z : Nat} (C0 : lX p l s m meth c b L xs G ids tS tE o r qo z) {cells slots i : Nat} {H : Heap} {locs : List Loc} {ls : Array Slot} {Q : State → Prop} {σ μ : Sg} (hi : i + 7 ≤ L) (hc : cells + 10 ≤ 601024) (hs : slots + 4000 ≤ 7293034)
    (hP : lPic G ids o z tE σ H) (hO : ∃ v, lOut G ids qo v H) (hW : va_P G vwCl (wm (ids 0) (ids 1) (aM r) μ) H) (hS : va_S (fun q => s.heap.size ≤ q) s.heap H locs) (hl : lv_has ls 8 [(4, .int (nI (i))), (3, .ref (qo)), (2, .ref (r)), (1, .ref (o)), (0, .ref (b))])
    (hMO : mOK μ) (hMB : ∀ j, j < (μ.1 19 0).toNatClampNeg → vp_in (μ.1 22 j) 601) (hO : cOK σ) (hp1 : (m_reading_s μ (xs (i + 1)) (xs (i + 2)) (xs (i + 3))).1 0 0 = nI (lC [1] (kx_reading σ (xs (i + 1)) (xs (i + 2)) (xs (i + 3))))) (hp2 : (kx_reading σ (xs (i + 1)) (xs (i + 2)) (xs (i + 3))) = 0 → (k_reading σ (xs (i + 1)) (xs (i + 2)) (xs (i + 3))) = (m_reading μ (xs (i + 1)) (xs (i + 2)) (xs (i + 3))))
    (kk : ∀ (H1 : Heap) (locs1 : List Loc) (ls1 : Array Slot), lPic G ids o z tE (if (kx_reading σ (xs (i + 1)) (xs (i + 2)) (xs (i + 3))) = 0 then σ else σ) H1 → (∃ v, lOut G ids qo v H1) → va_P G vwCl (wm (ids 0) (ids 1) (aM r) (m_reading_s μ (xs (i + 1)) (xs (i + 2)) (xs (i + 3)))) H1 → va_S (fun q => s.heap.size ≤ q) s.heap H1 locs1 → lv_has ls1 8 [(4, .int (nI (i))), (3, .ref (qo)), (2, .ref (r)), (1, .ref (o)), (0, .ref (b))] → W p l e room_1 s m #[Value.ref b] below meth c H1 locs1 (cells + 10) (slots + 4000) Q (F0 m 1334 ls1 [])) : W p l e room_1 s m #[Value.ref b] below meth c H locs cells slots Q (F0 m 1020 ls []) := by
  obtain ⟨hx, hb, hml, hown, hts, hX, hbl, hl0, hK, hZ, hN, ho1, ho2, ho3, ho4, hL⟩ := C0
  have hbA : ¬ (fun q : Nat => s.heap.size ≤ q) b := Nat.not_le.mpr hbl
  have hL31 : L < 2 ^ 31 := by omega
  have hKm : va_K G vwCl (mTy (ids 0) (ids 1)) s := hK.sub [0, 1] rfl
  have hA0 : ∀ q, mA (aM r) q → (fun q : Nat => s.heap.size ≤ q) q := fun q h => by have h1 := mA_in h; show s.heap.size ≤ q; omega
  refine lv_aload_n hx hb dL_law_1020 rfl (lv_at hl 3 rfl) ?_
  refine lv_aload_n hx hb dL_law_1021 rfl (lv_at hl 4 rfl) ?_
  refine lv_iload hx hb dL_law_1022 (lv_at hl 0 rfl) ?_
  refine lv_iconst (v := nI (1)) hx hb dL_law_1024 (by decide) ?_
  refine n_add (x := i) (y := 1) hx hb dL_law_1025 ?_
  refine l_sld hx hb hX hbl hbA hS (j := i + 1) (by omega) hL31 dL_law_1026 ?_
  refine lv_aload_n hx hb dL_law_1027 rfl (lv_at hl 4 rfl) ?_
  refine lv_iload hx hb dL_law_1028 (lv_at hl 0 rfl) ?_
  refine lv_iconst (v := nI (2)) hx hb dL_law_1030 (by decide) ?_
  refine n_add (x := i) (y := 2) hx hb dL_law_1031 ?_
  refine l_sld hx hb hX hbl hbA hS (j := i + 2) (by omega) hL31 dL_law_1032 ?_
  refine lv_aload_n hx hb dL_law_1033 rfl (lv_at hl 4 rfl) ?_
  refine lv_iload hx hb dL_law_1034 (lv_at hl 0 rfl) ?_
  refine lv_iconst (v := nI (3)) hx hb dL_law_1036 (by decide) ?_
  refine n_add (x := i) (y := 3) hx hb dL_law_1037 ?_
  refine l_sld hx hb hX hbl hbA hS (j := i + 3) (by omega) hL31 dL_law_1038 ?_
  refine lv_aload_n hx hb dL_law_1039 rfl (lv_at hl 1 rfl) ?_
  refine l_wrap (As := [.ref (o), .int (xs (i + 1)), .int (xs (i + 2)), .int (xs (i + 3)), .ref (qo)]) (rest := []) ⟨hx, hb, hml, hown, hts⟩ (lc_reading l hl0 G ids tS tE o z qo (by omega) ho4 σ (xs (i + 1)) (xs (i + 2)) (xs (i + 3)) hO) (vx_cwSW 5 hts gL_law_L_reading rfl rfl rfl (by decide +kernel) ⟨Nat.le_of_ble_eq_true rfl, Nat.le_of_ble_eq_true rfl⟩) hK hZ hN ho1 ho2 ho3 ho4 hP hO hW hS rfl hl.1 rfl (Nat.le_of_ble_eq_true rfl) dL_law_1040 ⟨by show cells + 3 ≤ 601024; omega, by show slots + 18 ≤ 7293034; omega⟩ (fun H locs hP hO hW hS => ?_)
  refine lv_istore (lv' := [(5, .int (nI (lC [1] (kx_reading σ (xs (i + 1)) (xs (i + 2)) (xs (i + 3)))))), (4, .int (nI (i))), (3, .ref (qo)), (2, .ref (r)), (1, .ref (o)), (0, .ref (b))]) hx hb dL_law_1043 hl (by decide) rfl (fun ls hl => ?_)
  refine lv_aload_n hx hb dL_law_1045 rfl (lv_at hl 3 rfl) ?_
  refine lv_aload_n hx hb dL_law_1046 rfl (lv_at hl 5 rfl) ?_
  refine lv_iload hx hb dL_law_1047 (lv_at hl 1 rfl) ?_
  refine lv_iconst (v := nI (1)) hx hb dL_law_1049 (by decide) ?_
  refine n_add (x := i) (y := 1) hx hb dL_law_1050 ?_
  refine l_sld hx hb hX hbl hbA hS (j := i + 1) (by omega) hL31 dL_law_1051 ?_
  refine lv_aload_n hx hb dL_law_1052 rfl (lv_at hl 5 rfl) ?_
  refine lv_iload hx hb dL_law_1053 (lv_at hl 1 rfl) ?_
  refine lv_iconst (v := nI (2)) hx hb dL_law_1055 (by decide) ?_
  refine n_add (x := i) (y := 2) hx hb dL_law_1056 ?_
  refine l_sld hx hb hX hbl hbA hS (j := i + 2) (by omega) hL31 dL_law_1057 ?_
  refine lv_aload_n hx hb dL_law_1058 rfl (lv_at hl 5 rfl) ?_
  refine lv_iload hx hb dL_law_1059 (lv_at hl 1 rfl) ?_
  refine lv_iconst (v := nI (3)) hx hb dL_law_1061 (by decide) ?_
  refine n_add (x := i) (y := 3) hx hb dL_law_1062 ?_
  refine l_sld hx hb hX hbl hbA hS (j := i + 3) (by omega) hL31 dL_law_1063 ?_
  refine m_callI (As := [.int (xs (i + 1)), .int (xs (i + 2)), .int (xs (i + 3))]) (rest := []) hA0 ⟨hx, hb, hml, hown, hts⟩ (cm_reading l G (ids 0) (ids 1) (aM r) μ (xs (i + 1)) (xs (i + 2)) (xs (i + 3)) hMO hMB) (cwV 3 hts gL_law_X6_reading rfl rfl rfl (by decide +kernel) ⟨Nat.le_of_ble_eq_true rfl, Nat.le_of_ble_eq_true rfl⟩) hKm hW (aM_DA r (ids 0) (ids 1) μ) hS rfl hl.1 rfl (Nat.le_of_ble_eq_true rfl) dL_law_1064 ⟨by show (cells + 3) ≤ 601024; omega, by show (slots + 18) ≤ 7293034; omega⟩ (fun H1 locs1 hW1 _ _ hk hS1 => ?_)
  obtain ⟨hP1, hO1⟩ := l_keep ho2 ho3 ho4 hP hO hk
  clear hk
  refine lv_istore (lv' := [(6, .int (m_reading μ (xs (i + 1)) (xs (i + 2)) (xs (i + 3)))), (5, .int (nI (lC [1] (kx_reading σ (xs (i + 1)) (xs (i + 2)) (xs (i + 3)))))), (4, .int (nI (i))), (3, .ref (qo)), (2, .ref (r)), (1, .ref (o)), (0, .ref (b))]) hx hb dL_law_1067 hl (by decide) rfl (fun ls hl => ?_)
  refine lv_aload_n hx hb dL_law_1069 rfl (lv_at hl 4 rfl) ?_
  refine m_callI (As := []) (rest := []) hA0 ⟨hx, hb, hml, hown, hts⟩ (cm_thrown l G (ids 0) (ids 1) (aM r) (m_reading_s μ (xs (i + 1)) (xs (i + 2)) (xs (i + 3)))) (cwV 0 hts gL_law_X6_thrown rfl rfl rfl (by decide +kernel) ⟨Nat.le_of_ble_eq_true rfl, Nat.le_of_ble_eq_true rfl⟩) hKm hW1 (aM_DA r (ids 0) (ids 1) (m_reading_s μ (xs (i + 1)) (xs (i + 2)) (xs (i + 3)))) hS1 rfl hl.1 rfl (Nat.le_of_ble_eq_true rfl) dL_law_1070 ⟨by show (cells + 3) ≤ 601024; omega, by show (slots + 18) ≤ 7293034; omega⟩ (fun H2 locs2 hW2 _ _ hk hS2 => ?_)
  obtain ⟨hP2, hO2⟩ := l_keep ho2 ho3 ho4 hP1 hO1 hk
  clear hk
  refine lv_iload hx hb dL_law_1073 (lv_at hl 1 rfl) ?_
  refine lv_icmp_eq (x := (m_thrown (m_reading_s μ (xs (i + 1)) (xs (i + 2)) (xs (i + 3))))) (y := (nI (lC [1] (kx_reading σ (xs (i + 1)) (xs (i + 2)) (xs (i + 3)))))) (tgt := 1080) hx hb dL_law_1075 (by decide) (fun _ => ?_) (fun c9 => absurd hp1 c9)
  refine lv_iload hx hb dL_law_1080 (lv_at hl 1 rfl) ?_
  refine lv_if_ne (x := (nI (lC [1] (kx_reading σ (xs (i + 1)) (xs (i + 2)) (xs (i + 3)))))) (tgt := 1097) hx hb dL_law_1082 (by decide) (fun _ => ?_) (fun c9 => ?_)
  · refine lv_goto (tgt := 1334) hx hb dL_law_1097 (by decide) ?_
    exact W.widen (by omega) (by omega) (kk _ _ _ hP2 (hO2.imp (fun v h => h.1)) hW2 hS2 (lv_sub hl [2, 3, 4, 5, 6] rfl))
  · have hX0 : (kx_reading σ (xs (i + 1)) (xs (i + 2)) (xs (i + 3))) = 0 := lC_c (S := [1]) (by decide) (kxK_reading σ (xs (i + 1)) (xs (i + 2)) (xs (i + 3))) c9
    obtain ⟨v9, hv9, hg9⟩ := hO2
    have hg := hg9 hX0
    dsimp only at hg
    rw [hp2 hX0] at hg
    subst hg
    obtain ⟨f9, hf9, hf0⟩ := hv9
    refine lv_aload_n hx hb dL_law_1085 rfl (lv_at hl 3 rfl) ?_
    refine lv_iconst (v := nI (0)) hx hb dL_law_1086 (by decide) ?_
    refine x_lald (v := (m_reading μ (xs (i + 1)) (xs (i + 2)) (xs (i + 3))).toInt64) hx hb hK hf9 (j := nI 0) (vp_in_nI (by decide) (by decide)) (by rw [nI_clamp (by decide)]; exact hf0) dL_law_1087 ?_
    refine lv_iload hx hb dL_law_1088 (lv_at hl 0 rfl) ?_
    refine lv_i2l (v := (m_reading μ (xs (i + 1)) (xs (i + 2)) (xs (i + 3))).toInt64) hx hb dL_law_1090 rfl ?_
    refine W.lcmp hx hb dL_law_1091 ?_
    refine lv_if_eq (tgt := 1097) hx hb dL_law_1092 (by decide) (fun _ => ?_) (fun c9 => absurd (lcmp_self _) c9)
    refine lv_goto (tgt := 1334) hx hb dL_law_1097 (by decide) ?_
    exact W.widen (by omega) (by omega) (kk _ _ _ hP2 ⟨_, f9, hf9, hf0⟩ hW2 hS2 (lv_sub hl [2, 3, 4, 5, 6] rfl))
set_option maxHeartbeats 4000000 in
set_option maxRecDepth 100000 in
theorem law_claimOf {p : Program} {l : Launch} {e : Env} {s : State} {m : MethodId} {below : List Frame} {meth : Method} {c : Code} {b L : Nat} {xs : Nat → Int32} {G : va_G} {ids : Nat → ClassId} {tS tE o r qo z : Nat} (C0 : lX p l s m meth c b L xs G ids tS tE o r qo z) {cells slots i : Nat} {H : Heap} {locs : List Loc} {ls : Array Slot} {Q : State → Prop} {σ μ : Sg} (hi : i + 7 ≤ L) (hc : cells + 10 ≤ 601024) (hs : slots + 4000 ≤ 7293034)
    (hP : lPic G ids o z tE σ H) (hO : ∃ v, lOut G ids qo v H) (hW : va_P G vwCl (wm (ids 0) (ids 1) (aM r) μ) H) (hS : va_S (fun q => s.heap.size ≤ q) s.heap H locs) (hl : lv_has ls 8 [(4, .int (nI (i))), (3, .ref (qo)), (2, .ref (r)), (1, .ref (o)), (0, .ref (b))])
    (hMO : mOK μ) (hO : cOK σ) (hp1 : (m_claimOf_s μ (xs (i + 1))).1 0 0 = nI (lC [1] (kx_claimOf σ (xs (i + 1))))) (hp2 : (kx_claimOf σ (xs (i + 1))) = 0 → (k_claimOf σ (xs (i + 1))) = (m_claimOf μ (xs (i + 1))))
    (kk : ∀ (H1 : Heap) (locs1 : List Loc) (ls1 : Array Slot), lPic G ids o z tE (if (kx_claimOf σ (xs (i + 1))) = 0 then σ else σ) H1 → (∃ v, lOut G ids qo v H1) → va_P G vwCl (wm (ids 0) (ids 1) (aM r) (m_claimOf_s μ (xs (i + 1)))) H1 → va_S (fun q => s.heap.size ≤ q) s.heap H1 locs1 → lv_has ls1 8 [(4, .int (nI (i))), (3, .ref (qo)), (2, .ref (r)), (1, .ref (o)), (0, .ref (b))] → W p l e room_1 s m #[Value.ref b] below meth c H1 locs1 (cells + 10) (slots + 4000) Q (F0 m 1334 ls1 [])) : W p l e room_1 s m #[Value.ref b] below meth c H locs cells slots Q (F0 m 1100 ls []) := by
  obtain ⟨hx, hb, hml, hown, hts, hX, hbl, hl0, hK, hZ, hN, ho1, ho2, ho3, ho4, hL⟩ := C0
  have hbA : ¬ (fun q : Nat => s.heap.size ≤ q) b := Nat.not_le.mpr hbl
  have hL31 : L < 2 ^ 31 := by omega
  have hKm : va_K G vwCl (mTy (ids 0) (ids 1)) s := hK.sub [0, 1] rfl
  have hA0 : ∀ q, mA (aM r) q → (fun q : Nat => s.heap.size ≤ q) q := fun q h => by have h1 := mA_in h; show s.heap.size ≤ q; omega
  refine lv_aload_n hx hb dL_law_1100 rfl (lv_at hl 3 rfl) ?_
  refine lv_aload_n hx hb dL_law_1101 rfl (lv_at hl 4 rfl) ?_
  refine lv_iload hx hb dL_law_1102 (lv_at hl 0 rfl) ?_
  refine lv_iconst (v := nI (1)) hx hb dL_law_1104 (by decide) ?_
  refine n_add (x := i) (y := 1) hx hb dL_law_1105 ?_
  refine l_sld hx hb hX hbl hbA hS (j := i + 1) (by omega) hL31 dL_law_1106 ?_
  refine lv_aload_n hx hb dL_law_1107 rfl (lv_at hl 1 rfl) ?_
  refine l_wrap (As := [.ref (o), .int (xs (i + 1)), .ref (qo)]) (rest := []) ⟨hx, hb, hml, hown, hts⟩ (lc_claimOf l hl0 G ids tS tE o z qo (by omega) ho4 σ (xs (i + 1)) hO) (vx_cwSW 3 hts gL_law_L_claimOf rfl rfl rfl (by decide +kernel) ⟨Nat.le_of_ble_eq_true rfl, Nat.le_of_ble_eq_true rfl⟩) hK hZ hN ho1 ho2 ho3 ho4 hP hO hW hS rfl hl.1 rfl (Nat.le_of_ble_eq_true rfl) dL_law_1108 ⟨by show cells + 1 ≤ 601024; omega, by show slots + 6 ≤ 7293034; omega⟩ (fun H locs hP hO hW hS => ?_)
  refine lv_istore (lv' := [(5, .int (nI (lC [1] (kx_claimOf σ (xs (i + 1)))))), (4, .int (nI (i))), (3, .ref (qo)), (2, .ref (r)), (1, .ref (o)), (0, .ref (b))]) hx hb dL_law_1111 hl (by decide) rfl (fun ls hl => ?_)
  refine lv_aload_n hx hb dL_law_1113 rfl (lv_at hl 3 rfl) ?_
  refine lv_aload_n hx hb dL_law_1114 rfl (lv_at hl 5 rfl) ?_
  refine lv_iload hx hb dL_law_1115 (lv_at hl 1 rfl) ?_
  refine lv_iconst (v := nI (1)) hx hb dL_law_1117 (by decide) ?_
  refine n_add (x := i) (y := 1) hx hb dL_law_1118 ?_
  refine l_sld hx hb hX hbl hbA hS (j := i + 1) (by omega) hL31 dL_law_1119 ?_
  refine m_callI (As := [.int (xs (i + 1))]) (rest := []) hA0 ⟨hx, hb, hml, hown, hts⟩ (cm_claimOf l G (ids 0) (ids 1) (aM r) μ (xs (i + 1)) hMO) (cwV 1 hts gL_law_X6_claimOf rfl rfl rfl (by decide +kernel) ⟨Nat.le_of_ble_eq_true rfl, Nat.le_of_ble_eq_true rfl⟩) hKm hW (aM_DA r (ids 0) (ids 1) μ) hS rfl hl.1 rfl (Nat.le_of_ble_eq_true rfl) dL_law_1120 ⟨by show (cells + 1) ≤ 601024; omega, by show (slots + 6) ≤ 7293034; omega⟩ (fun H1 locs1 hW1 _ _ hk hS1 => ?_)
  obtain ⟨hP1, hO1⟩ := l_keep ho2 ho3 ho4 hP hO hk
  clear hk
  refine lv_istore (lv' := [(6, .int (m_claimOf μ (xs (i + 1)))), (5, .int (nI (lC [1] (kx_claimOf σ (xs (i + 1)))))), (4, .int (nI (i))), (3, .ref (qo)), (2, .ref (r)), (1, .ref (o)), (0, .ref (b))]) hx hb dL_law_1123 hl (by decide) rfl (fun ls hl => ?_)
  refine lv_aload_n hx hb dL_law_1125 rfl (lv_at hl 4 rfl) ?_
  refine m_callI (As := []) (rest := []) hA0 ⟨hx, hb, hml, hown, hts⟩ (cm_thrown l G (ids 0) (ids 1) (aM r) (m_claimOf_s μ (xs (i + 1)))) (cwV 0 hts gL_law_X6_thrown rfl rfl rfl (by decide +kernel) ⟨Nat.le_of_ble_eq_true rfl, Nat.le_of_ble_eq_true rfl⟩) hKm hW1 (aM_DA r (ids 0) (ids 1) (m_claimOf_s μ (xs (i + 1)))) hS1 rfl hl.1 rfl (Nat.le_of_ble_eq_true rfl) dL_law_1126 ⟨by show (cells + 1) ≤ 601024; omega, by show (slots + 6) ≤ 7293034; omega⟩ (fun H2 locs2 hW2 _ _ hk hS2 => ?_)
  obtain ⟨hP2, hO2⟩ := l_keep ho2 ho3 ho4 hP1 hO1 hk
  clear hk
  refine lv_iload hx hb dL_law_1129 (lv_at hl 1 rfl) ?_
  refine lv_icmp_eq (x := (m_thrown (m_claimOf_s μ (xs (i + 1))))) (y := (nI (lC [1] (kx_claimOf σ (xs (i + 1)))))) (tgt := 1136) hx hb dL_law_1131 (by decide) (fun _ => ?_) (fun c9 => absurd hp1 c9)
  refine lv_iload hx hb dL_law_1136 (lv_at hl 1 rfl) ?_
  refine lv_if_ne (x := (nI (lC [1] (kx_claimOf σ (xs (i + 1)))))) (tgt := 1153) hx hb dL_law_1138 (by decide) (fun _ => ?_) (fun c9 => ?_)
  · refine lv_goto (tgt := 1334) hx hb dL_law_1153 (by decide) ?_
    exact W.widen (by omega) (by omega) (kk _ _ _ hP2 (hO2.imp (fun v h => h.1)) hW2 hS2 (lv_sub hl [2, 3, 4, 5, 6] rfl))
  · have hX0 : (kx_claimOf σ (xs (i + 1))) = 0 := lC_c (S := [1]) (by decide) (kxK_claimOf σ (xs (i + 1))) c9
    obtain ⟨v9, hv9, hg9⟩ := hO2
    have hg := hg9 hX0
    dsimp only at hg
    rw [hp2 hX0] at hg
    subst hg
    obtain ⟨f9, hf9, hf0⟩ := hv9
    refine lv_aload_n hx hb dL_law_1141 rfl (lv_at hl 3 rfl) ?_
    refine lv_iconst (v := nI (0)) hx hb dL_law_1142 (by decide) ?_
    refine x_lald (v := (m_claimOf μ (xs (i + 1))).toInt64) hx hb hK hf9 (j := nI 0) (vp_in_nI (by decide) (by decide)) (by rw [nI_clamp (by decide)]; exact hf0) dL_law_1143 ?_
    refine lv_iload hx hb dL_law_1144 (lv_at hl 0 rfl) ?_
    refine lv_i2l (v := (m_claimOf μ (xs (i + 1))).toInt64) hx hb dL_law_1146 rfl ?_
    refine W.lcmp hx hb dL_law_1147 ?_
    refine lv_if_eq (tgt := 1153) hx hb dL_law_1148 (by decide) (fun _ => ?_) (fun c9 => absurd (lcmp_self _) c9)
    refine lv_goto (tgt := 1334) hx hb dL_law_1153 (by decide) ?_
    exact W.widen (by omega) (by omega) (kk _ _ _ hP2 ⟨_, f9, hf9, hf0⟩ hW2 hS2 (lv_sub hl [2, 3, 4, 5, 6] rfl))
set_option maxHeartbeats 4000000 in
set_option maxRecDepth 100000 in
theorem law_claimAnew {p : Program} {l : Launch} {e : Env} {s : State} {m : MethodId} {below : List Frame} {meth : Method} {c : Code} {b L : Nat} {xs : Nat → Int32} {G : va_G} {ids : Nat → ClassId} {tS tE o r qo z : Nat} (C0 : lX p l s m meth c b L xs G ids tS tE o r qo z) {cells slots i : Nat} {H : Heap} {locs : List Loc} {ls : Array Slot} {Q : State → Prop} {σ μ : Sg} (hi : i + 7 ≤ L) (hc : cells + 10 ≤ 601024) (hs : slots + 4000 ≤ 7293034)
    (hP : lPic G ids o z tE σ H) (hO : ∃ v, lOut G ids qo v H) (hW : va_P G vwCl (wm (ids 0) (ids 1) (aM r) μ) H) (hS : va_S (fun q => s.heap.size ≤ q) s.heap H locs) (hl : lv_has ls 8 [(4, .int (nI (i))), (3, .ref (qo)), (2, .ref (r)), (1, .ref (o)), (0, .ref (b))])
    (hMO : mOK μ) (hO : cOK σ) (hC : cCl σ) (hp1 : (m_claimAnew_s μ (xs (i + 1))).1 0 0 = nI (lC [1] (kx_claimAnew σ (xs (i + 1))))) (hp2 : (kx_claimAnew σ (xs (i + 1))) = 0 → (k_claimAnew σ (xs (i + 1))) = (m_claimAnew μ (xs (i + 1))))
    (kk : ∀ (H1 : Heap) (locs1 : List Loc) (ls1 : Array Slot), lPic G ids o z tE (if (kx_claimAnew σ (xs (i + 1))) = 0 then σ else σ) H1 → (∃ v, lOut G ids qo v H1) → va_P G vwCl (wm (ids 0) (ids 1) (aM r) (m_claimAnew_s μ (xs (i + 1)))) H1 → va_S (fun q => s.heap.size ≤ q) s.heap H1 locs1 → lv_has ls1 8 [(4, .int (nI (i))), (3, .ref (qo)), (2, .ref (r)), (1, .ref (o)), (0, .ref (b))] → W p l e room_1 s m #[Value.ref b] below meth c H1 locs1 (cells + 10) (slots + 4000) Q (F0 m 1334 ls1 [])) : W p l e room_1 s m #[Value.ref b] below meth c H locs cells slots Q (F0 m 1156 ls []) := by
  obtain ⟨hx, hb, hml, hown, hts, hX, hbl, hl0, hK, hZ, hN, ho1, ho2, ho3, ho4, hL⟩ := C0
  have hbA : ¬ (fun q : Nat => s.heap.size ≤ q) b := Nat.not_le.mpr hbl
  have hL31 : L < 2 ^ 31 := by omega
  have hKm : va_K G vwCl (mTy (ids 0) (ids 1)) s := hK.sub [0, 1] rfl
  have hA0 : ∀ q, mA (aM r) q → (fun q : Nat => s.heap.size ≤ q) q := fun q h => by have h1 := mA_in h; show s.heap.size ≤ q; omega
  refine lv_aload_n hx hb dL_law_1156 rfl (lv_at hl 3 rfl) ?_
  refine lv_aload_n hx hb dL_law_1157 rfl (lv_at hl 4 rfl) ?_
  refine lv_iload hx hb dL_law_1158 (lv_at hl 0 rfl) ?_
  refine lv_iconst (v := nI (1)) hx hb dL_law_1160 (by decide) ?_
  refine n_add (x := i) (y := 1) hx hb dL_law_1161 ?_
  refine l_sld hx hb hX hbl hbA hS (j := i + 1) (by omega) hL31 dL_law_1162 ?_
  refine lv_aload_n hx hb dL_law_1163 rfl (lv_at hl 1 rfl) ?_
  refine l_wrap (As := [.ref (o), .int (xs (i + 1)), .ref (qo)]) (rest := []) ⟨hx, hb, hml, hown, hts⟩ (lc_claimAnew l hl0 G ids tS tE o z qo (by omega) ho4 σ (xs (i + 1)) hO hC) (vx_cwSW 3 hts gL_law_L_claimAnew rfl rfl rfl (by decide +kernel) ⟨Nat.le_of_ble_eq_true rfl, Nat.le_of_ble_eq_true rfl⟩) hK hZ hN ho1 ho2 ho3 ho4 hP hO hW hS rfl hl.1 rfl (Nat.le_of_ble_eq_true rfl) dL_law_1164 ⟨by show cells + 1 ≤ 601024; omega, by show slots + 6 ≤ 7293034; omega⟩ (fun H locs hP hO hW hS => ?_)
  refine lv_istore (lv' := [(5, .int (nI (lC [1] (kx_claimAnew σ (xs (i + 1)))))), (4, .int (nI (i))), (3, .ref (qo)), (2, .ref (r)), (1, .ref (o)), (0, .ref (b))]) hx hb dL_law_1167 hl (by decide) rfl (fun ls hl => ?_)
  refine lv_aload_n hx hb dL_law_1169 rfl (lv_at hl 3 rfl) ?_
  refine lv_aload_n hx hb dL_law_1170 rfl (lv_at hl 5 rfl) ?_
  refine lv_iload hx hb dL_law_1171 (lv_at hl 1 rfl) ?_
  refine lv_iconst (v := nI (1)) hx hb dL_law_1173 (by decide) ?_
  refine n_add (x := i) (y := 1) hx hb dL_law_1174 ?_
  refine l_sld hx hb hX hbl hbA hS (j := i + 1) (by omega) hL31 dL_law_1175 ?_
  refine m_callI (As := [.int (xs (i + 1))]) (rest := []) hA0 ⟨hx, hb, hml, hown, hts⟩ (cm_claimAnew l G (ids 0) (ids 1) (aM r) μ (xs (i + 1)) hMO) (cwV 1 hts gL_law_X6_claimAnew rfl rfl rfl (by decide +kernel) ⟨Nat.le_of_ble_eq_true rfl, Nat.le_of_ble_eq_true rfl⟩) hKm hW (aM_DA r (ids 0) (ids 1) μ) hS rfl hl.1 rfl (Nat.le_of_ble_eq_true rfl) dL_law_1176 ⟨by show (cells + 1) ≤ 601024; omega, by show (slots + 6) ≤ 7293034; omega⟩ (fun H1 locs1 hW1 _ _ hk hS1 => ?_)
  obtain ⟨hP1, hO1⟩ := l_keep ho2 ho3 ho4 hP hO hk
  clear hk
  refine lv_istore (lv' := [(6, .int (m_claimAnew μ (xs (i + 1)))), (5, .int (nI (lC [1] (kx_claimAnew σ (xs (i + 1)))))), (4, .int (nI (i))), (3, .ref (qo)), (2, .ref (r)), (1, .ref (o)), (0, .ref (b))]) hx hb dL_law_1179 hl (by decide) rfl (fun ls hl => ?_)
  refine lv_aload_n hx hb dL_law_1181 rfl (lv_at hl 4 rfl) ?_
  refine m_callI (As := []) (rest := []) hA0 ⟨hx, hb, hml, hown, hts⟩ (cm_thrown l G (ids 0) (ids 1) (aM r) (m_claimAnew_s μ (xs (i + 1)))) (cwV 0 hts gL_law_X6_thrown rfl rfl rfl (by decide +kernel) ⟨Nat.le_of_ble_eq_true rfl, Nat.le_of_ble_eq_true rfl⟩) hKm hW1 (aM_DA r (ids 0) (ids 1) (m_claimAnew_s μ (xs (i + 1)))) hS1 rfl hl.1 rfl (Nat.le_of_ble_eq_true rfl) dL_law_1182 ⟨by show (cells + 1) ≤ 601024; omega, by show (slots + 6) ≤ 7293034; omega⟩ (fun H2 locs2 hW2 _ _ hk hS2 => ?_)
  obtain ⟨hP2, hO2⟩ := l_keep ho2 ho3 ho4 hP1 hO1 hk
  clear hk
  refine lv_iload hx hb dL_law_1185 (lv_at hl 1 rfl) ?_
  refine lv_icmp_eq (x := (m_thrown (m_claimAnew_s μ (xs (i + 1))))) (y := (nI (lC [1] (kx_claimAnew σ (xs (i + 1)))))) (tgt := 1192) hx hb dL_law_1187 (by decide) (fun _ => ?_) (fun c9 => absurd hp1 c9)
  refine lv_iload hx hb dL_law_1192 (lv_at hl 1 rfl) ?_
  refine lv_if_ne (x := (nI (lC [1] (kx_claimAnew σ (xs (i + 1)))))) (tgt := 1209) hx hb dL_law_1194 (by decide) (fun _ => ?_) (fun c9 => ?_)
  · refine lv_goto (tgt := 1334) hx hb dL_law_1209 (by decide) ?_
    exact W.widen (by omega) (by omega) (kk _ _ _ hP2 (hO2.imp (fun v h => h.1)) hW2 hS2 (lv_sub hl [2, 3, 4, 5, 6] rfl))
  · have hX0 : (kx_claimAnew σ (xs (i + 1))) = 0 := lC_c (S := [1]) (by decide) (kxK_claimAnew σ (xs (i + 1))) c9
    obtain ⟨v9, hv9, hg9⟩ := hO2
    have hg := hg9 hX0
    dsimp only at hg
    rw [hp2 hX0] at hg
    subst hg
    obtain ⟨f9, hf9, hf0⟩ := hv9
    refine lv_aload_n hx hb dL_law_1197 rfl (lv_at hl 3 rfl) ?_
    refine lv_iconst (v := nI (0)) hx hb dL_law_1198 (by decide) ?_
    refine x_lald (v := (m_claimAnew μ (xs (i + 1))).toInt64) hx hb hK hf9 (j := nI 0) (vp_in_nI (by decide) (by decide)) (by rw [nI_clamp (by decide)]; exact hf0) dL_law_1199 ?_
    refine lv_iload hx hb dL_law_1200 (lv_at hl 0 rfl) ?_
    refine lv_i2l (v := (m_claimAnew μ (xs (i + 1))).toInt64) hx hb dL_law_1202 rfl ?_
    refine W.lcmp hx hb dL_law_1203 ?_
    refine lv_if_eq (tgt := 1209) hx hb dL_law_1204 (by decide) (fun _ => ?_) (fun c9 => absurd (lcmp_self _) c9)
    refine lv_goto (tgt := 1334) hx hb dL_law_1209 (by decide) ?_
    exact W.widen (by omega) (by omega) (kk _ _ _ hP2 ⟨_, f9, hf9, hf0⟩ hW2 hS2 (lv_sub hl [2, 3, 4, 5, 6] rfl))
set_option maxHeartbeats 4000000 in
set_option maxRecDepth 100000 in
theorem law_balance {p : Program} {l : Launch} {e : Env} {s : State} {m : MethodId} {below : List Frame} {meth : Method} {c : Code} {b L : Nat} {xs : Nat → Int32} {G : va_G} {ids : Nat → ClassId} {tS tE o r qo z : Nat} (C0 : lX p l s m meth c b L xs G ids tS tE o r qo z) {cells slots i : Nat} {H : Heap} {locs : List Loc} {ls : Array Slot} {Q : State → Prop} {σ μ : Sg} (hi : i + 7 ≤ L) (hc : cells + 10 ≤ 601024) (hs : slots + 4000 ≤ 7293034)
    (hP : lPic G ids o z tE σ H) (hO : ∃ v, lOut G ids qo v H) (hW : va_P G vwCl (wm (ids 0) (ids 1) (aM r) μ) H) (hS : va_S (fun q => s.heap.size ≤ q) s.heap H locs) (hl : lv_has ls 8 [(4, .int (nI (i))), (3, .ref (qo)), (2, .ref (r)), (1, .ref (o)), (0, .ref (b))])
    (hMO : mOK μ) (hp1 : (m_balance_s μ (xs (i + 1)) (xs (i + 2))).1 0 0 = nI (lC [2] (kx_balance σ (xs (i + 1)) (xs (i + 2))))) (hp2 : (kx_balance σ (xs (i + 1)) (xs (i + 2))) = 0 → (k_balance σ (xs (i + 1)) (xs (i + 2))) = (m_balance μ (xs (i + 1)) (xs (i + 2))))
    (kk : ∀ (H1 : Heap) (locs1 : List Loc) (ls1 : Array Slot), lPic G ids o z tE (if (kx_balance σ (xs (i + 1)) (xs (i + 2))) = 0 then σ else σ) H1 → (∃ v, lOut G ids qo v H1) → va_P G vwCl (wm (ids 0) (ids 1) (aM r) (m_balance_s μ (xs (i + 1)) (xs (i + 2)))) H1 → va_S (fun q => s.heap.size ≤ q) s.heap H1 locs1 → lv_has ls1 8 [(4, .int (nI (i))), (3, .ref (qo)), (2, .ref (r)), (1, .ref (o)), (0, .ref (b))] → W p l e room_1 s m #[Value.ref b] below meth c H1 locs1 (cells + 10) (slots + 4000) Q (F0 m 1334 ls1 [])) : W p l e room_1 s m #[Value.ref b] below meth c H locs cells slots Q (F0 m 1212 ls []) := by
  obtain ⟨hx, hb, hml, hown, hts, hX, hbl, hl0, hK, hZ, hN, ho1, ho2, ho3, ho4, hL⟩ := C0
  have hbA : ¬ (fun q : Nat => s.heap.size ≤ q) b := Nat.not_le.mpr hbl
  have hL31 : L < 2 ^ 31 := by omega
  have hKm : va_K G vwCl (mTy (ids 0) (ids 1)) s := hK.sub [0, 1] rfl
  have hA0 : ∀ q, mA (aM r) q → (fun q : Nat => s.heap.size ≤ q) q := fun q h => by have h1 := mA_in h; show s.heap.size ≤ q; omega
  refine lv_aload_n hx hb dL_law_1212 rfl (lv_at hl 3 rfl) ?_
  refine lv_aload_n hx hb dL_law_1213 rfl (lv_at hl 4 rfl) ?_
  refine lv_iload hx hb dL_law_1214 (lv_at hl 0 rfl) ?_
  refine lv_iconst (v := nI (1)) hx hb dL_law_1216 (by decide) ?_
  refine n_add (x := i) (y := 1) hx hb dL_law_1217 ?_
  refine l_sld hx hb hX hbl hbA hS (j := i + 1) (by omega) hL31 dL_law_1218 ?_
  refine lv_aload_n hx hb dL_law_1219 rfl (lv_at hl 4 rfl) ?_
  refine lv_iload hx hb dL_law_1220 (lv_at hl 0 rfl) ?_
  refine lv_iconst (v := nI (2)) hx hb dL_law_1222 (by decide) ?_
  refine n_add (x := i) (y := 2) hx hb dL_law_1223 ?_
  refine l_sld hx hb hX hbl hbA hS (j := i + 2) (by omega) hL31 dL_law_1224 ?_
  refine lv_aload_n hx hb dL_law_1225 rfl (lv_at hl 1 rfl) ?_
  refine l_wrap (As := [.ref (o), .int (xs (i + 1)), .int (xs (i + 2)), .ref (qo)]) (rest := []) ⟨hx, hb, hml, hown, hts⟩ (lc_balance l hl0 G ids tS tE o z qo (by omega) ho4 σ (xs (i + 1)) (xs (i + 2))) (vx_cwSW 4 hts gL_law_L_balance rfl rfl rfl (by decide +kernel) ⟨Nat.le_of_ble_eq_true rfl, Nat.le_of_ble_eq_true rfl⟩) hK hZ hN ho1 ho2 ho3 ho4 hP hO hW hS rfl hl.1 rfl (Nat.le_of_ble_eq_true rfl) dL_law_1226 ⟨by show cells + 2 ≤ 601024; omega, by show slots + 12 ≤ 7293034; omega⟩ (fun H locs hP hO hW hS => ?_)
  refine lv_istore (lv' := [(5, .int (nI (lC [2] (kx_balance σ (xs (i + 1)) (xs (i + 2)))))), (4, .int (nI (i))), (3, .ref (qo)), (2, .ref (r)), (1, .ref (o)), (0, .ref (b))]) hx hb dL_law_1229 hl (by decide) rfl (fun ls hl => ?_)
  refine lv_aload_n hx hb dL_law_1231 rfl (lv_at hl 3 rfl) ?_
  refine lv_aload_n hx hb dL_law_1232 rfl (lv_at hl 5 rfl) ?_
  refine lv_iload hx hb dL_law_1233 (lv_at hl 1 rfl) ?_
  refine lv_iconst (v := nI (1)) hx hb dL_law_1235 (by decide) ?_
  refine n_add (x := i) (y := 1) hx hb dL_law_1236 ?_
  refine l_sld hx hb hX hbl hbA hS (j := i + 1) (by omega) hL31 dL_law_1237 ?_
  refine lv_aload_n hx hb dL_law_1238 rfl (lv_at hl 5 rfl) ?_
  refine lv_iload hx hb dL_law_1239 (lv_at hl 1 rfl) ?_
  refine lv_iconst (v := nI (2)) hx hb dL_law_1241 (by decide) ?_
  refine n_add (x := i) (y := 2) hx hb dL_law_1242 ?_
  refine l_sld hx hb hX hbl hbA hS (j := i + 2) (by omega) hL31 dL_law_1243 ?_
  refine m_callL (As := [.int (xs (i + 1)), .int (xs (i + 2))]) (rest := []) hA0 ⟨hx, hb, hml, hown, hts⟩ (cm_balance l G (ids 0) (ids 1) (aM r) μ (xs (i + 1)) (xs (i + 2))) (cwV 2 hts gL_law_X6_balance rfl rfl rfl (by decide +kernel) ⟨Nat.le_of_ble_eq_true rfl, Nat.le_of_ble_eq_true rfl⟩) hKm hW (aM_DA r (ids 0) (ids 1) μ) hS rfl hl.1 rfl (Nat.le_of_ble_eq_true rfl) dL_law_1244 ⟨by show (cells + 2) ≤ 601024; omega, by show (slots + 12) ≤ 7293034; omega⟩ (fun H1 locs1 hW1 _ _ hk hS1 => ?_)
  obtain ⟨hP1, hO1⟩ := l_keep ho2 ho3 ho4 hP hO hk
  clear hk
  refine lv_lstore (lv' := [(6, .long (m_balance μ (xs (i + 1)) (xs (i + 2)))), (5, .int (nI (lC [2] (kx_balance σ (xs (i + 1)) (xs (i + 2)))))), (4, .int (nI (i))), (3, .ref (qo)), (2, .ref (r)), (1, .ref (o)), (0, .ref (b))]) hx hb dL_law_1247 hl (by decide) rfl (fun ls hl => ?_)
  refine lv_aload_n hx hb dL_law_1249 rfl (lv_at hl 4 rfl) ?_
  refine m_callI (As := []) (rest := []) hA0 ⟨hx, hb, hml, hown, hts⟩ (cm_thrown l G (ids 0) (ids 1) (aM r) (m_balance_s μ (xs (i + 1)) (xs (i + 2)))) (cwV 0 hts gL_law_X6_thrown rfl rfl rfl (by decide +kernel) ⟨Nat.le_of_ble_eq_true rfl, Nat.le_of_ble_eq_true rfl⟩) hKm hW1 (aM_DA r (ids 0) (ids 1) (m_balance_s μ (xs (i + 1)) (xs (i + 2)))) hS1 rfl hl.1 rfl (Nat.le_of_ble_eq_true rfl) dL_law_1250 ⟨by show (cells + 2) ≤ 601024; omega, by show (slots + 12) ≤ 7293034; omega⟩ (fun H2 locs2 hW2 _ _ hk hS2 => ?_)
  obtain ⟨hP2, hO2⟩ := l_keep ho2 ho3 ho4 hP1 hO1 hk
  clear hk
  refine lv_iload hx hb dL_law_1253 (lv_at hl 1 rfl) ?_
  refine lv_icmp_eq (x := (m_thrown (m_balance_s μ (xs (i + 1)) (xs (i + 2))))) (y := (nI (lC [2] (kx_balance σ (xs (i + 1)) (xs (i + 2)))))) (tgt := 1260) hx hb dL_law_1255 (by decide) (fun _ => ?_) (fun c9 => absurd hp1 c9)
  refine lv_iload hx hb dL_law_1260 (lv_at hl 1 rfl) ?_
  refine lv_if_ne (x := (nI (lC [2] (kx_balance σ (xs (i + 1)) (xs (i + 2)))))) (tgt := 1276) hx hb dL_law_1262 (by decide) (fun _ => ?_) (fun c9 => ?_)
  · refine lv_goto (tgt := 1334) hx hb dL_law_1276 (by decide) ?_
    exact W.widen (by omega) (by omega) (kk _ _ _ hP2 (hO2.imp (fun v h => h.1)) hW2 hS2 (lv_sub hl [2, 3, 4, 5, 6] rfl))
  · have hX0 : (kx_balance σ (xs (i + 1)) (xs (i + 2))) = 0 := lC_c (S := [2]) (by decide) (kxK_balance σ (xs (i + 1)) (xs (i + 2))) c9
    obtain ⟨v9, hv9, hg9⟩ := hO2
    have hg := hg9 hX0
    dsimp only at hg
    rw [hp2 hX0] at hg
    subst hg
    obtain ⟨f9, hf9, hf0⟩ := hv9
    refine lv_aload_n hx hb dL_law_1265 rfl (lv_at hl 3 rfl) ?_
    refine lv_iconst (v := nI (0)) hx hb dL_law_1266 (by decide) ?_
    refine x_lald (v := (m_balance μ (xs (i + 1)) (xs (i + 2)))) hx hb hK hf9 (j := nI 0) (vp_in_nI (by decide) (by decide)) (by rw [nI_clamp (by decide)]; exact hf0) dL_law_1267 ?_
    refine lv_lload hx hb dL_law_1268 (lv_at hl 0 rfl) ?_
    refine W.lcmp hx hb dL_law_1270 ?_
    refine lv_if_eq (tgt := 1276) hx hb dL_law_1271 (by decide) (fun _ => ?_) (fun c9 => absurd (lcmp_self _) c9)
    refine lv_goto (tgt := 1334) hx hb dL_law_1276 (by decide) ?_
    exact W.widen (by omega) (by omega) (kk _ _ _ hP2 ⟨_, f9, hf9, hf0⟩ hW2 hS2 (lv_sub hl [2, 3, 4, 5, 6] rfl))
set_option maxHeartbeats 4000000 in
set_option maxRecDepth 100000 in
theorem law_air {p : Program} {l : Launch} {e : Env} {s : State} {m : MethodId} {below : List Frame} {meth : Method} {c : Code} {b L : Nat} {xs : Nat → Int32} {G : va_G} {ids : Nat → ClassId} {tS tE o r qo z : Nat} (C0 : lX p l s m meth c b L xs G ids tS tE o r qo z) {cells slots i : Nat} {H : Heap} {locs : List Loc} {ls : Array Slot} {Q : State → Prop} {σ μ : Sg} (hi : i + 7 ≤ L) (hc : cells + 10 ≤ 601024) (hs : slots + 4000 ≤ 7293034)
    (hP : lPic G ids o z tE σ H) (hO : ∃ v, lOut G ids qo v H) (hW : va_P G vwCl (wm (ids 0) (ids 1) (aM r) μ) H) (hS : va_S (fun q => s.heap.size ≤ q) s.heap H locs) (hl : lv_has ls 8 [(4, .int (nI (i))), (3, .ref (qo)), (2, .ref (r)), (1, .ref (o)), (0, .ref (b))])
    (hMO : mOK μ) (hp1 : (m_air_s μ (xs (i + 1))).1 0 0 = nI (lC [2] (kx_air σ (xs (i + 1))))) (hp2 : (kx_air σ (xs (i + 1))) = 0 → (k_air σ (xs (i + 1))) = (m_air μ (xs (i + 1))))
    (kk : ∀ (H1 : Heap) (locs1 : List Loc) (ls1 : Array Slot), lPic G ids o z tE (if (kx_air σ (xs (i + 1))) = 0 then σ else σ) H1 → (∃ v, lOut G ids qo v H1) → va_P G vwCl (wm (ids 0) (ids 1) (aM r) (m_air_s μ (xs (i + 1)))) H1 → va_S (fun q => s.heap.size ≤ q) s.heap H1 locs1 → lv_has ls1 8 [(4, .int (nI (i))), (3, .ref (qo)), (2, .ref (r)), (1, .ref (o)), (0, .ref (b))] → W p l e room_1 s m #[Value.ref b] below meth c H1 locs1 (cells + 10) (slots + 4000) Q (F0 m 1334 ls1 [])) : W p l e room_1 s m #[Value.ref b] below meth c H locs cells slots Q (F0 m 1279 ls []) := by
  obtain ⟨hx, hb, hml, hown, hts, hX, hbl, hl0, hK, hZ, hN, ho1, ho2, ho3, ho4, hL⟩ := C0
  have hbA : ¬ (fun q : Nat => s.heap.size ≤ q) b := Nat.not_le.mpr hbl
  have hL31 : L < 2 ^ 31 := by omega
  have hKm : va_K G vwCl (mTy (ids 0) (ids 1)) s := hK.sub [0, 1] rfl
  have hA0 : ∀ q, mA (aM r) q → (fun q : Nat => s.heap.size ≤ q) q := fun q h => by have h1 := mA_in h; show s.heap.size ≤ q; omega
  refine lv_aload_n hx hb dL_law_1279 rfl (lv_at hl 3 rfl) ?_
  refine lv_aload_n hx hb dL_law_1280 rfl (lv_at hl 4 rfl) ?_
  refine lv_iload hx hb dL_law_1281 (lv_at hl 0 rfl) ?_
  refine lv_iconst (v := nI (1)) hx hb dL_law_1283 (by decide) ?_
  refine n_add (x := i) (y := 1) hx hb dL_law_1284 ?_
  refine l_sld hx hb hX hbl hbA hS (j := i + 1) (by omega) hL31 dL_law_1285 ?_
  refine lv_aload_n hx hb dL_law_1286 rfl (lv_at hl 1 rfl) ?_
  refine l_wrap (As := [.ref (o), .int (xs (i + 1)), .ref (qo)]) (rest := []) ⟨hx, hb, hml, hown, hts⟩ (lc_air l hl0 G ids tS tE o z qo (by omega) ho4 σ (xs (i + 1))) (vx_cwSW 3 hts gL_law_L_air rfl rfl rfl (by decide +kernel) ⟨Nat.le_of_ble_eq_true rfl, Nat.le_of_ble_eq_true rfl⟩) hK hZ hN ho1 ho2 ho3 ho4 hP hO hW hS rfl hl.1 rfl (Nat.le_of_ble_eq_true rfl) dL_law_1287 ⟨by show cells + 1 ≤ 601024; omega, by show slots + 6 ≤ 7293034; omega⟩ (fun H locs hP hO hW hS => ?_)
  refine lv_istore (lv' := [(5, .int (nI (lC [2] (kx_air σ (xs (i + 1)))))), (4, .int (nI (i))), (3, .ref (qo)), (2, .ref (r)), (1, .ref (o)), (0, .ref (b))]) hx hb dL_law_1290 hl (by decide) rfl (fun ls hl => ?_)
  refine lv_aload_n hx hb dL_law_1292 rfl (lv_at hl 3 rfl) ?_
  refine lv_aload_n hx hb dL_law_1293 rfl (lv_at hl 5 rfl) ?_
  refine lv_iload hx hb dL_law_1294 (lv_at hl 1 rfl) ?_
  refine lv_iconst (v := nI (1)) hx hb dL_law_1296 (by decide) ?_
  refine n_add (x := i) (y := 1) hx hb dL_law_1297 ?_
  refine l_sld hx hb hX hbl hbA hS (j := i + 1) (by omega) hL31 dL_law_1298 ?_
  refine m_callL (As := [.int (xs (i + 1))]) (rest := []) hA0 ⟨hx, hb, hml, hown, hts⟩ (cm_air l G (ids 0) (ids 1) (aM r) μ (xs (i + 1))) (cwV 1 hts gL_law_X6_air rfl rfl rfl (by decide +kernel) ⟨Nat.le_of_ble_eq_true rfl, Nat.le_of_ble_eq_true rfl⟩) hKm hW (aM_DA r (ids 0) (ids 1) μ) hS rfl hl.1 rfl (Nat.le_of_ble_eq_true rfl) dL_law_1299 ⟨by show (cells + 1) ≤ 601024; omega, by show (slots + 6) ≤ 7293034; omega⟩ (fun H1 locs1 hW1 _ _ hk hS1 => ?_)
  obtain ⟨hP1, hO1⟩ := l_keep ho2 ho3 ho4 hP hO hk
  clear hk
  refine lv_lstore (lv' := [(6, .long (m_air μ (xs (i + 1)))), (5, .int (nI (lC [2] (kx_air σ (xs (i + 1)))))), (4, .int (nI (i))), (3, .ref (qo)), (2, .ref (r)), (1, .ref (o)), (0, .ref (b))]) hx hb dL_law_1302 hl (by decide) rfl (fun ls hl => ?_)
  refine lv_aload_n hx hb dL_law_1304 rfl (lv_at hl 4 rfl) ?_
  refine m_callI (As := []) (rest := []) hA0 ⟨hx, hb, hml, hown, hts⟩ (cm_thrown l G (ids 0) (ids 1) (aM r) (m_air_s μ (xs (i + 1)))) (cwV 0 hts gL_law_X6_thrown rfl rfl rfl (by decide +kernel) ⟨Nat.le_of_ble_eq_true rfl, Nat.le_of_ble_eq_true rfl⟩) hKm hW1 (aM_DA r (ids 0) (ids 1) (m_air_s μ (xs (i + 1)))) hS1 rfl hl.1 rfl (Nat.le_of_ble_eq_true rfl) dL_law_1305 ⟨by show (cells + 1) ≤ 601024; omega, by show (slots + 6) ≤ 7293034; omega⟩ (fun H2 locs2 hW2 _ _ hk hS2 => ?_)
  obtain ⟨hP2, hO2⟩ := l_keep ho2 ho3 ho4 hP1 hO1 hk
  clear hk
  refine lv_iload hx hb dL_law_1308 (lv_at hl 1 rfl) ?_
  refine lv_icmp_eq (x := (m_thrown (m_air_s μ (xs (i + 1))))) (y := (nI (lC [2] (kx_air σ (xs (i + 1)))))) (tgt := 1315) hx hb dL_law_1310 (by decide) (fun _ => ?_) (fun c9 => absurd hp1 c9)
  refine lv_iload hx hb dL_law_1315 (lv_at hl 1 rfl) ?_
  refine lv_if_ne (x := (nI (lC [2] (kx_air σ (xs (i + 1)))))) (tgt := 1331) hx hb dL_law_1317 (by decide) (fun _ => ?_) (fun c9 => ?_)
  · refine lv_goto (tgt := 1334) hx hb dL_law_1331 (by decide) ?_
    exact W.widen (by omega) (by omega) (kk _ _ _ hP2 (hO2.imp (fun v h => h.1)) hW2 hS2 (lv_sub hl [2, 3, 4, 5, 6] rfl))
  · have hX0 : (kx_air σ (xs (i + 1))) = 0 := lC_c (S := [2]) (by decide) (kxK_air σ (xs (i + 1))) c9
    obtain ⟨v9, hv9, hg9⟩ := hO2
    have hg := hg9 hX0
    dsimp only at hg
    rw [hp2 hX0] at hg
    subst hg
    obtain ⟨f9, hf9, hf0⟩ := hv9
    refine lv_aload_n hx hb dL_law_1320 rfl (lv_at hl 3 rfl) ?_
    refine lv_iconst (v := nI (0)) hx hb dL_law_1321 (by decide) ?_
    refine x_lald (v := (m_air μ (xs (i + 1)))) hx hb hK hf9 (j := nI 0) (vp_in_nI (by decide) (by decide)) (by rw [nI_clamp (by decide)]; exact hf0) dL_law_1322 ?_
    refine lv_lload hx hb dL_law_1323 (lv_at hl 0 rfl) ?_
    refine W.lcmp hx hb dL_law_1325 ?_
    refine lv_if_eq (tgt := 1331) hx hb dL_law_1326 (by decide) (fun _ => ?_) (fun c9 => absurd (lcmp_self _) c9)
    refine lv_goto (tgt := 1334) hx hb dL_law_1331 (by decide) ?_
    exact W.widen (by omega) (by omega) (kk _ _ _ hP2 ⟨_, f9, hf9, hf0⟩ hW2 hS2 (lv_sub hl [2, 3, 4, 5, 6] rfl))
