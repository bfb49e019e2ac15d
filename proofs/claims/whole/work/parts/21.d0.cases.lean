set_option maxHeartbeats 4000000 in
set_option maxRecDepth 100000 in
theorem law_ground {p : Program} {l : Launch} {e : Env} {s : State} {m : MethodId} {below : List Frame} {meth : Method} {c : Code} {b L : Nat} {xs : Nat → Int32} {G : va_G} {ids : Nat → ClassId} {tS tE o r qo z : Nat} (C0 : lX p l s m meth c b L xs G ids tS tE o r qo z) {cells slots i : Nat} {H : Heap} {locs : List Loc} {ls : Array Slot} {Q : State → Prop} {σ μ : Sg} (hi : i + 7 ≤ L) (hc : cells + 10 ≤ 601024) (hs : slots + 4000 ≤ 7293034)
    (hP : lPic G ids o z tE σ H) (hO : ∃ v, lOut G ids qo v H) (hW : va_P G vwCl (wm (ids 0) (ids 1) (aM r) μ) H) (hS : va_S (fun q => s.heap.size ≤ q) s.heap H locs) (hl : lv_has ls 8 [(4, .int (nI (i))), (3, .ref (qo)), (2, .ref (r)), (1, .ref (o)), (0, .ref (b))])
    (hMO : mOK μ) (hp1 : (m_ground_s μ (xs (i + 1)) (xs (i + 2)) (xs (i + 3)) (xs (i + 4)) (xs (i + 5)) (xs (i + 6))).1 0 0 = nI (lC [1, 2] (kx_ground σ (xs (i + 1)) (xs (i + 2)) (xs (i + 3)) (xs (i + 4)) (xs (i + 5)) (xs (i + 6)))))
    (kk : ∀ (H1 : Heap) (locs1 : List Loc) (ls1 : Array Slot), lPic G ids o z tE (if (kx_ground σ (xs (i + 1)) (xs (i + 2)) (xs (i + 3)) (xs (i + 4)) (xs (i + 5)) (xs (i + 6))) = 0 then (k_ground_s σ (xs (i + 1)) (xs (i + 2)) (xs (i + 3)) (xs (i + 4)) (xs (i + 5)) (xs (i + 6))) else σ) H1 → (∃ v, lOut G ids qo v H1) → va_P G vwCl (wm (ids 0) (ids 1) (aM r) (m_ground_s μ (xs (i + 1)) (xs (i + 2)) (xs (i + 3)) (xs (i + 4)) (xs (i + 5)) (xs (i + 6)))) H1 → va_S (fun q => s.heap.size ≤ q) s.heap H1 locs1 → lv_has ls1 8 [(4, .int (nI (i))), (3, .ref (qo)), (2, .ref (r)), (1, .ref (o)), (0, .ref (b))] → W p l e room_1 s m #[Value.ref b] below meth c H1 locs1 (cells + 10) (slots + 4000) Q (F0 m 1334 ls1 [])) : W p l e room_1 s m #[Value.ref b] below meth c H locs cells slots Q (F0 m 132 ls []) := by
  obtain ⟨hx, hb, hml, hown, hts, hX, hbl, hl0, hK, hZ, hN, ho1, ho2, ho3, ho4, hL⟩ := C0
  have hbA : ¬ (fun q : Nat => s.heap.size ≤ q) b := Nat.not_le.mpr hbl
  have hL31 : L < 2 ^ 31 := by omega
  have hKm : va_K G vwCl (mTy (ids 0) (ids 1)) s := hK.sub [0, 1] rfl
  have hA0 : ∀ q, mA (aM r) q → (fun q : Nat => s.heap.size ≤ q) q := fun q h => by have h1 := mA_in h; show s.heap.size ≤ q; omega
  refine lv_aload_n hx hb dL_law_132 rfl (lv_at hl 3 rfl) ?_
  refine lv_aload_n hx hb dL_law_133 rfl (lv_at hl 4 rfl) ?_
  refine lv_iload hx hb dL_law_134 (lv_at hl 0 rfl) ?_
  refine lv_iconst (v := nI (1)) hx hb dL_law_136 (by decide) ?_
  refine n_add (x := i) (y := 1) hx hb dL_law_137 ?_
  refine l_sld hx hb hX hbl hbA hS (j := i + 1) (by omega) hL31 dL_law_138 ?_
  refine lv_aload_n hx hb dL_law_139 rfl (lv_at hl 4 rfl) ?_
  refine lv_iload hx hb dL_law_140 (lv_at hl 0 rfl) ?_
  refine lv_iconst (v := nI (2)) hx hb dL_law_142 (by decide) ?_
  refine n_add (x := i) (y := 2) hx hb dL_law_143 ?_
  refine l_sld hx hb hX hbl hbA hS (j := i + 2) (by omega) hL31 dL_law_144 ?_
  refine lv_aload_n hx hb dL_law_145 rfl (lv_at hl 4 rfl) ?_
  refine lv_iload hx hb dL_law_146 (lv_at hl 0 rfl) ?_
  refine lv_iconst (v := nI (3)) hx hb dL_law_148 (by decide) ?_
  refine n_add (x := i) (y := 3) hx hb dL_law_149 ?_
  refine l_sld hx hb hX hbl hbA hS (j := i + 3) (by omega) hL31 dL_law_150 ?_
  refine lv_aload_n hx hb dL_law_151 rfl (lv_at hl 4 rfl) ?_
  refine lv_iload hx hb dL_law_152 (lv_at hl 0 rfl) ?_
  refine lv_iconst (v := nI (4)) hx hb dL_law_154 (by decide) ?_
  refine n_add (x := i) (y := 4) hx hb dL_law_155 ?_
  refine l_sld hx hb hX hbl hbA hS (j := i + 4) (by omega) hL31 dL_law_156 ?_
  refine lv_aload_n hx hb dL_law_157 rfl (lv_at hl 4 rfl) ?_
  refine lv_iload hx hb dL_law_158 (lv_at hl 0 rfl) ?_
  refine lv_iconst (v := nI (5)) hx hb dL_law_160 (by decide) ?_
  refine n_add (x := i) (y := 5) hx hb dL_law_161 ?_
  refine l_sld hx hb hX hbl hbA hS (j := i + 5) (by omega) hL31 dL_law_162 ?_
  refine lv_aload_n hx hb dL_law_163 rfl (lv_at hl 4 rfl) ?_
  refine lv_iload hx hb dL_law_164 (lv_at hl 0 rfl) ?_
  refine lv_bipush (v := nI (6)) hx hb dL_law_166 (by decide) ?_
  refine n_add (x := i) (y := 6) hx hb dL_law_168 ?_
  refine l_sld hx hb hX hbl hbA hS (j := i + 6) (by omega) hL31 dL_law_169 ?_
  refine l_wrap (As := [.ref (o), .int (xs (i + 1)), .int (xs (i + 2)), .int (xs (i + 3)), .int (xs (i + 4)), .int (xs (i + 5)), .int (xs (i + 6))]) (rest := []) ⟨hx, hb, hml, hown, hts⟩ (lc_ground l hl0 G ids tS tE o z qo (by omega) ho4 σ (xs (i + 1)) (xs (i + 2)) (xs (i + 3)) (xs (i + 4)) (xs (i + 5)) (xs (i + 6))) (vx_cwSW 7 hts gL_law_L_ground rfl rfl rfl (by decide +kernel) ⟨Nat.le_of_ble_eq_true rfl, Nat.le_of_ble_eq_true rfl⟩) hK hZ hN ho1 ho2 ho3 ho4 hP hO hW hS rfl hl.1 rfl (Nat.le_of_ble_eq_true rfl) dL_law_170 ⟨by show cells + 6 ≤ 601024; omega, by show slots + 36 ≤ 7293034; omega⟩ (fun H locs hP hO hW hS => ?_)
  refine lv_istore (lv' := [(5, .int (nI (lC [1, 2] (kx_ground σ (xs (i + 1)) (xs (i + 2)) (xs (i + 3)) (xs (i + 4)) (xs (i + 5)) (xs (i + 6)))))), (4, .int (nI (i))), (3, .ref (qo)), (2, .ref (r)), (1, .ref (o)), (0, .ref (b))]) hx hb dL_law_173 hl (by decide) rfl (fun ls hl => ?_)
  refine lv_aload_n hx hb dL_law_175 rfl (lv_at hl 3 rfl) ?_
  refine lv_aload_n hx hb dL_law_176 rfl (lv_at hl 5 rfl) ?_
  refine lv_iload hx hb dL_law_177 (lv_at hl 1 rfl) ?_
  refine lv_iconst (v := nI (1)) hx hb dL_law_179 (by decide) ?_
  refine n_add (x := i) (y := 1) hx hb dL_law_180 ?_
  refine l_sld hx hb hX hbl hbA hS (j := i + 1) (by omega) hL31 dL_law_181 ?_
  refine lv_aload_n hx hb dL_law_182 rfl (lv_at hl 5 rfl) ?_
  refine lv_iload hx hb dL_law_183 (lv_at hl 1 rfl) ?_
  refine lv_iconst (v := nI (2)) hx hb dL_law_185 (by decide) ?_
  refine n_add (x := i) (y := 2) hx hb dL_law_186 ?_
  refine l_sld hx hb hX hbl hbA hS (j := i + 2) (by omega) hL31 dL_law_187 ?_
  refine lv_aload_n hx hb dL_law_188 rfl (lv_at hl 5 rfl) ?_
  refine lv_iload hx hb dL_law_189 (lv_at hl 1 rfl) ?_
  refine lv_iconst (v := nI (3)) hx hb dL_law_191 (by decide) ?_
  refine n_add (x := i) (y := 3) hx hb dL_law_192 ?_
  refine l_sld hx hb hX hbl hbA hS (j := i + 3) (by omega) hL31 dL_law_193 ?_
  refine lv_aload_n hx hb dL_law_194 rfl (lv_at hl 5 rfl) ?_
  refine lv_iload hx hb dL_law_195 (lv_at hl 1 rfl) ?_
  refine lv_iconst (v := nI (4)) hx hb dL_law_197 (by decide) ?_
  refine n_add (x := i) (y := 4) hx hb dL_law_198 ?_
  refine l_sld hx hb hX hbl hbA hS (j := i + 4) (by omega) hL31 dL_law_199 ?_
  refine lv_aload_n hx hb dL_law_200 rfl (lv_at hl 5 rfl) ?_
  refine lv_iload hx hb dL_law_201 (lv_at hl 1 rfl) ?_
  refine lv_iconst (v := nI (5)) hx hb dL_law_203 (by decide) ?_
  refine n_add (x := i) (y := 5) hx hb dL_law_204 ?_
  refine l_sld hx hb hX hbl hbA hS (j := i + 5) (by omega) hL31 dL_law_205 ?_
  refine lv_aload_n hx hb dL_law_206 rfl (lv_at hl 5 rfl) ?_
  refine lv_iload hx hb dL_law_207 (lv_at hl 1 rfl) ?_
  refine lv_bipush (v := nI (6)) hx hb dL_law_209 (by decide) ?_
  refine n_add (x := i) (y := 6) hx hb dL_law_211 ?_
  refine l_sld hx hb hX hbl hbA hS (j := i + 6) (by omega) hL31 dL_law_212 ?_
  refine m_callV (As := [.int (xs (i + 1)), .int (xs (i + 2)), .int (xs (i + 3)), .int (xs (i + 4)), .int (xs (i + 5)), .int (xs (i + 6))]) (rest := []) hA0 ⟨hx, hb, hml, hown, hts⟩ (cm_ground l G (ids 0) (ids 1) (aM r) μ (xs (i + 1)) (xs (i + 2)) (xs (i + 3)) (xs (i + 4)) (xs (i + 5)) (xs (i + 6))) (cwV 6 hts gL_law_X6_ground rfl rfl rfl (by decide +kernel) ⟨Nat.le_of_ble_eq_true rfl, Nat.le_of_ble_eq_true rfl⟩) hKm hW (aM_DA r (ids 0) (ids 1) μ) hS rfl hl.1 rfl (Nat.le_of_ble_eq_true rfl) dL_law_213 ⟨by show (cells + 6) ≤ 601024; omega, by show (slots + 36) ≤ 7293034; omega⟩ (fun H1 locs1 hW1 _ _ hk hS1 => ?_)
  obtain ⟨hP1, hO1⟩ := l_keep ho2 ho3 ho4 hP hO hk
  clear hk
  refine lv_aload_n hx hb dL_law_216 rfl (lv_at hl 3 rfl) ?_
  refine m_callI (As := []) (rest := []) hA0 ⟨hx, hb, hml, hown, hts⟩ (cm_thrown l G (ids 0) (ids 1) (aM r) (m_ground_s μ (xs (i + 1)) (xs (i + 2)) (xs (i + 3)) (xs (i + 4)) (xs (i + 5)) (xs (i + 6)))) (cwV 0 hts gL_law_X6_thrown rfl rfl rfl (by decide +kernel) ⟨Nat.le_of_ble_eq_true rfl, Nat.le_of_ble_eq_true rfl⟩) hKm hW1 (aM_DA r (ids 0) (ids 1) (m_ground_s μ (xs (i + 1)) (xs (i + 2)) (xs (i + 3)) (xs (i + 4)) (xs (i + 5)) (xs (i + 6)))) hS1 rfl hl.1 rfl (Nat.le_of_ble_eq_true rfl) dL_law_217 ⟨by show (cells + 6) ≤ 601024; omega, by show (slots + 36) ≤ 7293034; omega⟩ (fun H2 locs2 hW2 _ _ hk hS2 => ?_)
  obtain ⟨hP2, hO2⟩ := l_keep ho2 ho3 ho4 hP1 hO1 hk
  clear hk
  refine lv_iload hx hb dL_law_220 (lv_at hl 0 rfl) ?_
  refine lv_icmp_eq (x := (m_thrown (m_ground_s μ (xs (i + 1)) (xs (i + 2)) (xs (i + 3)) (xs (i + 4)) (xs (i + 5)) (xs (i + 6))))) (y := (nI (lC [1, 2] (kx_ground σ (xs (i + 1)) (xs (i + 2)) (xs (i + 3)) (xs (i + 4)) (xs (i + 5)) (xs (i + 6)))))) (tgt := 227) hx hb dL_law_222 (by decide) (fun _ => ?_) (fun c9 => absurd hp1 c9)
  refine lv_goto (tgt := 1334) hx hb dL_law_227 (by decide) ?_
  exact W.widen (by omega) (by omega) (kk _ _ _ hP2 (hO2.imp (fun v h => h.1)) hW2 hS2 (lv_sub hl [1, 2, 3, 4, 5] rfl))
set_option maxHeartbeats 4000000 in
set_option maxRecDepth 100000 in
theorem law_moss {p : Program} {l : Launch} {e : Env} {s : State} {m : MethodId} {below : List Frame} {meth : Method} {c : Code} {b L : Nat} {xs : Nat → Int32} {G : va_G} {ids : Nat → ClassId} {tS tE o r qo z : Nat} (C0 : lX p l s m meth c b L xs G ids tS tE o r qo z) {cells slots i : Nat} {H : Heap} {locs : List Loc} {ls : Array Slot} {Q : State → Prop} {σ μ : Sg} (hi : i + 7 ≤ L) (hc : cells + 10 ≤ 601024) (hs : slots + 4000 ≤ 7293034)
    (hP : lPic G ids o z tE σ H) (hO : ∃ v, lOut G ids qo v H) (hW : va_P G vwCl (wm (ids 0) (ids 1) (aM r) μ) H) (hS : va_S (fun q => s.heap.size ≤ q) s.heap H locs) (hl : lv_has ls 8 [(4, .int (nI (i))), (3, .ref (qo)), (2, .ref (r)), (1, .ref (o)), (0, .ref (b))])
    (hMO : mOK μ) (hp1 : (m_moss_s μ (xs (i + 1)) (xs (i + 2))).1 0 0 = nI (lC [1, 2] (kx_moss σ (xs (i + 1)) (xs (i + 2))))) (hp2 : (kx_moss σ (xs (i + 1)) (xs (i + 2))) = 0 → (k_moss σ (xs (i + 1)) (xs (i + 2))) = (m_moss μ (xs (i + 1)) (xs (i + 2))))
    (kk : ∀ (H1 : Heap) (locs1 : List Loc) (ls1 : Array Slot), lPic G ids o z tE (if (kx_moss σ (xs (i + 1)) (xs (i + 2))) = 0 then (k_moss_s σ (xs (i + 1)) (xs (i + 2))) else σ) H1 → (∃ v, lOut G ids qo v H1) → va_P G vwCl (wm (ids 0) (ids 1) (aM r) (m_moss_s μ (xs (i + 1)) (xs (i + 2)))) H1 → va_S (fun q => s.heap.size ≤ q) s.heap H1 locs1 → lv_has ls1 8 [(4, .int (nI (i))), (3, .ref (qo)), (2, .ref (r)), (1, .ref (o)), (0, .ref (b))] → W p l e room_1 s m #[Value.ref b] below meth c H1 locs1 (cells + 10) (slots + 4000) Q (F0 m 1334 ls1 [])) : W p l e room_1 s m #[Value.ref b] below meth c H locs cells slots Q (F0 m 230 ls []) := by
  obtain ⟨hx, hb, hml, hown, hts, hX, hbl, hl0, hK, hZ, hN, ho1, ho2, ho3, ho4, hL⟩ := C0
  have hbA : ¬ (fun q : Nat => s.heap.size ≤ q) b := Nat.not_le.mpr hbl
  have hL31 : L < 2 ^ 31 := by omega
  have hKm : va_K G vwCl (mTy (ids 0) (ids 1)) s := hK.sub [0, 1] rfl
  have hA0 : ∀ q, mA (aM r) q → (fun q : Nat => s.heap.size ≤ q) q := fun q h => by have h1 := mA_in h; show s.heap.size ≤ q; omega
  refine lv_aload_n hx hb dL_law_230 rfl (lv_at hl 3 rfl) ?_
  refine lv_aload_n hx hb dL_law_231 rfl (lv_at hl 4 rfl) ?_
  refine lv_iload hx hb dL_law_232 (lv_at hl 0 rfl) ?_
  refine lv_iconst (v := nI (1)) hx hb dL_law_234 (by decide) ?_
  refine n_add (x := i) (y := 1) hx hb dL_law_235 ?_
  refine l_sld hx hb hX hbl hbA hS (j := i + 1) (by omega) hL31 dL_law_236 ?_
  refine lv_aload_n hx hb dL_law_237 rfl (lv_at hl 4 rfl) ?_
  refine lv_iload hx hb dL_law_238 (lv_at hl 0 rfl) ?_
  refine lv_iconst (v := nI (2)) hx hb dL_law_240 (by decide) ?_
  refine n_add (x := i) (y := 2) hx hb dL_law_241 ?_
  refine l_sld hx hb hX hbl hbA hS (j := i + 2) (by omega) hL31 dL_law_242 ?_
  refine lv_aload_n hx hb dL_law_243 rfl (lv_at hl 1 rfl) ?_
  refine l_wrap (As := [.ref (o), .int (xs (i + 1)), .int (xs (i + 2)), .ref (qo)]) (rest := []) ⟨hx, hb, hml, hown, hts⟩ (lc_moss l hl0 G ids tS tE o z qo (by omega) ho4 σ (xs (i + 1)) (xs (i + 2))) (vx_cwSW 4 hts gL_law_L_moss rfl rfl rfl (by decide +kernel) ⟨Nat.le_of_ble_eq_true rfl, Nat.le_of_ble_eq_true rfl⟩) hK hZ hN ho1 ho2 ho3 ho4 hP hO hW hS rfl hl.1 rfl (Nat.le_of_ble_eq_true rfl) dL_law_244 ⟨by show cells + 2 ≤ 601024; omega, by show slots + 12 ≤ 7293034; omega⟩ (fun H locs hP hO hW hS => ?_)
  refine lv_istore (lv' := [(5, .int (nI (lC [1, 2] (kx_moss σ (xs (i + 1)) (xs (i + 2)))))), (4, .int (nI (i))), (3, .ref (qo)), (2, .ref (r)), (1, .ref (o)), (0, .ref (b))]) hx hb dL_law_247 hl (by decide) rfl (fun ls hl => ?_)
  refine lv_aload_n hx hb dL_law_249 rfl (lv_at hl 3 rfl) ?_
  refine lv_aload_n hx hb dL_law_250 rfl (lv_at hl 5 rfl) ?_
  refine lv_iload hx hb dL_law_251 (lv_at hl 1 rfl) ?_
  refine lv_iconst (v := nI (1)) hx hb dL_law_253 (by decide) ?_
  refine n_add (x := i) (y := 1) hx hb dL_law_254 ?_
  refine l_sld hx hb hX hbl hbA hS (j := i + 1) (by omega) hL31 dL_law_255 ?_
  refine lv_aload_n hx hb dL_law_256 rfl (lv_at hl 5 rfl) ?_
  refine lv_iload hx hb dL_law_257 (lv_at hl 1 rfl) ?_
  refine lv_iconst (v := nI (2)) hx hb dL_law_259 (by decide) ?_
  refine n_add (x := i) (y := 2) hx hb dL_law_260 ?_
  refine l_sld hx hb hX hbl hbA hS (j := i + 2) (by omega) hL31 dL_law_261 ?_
  refine m_callI (As := [.int (xs (i + 1)), .int (xs (i + 2))]) (rest := []) hA0 ⟨hx, hb, hml, hown, hts⟩ (cm_moss l G (ids 0) (ids 1) (aM r) μ (xs (i + 1)) (xs (i + 2))) (cwV 2 hts gL_law_X6_moss rfl rfl rfl (by decide +kernel) ⟨Nat.le_of_ble_eq_true rfl, Nat.le_of_ble_eq_true rfl⟩) hKm hW (aM_DA r (ids 0) (ids 1) μ) hS rfl hl.1 rfl (Nat.le_of_ble_eq_true rfl) dL_law_262 ⟨by show (cells + 2) ≤ 601024; omega, by show (slots + 12) ≤ 7293034; omega⟩ (fun H1 locs1 hW1 _ _ hk hS1 => ?_)
  obtain ⟨hP1, hO1⟩ := l_keep ho2 ho3 ho4 hP hO hk
  clear hk
  refine lv_istore (lv' := [(6, .int (m_moss μ (xs (i + 1)) (xs (i + 2)))), (5, .int (nI (lC [1, 2] (kx_moss σ (xs (i + 1)) (xs (i + 2)))))), (4, .int (nI (i))), (3, .ref (qo)), (2, .ref (r)), (1, .ref (o)), (0, .ref (b))]) hx hb dL_law_265 hl (by decide) rfl (fun ls hl => ?_)
  refine lv_aload_n hx hb dL_law_267 rfl (lv_at hl 4 rfl) ?_
  refine m_callI (As := []) (rest := []) hA0 ⟨hx, hb, hml, hown, hts⟩ (cm_thrown l G (ids 0) (ids 1) (aM r) (m_moss_s μ (xs (i + 1)) (xs (i + 2)))) (cwV 0 hts gL_law_X6_thrown rfl rfl rfl (by decide +kernel) ⟨Nat.le_of_ble_eq_true rfl, Nat.le_of_ble_eq_true rfl⟩) hKm hW1 (aM_DA r (ids 0) (ids 1) (m_moss_s μ (xs (i + 1)) (xs (i + 2)))) hS1 rfl hl.1 rfl (Nat.le_of_ble_eq_true rfl) dL_law_268 ⟨by show (cells + 2) ≤ 601024; omega, by show (slots + 12) ≤ 7293034; omega⟩ (fun H2 locs2 hW2 _ _ hk hS2 => ?_)
  obtain ⟨hP2, hO2⟩ := l_keep ho2 ho3 ho4 hP1 hO1 hk
  clear hk
  refine lv_iload hx hb dL_law_271 (lv_at hl 1 rfl) ?_
  refine lv_icmp_eq (x := (m_thrown (m_moss_s μ (xs (i + 1)) (xs (i + 2))))) (y := (nI (lC [1, 2] (kx_moss σ (xs (i + 1)) (xs (i + 2)))))) (tgt := 278) hx hb dL_law_273 (by decide) (fun _ => ?_) (fun c9 => absurd hp1 c9)
  refine lv_iload hx hb dL_law_278 (lv_at hl 1 rfl) ?_
  refine lv_if_ne (x := (nI (lC [1, 2] (kx_moss σ (xs (i + 1)) (xs (i + 2)))))) (tgt := 295) hx hb dL_law_280 (by decide) (fun _ => ?_) (fun c9 => ?_)
  · refine lv_goto (tgt := 1334) hx hb dL_law_295 (by decide) ?_
    exact W.widen (by omega) (by omega) (kk _ _ _ hP2 (hO2.imp (fun v h => h.1)) hW2 hS2 (lv_sub hl [2, 3, 4, 5, 6] rfl))
  · have hX0 : (kx_moss σ (xs (i + 1)) (xs (i + 2))) = 0 := lC_c (S := [1, 2]) (by decide) (kxK_moss σ (xs (i + 1)) (xs (i + 2))) c9
    obtain ⟨v9, hv9, hg9⟩ := hO2
    have hg := hg9 hX0
    (try dsimp only at hg)
    rw [hp2 hX0] at hg
    have q_ := hg.symm
    subst q_
    obtain ⟨f9, hf9, hf0⟩ := hv9
    refine lv_aload_n hx hb dL_law_283 rfl (lv_at hl 3 rfl) ?_
    refine lv_iconst (v := nI (0)) hx hb dL_law_284 (by decide) ?_
    refine x_lald (v := (m_moss μ (xs (i + 1)) (xs (i + 2))).toInt64) hx hb hK hf9 (j := nI 0) (vp_in_nI (by decide) (by decide)) (by rw [nI_clamp (by decide)]; exact hf0) dL_law_285 ?_
    refine lv_iload hx hb dL_law_286 (lv_at hl 0 rfl) ?_
    refine lv_i2l (v := (m_moss μ (xs (i + 1)) (xs (i + 2))).toInt64) hx hb dL_law_288 rfl ?_
    refine W.lcmp hx hb dL_law_289 ?_
    refine lv_if_eq (tgt := 295) hx hb dL_law_290 (by decide) (fun _ => ?_) (fun c9 => absurd (lcmp_self _) c9)
    refine lv_goto (tgt := 1334) hx hb dL_law_295 (by decide) ?_
    exact W.widen (by omega) (by omega) (kk _ _ _ hP2 ⟨_, f9, hf9, hf0⟩ hW2 hS2 (lv_sub hl [2, 3, 4, 5, 6] rfl))
set_option maxHeartbeats 4000000 in
set_option maxRecDepth 100000 in
theorem law_pass {p : Program} {l : Launch} {e : Env} {s : State} {m : MethodId} {below : List Frame} {meth : Method} {c : Code} {b L : Nat} {xs : Nat → Int32} {G : va_G} {ids : Nat → ClassId} {tS tE o r qo z : Nat} (C0 : lX p l s m meth c b L xs G ids tS tE o r qo z) {cells slots i : Nat} {H : Heap} {locs : List Loc} {ls : Array Slot} {Q : State → Prop} {σ μ : Sg} (hi : i + 7 ≤ L) (hc : cells + 10 ≤ 601024) (hs : slots + 4000 ≤ 7293034)
    (hP : lPic G ids o z tE σ H) (hO : ∃ v, lOut G ids qo v H) (hW : va_P G vwCl (wm (ids 0) (ids 1) (aM r) μ) H) (hS : va_S (fun q => s.heap.size ≤ q) s.heap H locs) (hl : lv_has ls 8 [(4, .int (nI (i))), (3, .ref (qo)), (2, .ref (r)), (1, .ref (o)), (0, .ref (b))])
    (hMO : mOK μ) (hcO : cOK σ) (hcR : cRd σ) (hp1 : (m_pass_s μ (xs (i + 1)) (xs (i + 2)) (xs (i + 3))).1 0 0 = nI (lC [2, 3] (kx_pass σ (xs (i + 1)) (xs (i + 2)) (xs (i + 3))))) (hp2 : (kx_pass σ (xs (i + 1)) (xs (i + 2)) (xs (i + 3))) = 0 → (k_pass σ (xs (i + 1)) (xs (i + 2)) (xs (i + 3))) = (m_pass μ (xs (i + 1)) (xs (i + 2)) (xs (i + 3))))
    (kk : ∀ (H1 : Heap) (locs1 : List Loc) (ls1 : Array Slot), lPic G ids o z tE (if (kx_pass σ (xs (i + 1)) (xs (i + 2)) (xs (i + 3))) = 0 then (k_pass_s σ (xs (i + 1)) (xs (i + 2)) (xs (i + 3))) else σ) H1 → (∃ v, lOut G ids qo v H1) → va_P G vwCl (wm (ids 0) (ids 1) (aM r) (m_pass_s μ (xs (i + 1)) (xs (i + 2)) (xs (i + 3)))) H1 → va_S (fun q => s.heap.size ≤ q) s.heap H1 locs1 → lv_has ls1 8 [(4, .int (nI (i))), (3, .ref (qo)), (2, .ref (r)), (1, .ref (o)), (0, .ref (b))] → W p l e room_1 s m #[Value.ref b] below meth c H1 locs1 (cells + 10) (slots + 4000) Q (F0 m 1334 ls1 [])) : W p l e room_1 s m #[Value.ref b] below meth c H locs cells slots Q (F0 m 298 ls []) := by
  obtain ⟨hx, hb, hml, hown, hts, hX, hbl, hl0, hK, hZ, hN, ho1, ho2, ho3, ho4, hL⟩ := C0
  have hbA : ¬ (fun q : Nat => s.heap.size ≤ q) b := Nat.not_le.mpr hbl
  have hL31 : L < 2 ^ 31 := by omega
  have hKm : va_K G vwCl (mTy (ids 0) (ids 1)) s := hK.sub [0, 1] rfl
  have hA0 : ∀ q, mA (aM r) q → (fun q : Nat => s.heap.size ≤ q) q := fun q h => by have h1 := mA_in h; show s.heap.size ≤ q; omega
  refine lv_aload_n hx hb dL_law_298 rfl (lv_at hl 3 rfl) ?_
  refine lv_aload_n hx hb dL_law_299 rfl (lv_at hl 4 rfl) ?_
  refine lv_iload hx hb dL_law_300 (lv_at hl 0 rfl) ?_
  refine lv_iconst (v := nI (1)) hx hb dL_law_302 (by decide) ?_
  refine n_add (x := i) (y := 1) hx hb dL_law_303 ?_
  refine l_sld hx hb hX hbl hbA hS (j := i + 1) (by omega) hL31 dL_law_304 ?_
  refine lv_aload_n hx hb dL_law_305 rfl (lv_at hl 4 rfl) ?_
  refine lv_iload hx hb dL_law_306 (lv_at hl 0 rfl) ?_
  refine lv_iconst (v := nI (2)) hx hb dL_law_308 (by decide) ?_
  refine n_add (x := i) (y := 2) hx hb dL_law_309 ?_
  refine l_sld hx hb hX hbl hbA hS (j := i + 2) (by omega) hL31 dL_law_310 ?_
  refine lv_aload_n hx hb dL_law_311 rfl (lv_at hl 4 rfl) ?_
  refine lv_iload hx hb dL_law_312 (lv_at hl 0 rfl) ?_
  refine lv_iconst (v := nI (3)) hx hb dL_law_314 (by decide) ?_
  refine n_add (x := i) (y := 3) hx hb dL_law_315 ?_
  refine l_sld hx hb hX hbl hbA hS (j := i + 3) (by omega) hL31 dL_law_316 ?_
  refine lv_aload_n hx hb dL_law_317 rfl (lv_at hl 1 rfl) ?_
  refine l_wrap (As := [.ref (o), .int (xs (i + 1)), .int (xs (i + 2)), .int (xs (i + 3)), .ref (qo)]) (rest := []) ⟨hx, hb, hml, hown, hts⟩ (lc_pass l hl0 G ids tS tE o z qo (by omega) ho4 σ (xs (i + 1)) (xs (i + 2)) (xs (i + 3)) hcO hcR) (vx_cwSW 5 hts gL_law_L_pass rfl rfl rfl (by decide +kernel) ⟨Nat.le_of_ble_eq_true rfl, Nat.le_of_ble_eq_true rfl⟩) hK hZ hN ho1 ho2 ho3 ho4 hP hO hW hS rfl hl.1 rfl (Nat.le_of_ble_eq_true rfl) dL_law_318 ⟨by show cells + 4 ≤ 601024; omega, by show slots + 24 ≤ 7293034; omega⟩ (fun H locs hP hO hW hS => ?_)
  refine lv_istore (lv' := [(5, .int (nI (lC [2, 3] (kx_pass σ (xs (i + 1)) (xs (i + 2)) (xs (i + 3)))))), (4, .int (nI (i))), (3, .ref (qo)), (2, .ref (r)), (1, .ref (o)), (0, .ref (b))]) hx hb dL_law_321 hl (by decide) rfl (fun ls hl => ?_)
  refine lv_aload_n hx hb dL_law_323 rfl (lv_at hl 3 rfl) ?_
  refine lv_aload_n hx hb dL_law_324 rfl (lv_at hl 5 rfl) ?_
  refine lv_iload hx hb dL_law_325 (lv_at hl 1 rfl) ?_
  refine lv_iconst (v := nI (1)) hx hb dL_law_327 (by decide) ?_
  refine n_add (x := i) (y := 1) hx hb dL_law_328 ?_
  refine l_sld hx hb hX hbl hbA hS (j := i + 1) (by omega) hL31 dL_law_329 ?_
  refine lv_aload_n hx hb dL_law_330 rfl (lv_at hl 5 rfl) ?_
  refine lv_iload hx hb dL_law_331 (lv_at hl 1 rfl) ?_
  refine lv_iconst (v := nI (2)) hx hb dL_law_333 (by decide) ?_
  refine n_add (x := i) (y := 2) hx hb dL_law_334 ?_
  refine l_sld hx hb hX hbl hbA hS (j := i + 2) (by omega) hL31 dL_law_335 ?_
  refine lv_aload_n hx hb dL_law_336 rfl (lv_at hl 5 rfl) ?_
  refine lv_iload hx hb dL_law_337 (lv_at hl 1 rfl) ?_
  refine lv_iconst (v := nI (3)) hx hb dL_law_339 (by decide) ?_
  refine n_add (x := i) (y := 3) hx hb dL_law_340 ?_
  refine l_sld hx hb hX hbl hbA hS (j := i + 3) (by omega) hL31 dL_law_341 ?_
  refine m_callI (As := [.int (xs (i + 1)), .int (xs (i + 2)), .int (xs (i + 3))]) (rest := []) hA0 ⟨hx, hb, hml, hown, hts⟩ (cm_pass l G (ids 0) (ids 1) (aM r) μ (xs (i + 1)) (xs (i + 2)) (xs (i + 3)) hMO) (cwV 3 hts gL_law_X6_pass rfl rfl rfl (by decide +kernel) ⟨Nat.le_of_ble_eq_true rfl, Nat.le_of_ble_eq_true rfl⟩) hKm hW (aM_DA r (ids 0) (ids 1) μ) hS rfl hl.1 rfl (Nat.le_of_ble_eq_true rfl) dL_law_342 ⟨by show (cells + 4) ≤ 601024; omega, by show (slots + 24) ≤ 7293034; omega⟩ (fun H1 locs1 hW1 _ _ hk hS1 => ?_)
  obtain ⟨hP1, hO1⟩ := l_keep ho2 ho3 ho4 hP hO hk
  clear hk
  refine lv_istore (lv' := [(6, .int (m_pass μ (xs (i + 1)) (xs (i + 2)) (xs (i + 3)))), (5, .int (nI (lC [2, 3] (kx_pass σ (xs (i + 1)) (xs (i + 2)) (xs (i + 3)))))), (4, .int (nI (i))), (3, .ref (qo)), (2, .ref (r)), (1, .ref (o)), (0, .ref (b))]) hx hb dL_law_345 hl (by decide) rfl (fun ls hl => ?_)
  refine lv_aload_n hx hb dL_law_347 rfl (lv_at hl 4 rfl) ?_
  refine m_callI (As := []) (rest := []) hA0 ⟨hx, hb, hml, hown, hts⟩ (cm_thrown l G (ids 0) (ids 1) (aM r) (m_pass_s μ (xs (i + 1)) (xs (i + 2)) (xs (i + 3)))) (cwV 0 hts gL_law_X6_thrown rfl rfl rfl (by decide +kernel) ⟨Nat.le_of_ble_eq_true rfl, Nat.le_of_ble_eq_true rfl⟩) hKm hW1 (aM_DA r (ids 0) (ids 1) (m_pass_s μ (xs (i + 1)) (xs (i + 2)) (xs (i + 3)))) hS1 rfl hl.1 rfl (Nat.le_of_ble_eq_true rfl) dL_law_348 ⟨by show (cells + 4) ≤ 601024; omega, by show (slots + 24) ≤ 7293034; omega⟩ (fun H2 locs2 hW2 _ _ hk hS2 => ?_)
  obtain ⟨hP2, hO2⟩ := l_keep ho2 ho3 ho4 hP1 hO1 hk
  clear hk
  refine lv_iload hx hb dL_law_351 (lv_at hl 1 rfl) ?_
  refine lv_icmp_eq (x := (m_thrown (m_pass_s μ (xs (i + 1)) (xs (i + 2)) (xs (i + 3))))) (y := (nI (lC [2, 3] (kx_pass σ (xs (i + 1)) (xs (i + 2)) (xs (i + 3)))))) (tgt := 358) hx hb dL_law_353 (by decide) (fun _ => ?_) (fun c9 => absurd hp1 c9)
  refine lv_iload hx hb dL_law_358 (lv_at hl 1 rfl) ?_
  refine lv_if_ne (x := (nI (lC [2, 3] (kx_pass σ (xs (i + 1)) (xs (i + 2)) (xs (i + 3)))))) (tgt := 375) hx hb dL_law_360 (by decide) (fun _ => ?_) (fun c9 => ?_)
  · refine lv_goto (tgt := 1334) hx hb dL_law_375 (by decide) ?_
    exact W.widen (by omega) (by omega) (kk _ _ _ hP2 (hO2.imp (fun v h => h.1)) hW2 hS2 (lv_sub hl [2, 3, 4, 5, 6] rfl))
  · have hX0 : (kx_pass σ (xs (i + 1)) (xs (i + 2)) (xs (i + 3))) = 0 := lC_c (S := [2, 3]) (by decide) (kxK_pass σ (xs (i + 1)) (xs (i + 2)) (xs (i + 3))) c9
    obtain ⟨v9, hv9, hg9⟩ := hO2
    have hg := hg9 hX0
    (try dsimp only at hg)
    rw [hp2 hX0] at hg
    have q_ := hg.symm
    subst q_
    obtain ⟨f9, hf9, hf0⟩ := hv9
    refine lv_aload_n hx hb dL_law_363 rfl (lv_at hl 3 rfl) ?_
    refine lv_iconst (v := nI (0)) hx hb dL_law_364 (by decide) ?_
    refine x_lald (v := (m_pass μ (xs (i + 1)) (xs (i + 2)) (xs (i + 3))).toInt64) hx hb hK hf9 (j := nI 0) (vp_in_nI (by decide) (by decide)) (by rw [nI_clamp (by decide)]; exact hf0) dL_law_365 ?_
    refine lv_iload hx hb dL_law_366 (lv_at hl 0 rfl) ?_
    refine lv_i2l (v := (m_pass μ (xs (i + 1)) (xs (i + 2)) (xs (i + 3))).toInt64) hx hb dL_law_368 rfl ?_
    refine W.lcmp hx hb dL_law_369 ?_
    refine lv_if_eq (tgt := 375) hx hb dL_law_370 (by decide) (fun _ => ?_) (fun c9 => absurd (lcmp_self _) c9)
    refine lv_goto (tgt := 1334) hx hb dL_law_375 (by decide) ?_
    exact W.widen (by omega) (by omega) (kk _ _ _ hP2 ⟨_, f9, hf9, hf0⟩ hW2 hS2 (lv_sub hl [2, 3, 4, 5, 6] rfl))
set_option maxHeartbeats 4000000 in
set_option maxRecDepth 100000 in
theorem law_fire {p : Program} {l : Launch} {e : Env} {s : State} {m : MethodId} {below : List Frame} {meth : Method} {c : Code} {b L : Nat} {xs : Nat → Int32} {G : va_G} {ids : Nat → ClassId} {tS tE o r qo z : Nat} (C0 : lX p l s m meth c b L xs G ids tS tE o r qo z) {cells slots i : Nat} {H : Heap} {locs : List Loc} {ls : Array Slot} {Q : State → Prop} {σ μ : Sg} (hi : i + 7 ≤ L) (hc : cells + 10 ≤ 601024) (hs : slots + 4000 ≤ 7293034)
    (hP : lPic G ids o z tE σ H) (hO : ∃ v, lOut G ids qo v H) (hW : va_P G vwCl (wm (ids 0) (ids 1) (aM r) μ) H) (hS : va_S (fun q => s.heap.size ≤ q) s.heap H locs) (hl : lv_has ls 8 [(4, .int (nI (i))), (3, .ref (qo)), (2, .ref (r)), (1, .ref (o)), (0, .ref (b))])
    (hMO : mOK μ) (hp1 : (m_fire_s μ (xs (i + 1))).1 0 0 = nI (lC [1, 3] (kx_fire σ (xs (i + 1))))) (hp2 : (kx_fire σ (xs (i + 1))) = 0 → (k_fire σ (xs (i + 1))) = (m_fire μ (xs (i + 1))))
    (kk : ∀ (H1 : Heap) (locs1 : List Loc) (ls1 : Array Slot), lPic G ids o z tE (if (kx_fire σ (xs (i + 1))) = 0 then (k_fire_s σ (xs (i + 1))) else σ) H1 → (∃ v, lOut G ids qo v H1) → va_P G vwCl (wm (ids 0) (ids 1) (aM r) (m_fire_s μ (xs (i + 1)))) H1 → va_S (fun q => s.heap.size ≤ q) s.heap H1 locs1 → lv_has ls1 8 [(4, .int (nI (i))), (3, .ref (qo)), (2, .ref (r)), (1, .ref (o)), (0, .ref (b))] → W p l e room_1 s m #[Value.ref b] below meth c H1 locs1 (cells + 10) (slots + 4000) Q (F0 m 1334 ls1 [])) : W p l e room_1 s m #[Value.ref b] below meth c H locs cells slots Q (F0 m 378 ls []) := by
  obtain ⟨hx, hb, hml, hown, hts, hX, hbl, hl0, hK, hZ, hN, ho1, ho2, ho3, ho4, hL⟩ := C0
  have hbA : ¬ (fun q : Nat => s.heap.size ≤ q) b := Nat.not_le.mpr hbl
  have hL31 : L < 2 ^ 31 := by omega
  have hKm : va_K G vwCl (mTy (ids 0) (ids 1)) s := hK.sub [0, 1] rfl
  have hA0 : ∀ q, mA (aM r) q → (fun q : Nat => s.heap.size ≤ q) q := fun q h => by have h1 := mA_in h; show s.heap.size ≤ q; omega
  refine lv_aload_n hx hb dL_law_378 rfl (lv_at hl 3 rfl) ?_
  refine lv_aload_n hx hb dL_law_379 rfl (lv_at hl 4 rfl) ?_
  refine lv_iload hx hb dL_law_380 (lv_at hl 0 rfl) ?_
  refine lv_iconst (v := nI (1)) hx hb dL_law_382 (by decide) ?_
  refine n_add (x := i) (y := 1) hx hb dL_law_383 ?_
  refine l_sld hx hb hX hbl hbA hS (j := i + 1) (by omega) hL31 dL_law_384 ?_
  refine lv_aload_n hx hb dL_law_385 rfl (lv_at hl 1 rfl) ?_
  refine l_wrap (As := [.ref (o), .int (xs (i + 1)), .ref (qo)]) (rest := []) ⟨hx, hb, hml, hown, hts⟩ (lc_fire l hl0 G ids tS tE o z qo (by omega) ho4 σ (xs (i + 1))) (vx_cwSW 3 hts gL_law_L_fire rfl rfl rfl (by decide +kernel) ⟨Nat.le_of_ble_eq_true rfl, Nat.le_of_ble_eq_true rfl⟩) hK hZ hN ho1 ho2 ho3 ho4 hP hO hW hS rfl hl.1 rfl (Nat.le_of_ble_eq_true rfl) dL_law_386 ⟨by show cells + 2 ≤ 601024; omega, by show slots + 12 ≤ 7293034; omega⟩ (fun H locs hP hO hW hS => ?_)
  refine lv_istore (lv' := [(5, .int (nI (lC [1, 3] (kx_fire σ (xs (i + 1)))))), (4, .int (nI (i))), (3, .ref (qo)), (2, .ref (r)), (1, .ref (o)), (0, .ref (b))]) hx hb dL_law_389 hl (by decide) rfl (fun ls hl => ?_)
  refine lv_aload_n hx hb dL_law_391 rfl (lv_at hl 3 rfl) ?_
  refine lv_aload_n hx hb dL_law_392 rfl (lv_at hl 5 rfl) ?_
  refine lv_iload hx hb dL_law_393 (lv_at hl 1 rfl) ?_
  refine lv_iconst (v := nI (1)) hx hb dL_law_395 (by decide) ?_
  refine n_add (x := i) (y := 1) hx hb dL_law_396 ?_
  refine l_sld hx hb hX hbl hbA hS (j := i + 1) (by omega) hL31 dL_law_397 ?_
  refine m_callI (As := [.int (xs (i + 1))]) (rest := []) hA0 ⟨hx, hb, hml, hown, hts⟩ (cm_fire l G (ids 0) (ids 1) (aM r) μ (xs (i + 1))) (cwV 1 hts gL_law_X6_fire rfl rfl rfl (by decide +kernel) ⟨Nat.le_of_ble_eq_true rfl, Nat.le_of_ble_eq_true rfl⟩) hKm hW (aM_DA r (ids 0) (ids 1) μ) hS rfl hl.1 rfl (Nat.le_of_ble_eq_true rfl) dL_law_398 ⟨by show (cells + 2) ≤ 601024; omega, by show (slots + 12) ≤ 7293034; omega⟩ (fun H1 locs1 hW1 _ _ hk hS1 => ?_)
  obtain ⟨hP1, hO1⟩ := l_keep ho2 ho3 ho4 hP hO hk
  clear hk
  refine lv_istore (lv' := [(6, .int (m_fire μ (xs (i + 1)))), (5, .int (nI (lC [1, 3] (kx_fire σ (xs (i + 1)))))), (4, .int (nI (i))), (3, .ref (qo)), (2, .ref (r)), (1, .ref (o)), (0, .ref (b))]) hx hb dL_law_401 hl (by decide) rfl (fun ls hl => ?_)
  refine lv_aload_n hx hb dL_law_403 rfl (lv_at hl 4 rfl) ?_
  refine m_callI (As := []) (rest := []) hA0 ⟨hx, hb, hml, hown, hts⟩ (cm_thrown l G (ids 0) (ids 1) (aM r) (m_fire_s μ (xs (i + 1)))) (cwV 0 hts gL_law_X6_thrown rfl rfl rfl (by decide +kernel) ⟨Nat.le_of_ble_eq_true rfl, Nat.le_of_ble_eq_true rfl⟩) hKm hW1 (aM_DA r (ids 0) (ids 1) (m_fire_s μ (xs (i + 1)))) hS1 rfl hl.1 rfl (Nat.le_of_ble_eq_true rfl) dL_law_404 ⟨by show (cells + 2) ≤ 601024; omega, by show (slots + 12) ≤ 7293034; omega⟩ (fun H2 locs2 hW2 _ _ hk hS2 => ?_)
  obtain ⟨hP2, hO2⟩ := l_keep ho2 ho3 ho4 hP1 hO1 hk
  clear hk
  refine lv_iload hx hb dL_law_407 (lv_at hl 1 rfl) ?_
  refine lv_icmp_eq (x := (m_thrown (m_fire_s μ (xs (i + 1))))) (y := (nI (lC [1, 3] (kx_fire σ (xs (i + 1)))))) (tgt := 414) hx hb dL_law_409 (by decide) (fun _ => ?_) (fun c9 => absurd hp1 c9)
  refine lv_iload hx hb dL_law_414 (lv_at hl 1 rfl) ?_
  refine lv_if_ne (x := (nI (lC [1, 3] (kx_fire σ (xs (i + 1)))))) (tgt := 431) hx hb dL_law_416 (by decide) (fun _ => ?_) (fun c9 => ?_)
  · refine lv_goto (tgt := 1334) hx hb dL_law_431 (by decide) ?_
    exact W.widen (by omega) (by omega) (kk _ _ _ hP2 (hO2.imp (fun v h => h.1)) hW2 hS2 (lv_sub hl [2, 3, 4, 5, 6] rfl))
  · have hX0 : (kx_fire σ (xs (i + 1))) = 0 := lC_c (S := [1, 3]) (by decide) (kxK_fire σ (xs (i + 1))) c9
    obtain ⟨v9, hv9, hg9⟩ := hO2
    have hg := hg9 hX0
    (try dsimp only at hg)
    rw [hp2 hX0] at hg
    have q_ := hg.symm
    subst q_
    obtain ⟨f9, hf9, hf0⟩ := hv9
    refine lv_aload_n hx hb dL_law_419 rfl (lv_at hl 3 rfl) ?_
    refine lv_iconst (v := nI (0)) hx hb dL_law_420 (by decide) ?_
    refine x_lald (v := (m_fire μ (xs (i + 1))).toInt64) hx hb hK hf9 (j := nI 0) (vp_in_nI (by decide) (by decide)) (by rw [nI_clamp (by decide)]; exact hf0) dL_law_421 ?_
    refine lv_iload hx hb dL_law_422 (lv_at hl 0 rfl) ?_
    refine lv_i2l (v := (m_fire μ (xs (i + 1))).toInt64) hx hb dL_law_424 rfl ?_
    refine W.lcmp hx hb dL_law_425 ?_
    refine lv_if_eq (tgt := 431) hx hb dL_law_426 (by decide) (fun _ => ?_) (fun c9 => absurd (lcmp_self _) c9)
    refine lv_goto (tgt := 1334) hx hb dL_law_431 (by decide) ?_
    exact W.widen (by omega) (by omega) (kk _ _ _ hP2 ⟨_, f9, hf9, hf0⟩ hW2 hS2 (lv_sub hl [2, 3, 4, 5, 6] rfl))
