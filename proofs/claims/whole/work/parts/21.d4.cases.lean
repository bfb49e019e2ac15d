set_option maxHeartbeats 4000000 in
set_option maxRecDepth 100000 in
theorem law_claimAnew {p : Program} {l : Launch} {e : Env} {s : State} {m : MethodId} {below : List Frame} {meth : Method} {c : Code} {b L : Nat} {xs : Nat → Int32} {G : va_G} {ids : Nat → ClassId} {tS tE o r qo z : Nat} (C0 : lX p l s m meth c b L xs G ids tS tE o r qo z) {cells slots i : Nat} {H : Heap} {locs : List Loc} {ls : Array Slot} {Q : State → Prop} {σ μ : Sg} (hi : i + 7 ≤ L) (hc : cells + 10 ≤ 601024) (hs : slots + 4000 ≤ 7293034)
    (hP : lPic G ids o z tE σ H) (hO : ∃ v, lOut G ids qo v H) (hW : va_P G vwCl (wm (ids 0) (ids 1) (aM r) μ) H) (hS : va_S (fun q => s.heap.size ≤ q) s.heap H locs) (hl : lv_has ls 8 [(4, .int (nI (i))), (3, .ref (qo)), (2, .ref (r)), (1, .ref (o)), (0, .ref (b))])
    (hMO : mOK μ) (hcO : cOK σ) (hcC : cCl σ) (hp1 : (m_claimAnew_s μ (xs (i + 1))).1 0 0 = nI (lC [1] (kx_claimAnew σ (xs (i + 1))))) (hp2 : (kx_claimAnew σ (xs (i + 1))) = 0 → (k_claimAnew σ (xs (i + 1))) = (m_claimAnew μ (xs (i + 1))))
    (kk : ∀ (H1 : Heap) (locs1 : List Loc) (ls1 : Array Slot), lPic G ids o z tE (if (kx_claimAnew σ (xs (i + 1))) = 0 then σ else σ) H1 → (∃ v, lOut G ids qo v H1) → va_P G vwCl (wm (ids 0) (ids 1) (aM r) (m_claimAnew_s μ (xs (i + 1)))) H1 → va_S (fun q => s.heap.size ≤ q) s.heap H1 locs1 → lv_has ls1 8 [(4, .int (nI (i))), (3, .ref (qo)), (2, .ref (r)), (1, .ref (o)), (0, .ref (b))] → W p l e room_1 s m #[Value.ref b] below meth c H1 locs1 (cells + 10) (slots + 4000) Q (F0 m 1334 ls1 [])) : W p l e room_1 s m #[Value.ref b] below meth c H locs cells slots Q (F0 m 1156 ls []) := by
  obtain ⟨hx, hb, hml, hown, hts, hX, hbl, hl0, hK, hZ, hN, ho1, ho2, ho3, ho4, hL⟩ := C0
  have hbA : ¬ (fun q : Nat => s.heap.size ≤ q) b := Nat.not_le.mpr hbl
  have hL31 : L < 2 ^ 31 := by omega
  have hKm : va_K G vwCl (mTy (ids 0) (ids 1)) s := hK.sub [0, 1] rfl
  have hA0 : ∀ q, mA (aM r) q → (fun q : Nat => s.heap.size ≤ q) q := fun q h => by have h1 := mA_in h; show s.heap.size ≤ q; omega
  refine lv_aload_n hx hb dL_law_1156 rfl (lv_at hl 3 rfl) ?_
  refine lv_aload_n hx hb dL_law_1157 rfl (lv_at hl 4 rfl) ?_
  refine lv_iload hx hb dL_law_1158 (lv_at hl 0 rfl) ?_
  refine lv_iconst (v := nI (1)) hx hb dL_law_1160 (by decide) ?_
  refine n_add (x := i) (y := 1) hx hb dL_law_1161 ?_
  refine l_sld hx hb hX hbl hbA hS (j := i + 1) (by omega) hL31 dL_law_1162 ?_
  refine lv_aload_n hx hb dL_law_1163 rfl (lv_at hl 1 rfl) ?_
  refine l_wrap (As := [.ref (o), .int (xs (i + 1)), .ref (qo)]) (rest := []) ⟨hx, hb, hml, hown, hts⟩ (lc_claimAnew l hl0 G ids tS tE o z qo (by omega) ho4 σ (xs (i + 1)) hcO hcC) (vx_cwSW 3 hts gL_law_L_claimAnew rfl rfl rfl (by decide +kernel) ⟨Nat.le_of_ble_eq_true rfl, Nat.le_of_ble_eq_true rfl⟩) hK hZ hN ho1 ho2 ho3 ho4 hP hO hW hS rfl hl.1 rfl (Nat.le_of_ble_eq_true rfl) dL_law_1164 ⟨by show cells + 1 ≤ 601024; omega, by show slots + 6 ≤ 7293034; omega⟩ (fun H locs hP hO hW hS => ?_)
  refine lv_istore (lv' := [(5, .int (nI (lC [1] (kx_claimAnew σ (xs (i + 1)))))), (4, .int (nI (i))), (3, .ref (qo)), (2, .ref (r)), (1, .ref (o)), (0, .ref (b))]) hx hb dL_law_1167 hl (by decide) rfl (fun ls hl => ?_)
  refine lv_aload_n hx hb dL_law_1169 rfl (lv_at hl 3 rfl) ?_
  refine lv_aload_n hx hb dL_law_1170 rfl (lv_at hl 5 rfl) ?_
  refine lv_iload hx hb dL_law_1171 (lv_at hl 1 rfl) ?_
  refine lv_iconst (v := nI (1)) hx hb dL_law_1173 (by decide) ?_
  refine n_add (x := i) (y := 1) hx hb dL_law_1174 ?_
  refine l_sld hx hb hX hbl hbA hS (j := i + 1) (by omega) hL31 dL_law_1175 ?_
  refine m_callI (As := [.int (xs (i + 1))]) (rest := []) hA0 ⟨hx, hb, hml, hown, hts⟩ (cm_claimAnew l G (ids 0) (ids 1) (aM r) μ (xs (i + 1)) hMO) (cwV 1 hts gL_law_X6_claimAnew rfl rfl rfl (by decide +kernel) ⟨Nat.le_of_ble_eq_true rfl, Nat.le_of_ble_eq_true rfl⟩) hKm hW (aM_DA r (ids 0) (ids 1) μ) hS rfl hl.1 rfl (Nat.le_of_ble_eq_true rfl) dL_law_1176 ⟨by show (cells + 1) ≤ 601024; omega, by show (slots + 6) ≤ 7293034; omega⟩ (fun H1 locs1 hW1 _ _ hk hS1 => ?_)
  obtain ⟨hP1, hO1⟩ := l_keep ho2 ho3 ho4 hP hO hk
  clear hk
  refine lv_istore (lv' := [(6, .int (m_claimAnew μ (xs (i + 1)))), (5, .int (nI (lC [1] (kx_claimAnew σ (xs (i + 1)))))), (4, .int (nI (i))), (3, .ref (qo)), (2, .ref (r)), (1, .ref (o)), (0, .ref (b))]) hx hb dL_law_1179 hl (by decide) rfl (fun ls hl => ?_)
  refine lv_aload_n hx hb dL_law_1181 rfl (lv_at hl 4 rfl) ?_
  refine m_callI (As := []) (rest := []) hA0 ⟨hx, hb, hml, hown, hts⟩ (cm_thrown l G (ids 0) (ids 1) (aM r) (m_claimAnew_s μ (xs (i + 1)))) (cwV 0 hts gL_law_X6_thrown rfl rfl rfl (by decide +kernel) ⟨Nat.le_of_ble_eq_true rfl, Nat.le_of_ble_eq_true rfl⟩) hKm hW1 (aM_DA r (ids 0) (ids 1) (m_claimAnew_s μ (xs (i + 1)))) hS1 rfl hl.1 rfl (Nat.le_of_ble_eq_true rfl) dL_law_1182 ⟨by show (cells + 1) ≤ 601024; omega, by show (slots + 6) ≤ 7293034; omega⟩ (fun H2 locs2 hW2 _ _ hk hS2 => ?_)
  obtain ⟨hP2, hO2⟩ := l_keep ho2 ho3 ho4 hP1 hO1 hk
  clear hk
  refine lv_iload hx hb dL_law_1185 (lv_at hl 1 rfl) ?_
  refine lv_icmp_eq (x := (m_thrown (m_claimAnew_s μ (xs (i + 1))))) (y := (nI (lC [1] (kx_claimAnew σ (xs (i + 1)))))) (tgt := 1192) hx hb dL_law_1187 (by decide) (fun _ => ?_) (fun c9 => absurd hp1 c9)
  refine lv_iload hx hb dL_law_1192 (lv_at hl 1 rfl) ?_
  refine lv_if_ne (x := (nI (lC [1] (kx_claimAnew σ (xs (i + 1)))))) (tgt := 1209) hx hb dL_law_1194 (by decide) (fun _ => ?_) (fun c9 => ?_)
  · refine lv_goto (tgt := 1334) hx hb dL_law_1209 (by decide) ?_
    exact W.widen (by omega) (by omega) (kk _ _ _ hP2 (hO2.imp (fun v h => h.1)) hW2 hS2 (lv_sub hl [2, 3, 4, 5, 6] rfl))
  · have hX0 : (kx_claimAnew σ (xs (i + 1))) = 0 := lC_c (S := [1]) (by decide) (kxK_claimAnew σ (xs (i + 1))) c9
    obtain ⟨v9, hv9, hg9⟩ := hO2
    have hg := hg9 hX0
    (try dsimp only at hg)
    rw [hp2 hX0] at hg
    have q_ := hg.symm
    subst q_
    obtain ⟨f9, hf9, hf0⟩ := hv9
    refine lv_aload_n hx hb dL_law_1197 rfl (lv_at hl 3 rfl) ?_
    refine lv_iconst (v := nI (0)) hx hb dL_law_1198 (by decide) ?_
    refine x_lald (v := (m_claimAnew μ (xs (i + 1))).toInt64) hx hb hK hf9 (j := nI 0) (vp_in_nI (by decide) (by decide)) (by rw [nI_clamp (by decide)]; exact hf0) dL_law_1199 ?_
    refine lv_iload hx hb dL_law_1200 (lv_at hl 0 rfl) ?_
    refine lv_i2l (v := (m_claimAnew μ (xs (i + 1))).toInt64) hx hb dL_law_1202 rfl ?_
    refine W.lcmp hx hb dL_law_1203 ?_
    refine lv_if_eq (tgt := 1209) hx hb dL_law_1204 (by decide) (fun _ => ?_) (fun c9 => absurd (lcmp_self _) c9)
    refine lv_goto (tgt := 1334) hx hb dL_law_1209 (by decide) ?_
    exact W.widen (by omega) (by omega) (kk _ _ _ hP2 ⟨_, f9, hf9, hf0⟩ hW2 hS2 (lv_sub hl [2, 3, 4, 5, 6] rfl))
set_option maxHeartbeats 4000000 in
set_option maxRecDepth 100000 in
theorem law_balance {p : Program} {l : Launch} {e : Env} {s : State} {m : MethodId} {below : List Frame} {meth : Method} {c : Code} {b L : Nat} {xs : Nat → Int32} {G : va_G} {ids : Nat → ClassId} {tS tE o r qo z : Nat} (C0 : lX p l s m meth c b L xs G ids tS tE o r qo z) {cells slots i : Nat} {H : Heap} {locs : List Loc} {ls : Array Slot} {Q : State → Prop} {σ μ : Sg} (hi : i + 7 ≤ L) (hc : cells + 10 ≤ 601024) (hs : slots + 4000 ≤ 7293034)
    (hP : lPic G ids o z tE σ H) (hO : ∃ v, lOut G ids qo v H) (hW : va_P G vwCl (wm (ids 0) (ids 1) (aM r) μ) H) (hS : va_S (fun q => s.heap.size ≤ q) s.heap H locs) (hl : lv_has ls 8 [(4, .int (nI (i))), (3, .ref (qo)), (2, .ref (r)), (1, .ref (o)), (0, .ref (b))])
    (hMO : mOK μ) (hp1 : (m_balance_s μ (xs (i + 1)) (xs (i + 2))).1 0 0 = nI (lC [2] (kx_balance σ (xs (i + 1)) (xs (i + 2))))) (hp2 : (kx_balance σ (xs (i + 1)) (xs (i + 2))) = 0 → (k_balance σ (xs (i + 1)) (xs (i + 2))) = (m_balance μ (xs (i + 1)) (xs (i + 2))))
    (kk : ∀ (H1 : Heap) (locs1 : List Loc) (ls1 : Array Slot), lPic G ids o z tE (if (kx_balance σ (xs (i + 1)) (xs (i + 2))) = 0 then σ else σ) H1 → (∃ v, lOut G ids qo v H1) → va_P G vwCl (wm (ids 0) (ids 1) (aM r) (m_balance_s μ (xs (i + 1)) (xs (i + 2)))) H1 → va_S (fun q => s.heap.size ≤ q) s.heap H1 locs1 → lv_has ls1 8 [(4, .int (nI (i))), (3, .ref (qo)), (2, .ref (r)), (1, .ref (o)), (0, .ref (b))] → W p l e room_1 s m #[Value.ref b] below meth c H1 locs1 (cells + 10) (slots + 4000) Q (F0 m 1334 ls1 [])) : W p l e room_1 s m #[Value.ref b] below meth c H locs cells slots Q (F0 m 1212 ls []) := by
  obtain ⟨hx, hb, hml, hown, hts, hX, hbl, hl0, hK, hZ, hN, ho1, ho2, ho3, ho4, hL⟩ := C0
  have hbA : ¬ (fun q : Nat => s.heap.size ≤ q) b := Nat.not_le.mpr hbl
  have hL31 : L < 2 ^ 31 := by omega
  have hKm : va_K G vwCl (mTy (ids 0) (ids 1)) s := hK.sub [0, 1] rfl
  have hA0 : ∀ q, mA (aM r) q → (fun q : Nat => s.heap.size ≤ q) q := fun q h => by have h1 := mA_in h; show s.heap.size ≤ q; omega
  refine lv_aload_n hx hb dL_law_1212 rfl (lv_at hl 3 rfl) ?_
  refine lv_aload_n hx hb dL_law_1213 rfl (lv_at hl 4 rfl) ?_
  refine lv_iload hx hb dL_law_1214 (lv_at hl 0 rfl) ?_
  refine lv_iconst (v := nI (1)) hx hb dL_law_1216 (by decide) ?_
  refine n_add (x := i) (y := 1) hx hb dL_law_1217 ?_
  refine l_sld hx hb hX hbl hbA hS (j := i + 1) (by omega) hL31 dL_law_1218 ?_
  refine lv_aload_n hx hb dL_law_1219 rfl (lv_at hl 4 rfl) ?_
  refine lv_iload hx hb dL_law_1220 (lv_at hl 0 rfl) ?_
  refine lv_iconst (v := nI (2)) hx hb dL_law_1222 (by decide) ?_
  refine n_add (x := i) (y := 2) hx hb dL_law_1223 ?_
  refine l_sld hx hb hX hbl hbA hS (j := i + 2) (by omega) hL31 dL_law_1224 ?_
  refine lv_aload_n hx hb dL_law_1225 rfl (lv_at hl 1 rfl) ?_
  refine l_wrap (As := [.ref (o), .int (xs (i + 1)), .int (xs (i + 2)), .ref (qo)]) (rest := []) ⟨hx, hb, hml, hown, hts⟩ (lc_balance l hl0 G ids tS tE o z qo (by omega) ho4 σ (xs (i + 1)) (xs (i + 2))) (vx_cwSW 4 hts gL_law_L_balance rfl rfl rfl (by decide +kernel) ⟨Nat.le_of_ble_eq_true rfl, Nat.le_of_ble_eq_true rfl⟩) hK hZ hN ho1 ho2 ho3 ho4 hP hO hW hS rfl hl.1 rfl (Nat.le_of_ble_eq_true rfl) dL_law_1226 ⟨by show cells + 2 ≤ 601024; omega, by show slots + 12 ≤ 7293034; omega⟩ (fun H locs hP hO hW hS => ?_)
  refine lv_istore (lv' := [(5, .int (nI (lC [2] (kx_balance σ (xs (i + 1)) (xs (i + 2)))))), (4, .int (nI (i))), (3, .ref (qo)), (2, .ref (r)), (1, .ref (o)), (0, .ref (b))]) hx hb dL_law_1229 hl (by decide) rfl (fun ls hl => ?_)
  refine lv_aload_n hx hb dL_law_1231 rfl (lv_at hl 3 rfl) ?_
  refine lv_aload_n hx hb dL_law_1232 rfl (lv_at hl 5 rfl) ?_
  refine lv_iload hx hb dL_law_1233 (lv_at hl 1 rfl) ?_
  refine lv_iconst (v := nI (1)) hx hb dL_law_1235 (by decide) ?_
  refine n_add (x := i) (y := 1) hx hb dL_law_1236 ?_
  refine l_sld hx hb hX hbl hbA hS (j := i + 1) (by omega) hL31 dL_law_1237 ?_
  refine lv_aload_n hx hb dL_law_1238 rfl (lv_at hl 5 rfl) ?_
  refine lv_iload hx hb dL_law_1239 (lv_at hl 1 rfl) ?_
  refine lv_iconst (v := nI (2)) hx hb dL_law_1241 (by decide) ?_
  refine n_add (x := i) (y := 2) hx hb dL_law_1242 ?_
  refine l_sld hx hb hX hbl hbA hS (j := i + 2) (by omega) hL31 dL_law_1243 ?_
  refine m_callL (As := [.int (xs (i + 1)), .int (xs (i + 2))]) (rest := []) hA0 ⟨hx, hb, hml, hown, hts⟩ (cm_balance l G (ids 0) (ids 1) (aM r) μ (xs (i + 1)) (xs (i + 2))) (cwV 2 hts gL_law_X6_balance rfl rfl rfl (by decide +kernel) ⟨Nat.le_of_ble_eq_true rfl, Nat.le_of_ble_eq_true rfl⟩) hKm hW (aM_DA r (ids 0) (ids 1) μ) hS rfl hl.1 rfl (Nat.le_of_ble_eq_true rfl) dL_law_1244 ⟨by show (cells + 2) ≤ 601024; omega, by show (slots + 12) ≤ 7293034; omega⟩ (fun H1 locs1 hW1 _ _ hk hS1 => ?_)
  obtain ⟨hP1, hO1⟩ := l_keep ho2 ho3 ho4 hP hO hk
  clear hk
  refine lv_lstore (lv' := [(6, .long (m_balance μ (xs (i + 1)) (xs (i + 2)))), (5, .int (nI (lC [2] (kx_balance σ (xs (i + 1)) (xs (i + 2)))))), (4, .int (nI (i))), (3, .ref (qo)), (2, .ref (r)), (1, .ref (o)), (0, .ref (b))]) hx hb dL_law_1247 hl (by decide) rfl (fun ls hl => ?_)
  refine lv_aload_n hx hb dL_law_1249 rfl (lv_at hl 4 rfl) ?_
  refine m_callI (As := []) (rest := []) hA0 ⟨hx, hb, hml, hown, hts⟩ (cm_thrown l G (ids 0) (ids 1) (aM r) (m_balance_s μ (xs (i + 1)) (xs (i + 2)))) (cwV 0 hts gL_law_X6_thrown rfl rfl rfl (by decide +kernel) ⟨Nat.le_of_ble_eq_true rfl, Nat.le_of_ble_eq_true rfl⟩) hKm hW1 (aM_DA r (ids 0) (ids 1) (m_balance_s μ (xs (i + 1)) (xs (i + 2)))) hS1 rfl hl.1 rfl (Nat.le_of_ble_eq_true rfl) dL_law_1250 ⟨by show (cells + 2) ≤ 601024; omega, by show (slots + 12) ≤ 7293034; omega⟩ (fun H2 locs2 hW2 _ _ hk hS2 => ?_)
  obtain ⟨hP2, hO2⟩ := l_keep ho2 ho3 ho4 hP1 hO1 hk
  clear hk
  refine lv_iload hx hb dL_law_1253 (lv_at hl 1 rfl) ?_
  refine lv_icmp_eq (x := (m_thrown (m_balance_s μ (xs (i + 1)) (xs (i + 2))))) (y := (nI (lC [2] (kx_balance σ (xs (i + 1)) (xs (i + 2)))))) (tgt := 1260) hx hb dL_law_1255 (by decide) (fun _ => ?_) (fun c9 => absurd hp1 c9)
  refine lv_iload hx hb dL_law_1260 (lv_at hl 1 rfl) ?_
  refine lv_if_ne (x := (nI (lC [2] (kx_balance σ (xs (i + 1)) (xs (i + 2)))))) (tgt := 1276) hx hb dL_law_1262 (by decide) (fun _ => ?_) (fun c9 => ?_)
  · refine lv_goto (tgt := 1334) hx hb dL_law_1276 (by decide) ?_
    exact W.widen (by omega) (by omega) (kk _ _ _ hP2 (hO2.imp (fun v h => h.1)) hW2 hS2 (lv_sub hl [2, 3, 4, 5, 6] rfl))
  · have hX0 : (kx_balance σ (xs (i + 1)) (xs (i + 2))) = 0 := lC_c (S := [2]) (by decide) (kxK_balance σ (xs (i + 1)) (xs (i + 2))) c9
    obtain ⟨v9, hv9, hg9⟩ := hO2
    have hg := hg9 hX0
    (try dsimp only at hg)
    rw [hp2 hX0] at hg
    have q_ := hg.symm
    subst q_
    obtain ⟨f9, hf9, hf0⟩ := hv9
    refine lv_aload_n hx hb dL_law_1265 rfl (lv_at hl 3 rfl) ?_
    refine lv_iconst (v := nI (0)) hx hb dL_law_1266 (by decide) ?_
    refine x_lald (v := (m_balance μ (xs (i + 1)) (xs (i + 2)))) hx hb hK hf9 (j := nI 0) (vp_in_nI (by decide) (by decide)) (by rw [nI_clamp (by decide)]; exact hf0) dL_law_1267 ?_
    refine lv_lload hx hb dL_law_1268 (lv_at hl 0 rfl) ?_
    refine W.lcmp hx hb dL_law_1270 ?_
    refine lv_if_eq (tgt := 1276) hx hb dL_law_1271 (by decide) (fun _ => ?_) (fun c9 => absurd (lcmp_self _) c9)
    refine lv_goto (tgt := 1334) hx hb dL_law_1276 (by decide) ?_
    exact W.widen (by omega) (by omega) (kk _ _ _ hP2 ⟨_, f9, hf9, hf0⟩ hW2 hS2 (lv_sub hl [2, 3, 4, 5, 6] rfl))
set_option maxHeartbeats 4000000 in
set_option maxRecDepth 100000 in
theorem law_air {p : Program} {l : Launch} {e : Env} {s : State} {m : MethodId} {below : List Frame} {meth : Method} {c : Code} {b L : Nat} {xs : Nat → Int32} {G : va_G} {ids : Nat → ClassId} {tS tE o r qo z : Nat} (C0 : lX p l s m meth c b L xs G ids tS tE o r qo z) {cells slots i : Nat} {H : Heap} {locs : List Loc} {ls : Array Slot} {Q : State → Prop} {σ μ : Sg} (hi : i + 7 ≤ L) (hc : cells + 10 ≤ 601024) (hs : slots + 4000 ≤ 7293034)
    (hP : lPic G ids o z tE σ H) (hO : ∃ v, lOut G ids qo v H) (hW : va_P G vwCl (wm (ids 0) (ids 1) (aM r) μ) H) (hS : va_S (fun q => s.heap.size ≤ q) s.heap H locs) (hl : lv_has ls 8 [(4, .int (nI (i))), (3, .ref (qo)), (2, .ref (r)), (1, .ref (o)), (0, .ref (b))])
    (hMO : mOK μ) (hp1 : (m_air_s μ (xs (i + 1))).1 0 0 = nI (lC [2] (kx_air σ (xs (i + 1))))) (hp2 : (kx_air σ (xs (i + 1))) = 0 → (k_air σ (xs (i + 1))) = (m_air μ (xs (i + 1))))
    (kk : ∀ (H1 : Heap) (locs1 : List Loc) (ls1 : Array Slot), lPic G ids o z tE (if (kx_air σ (xs (i + 1))) = 0 then σ else σ) H1 → (∃ v, lOut G ids qo v H1) → va_P G vwCl (wm (ids 0) (ids 1) (aM r) (m_air_s μ (xs (i + 1)))) H1 → va_S (fun q => s.heap.size ≤ q) s.heap H1 locs1 → lv_has ls1 8 [(4, .int (nI (i))), (3, .ref (qo)), (2, .ref (r)), (1, .ref (o)), (0, .ref (b))] → W p l e room_1 s m #[Value.ref b] below meth c H1 locs1 (cells + 10) (slots + 4000) Q (F0 m 1334 ls1 [])) : W p l e room_1 s m #[Value.ref b] below meth c H locs cells slots Q (F0 m 1279 ls []) := by
  obtain ⟨hx, hb, hml, hown, hts, hX, hbl, hl0, hK, hZ, hN, ho1, ho2, ho3, ho4, hL⟩ := C0
  have hbA : ¬ (fun q : Nat => s.heap.size ≤ q) b := Nat.not_le.mpr hbl
  have hL31 : L < 2 ^ 31 := by omega
  have hKm : va_K G vwCl (mTy (ids 0) (ids 1)) s := hK.sub [0, 1] rfl
  have hA0 : ∀ q, mA (aM r) q → (fun q : Nat => s.heap.size ≤ q) q := fun q h => by have h1 := mA_in h; show s.heap.size ≤ q; omega
  refine lv_aload_n hx hb dL_law_1279 rfl (lv_at hl 3 rfl) ?_
  refine lv_aload_n hx hb dL_law_1280 rfl (lv_at hl 4 rfl) ?_
  refine lv_iload hx hb dL_law_1281 (lv_at hl 0 rfl) ?_
  refine lv_iconst (v := nI (1)) hx hb dL_law_1283 (by decide) ?_
  refine n_add (x := i) (y := 1) hx hb dL_law_1284 ?_
  refine l_sld hx hb hX hbl hbA hS (j := i + 1) (by omega) hL31 dL_law_1285 ?_
  refine lv_aload_n hx hb dL_law_1286 rfl (lv_at hl 1 rfl) ?_
  refine l_wrap (As := [.ref (o), .int (xs (i + 1)), .ref (qo)]) (rest := []) ⟨hx, hb, hml, hown, hts⟩ (lc_air l hl0 G ids tS tE o z qo (by omega) ho4 σ (xs (i + 1))) (vx_cwSW 3 hts gL_law_L_air rfl rfl rfl (by decide +kernel) ⟨Nat.le_of_ble_eq_true rfl, Nat.le_of_ble_eq_true rfl⟩) hK hZ hN ho1 ho2 ho3 ho4 hP hO hW hS rfl hl.1 rfl (Nat.le_of_ble_eq_true rfl) dL_law_1287 ⟨by show cells + 1 ≤ 601024; omega, by show slots + 6 ≤ 7293034; omega⟩ (fun H locs hP hO hW hS => ?_)
  refine lv_istore (lv' := [(5, .int (nI (lC [2] (kx_air σ (xs (i + 1)))))), (4, .int (nI (i))), (3, .ref (qo)), (2, .ref (r)), (1, .ref (o)), (0, .ref (b))]) hx hb dL_law_1290 hl (by decide) rfl (fun ls hl => ?_)
  refine lv_aload_n hx hb dL_law_1292 rfl (lv_at hl 3 rfl) ?_
  refine lv_aload_n hx hb dL_law_1293 rfl (lv_at hl 5 rfl) ?_
  refine lv_iload hx hb dL_law_1294 (lv_at hl 1 rfl) ?_
  refine lv_iconst (v := nI (1)) hx hb dL_law_1296 (by decide) ?_
  refine n_add (x := i) (y := 1) hx hb dL_law_1297 ?_
  refine l_sld hx hb hX hbl hbA hS (j := i + 1) (by omega) hL31 dL_law_1298 ?_
  refine m_callL (As := [.int (xs (i + 1))]) (rest := []) hA0 ⟨hx, hb, hml, hown, hts⟩ (cm_air l G (ids 0) (ids 1) (aM r) μ (xs (i + 1))) (cwV 1 hts gL_law_X6_air rfl rfl rfl (by decide +kernel) ⟨Nat.le_of_ble_eq_true rfl, Nat.le_of_ble_eq_true rfl⟩) hKm hW (aM_DA r (ids 0) (ids 1) μ) hS rfl hl.1 rfl (Nat.le_of_ble_eq_true rfl) dL_law_1299 ⟨by show (cells + 1) ≤ 601024; omega, by show (slots + 6) ≤ 7293034; omega⟩ (fun H1 locs1 hW1 _ _ hk hS1 => ?_)
  obtain ⟨hP1, hO1⟩ := l_keep ho2 ho3 ho4 hP hO hk
  clear hk
  refine lv_lstore (lv' := [(6, .long (m_air μ (xs (i + 1)))), (5, .int (nI (lC [2] (kx_air σ (xs (i + 1)))))), (4, .int (nI (i))), (3, .ref (qo)), (2, .ref (r)), (1, .ref (o)), (0, .ref (b))]) hx hb dL_law_1302 hl (by decide) rfl (fun ls hl => ?_)
  refine lv_aload_n hx hb dL_law_1304 rfl (lv_at hl 4 rfl) ?_
  refine m_callI (As := []) (rest := []) hA0 ⟨hx, hb, hml, hown, hts⟩ (cm_thrown l G (ids 0) (ids 1) (aM r) (m_air_s μ (xs (i + 1)))) (cwV 0 hts gL_law_X6_thrown rfl rfl rfl (by decide +kernel) ⟨Nat.le_of_ble_eq_true rfl, Nat.le_of_ble_eq_true rfl⟩) hKm hW1 (aM_DA r (ids 0) (ids 1) (m_air_s μ (xs (i + 1)))) hS1 rfl hl.1 rfl (Nat.le_of_ble_eq_true rfl) dL_law_1305 ⟨by show (cells + 1) ≤ 601024; omega, by show (slots + 6) ≤ 7293034; omega⟩ (fun H2 locs2 hW2 _ _ hk hS2 => ?_)
  obtain ⟨hP2, hO2⟩ := l_keep ho2 ho3 ho4 hP1 hO1 hk
  clear hk
  refine lv_iload hx hb dL_law_1308 (lv_at hl 1 rfl) ?_
  refine lv_icmp_eq (x := (m_thrown (m_air_s μ (xs (i + 1))))) (y := (nI (lC [2] (kx_air σ (xs (i + 1)))))) (tgt := 1315) hx hb dL_law_1310 (by decide) (fun _ => ?_) (fun c9 => absurd hp1 c9)
  refine lv_iload hx hb dL_law_1315 (lv_at hl 1 rfl) ?_
  refine lv_if_ne (x := (nI (lC [2] (kx_air σ (xs (i + 1)))))) (tgt := 1331) hx hb dL_law_1317 (by decide) (fun _ => ?_) (fun c9 => ?_)
  · refine lv_goto (tgt := 1334) hx hb dL_law_1331 (by decide) ?_
    exact W.widen (by omega) (by omega) (kk _ _ _ hP2 (hO2.imp (fun v h => h.1)) hW2 hS2 (lv_sub hl [2, 3, 4, 5, 6] rfl))
  · have hX0 : (kx_air σ (xs (i + 1))) = 0 := lC_c (S := [2]) (by decide) (kxK_air σ (xs (i + 1))) c9
    obtain ⟨v9, hv9, hg9⟩ := hO2
    have hg := hg9 hX0
    (try dsimp only at hg)
    rw [hp2 hX0] at hg
    have q_ := hg.symm
    subst q_
    obtain ⟨f9, hf9, hf0⟩ := hv9
    refine lv_aload_n hx hb dL_law_1320 rfl (lv_at hl 3 rfl) ?_
    refine lv_iconst (v := nI (0)) hx hb dL_law_1321 (by decide) ?_
    refine x_lald (v := (m_air μ (xs (i + 1)))) hx hb hK hf9 (j := nI 0) (vp_in_nI (by decide) (by decide)) (by rw [nI_clamp (by decide)]; exact hf0) dL_law_1322 ?_
    refine lv_lload hx hb dL_law_1323 (lv_at hl 0 rfl) ?_
    refine W.lcmp hx hb dL_law_1325 ?_
    refine lv_if_eq (tgt := 1331) hx hb dL_law_1326 (by decide) (fun _ => ?_) (fun c9 => absurd (lcmp_self _) c9)
    refine lv_goto (tgt := 1334) hx hb dL_law_1331 (by decide) ?_
    exact W.widen (by omega) (by omega) (kk _ _ _ hP2 ⟨_, f9, hf9, hf0⟩ hW2 hS2 (lv_sub hl [2, 3, 4, 5, 6] rfl))
