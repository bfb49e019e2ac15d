/-! the picture behind a new house, a new borehole, a new claim -/
theorem cpU_hi {σ σ' : Sg} {k n : Nat} (h : 5 ≤ k) (hx : cpU σ' (k, n)) : cpU σ (k, n) := by
  have h9 := cpU_lt hx
  simp only at h9
  rcases (show k = 5 ∨ k = 6 ∨ k = 7 ∨ k = 8 by omega) with rfl | rfl | rfl | rfl
  · have q : n < 9 := hx
    exact q
  · have q : n < 25 := hx
    exact q
  · have q : n < 25 := hx
    exact q
  · have q : n < 125 := hx
    exact q
theorem lt5 {k n : Nat} (h : k < 5) : (k, n).1 < 5 := h
def gH (σ : Sg) (ce pi ic mo : Int32) : Sg := si (si (si (si (si (si (si σ 14 (cpN σ 0) ce) 15 (cpN σ 0) pi) 16 (cpN σ 0) ic) 17 (cpN σ 0) 0) 18 (cpN σ 0) mo) 34 0 (σ.1 34 0 + nI 1)) 13 0 (nI (cpN σ 0 + 1))
def gB (σ : Sg) (ce dr mo : Int32) : Sg := si (si (si (si (si (si (fun k => if k = 40 + cpN σ 1 then (fun _ => 0) else σ.1 k, σ.2) 20 (cpN σ 1) ce) 21 (cpN σ 1) dr) 22 (cpN σ 1) mo) 35 (cpN σ 1) 0) 34 1 (σ.1 34 1 + nI 1)) 19 0 (nI (cpN σ 1 + 1))
def gC (σ : Sg) (ho ti fi am : Int32) : Sg := si (si (si (si (si (si σ 37 (cpN σ 2) ho) 38 (cpN σ 2) ti) 39 (cpN σ 2) fi) 25 (cpN σ 2) am) 34 2 (σ.1 34 2 + nI 1)) 24 0 (nI (cpN σ 2 + 1))
def wOK (σ : Sg) (w : Nat → Nat) : Prop := ∀ L, L < 3 → cpN σ L ≠ 0 → 10 ≤ w L
theorem upd_eq {f : Nat → Int32} {n : Nat} {v : Int32} : upd f n v n = v := by simp [upd]
theorem upd_ne {f : Nat → Int32} {n j : Nat} {v : Int32} (h : j ≠ n) : upd f n v j = f j := by simp [upd, h]
theorem cpN_nI {σ : Sg} {L n : Nat} (h : σ.1 (cpF L) 0 = nI n) (hn : n < 2 ^ 31) : cpN σ L = n := by
  unfold cpN
  rw [h, nI_clamp hn]
theorem gH_14 {σ : Sg} {ce pi ic mo : Int32} : (gH σ ce pi ic mo).1 14 = upd (σ.1 14) (cpN σ 0) ce := by
  simp [gH, si]
theorem gH_15 {σ : Sg} {ce pi ic mo : Int32} : (gH σ ce pi ic mo).1 15 = upd (σ.1 15) (cpN σ 0) pi := by
  simp [gH, si]
theorem gH_16 {σ : Sg} {ce pi ic mo : Int32} : (gH σ ce pi ic mo).1 16 = upd (σ.1 16) (cpN σ 0) ic := by
  simp [gH, si]
theorem gH_17 {σ : Sg} {ce pi ic mo : Int32} : (gH σ ce pi ic mo).1 17 = upd (σ.1 17) (cpN σ 0) 0 := by
  simp [gH, si]
theorem gH_18 {σ : Sg} {ce pi ic mo : Int32} : (gH σ ce pi ic mo).1 18 = upd (σ.1 18) (cpN σ 0) mo := by
  simp [gH, si]
theorem gH_34 {σ : Sg} {ce pi ic mo : Int32} : (gH σ ce pi ic mo).1 34 = upd (σ.1 34) 0 (σ.1 34 0 + nI 1) := by
  simp [gH, si]
theorem gH_13 {σ : Sg} {ce pi ic mo : Int32} : (gH σ ce pi ic mo).1 13 = upd (σ.1 13) 0 (nI (cpN σ 0 + 1)) := by
  simp [gH, si]
theorem gH_k {σ : Sg} {ce pi ic mo : Int32} {k : Nat} (h : k ≠ 14 ∧ k ≠ 15 ∧ k ≠ 16 ∧ k ≠ 17 ∧ k ≠ 18 ∧ k ≠ 34 ∧ k ≠ 13) : (gH σ ce pi ic mo).1 k = σ.1 k := by
  simp [gH, si, h]
theorem gH_2 {σ : Sg} {ce pi ic mo : Int32} : (gH σ ce pi ic mo).2 = σ.2 := rfl
theorem gB_20 {σ : Sg} {ce dr mo : Int32} : (gB σ ce dr mo).1 20 = upd (σ.1 20) (cpN σ 1) ce := by
  have q : ¬ 20 = 40 + cpN σ 1 := by omega
  simp [gB, si, q]
theorem gB_21 {σ : Sg} {ce dr mo : Int32} : (gB σ ce dr mo).1 21 = upd (σ.1 21) (cpN σ 1) dr := by
  have q : ¬ 21 = 40 + cpN σ 1 := by omega
  simp [gB, si, q]
theorem gB_22 {σ : Sg} {ce dr mo : Int32} : (gB σ ce dr mo).1 22 = upd (σ.1 22) (cpN σ 1) mo := by
  have q : ¬ 22 = 40 + cpN σ 1 := by omega
  simp [gB, si, q]
theorem gB_35 {σ : Sg} {ce dr mo : Int32} : (gB σ ce dr mo).1 35 = upd (σ.1 35) (cpN σ 1) 0 := by
  have q : ¬ 35 = 40 + cpN σ 1 := by omega
  simp [gB, si, q]
theorem gB_34 {σ : Sg} {ce dr mo : Int32} : (gB σ ce dr mo).1 34 = upd (σ.1 34) 1 (σ.1 34 1 + nI 1) := by
  have q : ¬ 34 = 40 + cpN σ 1 := by omega
  simp [gB, si, q]
theorem gB_19 {σ : Sg} {ce dr mo : Int32} : (gB σ ce dr mo).1 19 = upd (σ.1 19) 0 (nI (cpN σ 1 + 1)) := by
  have q : ¬ 19 = 40 + cpN σ 1 := by omega
  simp [gB, si, q]
theorem gB_k {σ : Sg} {ce dr mo : Int32} {k : Nat} (h : k ≠ 20 ∧ k ≠ 21 ∧ k ≠ 22 ∧ k ≠ 35 ∧ k ≠ 34 ∧ k ≠ 19 ∧ k ≠ 40 + cpN σ 1) : (gB σ ce dr mo).1 k = σ.1 k := by
  simp [gB, si, h]
theorem gB_2 {σ : Sg} {ce dr mo : Int32} : (gB σ ce dr mo).2 = σ.2 := rfl
theorem gC_37 {σ : Sg} {ho ti fi am : Int32} : (gC σ ho ti fi am).1 37 = upd (σ.1 37) (cpN σ 2) ho := by
  simp [gC, si]
theorem gC_38 {σ : Sg} {ho ti fi am : Int32} : (gC σ ho ti fi am).1 38 = upd (σ.1 38) (cpN σ 2) ti := by
  simp [gC, si]
theorem gC_39 {σ : Sg} {ho ti fi am : Int32} : (gC σ ho ti fi am).1 39 = upd (σ.1 39) (cpN σ 2) fi := by
  simp [gC, si]
theorem gC_25 {σ : Sg} {ho ti fi am : Int32} : (gC σ ho ti fi am).1 25 = upd (σ.1 25) (cpN σ 2) am := by
  simp [gC, si]
theorem gC_34 {σ : Sg} {ho ti fi am : Int32} : (gC σ ho ti fi am).1 34 = upd (σ.1 34) 2 (σ.1 34 2 + nI 1) := by
  simp [gC, si]
theorem gC_24 {σ : Sg} {ho ti fi am : Int32} : (gC σ ho ti fi am).1 24 = upd (σ.1 24) 0 (nI (cpN σ 2 + 1)) := by
  simp [gC, si]
theorem gC_k {σ : Sg} {ho ti fi am : Int32} {k : Nat} (h : k ≠ 37 ∧ k ≠ 38 ∧ k ≠ 39 ∧ k ≠ 25 ∧ k ≠ 34 ∧ k ≠ 24) : (gC σ ho ti fi am).1 k = σ.1 k := by
  simp [gC, si, h]
theorem gC_2 {σ : Sg} {ho ti fi am : Int32} : (gC σ ho ti fi am).2 = σ.2 := rfl
theorem gB_row {σ : Sg} {ce dr mo : Int32} : (gB σ ce dr mo).1 (40 + cpN σ 1) = fun _ => 0 := by
  have q : ∀ k, k < 40 → ¬ 40 + cpN σ 1 = k := fun k hk => by omega
  simp [gB, si, q 19 (by omega), q 34 (by omega), q 35 (by omega), q 22 (by omega), q 21 (by omega), q 20 (by omega)]
theorem gH_N {σ : Sg} {ce pi ic mo : Int32} (hn : cpN σ 0 < 40) : cpN (gH σ ce pi ic mo) 0 = cpN σ 0 + 1 := by
  refine cpN_nI ?_ (by omega)
  show (gH σ ce pi ic mo).1 13 0 = _
  rw [gH_13, upd_eq]
theorem gH_M {σ : Sg} {ce pi ic mo : Int32} {M : Nat} (h : M < 3) (hM : M ≠ 0) : cpN (gH σ ce pi ic mo) M = cpN σ M := by
  unfold cpN
  rcases (show M = 0 ∨ M = 1 ∨ M = 2 by omega) with rfl | rfl | rfl
  · exact absurd rfl hM
  · show ((gH σ ce pi ic mo).1 19 0).toNatClampNeg = (σ.1 19 0).toNatClampNeg
    rw [gH_k (by omega)]
  · show ((gH σ ce pi ic mo).1 24 0).toNatClampNeg = (σ.1 24 0).toNatClampNeg
    rw [gH_k (by omega)]
theorem gB_N {σ : Sg} {ce dr mo : Int32} (hn : cpN σ 1 < 40) : cpN (gB σ ce dr mo) 1 = cpN σ 1 + 1 := by
  refine cpN_nI ?_ (by omega)
  show (gB σ ce dr mo).1 19 0 = _
  rw [gB_19, upd_eq]
theorem gB_M {σ : Sg} {ce dr mo : Int32} {M : Nat} (h : M < 3) (hM : M ≠ 1) : cpN (gB σ ce dr mo) M = cpN σ M := by
  unfold cpN
  rcases (show M = 0 ∨ M = 1 ∨ M = 2 by omega) with rfl | rfl | rfl
  · show ((gB σ ce dr mo).1 13 0).toNatClampNeg = (σ.1 13 0).toNatClampNeg
    rw [gB_k (by omega)]
  · exact absurd rfl hM
  · show ((gB σ ce dr mo).1 24 0).toNatClampNeg = (σ.1 24 0).toNatClampNeg
    rw [gB_k (by omega)]
theorem gC_N {σ : Sg} {ho ti fi am : Int32} (hn : cpN σ 2 < 40) : cpN (gC σ ho ti fi am) 2 = cpN σ 2 + 1 := by
  refine cpN_nI ?_ (by omega)
  show (gC σ ho ti fi am).1 24 0 = _
  rw [gC_24, upd_eq]
theorem gC_M {σ : Sg} {ho ti fi am : Int32} {M : Nat} (h : M < 3) (hM : M ≠ 2) : cpN (gC σ ho ti fi am) M = cpN σ M := by
  unfold cpN
  rcases (show M = 0 ∨ M = 1 ∨ M = 2 by omega) with rfl | rfl | rfl
  · show ((gC σ ho ti fi am).1 13 0).toNatClampNeg = (σ.1 13 0).toNatClampNeg
    rw [gC_k (by omega)]
  · show ((gC σ ho ti fi am).1 19 0).toNatClampNeg = (σ.1 19 0).toNatClampNeg
    rw [gC_k (by omega)]
  · exact absurd rfl hM
def gH_d (σ : Sg) (d : Nat → Nat → Nat) (r' x : Nat) : Nat → Nat → Nat := fun (k i : Nat) => if k = 0 then (if i = 0 then r' else d 0 i) else if k = 1 then (if i = cpN σ 0 then x else d 1 i) else d k i
set_option maxHeartbeats 4000000 in
set_option maxRecDepth 100000 in
theorem CPic.addH {G : va_G} {ids : Nat → ClassId} {o z tE : Nat} {d : Nat → Nat → Nat} {w : Nat → Nat} {σ : Sg} {H H1 : Heap} {ce pi ic mo : Int32} {r' k' x n1 : Nat} (hP : CPic G ids o z tE d w σ H) (hn40 : cpN σ 0 < 40) (hC : ∀ k, k < cpN σ 2 → (σ.1 37 k).toNatClampNeg < cpN σ 0)
    (hlst : va_at G vwCl (o + (2 + 0), .inr (0, [.int (σ.1 34 0 + nI 1), .ref r', .int (nI (cpN σ 0 + 1))])) H1) (hrow : va_at G vwCl (r', .inl (ids 5, k', .inr (.inr (.inr (.inr (fun j => if j < cpN σ 0 + 1 then some (if j = cpN σ 0 then x else d (cpKd 0) j) else none)))))) H1) (hw : cpN σ 0 + 1 ≤ k' ∧ 10 ≤ k' ∧ k' < 2 ^ 31) (hr : cpN σ 0 ≠ 0 ∧ r' = d 0 0 ∨ n1 ≤ r')
    (hk : ∀ q : Nat, q < H.size → q ≠ o + (2 + 0) → (cpN σ 0 ≠ 0 → q ≠ d 0 0) → H1[q]? = H[q]?) (hlt : ∀ x, cpU σ x → cpA o d x < n1) (hzn : z ≤ n1) (hx_ : va_at G vwCl (x, .inr (4, [.int ce, .int pi, .int ic, .int mo, .int 0])) H1) (hx1 : n1 ≤ x ∧ x ≠ r') : CPic G ids o z tE (gH_d σ d r' x) (fun M => if M = 0 then k' else w M) (gH σ ce pi ic mo) H1 := by
  have hN := gH_N (σ := σ) (ce := ce) (pi := pi) (ic := ic) (mo := mo) hn40
  have hM : ∀ M, M < 3 → M ≠ 0 → cpN (gH σ ce pi ic mo) M = cpN σ M := fun M h1 h2 => gH_M h1 h2
  have hd0 : ∀ i, (gH_d σ d r' x) 0 i = if i = 0 then r' else d 0 i := fun i => rfl
  have hd1 : ∀ i, (gH_d σ d r' x) 1 i = if i = cpN σ 0 then x else d 1 i := fun i => rfl
  have hd2 : ∀ i, (gH_d σ d r' x) 2 i = d 2 i := fun i => rfl
  have hd3 : ∀ i, (gH_d σ d r' x) 3 i = d 3 i := fun i => rfl
  have hd4 : ∀ i, (gH_d σ d r' x) 4 i = d 4 i := fun i => rfl
  generalize gH_d σ d r' x = d' at hd0 hd1 hd2 hd3 hd4 ⊢
  have hnewx : ∀ x, cpU (gH σ ce pi ic mo) x → ¬ cpU σ x → x ≠ (0, 0) → x = (1, cpN σ 0) := fun x hx hu hne => by
    have h9 := cpU_lt hx
    obtain ⟨k, i⟩ := x
    simp only at h9
    rcases (show k = 0 ∨ k = 1 ∨ k = 2 ∨ k = 3 ∨ k = 4 ∨ k = 5 ∨ k = 6 ∨ k = 7 ∨ k = 8 by omega) with rfl | rfl | rfl | rfl | rfl | rfl | rfl | rfl | rfl
    · exfalso
      have q : i < 3 ∧ cpN (gH σ ce pi ic mo) i ≠ 0 := hx
      by_cases e : i = 0
      · exact hne (by rw [e])
      · rw [hM i q.1 e] at q
        exact hu q
    · have q : i < cpN (gH σ ce pi ic mo) 0 := hx
      rw [hN] at q
      have q2 : ¬ i < cpN σ 0 := hu
      have e : i = cpN σ 0 := by omega
      subst e
      exact rfl
    · exfalso
      have q : i < cpN (gH σ ce pi ic mo) 1 := hx
      rw [hM 1 (by decide) (by decide)] at q
      exact hu q
    · exfalso
      have q : i < cpN (gH σ ce pi ic mo) 1 := hx
      rw [hM 1 (by decide) (by decide)] at q
      exact hu q
    · exfalso
      have q : i < cpN (gH σ ce pi ic mo) 2 := hx
      rw [hM 2 (by decide) (by decide)] at q
      exact hu q
    · exact absurd (cpU_hi (by decide) hx) hu
    · exact absurd (cpU_hi (by decide) hx) hu
    · exact absurd (cpU_hi (by decide) hx) hu
    · exact absurd (cpU_hi (by decide) hx) hu
  have hdo : ∀ x, cpU σ x → x ≠ (0, 0) → cpA o d' x = cpA o d x := fun x hx hne => by
    have h9 := cpU_lt hx
    obtain ⟨k, i⟩ := x
    simp only at h9
    rcases (show k = 0 ∨ k = 1 ∨ k = 2 ∨ k = 3 ∨ k = 4 ∨ k = 5 ∨ k = 6 ∨ k = 7 ∨ k = 8 by omega) with rfl | rfl | rfl | rfl | rfl | rfl | rfl | rfl | rfl
    · show d' 0 i = d 0 i
      rw [hd0, if_neg (fun e => hne (by rw [e]))]
    · have q : i < cpN σ 0 := hx
      show d' 1 i = d 1 i
      rw [hd1, if_neg (by omega)]
    · show d' 2 i = d 2 i
      rw [hd2]
    · show d' 3 i = d 3 i
      rw [hd3]
    · show d' 4 i = d 4 i
      rw [hd4]
    · rfl
    · rfl
    · rfl
    · rfl
  have hco : ∀ x, cpU σ x → x ≠ (0, 0) → x ≠ (5, 2 + 0) → cpC ids o tE d' (fun M => if M = 0 then k' else w M) (gH σ ce pi ic mo) x = cpC ids o tE d w σ x := fun x hx hne hne5 => by
    have h9 := cpU_lt hx
    obtain ⟨k, i⟩ := x
    simp only at h9
    rcases (show k = 0 ∨ k = 1 ∨ k = 2 ∨ k = 3 ∨ k = 4 ∨ k = 5 ∨ k = 6 ∨ k = 7 ∨ k = 8 by omega) with rfl | rfl | rfl | rfl | rfl | rfl | rfl | rfl | rfl
    · have q : i < 3 ∧ cpN σ i ≠ 0 := hx
      have e : i ≠ 0 := fun e => hne (by rw [e])
      rw [cpC_0, cpC_0, hM i q.1 e, if_neg e]
      have hf : ∀ j, j < cpN σ i → d' (cpKd i) j = d (cpKd i) j := fun j hj => by
        rcases (show i = 0 ∨ i = 1 ∨ i = 2 by omega) with rfl | rfl | rfl
        · exact absurd rfl e
        · exact hd2 j
        · exact hd4 j
      have hg : (fun j => if j < cpN σ i then some (d' (cpKd i) j) else none) = (fun j => if j < cpN σ i then some (d (cpKd i) j) else none) := by
        funext j
        by_cases hj : j < cpN σ i
        · rw [if_pos hj, if_pos hj, hf j hj]
        · rw [if_neg hj, if_neg hj]
      rw [hg]
    · have q : i < cpN σ 0 := hx
      rw [cpC_1, cpC_1, gH_14, upd_ne (show i ≠ cpN σ 0 by omega), gH_15, upd_ne (show i ≠ cpN σ 0 by omega), gH_16, upd_ne (show i ≠ cpN σ 0 by omega), gH_18, upd_ne (show i ≠ cpN σ 0 by omega), gH_17, upd_ne (show i ≠ cpN σ 0 by omega)]
    · have q : i < cpN σ 1 := hx
      rw [cpC_2, cpC_2, gH_k (k := 20) (by omega), gH_k (k := 21) (by omega), gH_k (k := 22) (by omega), gH_k (k := 35) (by omega), hd3]
    · have q : i < cpN σ 1 := hx
      rw [cpC_3, cpC_3, gH_k (k := 22) (by omega), gH_k (k := 40 + i) (by omega)]
    · have q : i < cpN σ 2 := hx
      rw [cpC_4k, cpC_4k, gH_k (k := 37) (by omega), gH_k (k := 38) (by omega), gH_k (k := 39) (by omega), gH_k (k := 25) (by omega), hd1, if_neg (show ¬ (σ.1 37 i).toNatClampNeg = cpN σ 0 by have := hC i q; omega)]
    · have q : i < 9 := hx
      have f1 : (gH σ ce pi ic mo).1 1 = σ.1 1 := gH_k (by omega)
      have f32 : (gH σ ce pi ic mo).1 32 = σ.1 32 := gH_k (by omega)
      have f33 : (gH σ ce pi ic mo).1 33 = σ.1 33 := gH_k (by omega)
      have fL : ∀ M, M < 3 → M ≠ 0 → cpL tE d' (gH σ ce pi ic mo) M = cpL tE d σ M := fun M h1 h2 => by
        have e34 : (gH σ ce pi ic mo).1 34 M = σ.1 34 M := by rw [gH_34, upd_ne h2]
        have eN := hM M h1 h2
        have eF : (gH σ ce pi ic mo).1 (cpF M) 0 = σ.1 (cpF M) 0 := by
          rcases (show M = 0 ∨ M = 1 ∨ M = 2 by omega) with rfl | rfl | rfl
          · exact absurd rfl h2
          · show (gH σ ce pi ic mo).1 19 0 = σ.1 19 0
            rw [gH_k (by omega)]
          · show (gH σ ce pi ic mo).1 24 0 = σ.1 24 0
            rw [gH_k (by omega)]
        unfold cpL
        rw [e34, eN, eF, hd0, if_neg h2]
      rcases (show i = 0 ∨ i = 1 ∨ i = 2 ∨ i = 3 ∨ i = 4 ∨ i = 5 ∨ i = 6 ∨ i = 7 ∨ i = 8 by omega) with rfl | rfl | rfl | rfl | rfl | rfl | rfl | rfl | rfl
      · rw [cpC_50, cpC_50]; exact cpO_same (by rw [f1]) (congrFun gH_2 29)
      · rw [cpC_51, cpC_51]
      · exact absurd rfl hne5
      · rw [cpC_53, cpC_53]; exact fL 1 (by decide) (by decide)
      · rw [cpC_54, cpC_54]; exact fL 2 (by decide) (by decide)
      · rw [cpC_55, cpC_55, cpK_same (σ' := gH σ ce pi ic mo) (σ := σ) gH_2]
      · rw [cpC_56, cpC_56, cpJ_same (σ' := gH σ ce pi ic mo) (σ := σ) gH_2]
      · rw [cpC_57, cpC_57, f32]
      · rw [cpC_58, cpC_58, f33]
    · exact cpC_6s (fun x hx => by rw [gH_k (by omega)])
    · rw [cpC_7, cpC_7]
    · exact cpC_8s (fun x h8 h11 => by rw [gH_k (by omega)])
  have hlst' : va_at G vwCl (o + (2 + 0), cpL tE d' (gH σ ce pi ic mo) 0) H1 := by
    have e34 : (gH σ ce pi ic mo).1 34 0 = σ.1 34 0 + nI 1 := by rw [gH_34, upd_eq]
    have eF : (gH σ ce pi ic mo).1 (cpF 0) 0 = nI (cpN σ 0 + 1) := by
      show (gH σ ce pi ic mo).1 13 0 = _
      rw [gH_13, upd_eq]
    unfold cpL
    rw [e34, hN, if_neg (by omega), eF, hd0, if_pos rfl]
    exact hlst
  have hrow' : va_at G vwCl (r', cpC ids o tE d' (fun M => if M = 0 then k' else w M) (gH σ ce pi ic mo) (0, 0)) H1 := by
    have ekd : cpKd 0 = 1 := rfl
    rw [cpC_0, hN, if_pos rfl, ekd]
    rw [ekd] at hrow
    have hg : (fun j => if j < cpN σ 0 + 1 then some (d' 1 j) else none) = (fun j => if j < cpN σ 0 + 1 then some (if j = cpN σ 0 then x else d 1 j) else none) := by
      funext j
      rw [hd1]
    rw [hg]
    exact hrow
  refine hP.grow (L := 0) (r' := r') (n1 := n1) (by decide) hN hM (by rw [hd0, if_pos rfl]) hdo hco hk hlst' hrow' (fun x hx hu hne => ?_) (fun x y hx hu hne hy huy hney _ => (hnewx x hx hu hne).trans (hnewx y hy huy hney).symm) hlt hzn hr ⟨hw.1, hw.2.2⟩
  have e := hnewx x hx hu hne
  subst e
  refine ⟨lt5 (by decide), ?_, ?_, ?_⟩
  · rw [cpC_1, gH_14, gH_15, gH_16, gH_17, gH_18, upd_eq, upd_eq, upd_eq, upd_eq, upd_eq]
    show va_at G vwCl (d' 1 (cpN σ 0), _) H1
    rw [hd1, if_pos rfl]
    exact hx_
  · show n1 ≤ d' 1 (cpN σ 0)
    rw [hd1, if_pos rfl]
    exact hx1.1
  · show d' 1 (cpN σ 0) ≠ r'
    rw [hd1, if_pos rfl]
    exact hx1.2
def gC_d (σ : Sg) (d : Nat → Nat → Nat) (r' x : Nat) : Nat → Nat → Nat := fun (k i : Nat) => if k = 0 then (if i = 2 then r' else d 0 i) else if k = 4 then (if i = cpN σ 2 then x else d 4 i) else d k i
set_option maxHeartbeats 4000000 in
set_option maxRecDepth 100000 in
theorem CPic.addC {G : va_G} {ids : Nat → ClassId} {o z tE : Nat} {d : Nat → Nat → Nat} {w : Nat → Nat} {σ : Sg} {H H1 : Heap} {ho ti fi am : Int32} {r' k' x n1 : Nat} (hP : CPic G ids o z tE d w σ H) (hn40 : cpN σ 2 < 40)
    (hlst : va_at G vwCl (o + (2 + 2), .inr (0, [.int (σ.1 34 2 + nI 1), .ref r', .int (nI (cpN σ 2 + 1))])) H1) (hrow : va_at G vwCl (r', .inl (ids 5, k', .inr (.inr (.inr (.inr (fun j => if j < cpN σ 2 + 1 then some (if j = cpN σ 2 then x else d (cpKd 2) j) else none)))))) H1) (hw : cpN σ 2 + 1 ≤ k' ∧ 10 ≤ k' ∧ k' < 2 ^ 31) (hr : cpN σ 2 ≠ 0 ∧ r' = d 0 2 ∨ n1 ≤ r')
    (hk : ∀ q : Nat, q < H.size → q ≠ o + (2 + 2) → (cpN σ 2 ≠ 0 → q ≠ d 0 2) → H1[q]? = H[q]?) (hlt : ∀ x, cpU σ x → cpA o d x < n1) (hzn : z ≤ n1) (hx_ : va_at G vwCl (x, .inr (3, [.ref (d 1 ho.toNatClampNeg), .int ti, .int fi, .int am])) H1) (hx1 : n1 ≤ x ∧ x ≠ r') : CPic G ids o z tE (gC_d σ d r' x) (fun M => if M = 2 then k' else w M) (gC σ ho ti fi am) H1 := by
  have hN := gC_N (σ := σ) (ho := ho) (ti := ti) (fi := fi) (am := am) hn40
  have hM : ∀ M, M < 3 → M ≠ 2 → cpN (gC σ ho ti fi am) M = cpN σ M := fun M h1 h2 => gC_M h1 h2
  have hd0 : ∀ i, (gC_d σ d r' x) 0 i = if i = 2 then r' else d 0 i := fun i => rfl
  have hd4 : ∀ i, (gC_d σ d r' x) 4 i = if i = cpN σ 2 then x else d 4 i := fun i => rfl
  have hd1 : ∀ i, (gC_d σ d r' x) 1 i = d 1 i := fun i => rfl
  have hd2 : ∀ i, (gC_d σ d r' x) 2 i = d 2 i := fun i => rfl
  have hd3 : ∀ i, (gC_d σ d r' x) 3 i = d 3 i := fun i => rfl
  generalize gC_d σ d r' x = d' at hd0 hd1 hd2 hd3 hd4 ⊢
  have hnewx : ∀ x, cpU (gC σ ho ti fi am) x → ¬ cpU σ x → x ≠ (0, 2) → x = (4, cpN σ 2) := fun x hx hu hne => by
    have h9 := cpU_lt hx
    obtain ⟨k, i⟩ := x
    simp only at h9
    rcases (show k = 0 ∨ k = 1 ∨ k = 2 ∨ k = 3 ∨ k = 4 ∨ k = 5 ∨ k = 6 ∨ k = 7 ∨ k = 8 by omega) with rfl | rfl | rfl | rfl | rfl | rfl | rfl | rfl | rfl
    · exfalso
      have q : i < 3 ∧ cpN (gC σ ho ti fi am) i ≠ 0 := hx
      by_cases e : i = 2
      · exact hne (by rw [e])
      · rw [hM i q.1 e] at q
        exact hu q
    · exfalso
      have q : i < cpN (gC σ ho ti fi am) 0 := hx
      rw [hM 0 (by decide) (by decide)] at q
      exact hu q
    · exfalso
      have q : i < cpN (gC σ ho ti fi am) 1 := hx
      rw [hM 1 (by decide) (by decide)] at q
      exact hu q
    · exfalso
      have q : i < cpN (gC σ ho ti fi am) 1 := hx
      rw [hM 1 (by decide) (by decide)] at q
      exact hu q
    · have q : i < cpN (gC σ ho ti fi am) 2 := hx
      rw [hN] at q
      have q2 : ¬ i < cpN σ 2 := hu
      have e : i = cpN σ 2 := by omega
      subst e
      exact rfl
    · exact absurd (cpU_hi (by decide) hx) hu
    · exact absurd (cpU_hi (by decide) hx) hu
    · exact absurd (cpU_hi (by decide) hx) hu
    · exact absurd (cpU_hi (by decide) hx) hu
  have hdo : ∀ x, cpU σ x → x ≠ (0, 2) → cpA o d' x = cpA o d x := fun x hx hne => by
    have h9 := cpU_lt hx
    obtain ⟨k, i⟩ := x
    simp only at h9
    rcases (show k = 0 ∨ k = 1 ∨ k = 2 ∨ k = 3 ∨ k = 4 ∨ k = 5 ∨ k = 6 ∨ k = 7 ∨ k = 8 by omega) with rfl | rfl | rfl | rfl | rfl | rfl | rfl | rfl | rfl
    · show d' 0 i = d 0 i
      rw [hd0, if_neg (fun e => hne (by rw [e]))]
    · show d' 1 i = d 1 i
      rw [hd1]
    · show d' 2 i = d 2 i
      rw [hd2]
    · show d' 3 i = d 3 i
      rw [hd3]
    · have q : i < cpN σ 2 := hx
      show d' 4 i = d 4 i
      rw [hd4, if_neg (by omega)]
    · rfl
    · rfl
    · rfl
    · rfl
  have hco : ∀ x, cpU σ x → x ≠ (0, 2) → x ≠ (5, 2 + 2) → cpC ids o tE d' (fun M => if M = 2 then k' else w M) (gC σ ho ti fi am) x = cpC ids o tE d w σ x := fun x hx hne hne5 => by
    have h9 := cpU_lt hx
    obtain ⟨k, i⟩ := x
    simp only at h9
    rcases (show k = 0 ∨ k = 1 ∨ k = 2 ∨ k = 3 ∨ k = 4 ∨ k = 5 ∨ k = 6 ∨ k = 7 ∨ k = 8 by omega) with rfl | rfl | rfl | rfl | rfl | rfl | rfl | rfl | rfl
    · have q : i < 3 ∧ cpN σ i ≠ 0 := hx
      have e : i ≠ 2 := fun e => hne (by rw [e])
      rw [cpC_0, cpC_0, hM i q.1 e, if_neg e]
      have hf : ∀ j, j < cpN σ i → d' (cpKd i) j = d (cpKd i) j := fun j hj => by
        rcases (show i = 0 ∨ i = 1 ∨ i = 2 by omega) with rfl | rfl | rfl
        · exact hd1 j
        · exact hd2 j
        · exact absurd rfl e
      have hg : (fun j => if j < cpN σ i then some (d' (cpKd i) j) else none) = (fun j => if j < cpN σ i then some (d (cpKd i) j) else none) := by
        funext j
        by_cases hj : j < cpN σ i
        · rw [if_pos hj, if_pos hj, hf j hj]
        · rw [if_neg hj, if_neg hj]
      rw [hg]
    · have q : i < cpN σ 0 := hx
      rw [cpC_1, cpC_1, gC_k (k := 14) (by omega), gC_k (k := 15) (by omega), gC_k (k := 16) (by omega), gC_k (k := 18) (by omega), gC_k (k := 17) (by omega)]
    · have q : i < cpN σ 1 := hx
      rw [cpC_2, cpC_2, gC_k (k := 20) (by omega), gC_k (k := 21) (by omega), gC_k (k := 22) (by omega), gC_k (k := 35) (by omega), hd3]
    · have q : i < cpN σ 1 := hx
      rw [cpC_3, cpC_3, gC_k (k := 22) (by omega), gC_k (k := 40 + i) (by omega)]
    · have q : i < cpN σ 2 := hx
      rw [cpC_4k, cpC_4k, gC_37, upd_ne (show i ≠ cpN σ 2 by omega), gC_38, upd_ne (show i ≠ cpN σ 2 by omega), gC_39, upd_ne (show i ≠ cpN σ 2 by omega), gC_25, upd_ne (show i ≠ cpN σ 2 by omega), hd1]
    · have q : i < 9 := hx
      have f1 : (gC σ ho ti fi am).1 1 = σ.1 1 := gC_k (by omega)
      have f32 : (gC σ ho ti fi am).1 32 = σ.1 32 := gC_k (by omega)
      have f33 : (gC σ ho ti fi am).1 33 = σ.1 33 := gC_k (by omega)
      have fL : ∀ M, M < 3 → M ≠ 2 → cpL tE d' (gC σ ho ti fi am) M = cpL tE d σ M := fun M h1 h2 => by
        have e34 : (gC σ ho ti fi am).1 34 M = σ.1 34 M := by rw [gC_34, upd_ne h2]
        have eN := hM M h1 h2
        have eF : (gC σ ho ti fi am).1 (cpF M) 0 = σ.1 (cpF M) 0 := by
          rcases (show M = 0 ∨ M = 1 ∨ M = 2 by omega) with rfl | rfl | rfl
          · show (gC σ ho ti fi am).1 13 0 = σ.1 13 0
            rw [gC_k (by omega)]
          · show (gC σ ho ti fi am).1 19 0 = σ.1 19 0
            rw [gC_k (by omega)]
          · exact absurd rfl h2
        unfold cpL
        rw [e34, eN, eF, hd0, if_neg h2]
      rcases (show i = 0 ∨ i = 1 ∨ i = 2 ∨ i = 3 ∨ i = 4 ∨ i = 5 ∨ i = 6 ∨ i = 7 ∨ i = 8 by omega) with rfl | rfl | rfl | rfl | rfl | rfl | rfl | rfl | rfl
      · rw [cpC_50, cpC_50]; exact cpO_same (by rw [f1]) (congrFun gC_2 29)
      · rw [cpC_51, cpC_51]
      · rw [cpC_52, cpC_52]; exact fL 0 (by decide) (by decide)
      · rw [cpC_53, cpC_53]; exact fL 1 (by decide) (by decide)
      · exact absurd rfl hne5
      · rw [cpC_55, cpC_55, cpK_same (σ' := gC σ ho ti fi am) (σ := σ) gC_2]
      · rw [cpC_56, cpC_56, cpJ_same (σ' := gC σ ho ti fi am) (σ := σ) gC_2]
      · rw [cpC_57, cpC_57, f32]
      · rw [cpC_58, cpC_58, f33]
    · exact cpC_6s (fun x hx => by rw [gC_k (by omega)])
    · rw [cpC_7, cpC_7]
    · exact cpC_8s (fun x h8 h11 => by rw [gC_k (by omega)])
  have hlst' : va_at G vwCl (o + (2 + 2), cpL tE d' (gC σ ho ti fi am) 2) H1 := by
    have e34 : (gC σ ho ti fi am).1 34 2 = σ.1 34 2 + nI 1 := by rw [gC_34, upd_eq]
    have eF : (gC σ ho ti fi am).1 (cpF 2) 0 = nI (cpN σ 2 + 1) := by
      show (gC σ ho ti fi am).1 24 0 = _
      rw [gC_24, upd_eq]
    unfold cpL
    rw [e34, hN, if_neg (by omega), eF, hd0, if_pos rfl]
    exact hlst
  have hrow' : va_at G vwCl (r', cpC ids o tE d' (fun M => if M = 2 then k' else w M) (gC σ ho ti fi am) (0, 2)) H1 := by
    have ekd : cpKd 2 = 4 := rfl
    rw [cpC_0, hN, if_pos rfl, ekd]
    rw [ekd] at hrow
    have hg : (fun j => if j < cpN σ 2 + 1 then some (d' 4 j) else none) = (fun j => if j < cpN σ 2 + 1 then some (if j = cpN σ 2 then x else d 4 j) else none) := by
      funext j
      rw [hd4]
    rw [hg]
    exact hrow
  refine hP.grow (L := 2) (r' := r') (n1 := n1) (by decide) hN hM (by rw [hd0, if_pos rfl]) hdo hco hk hlst' hrow' (fun x hx hu hne => ?_) (fun x y hx hu hne hy huy hney _ => (hnewx x hx hu hne).trans (hnewx y hy huy hney).symm) hlt hzn hr ⟨hw.1, hw.2.2⟩
  have e := hnewx x hx hu hne
  subst e
  refine ⟨lt5 (by decide), ?_, ?_, ?_⟩
  · rw [cpC_4k, gC_37, gC_38, gC_39, gC_25, upd_eq, upd_eq, upd_eq, upd_eq, hd1]
    show va_at G vwCl (d' 4 (cpN σ 2), _) H1
    rw [hd4, if_pos rfl]
    exact hx_
  · show n1 ≤ d' 4 (cpN σ 2)
    rw [hd4, if_pos rfl]
    exact hx1.1
  · show d' 4 (cpN σ 2) ≠ r'
    rw [hd4, if_pos rfl]
    exact hx1.2
def gB_d (σ : Sg) (d : Nat → Nat → Nat) (r' x y : Nat) : Nat → Nat → Nat := fun (k i : Nat) => if k = 0 then (if i = 1 then r' else d 0 i) else if k = 2 then (if i = cpN σ 1 then x else d 2 i) else if k = 3 then (if i = cpN σ 1 then y else d 3 i) else d k i
set_option maxHeartbeats 4000000 in
set_option maxRecDepth 100000 in
theorem CPic.addB {G : va_G} {ids : Nat → ClassId} {o z tE : Nat} {d : Nat → Nat → Nat} {w : Nat → Nat} {σ : Sg} {H H1 : Heap} {ce dr mo : Int32} {r' k' x y n1 : Nat} (hP : CPic G ids o z tE d w σ H) (hn40 : cpN σ 1 < 40)
    (hlst : va_at G vwCl (o + (2 + 1), .inr (0, [.int (σ.1 34 1 + nI 1), .ref r', .int (nI (cpN σ 1 + 1))])) H1) (hrow : va_at G vwCl (r', .inl (ids 5, k', .inr (.inr (.inr (.inr (fun j => if j < cpN σ 1 + 1 then some (if j = cpN σ 1 then x else d (cpKd 1) j) else none)))))) H1) (hw : cpN σ 1 + 1 ≤ k' ∧ 10 ≤ k' ∧ k' < 2 ^ 31) (hr : cpN σ 1 ≠ 0 ∧ r' = d 0 1 ∨ n1 ≤ r')
    (hk : ∀ q : Nat, q < H.size → q ≠ o + (2 + 1) → (cpN σ 1 ≠ 0 → q ≠ d 0 1) → H1[q]? = H[q]?) (hlt : ∀ x, cpU σ x → cpA o d x < n1) (hzn : z ≤ n1) (hx_ : va_at G vwCl (x, .inr (1, [.int ce, .int dr, .int mo, .ref y, .int 0])) H1) (hy_ : va_at G vwCl (y, .inl (ids 0, 5 * (600 - mo.toNatClampNeg), .inl (fun _ => 0))) H1) (hx1 : n1 ≤ x ∧ x ≠ r') (hy1 : n1 ≤ y ∧ y ≠ r') (hxy : x ≠ y) : CPic G ids o z tE (gB_d σ d r' x y) (fun M => if M = 1 then k' else w M) (gB σ ce dr mo) H1 := by
  have hN := gB_N (σ := σ) (ce := ce) (dr := dr) (mo := mo) hn40
  have hM : ∀ M, M < 3 → M ≠ 1 → cpN (gB σ ce dr mo) M = cpN σ M := fun M h1 h2 => gB_M h1 h2
  have hd0 : ∀ i, (gB_d σ d r' x y) 0 i = if i = 1 then r' else d 0 i := fun i => rfl
  have hd2 : ∀ i, (gB_d σ d r' x y) 2 i = if i = cpN σ 1 then x else d 2 i := fun i => rfl
  have hd3 : ∀ i, (gB_d σ d r' x y) 3 i = if i = cpN σ 1 then y else d 3 i := fun i => rfl
  have hd1 : ∀ i, (gB_d σ d r' x y) 1 i = d 1 i := fun i => rfl
  have hd4 : ∀ i, (gB_d σ d r' x y) 4 i = d 4 i := fun i => rfl
  generalize gB_d σ d r' x y = d' at hd0 hd1 hd2 hd3 hd4 ⊢
  have hnewx : ∀ x, cpU (gB σ ce dr mo) x → ¬ cpU σ x → x ≠ (0, 1) → x = (2, cpN σ 1) ∨ x = (3, cpN σ 1) := fun x hx hu hne => by
    have h9 := cpU_lt hx
    obtain ⟨k, i⟩ := x
    simp only at h9
    rcases (show k = 0 ∨ k = 1 ∨ k = 2 ∨ k = 3 ∨ k = 4 ∨ k = 5 ∨ k = 6 ∨ k = 7 ∨ k = 8 by omega) with rfl | rfl | rfl | rfl | rfl | rfl | rfl | rfl | rfl
    · exfalso
      have q : i < 3 ∧ cpN (gB σ ce dr mo) i ≠ 0 := hx
      by_cases e : i = 1
      · exact hne (by rw [e])
      · rw [hM i q.1 e] at q
        exact hu q
    · exfalso
      have q : i < cpN (gB σ ce dr mo) 0 := hx
      rw [hM 0 (by decide) (by decide)] at q
      exact hu q
    · have q : i < cpN (gB σ ce dr mo) 1 := hx
      rw [hN] at q
      have q2 : ¬ i < cpN σ 1 := hu
      have e : i = cpN σ 1 := by omega
      subst e
      exact Or.inl rfl
    · have q : i < cpN (gB σ ce dr mo) 1 := hx
      rw [hN] at q
      have q2 : ¬ i < cpN σ 1 := hu
      have e : i = cpN σ 1 := by omega
      subst e
      exact Or.inr rfl
    · exfalso
      have q : i < cpN (gB σ ce dr mo) 2 := hx
      rw [hM 2 (by decide) (by decide)] at q
      exact hu q
    · exact absurd (cpU_hi (by decide) hx) hu
    · exact absurd (cpU_hi (by decide) hx) hu
    · exact absurd (cpU_hi (by decide) hx) hu
    · exact absurd (cpU_hi (by decide) hx) hu
  have hdo : ∀ x, cpU σ x → x ≠ (0, 1) → cpA o d' x = cpA o d x := fun x hx hne => by
    have h9 := cpU_lt hx
    obtain ⟨k, i⟩ := x
    simp only at h9
    rcases (show k = 0 ∨ k = 1 ∨ k = 2 ∨ k = 3 ∨ k = 4 ∨ k = 5 ∨ k = 6 ∨ k = 7 ∨ k = 8 by omega) with rfl | rfl | rfl | rfl | rfl | rfl | rfl | rfl | rfl
    · show d' 0 i = d 0 i
      rw [hd0, if_neg (fun e => hne (by rw [e]))]
    · show d' 1 i = d 1 i
      rw [hd1]
    · have q : i < cpN σ 1 := hx
      show d' 2 i = d 2 i
      rw [hd2, if_neg (by omega)]
    · have q : i < cpN σ 1 := hx
      show d' 3 i = d 3 i
      rw [hd3, if_neg (by omega)]
    · show d' 4 i = d 4 i
      rw [hd4]
    · rfl
    · rfl
    · rfl
    · rfl
  have hco : ∀ x, cpU σ x → x ≠ (0, 1) → x ≠ (5, 2 + 1) → cpC ids o tE d' (fun M => if M = 1 then k' else w M) (gB σ ce dr mo) x = cpC ids o tE d w σ x := fun x hx hne hne5 => by
    have h9 := cpU_lt hx
    obtain ⟨k, i⟩ := x
    simp only at h9
    rcases (show k = 0 ∨ k = 1 ∨ k = 2 ∨ k = 3 ∨ k = 4 ∨ k = 5 ∨ k = 6 ∨ k = 7 ∨ k = 8 by omega) with rfl | rfl | rfl | rfl | rfl | rfl | rfl | rfl | rfl
    · have q : i < 3 ∧ cpN σ i ≠ 0 := hx
      have e : i ≠ 1 := fun e => hne (by rw [e])
      rw [cpC_0, cpC_0, hM i q.1 e, if_neg e]
      have hf : ∀ j, j < cpN σ i → d' (cpKd i) j = d (cpKd i) j := fun j hj => by
        rcases (show i = 0 ∨ i = 1 ∨ i = 2 by omega) with rfl | rfl | rfl
        · exact hd1 j
        · exact absurd rfl e
        · exact hd4 j
      have hg : (fun j => if j < cpN σ i then some (d' (cpKd i) j) else none) = (fun j => if j < cpN σ i then some (d (cpKd i) j) else none) := by
        funext j
        by_cases hj : j < cpN σ i
        · rw [if_pos hj, if_pos hj, hf j hj]
        · rw [if_neg hj, if_neg hj]
      rw [hg]
    · have q : i < cpN σ 0 := hx
      rw [cpC_1, cpC_1, gB_k (k := 14) (by omega), gB_k (k := 15) (by omega), gB_k (k := 16) (by omega), gB_k (k := 18) (by omega), gB_k (k := 17) (by omega)]
    · have q : i < cpN σ 1 := hx
      rw [cpC_2, cpC_2, gB_20, upd_ne (show i ≠ cpN σ 1 by omega), gB_21, upd_ne (show i ≠ cpN σ 1 by omega), gB_22, upd_ne (show i ≠ cpN σ 1 by omega), gB_35, upd_ne (show i ≠ cpN σ 1 by omega), hd3, if_neg (show ¬ i = cpN σ 1 by omega)]
    · have q : i < cpN σ 1 := hx
      rw [cpC_3, cpC_3, gB_22, upd_ne (show i ≠ cpN σ 1 by omega), gB_k (k := 40 + i) (by omega)]
    · have q : i < cpN σ 2 := hx
      rw [cpC_4k, cpC_4k, gB_k (k := 37) (by omega), gB_k (k := 38) (by omega), gB_k (k := 39) (by omega), gB_k (k := 25) (by omega), hd1]
    · have q : i < 9 := hx
      have f1 : (gB σ ce dr mo).1 1 = σ.1 1 := gB_k (by omega)
      have f32 : (gB σ ce dr mo).1 32 = σ.1 32 := gB_k (by omega)
      have f33 : (gB σ ce dr mo).1 33 = σ.1 33 := gB_k (by omega)
      have fL : ∀ M, M < 3 → M ≠ 1 → cpL tE d' (gB σ ce dr mo) M = cpL tE d σ M := fun M h1 h2 => by
        have e34 : (gB σ ce dr mo).1 34 M = σ.1 34 M := by rw [gB_34, upd_ne h2]
        have eN := hM M h1 h2
        have eF : (gB σ ce dr mo).1 (cpF M) 0 = σ.1 (cpF M) 0 := by
          rcases (show M = 0 ∨ M = 1 ∨ M = 2 by omega) with rfl | rfl | rfl
          · show (gB σ ce dr mo).1 13 0 = σ.1 13 0
            rw [gB_k (by omega)]
          · exact absurd rfl h2
          · show (gB σ ce dr mo).1 24 0 = σ.1 24 0
            rw [gB_k (by omega)]
        unfold cpL
        rw [e34, eN, eF, hd0, if_neg h2]
      rcases (show i = 0 ∨ i = 1 ∨ i = 2 ∨ i = 3 ∨ i = 4 ∨ i = 5 ∨ i = 6 ∨ i = 7 ∨ i = 8 by omega) with rfl | rfl | rfl | rfl | rfl | rfl | rfl | rfl | rfl
      · rw [cpC_50, cpC_50]; exact cpO_same (by rw [f1]) (congrFun gB_2 29)
      · rw [cpC_51, cpC_51]
      · rw [cpC_52, cpC_52]; exact fL 0 (by decide) (by decide)
      · exact absurd rfl hne5
      · rw [cpC_54, cpC_54]; exact fL 2 (by decide) (by decide)
      · rw [cpC_55, cpC_55, cpK_same (σ' := gB σ ce dr mo) (σ := σ) gB_2]
      · rw [cpC_56, cpC_56, cpJ_same (σ' := gB σ ce dr mo) (σ := σ) gB_2]
      · rw [cpC_57, cpC_57, f32]
      · rw [cpC_58, cpC_58, f33]
    · exact cpC_6s (fun x hx => by rw [gB_k (by omega)])
    · rw [cpC_7, cpC_7]
    · exact cpC_8s (fun x h8 h11 => by rw [gB_k (by omega)])
  have hlst' : va_at G vwCl (o + (2 + 1), cpL tE d' (gB σ ce dr mo) 1) H1 := by
    have e34 : (gB σ ce dr mo).1 34 1 = σ.1 34 1 + nI 1 := by rw [gB_34, upd_eq]
    have eF : (gB σ ce dr mo).1 (cpF 1) 0 = nI (cpN σ 1 + 1) := by
      show (gB σ ce dr mo).1 19 0 = _
      rw [gB_19, upd_eq]
    unfold cpL
    rw [e34, hN, if_neg (by omega), eF, hd0, if_pos rfl]
    exact hlst
  have hrow' : va_at G vwCl (r', cpC ids o tE d' (fun M => if M = 1 then k' else w M) (gB σ ce dr mo) (0, 1)) H1 := by
    have ekd : cpKd 1 = 2 := rfl
    rw [cpC_0, hN, if_pos rfl, ekd]
    rw [ekd] at hrow
    have hg : (fun j => if j < cpN σ 1 + 1 then some (d' 2 j) else none) = (fun j => if j < cpN σ 1 + 1 then some (if j = cpN σ 1 then x else d 2 j) else none) := by
      funext j
      rw [hd2]
    rw [hg]
    exact hrow
  refine hP.grow (L := 1) (r' := r') (n1 := n1) (by decide) hN hM (by rw [hd0, if_pos rfl]) hdo hco hk hlst' hrow' (fun x hx hu hne => ?_) (fun x y hx hu hne hy huy hney e => by
    rcases hnewx x hx hu hne with e1 | e1 <;> rcases hnewx y hy huy hney with e2 | e2
    · rw [e1, e2]
    · exfalso
      rw [e1, e2] at e
      have q : d' 2 (cpN σ 1) = d' 3 (cpN σ 1) := e
      rw [hd2, hd3, if_pos rfl, if_pos rfl] at q
      exact hxy q
    · exfalso
      rw [e1, e2] at e
      have q : d' 3 (cpN σ 1) = d' 2 (cpN σ 1) := e
      rw [hd2, hd3, if_pos rfl, if_pos rfl] at q
      exact hxy q.symm
    · rw [e1, e2]) hlt hzn hr ⟨hw.1, hw.2.2⟩
  rcases hnewx x hx hu hne with e | e
  · subst e
    refine ⟨lt5 (by decide), ?_, ?_, ?_⟩
    · rw [cpC_2, gB_20, gB_21, gB_22, gB_35, upd_eq, upd_eq, upd_eq, upd_eq, hd3, if_pos rfl]
      show va_at G vwCl (d' 2 (cpN σ 1), _) H1
      rw [hd2, if_pos rfl]
      exact hx_
    · show n1 ≤ d' 2 (cpN σ 1)
      rw [hd2, if_pos rfl]
      exact hx1.1
    · show d' 2 (cpN σ 1) ≠ r'
      rw [hd2, if_pos rfl]
      exact hx1.2
  · subst e
    refine ⟨lt5 (by decide), ?_, ?_, ?_⟩
    · rw [cpC_3, gB_22, upd_eq, gB_row]
      show va_at G vwCl (d' 3 (cpN σ 1), _) H1
      rw [hd3, if_pos rfl]
      exact hy_
    · show n1 ≤ d' 3 (cpN σ 1)
      rw [hd3, if_pos rfl]
      exact hy1.1
    · show d' 3 (cpN σ 1) ≠ r'
      rw [hd3, if_pos rfl]
      exact hy1.2
