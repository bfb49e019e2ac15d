/-! rows for a layer by itself, and for a cell with its layers -/
def w_max (x y : Int32) : Int32 := if x < y then y else x
def w_min (x y : Int32) : Int32 := if y < x then y else x
def cfs (b i : Nat) (τ : Sg) : List Value := [.ref (b + 1), .int (τ.1 2 i), .int (τ.1 3 i), .int (τ.1 4 i), .int (τ.1 5 i), .int (τ.1 6 i), .int (τ.1 36 i)]
def lfs (k : Nat) (τ : Sg) : List Value := [.int (τ.1 8 k), .int (τ.1 9 k), .int (τ.1 10 k), .int (τ.1 11 k)]
theorem si_ne {σ : Sg} {k j k' : Nat} {v : Int32} (h : k' ≠ k) : (si σ k j v).1 k' = σ.1 k' := by simp [si, h]
theorem si_nj {σ : Sg} {k j k' j' : Nat} {v : Int32} (h : ¬ (k' = k ∧ j' = j)) : (si σ k j v).1 k' j' = σ.1 k' j' := by
  by_cases hk : k' = k
  · subst hk
    have hj : j' ≠ j := fun q => h ⟨rfl, q⟩
    simp [si, upd, hj]
  · rw [si_ne hk]
theorem si_eq {σ : Sg} {k j : Nat} {v : Int32} : (si σ k j v).1 k j = v := by simp [si, upd]
theorem si_2 {σ : Sg} {k j : Nat} {v : Int32} : (si σ k j v).2 = σ.2 := rfl
theorem sl_1 {σ : Sg} {k : Nat} {v : Int64} : (sl σ k v).1 = σ.1 := rfl
theorem XLP.of {G : va_G} {h k : Nat} {τ τ' : Sg} {H H1 : Heap} (hP : XLP G h k τ H) (hq : H1[h]? = H[h]?) (h8 : ∀ x, 8 ≤ x → x ≤ 11 → τ'.1 x k = τ.1 x k) : XLP G h k τ' H1 := by
  unfold XLP at hP ⊢
  rw [h8 8 (by decide) (by decide), h8 9 (by decide) (by decide), h8 10 (by decide) (by decide), h8 11 (by decide) (by decide)]
  exact hP.kept hq
theorem cellE_of {b i : Nat} {τ τ' : Sg} (h : ∀ x, (2 ≤ x ∧ x ≤ 6 ∨ x = 36) → τ'.1 x i = τ.1 x i) : cellE b i τ' = cellE b i τ := by
  unfold cellE
  rw [h 2 (by decide), h 3 (by decide), h 4 (by decide), h 5 (by decide), h 6 (by decide), h 36 (by decide)]
/-- behind a call on a layer -/
theorem XBP.join {G : va_G} {ids : Nat → ClassId} {b i j : Nat} {τ τ' : Sg} {H H1 : Heap} (hP : XBP G ids b i τ H) (hj : j < 5) (h1 : XLP G (b + 2 + j) (5 * i + j) τ' H1) (hk : ∀ q : Nat, q < H.size → ¬ q = b + 2 + j → H1[q]? = H[q]?) (hs : ∀ x y, ¬ (8 ≤ x ∧ x ≤ 11 ∧ y = 5 * i + j) → τ'.1 x y = τ.1 x y) : XBP G ids b i τ' H1 := by
  obtain ⟨g1, g2, g3⟩ := hP
  refine ⟨?_, g2.kept (hk _ g2.lt (by show ¬ b + 1 = b + 2 + j; omega)), fun n hn => ?_⟩
  · rw [cellE_of (τ := τ) (fun x hx => hs x i (by omega))]
    exact g1.kept (hk _ g1.lt (by show ¬ b = b + 2 + j; omega))
  · by_cases hnj : n = j
    · subst hnj; exact h1
    · exact (g3 n hn).of (hk _ (va_at.lt (g3 n hn)) (by show ¬ b + 2 + n = b + 2 + j; omega)) (fun x _ _ => hs x _ (by omega))
theorem XBP.of {G : va_G} {ids : Nat → ClassId} {b i : Nat} {τ τ' : Sg} {H H1 : Heap} (hP : XBP G ids b i τ H) (hk : ∀ q : Nat, q < H.size → b ≤ q → q < b + 7 → H1[q]? = H[q]?) (hc : ∀ x, (2 ≤ x ∧ x ≤ 6 ∨ x = 36) → τ'.1 x i = τ.1 x i) (hs : ∀ x j, 8 ≤ x → x ≤ 11 → j < 5 → τ'.1 x (5 * i + j) = τ.1 x (5 * i + j)) : XBP G ids b i τ' H1 := by
  obtain ⟨g1, g2, g3⟩ := hP
  refine ⟨?_, g2.kept (hk _ g2.lt (by show b ≤ b + 1; omega) (by show b + 1 < b + 7; omega)), fun n hn => ?_⟩
  · rw [cellE_of hc]
    exact g1.kept (hk _ g1.lt (by show b ≤ b; omega) (by show b < b + 7; omega))
  · exact (g3 n hn).of (hk _ (va_at.lt (g3 n hn)) (by show b ≤ b + 2 + n; omega) (by show b + 2 + n < b + 7; omega)) (fun x h8 h11 => hs x n h8 h11 hn)
theorem cfs_set {b i : Nat} {τ : Sg} {f kf : Nat} {v : Int32} (h : (f = 1 ∧ kf = 2) ∨ (f = 2 ∧ kf = 3) ∨ (f = 3 ∧ kf = 4) ∨ (f = 4 ∧ kf = 5) ∨ (f = 5 ∧ kf = 6) ∨ (f = 6 ∧ kf = 36)) : ((b, .inr (2, (cfs b i τ).set f (.int v))) : Nat × va_E) = cellE b i (si τ kf i v) := by
  rcases h with ⟨rfl, rfl⟩ | ⟨rfl, rfl⟩ | ⟨rfl, rfl⟩ | ⟨rfl, rfl⟩ | ⟨rfl, rfl⟩ | ⟨rfl, rfl⟩ <;> simp [cfs, cellE, si, upd]
theorem lfs_set {h k : Nat} {τ : Sg} {f : Nat} {v : Int32} (hf : f < 4) : ((h, .inr (5, (lfs k τ).set f (.int v))) : Nat × va_E) = (h, .inr (5, lfs k (si τ (8 + f) k v))) := by
  rcases (show f = 0 ∨ f = 1 ∨ f = 2 ∨ f = 3 by omega) with rfl | rfl | rfl | rfl <;> simp [lfs, si, upd]
def bA (b : Nat) : Nat → Prop := fun q => b ≤ q ∧ q < b + 7
section BR
variable {p : Program} {l : Launch} {e : Env} {R : Room} {s : State} {m : MethodId} {args : Array Value} {below : List Frame} {meth : Method} {c : Code} {H : Heap} {locs : List Loc} {cells slots : Nat} {Q : State → Prop}
variable {cc : ByteArray} {pc : Nat} {ls : Array Slot} {rest : List Value} {G : va_G} {ids : Nat → ClassId} {A : Nat → Prop} {H0 : Heap} {Ts : List Cond} {b i h k : Nat} {τ : Sg}
theorem TX4_int {f : Nat} (hf : f < 4) : (TX4 f).2.2.2 = false ∧ parseFieldDescriptor (TX4 f).2.2.1 = some .int := by
  rcases (show f = 0 ∨ f = 1 ∨ f = 2 ∨ f = 3 by omega) with rfl | rfl | rfl | rfl <;> exact ⟨rfl, by decide +kernel⟩
theorem TX1_int {f : Nat} (hf : 1 ≤ f ∧ f < 7) : (TX1 f).2.2.2 = false ∧ parseFieldDescriptor (TX1 f).2.2.1 = some .int := by
  rcases (show f = 1 ∨ f = 2 ∨ f = 3 ∨ f = 4 ∨ f = 5 ∨ f = 6 by omega) with rfl | rfl | rfl | rfl | rfl | rfl <;> exact ⟨rfl, by decide +kernel⟩
/-- a field of a layer is written -/
theorem l_put (hx : p.tables.exec = Jvm.exec) (hb : c.code = cc) {own : String} {index : Nat} (hts : ∀ w ∈ Ts, w.before args s = true) (hin : ∀ w ∈ wsX40, w ∈ Ts) (hown : s.vm.findClass own = some m.cls) (hK : va_K G vwCl (cTy ids) s) (hP : XLP G h k τ H) (hA : A h) (hS : va_S A H0 H locs) (f : Nat) (hf : f < 4) (hlink : Cond.fieldLink own index (TX4 f).1 (TX4 f).2.1 (TX4 f).2.2.1 ∈ Ts) {v : Int32} (hdg : decode cc pc = .ok (.putfield index, 3))
    (kk : ∀ (H1 : Heap) (locs1 : List Loc), XLP G h k (si τ (8 + f) k v) H1 → x_only h H H1 → va_S A H0 H1 locs1 → W p l e R s m args below meth c H1 locs1 cells slots Q (F0 m (pc + 3) ls rest)) : W p l e R s m args below meth c H locs cells slots Q (F0 m pc ls (.int v :: .ref h :: rest)) :=
  x_put (C := RX4) (T := TX4) (N := 4) (ci := 5) (fs := lfs k τ) (ty := .int) hx hb hts hin tyX4 tyX4_ok nmX4 hown hK hP hA hS rfl f hf hlink (TX4_int hf).1 (TX4_int hf).2 rfl rfl hf hdg (fun H1 locs1 h1 h2 h3 => kk H1 locs1 (by rw [lfs_set hf] at h1; exact h1) h2 h3)
theorem b_put (hx : p.tables.exec = Jvm.exec) (hb : c.code = cc) {own : String} {index : Nat} (hts : ∀ w ∈ Ts, w.before args s = true) (hin : ∀ w ∈ wsX10, w ∈ Ts) (hown : s.vm.findClass own = some m.cls) (hK : va_K G vwCl (cTy ids) s) (hP : XBP G ids b i τ H) (hA : A b) (hS : va_S A H0 H locs) (f kf : Nat) (hf : (f = 1 ∧ kf = 2) ∨ (f = 2 ∧ kf = 3) ∨ (f = 3 ∧ kf = 4) ∨ (f = 4 ∧ kf = 5) ∨ (f = 5 ∧ kf = 6) ∨ (f = 6 ∧ kf = 36)) (hlink : Cond.fieldLink own index (TX1 f).1 (TX1 f).2.1 (TX1 f).2.2.1 ∈ Ts) {v : Int32} (hdg : decode cc pc = .ok (.putfield index, 3))
    (kk : ∀ (H1 : Heap) (locs1 : List Loc), XBP G ids b i (si τ kf i v) H1 → x_only b H H1 → va_S A H0 H1 locs1 → W p l e R s m args below meth c H1 locs1 cells slots Q (F0 m (pc + 3) ls rest)) : W p l e R s m args below meth c H locs cells slots Q (F0 m pc ls (.int v :: .ref b :: rest)) := by
  have hf7 : 1 ≤ f ∧ f < 7 := by omega
  refine x_put (C := RX1) (T := TX1) (N := 7) (ci := 2) (fs := cfs b i τ) (ty := .int) hx hb hts hin tyX1 tyX1_ok nmX1 hown hK hP.1 hA hS rfl f hf7.2 hlink (TX1_int hf7).1 (TX1_int hf7).2 rfl rfl hf7.2 hdg (fun H1 locs1 h1 h2 h3 => kk H1 locs1 ⟨?_, hP.2.1.only h2 (by show b + 1 ≠ b; omega), fun j hj => ?_⟩ h2 h3)
  · rw [cfs_set hf] at h1; exact h1
  · exact (hP.2.2 j hj).of (h2.2 _ (by omega)) (fun x h8 h11 => by rw [si_ne (by omega)])
theorem b_putL (hx : p.tables.exec = Jvm.exec) (hb : c.code = cc) {own : String} {index : Nat} (hts : ∀ w ∈ Ts, w.before args s = true) (hin : ∀ w ∈ wsX40, w ∈ Ts) (hown : s.vm.findClass own = some m.cls) (hK : va_K G vwCl (cTy ids) s) (hP : XBP G ids b i τ H) {j : Nat} (hj : j < 5) (hA : A (b + 2 + j)) (hS : va_S A H0 H locs) (f : Nat) (hf : f < 4) (hlink : Cond.fieldLink own index (TX4 f).1 (TX4 f).2.1 (TX4 f).2.2.1 ∈ Ts) {v : Int32} (hdg : decode cc pc = .ok (.putfield index, 3))
    (kk : ∀ (H1 : Heap) (locs1 : List Loc), XBP G ids b i (si τ (8 + f) (5 * i + j) v) H1 → x_only (b + 2 + j) H H1 → va_S A H0 H1 locs1 → W p l e R s m args below meth c H1 locs1 cells slots Q (F0 m (pc + 3) ls rest)) : W p l e R s m args below meth c H locs cells slots Q (F0 m pc ls (.int v :: .ref (b + 2 + j) :: rest)) :=
  l_put hx hb hts hin hown hK (hP.2.2 j hj) hA hS f hf hlink hdg (fun H1 locs1 h1 h2 h3 => kk H1 locs1 (hP.join hj h1 (fun q _ hq => h2.2 q hq) (fun x y hxy => si_nj (by omega))) h2 h3)
theorem w_mmax (hx : p.tables.exec = Jvm.exec) (hb : c.code = cc) {nL : Nat} (hml : c.maxLocals = nL) (hsz : ls.size = nL) {own : String} {index : Nat} (hown : s.vm.findClass own = some m.cls) (hts : ∀ w ∈ Ts, w.before args s = true) (h1 : Cond.methodLink own index Lib.Math.max.name ∈ Ts) (h2 : Cond.static Lib.Math.max.name ∈ Ts) (h3 : Cond.initialized "java/lang/Math" ∈ Ts) (h4 : Cond.code Lib.Math.max.name Lib.Math.max.code 2 (some .int) ∈ Ts) (hfr : 1 ≤ R.frames) (hlo : 21 ≤ R.locals) (hW : (rest.map fun v => v.category).sum ≤ 8) (hc : cells ≤ R.cells) (hs : slots ≤ R.slots) {x y : Int32} (hdg : decode cc pc = .ok (.invokestatic index, 3))
    (kk : W p l e R s m args below meth c H locs cells slots Q (F0 m (pc + 3) ls (.int (w_max x y) :: rest))) : W p l e R s m args below meth c H locs cells slots Q (F0 m pc ls (.int y :: .int x :: rest)) :=
  va_mmax hx hb (hml.trans hsz.symm) hown (hts _ h1) (hts _ h2) (hts _ h3) (hts _ h4) hfr (by omega) hc hs hdg kk
theorem w_mmin (hx : p.tables.exec = Jvm.exec) (hb : c.code = cc) {nL : Nat} (hml : c.maxLocals = nL) (hsz : ls.size = nL) {own : String} {index : Nat} (hown : s.vm.findClass own = some m.cls) (hts : ∀ w ∈ Ts, w.before args s = true) (h1 : Cond.methodLink own index Lib.Math.min.name ∈ Ts) (h2 : Cond.static Lib.Math.min.name ∈ Ts) (h3 : Cond.initialized "java/lang/Math" ∈ Ts) (h4 : Cond.code Lib.Math.min.name Lib.Math.min.code 2 (some .int) ∈ Ts) (hfr : 1 ≤ R.frames) (hlo : 21 ≤ R.locals) (hW : (rest.map fun v => v.category).sum ≤ 8) (hc : cells ≤ R.cells) (hs : slots ≤ R.slots) {x y : Int32} (hdg : decode cc pc = .ok (.invokestatic index, 3))
    (kk : W p l e R s m args below meth c H locs cells slots Q (F0 m (pc + 3) ls (.int (w_min x y) :: rest))) : W p l e R s m args below meth c H locs cells slots Q (F0 m pc ls (.int y :: .int x :: rest)) :=
  va_mmin hx hb (hml.trans hsz.symm) hown (hts _ h1) (hts _ h2) (hts _ h3) (hts _ h4) hfr (by omega) hc hs hdg kk
end BR
