/-! the reference, as a ghost: its methods as functions of a state -/
def m_within_j15 (v : Int32) (x : Int32) (y : Int32) (x_3 : Int32) : Int32 := x_3
def m_within (v : Int32) (x : Int32) (y : Int32) : Int32 := (m_within_j15 v x y (if v < x then nI (0) else (if y < v then nI (0) else nI (1))))
def m_isCell (v : Int32) : Int32 := (m_within v (nI (0)) (nI (24)))
theorem m_within_b (v x y : Int32) : m_within v x y = 0 ∨ m_within v x y = 1 := by
  unfold m_within
  (repeat' split) <;> first | exact Or.inl rfl | exact Or.inr rfl
def m_lesser_j10 (x : Int32) (y : Int32) (x_3 : Int32) : Int32 := x_3
def m_lesser (x : Int32) (y : Int32) : Int32 := (m_lesser_j10 x y (if y ≤ x then y else x))
def m_greater_j10 (x : Int32) (y : Int32) (x_3 : Int32) : Int32 := x_3
def m_greater (x : Int32) (y : Int32) : Int32 := (m_greater_j10 x y (if x ≤ y then y else x))
def m_beside_j69 (k : Int32) (w : Int32) (x_6 : Int32) : Int32 := x_6
def m_beside_j55 (k : Int32) (w : Int32) (x_12 : Int32) : Int32 := x_12
def m_beside_j35 (k : Int32) (w : Int32) (x_18 : Int32) : Int32 := x_18
def m_beside_j16 (k : Int32) (w : Int32) (x_24 : Int32) : Int32 := x_24
def m_beside (k : Int32) (w : Int32) : Int32 := (if w = 0 then (m_beside_j16 k w (if nI (5) ≤ k then (k) - (nI (5)) else (-1))) else (if w = nI (1) then (m_beside_j35 k w (if (k) - (k) / (nI (5)) * (nI (5)) = 0 then (-1) else (k) - (nI (1)))) else (if w = nI (2) then (m_beside_j55 k w (if (k) - (k) / (nI (5)) * (nI (5)) = nI (4) then (-1) else (k) + (nI (1)))) else (m_beside_j69 k w (if k ≤ nI (19) then (k) + (nI (5)) else (-1))))))
def m_thrown (σ : Sg) : Int32 := (σ.1 0 0)
def m_refused_j14 (σ : Sg) (w : Int32) (s_1 : Sg) (x_7 : Int32) : Int32 := x_7
def m_refused_j14_s (σ : Sg) (w : Int32) (s_1 : Sg) (x_7 : Int32) : Sg := s_1
def m_refused_k5 (σ : Sg) (w : Int32) (s_1 : Sg) : Int32 := (m_refused_j14 σ w s_1 (if w = 0 then nI (0) else nI (1)))
def m_refused_k5_s (σ : Sg) (w : Int32) (s_1 : Sg) : Sg := (m_refused_j14_s σ w s_1 (if w = 0 then nI (0) else nI (1)))
def m_refused (σ : Sg) (w : Int32) : Int32 := (m_refused_k5 σ w (si σ 0 (0) (w)))
def m_refused_s (σ : Sg) (w : Int32) : Sg := (m_refused_k5_s σ w (si σ 0 (0) (w)))
def m_degreesOf_j62 (σ : Sg) (k : Int32) (x_4 : Int32) : Int32 := x_4
def m_degreesOf (σ : Sg) (k : Int32) : Int32 := (if 0 ≤ (σ.1 10 ((k).toNatClampNeg)) then (m_degreesOf_j62 σ k (if (σ.1 10 ((k).toNatClampNeg)) ≤ (nI (1000)) * (((σ.1 8 ((k).toNatClampNeg))) + ((σ.1 9 ((k).toNatClampNeg)))) then nI (0) else (((σ.1 10 ((k).toNatClampNeg))) - ((nI (1000)) * (((σ.1 8 ((k).toNatClampNeg))) + ((σ.1 9 ((k).toNatClampNeg)))))) / (nI (100)))) else ((σ.1 10 ((k).toNatClampNeg))) / (nI (100)))
def m_melted_j42 (σ : Sg) (k : Int32) (x_3 : Int32) : Int32 := x_3
def m_melted (σ : Sg) (k : Int32) : Int32 := (m_melted_j42 σ k (if nI (1000) ≤ (σ.1 10 ((k).toNatClampNeg)) then (m_lesser (((σ.1 8 ((k).toNatClampNeg))) + ((σ.1 9 ((k).toNatClampNeg)))) (((σ.1 10 ((k).toNatClampNeg))) / (nI (1000)))) else nI (0)))
def m_isLake_j15 (σ : Sg) (k : Int32) (x_3 : Int32) : Int32 := x_3
def m_isLake (σ : Sg) (k : Int32) : Int32 := (m_isLake_j15 σ k (if (σ.1 3 ((k).toNatClampNeg)) ≤ nI (2) then nI (0) else nI (1)))
def m_bring_k21_s (σ : Sg) (k : Int32) (v : Int32) (s_1 : Sg) (s_4 : Sg) : Sg := s_4
def m_bring_k10_s (σ : Sg) (k : Int32) (v : Int32) (s_1 : Sg) : Sg := (m_bring_k21_s σ k v s_1 (sl s_1 26 (((s_1.2 26)) + ((v).toInt64))))
def m_bring_s (σ : Sg) (k : Int32) (v : Int32) : Sg := (m_bring_k10_s σ k v (si σ 10 ((k).toNatClampNeg) (((σ.1 10 ((k).toNatClampNeg))) + (v))))
def m_sink_k65_s (σ : Sg) (k : Nat) (s_1 : Sg) (s_4 : Sg) (s_7 : Sg) (s_10 : Sg) : Sg := s_10
def m_sink_k53_s (σ : Sg) (k : Nat) (s_1 : Sg) (s_4 : Sg) (s_7 : Sg) : Sg := (m_sink_k65_s σ k s_1 s_4 s_7 (si s_7 3 (k / 5) (((s_7.1 3 (k / 5))) + ((m_greater (nI (0)) (((m_melted σ (nI (k)))) - ((σ.1 8 k))))))))
def m_sink_k41_s (σ : Sg) (k : Nat) (s_1 : Sg) (s_4 : Sg) : Sg := (m_sink_k53_s σ k s_1 s_4 (si s_4 2 (k / 5) (((s_4.1 2 (k / 5))) - ((m_greater (nI (0)) (((m_melted σ (nI (k)))) - ((σ.1 8 k))))))))
def m_sink_k27_s (σ : Sg) (k : Nat) (s_1 : Sg) : Sg := (m_sink_k41_s σ k s_1 (si s_1 10 (k) (((s_1.1 10 k)) - ((nI (1000)) * ((m_greater (nI (0)) (((m_melted σ (nI (k)))) - ((σ.1 8 k)))))))))
def m_sink_s (σ : Sg) (k : Nat) : Sg := (m_sink_k27_s σ k (si σ 9 (k) (((σ.1 9 k)) - ((m_greater (nI (0)) (((m_melted σ (nI (k)))) - ((σ.1 8 k))))))))
