/-! the ghost at first -/
def μ0 : Sg := (fun _ _ => 0, fun k => if k = 26 then -125000 else if k = 27 then 800 else if k = 28 then 50000 else 0)
def m_init_x196_s (z196 : Sg) : Sg := z196
def m_init_x219 (i196 : Nat) (z196 : Sg) (s_3 : Sg) (s_6 : Sg) (z219 : Sg) : Sg := z219
def m_init_k285 (i196 : Nat) (i219 : Nat) (z219 : Sg) (s_11 : Sg) (x_16 : Int32) (s_20 : Sg) (s_23 : Sg) (s_26 : Sg) : Sg := s_26
def m_init_k276 (i196 : Nat) (i219 : Nat) (z219 : Sg) (s_11 : Sg) (x_16 : Int32) (s_20 : Sg) (s_23 : Sg) : Sg := (m_init_k285 i196 i219 z219 s_11 x_16 s_20 s_23 (si s_23 11 ((5 * i196) + i219) (nI (400))))
def m_init_k267 (i196 : Nat) (i219 : Nat) (z219 : Sg) (s_11 : Sg) (x_16 : Int32) (s_20 : Sg) : Sg := (m_init_k276 i196 i219 z219 s_11 x_16 s_20 (si s_20 10 ((5 * i196) + i219) ((-1000))))
def m_init_j266 (i196 : Nat) (i219 : Nat) (z219 : Sg) (s_11 : Sg) (x_16 : Int32) : Sg := (m_init_k267 i196 i219 z219 s_11 x_16 (si s_11 9 ((5 * i196) + i219) (x_16)))
def m_init_k237 (i196 : Nat) (i219 : Nat) (z219 : Sg) (s_11 : Sg) : Sg := (m_init_j266 i196 i219 z219 s_11 (if i219 = 2 then nI (3) else (if i219 = 1 then nI (2) else (if i219 = 3 then nI (2) else nI (0)))))
def m_init_b219 (i196 : Nat) (i219 : Nat) (z219 : Sg) : Sg := (m_init_k237 i196 i219 z219 (si z219 8 ((5 * i196) + i219) (nI (5))))
def m_init_k217 (i196 : Nat) (z196 : Sg) (s_3 : Sg) (s_6 : Sg) : Sg := (m_init_x219 i196 z196 s_3 s_6 (lp (m_init_b219 i196) 5 s_6))
def m_init_k210 (i196 : Nat) (z196 : Sg) (s_3 : Sg) : Sg := (m_init_k217 i196 z196 s_3 (si s_3 5 (i196) (nI (2))))
def m_init_b196  (i196 : Nat) (z196 : Sg) : Sg := (m_init_k210 i196 z196 (si z196 2 (i196) (nI (100))))
def m_init_s : Sg := (m_init_x196_s (lp (m_init_b196) 25 μ0))

