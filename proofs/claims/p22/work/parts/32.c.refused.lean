/-! the calls that are refused whatever the state is -/
section RNO
variable {l : Launch} {G : va_G} {ids : Nat → ClassId} {tS tE o z : Nat} {σ : Sg}
theorem rno0 (hl0 : l.stackTraces = false) : RQ l yL_ground wsL_ground ({ frames := 8, cells := 6, slots := 36, locals := 150 } : Room) G ids tS tE o z [.ref (o), .int (nI 25), .int (nI 0), .int (nI 0), .int (nI 0), .int (nI 0), .int (nI 0)] σ (lK 1) 6 36 :=
  RQ.no (fun τ v => lc_ground l hl0 G ids tS tE o z τ (nI 25) (nI 0) (nI 0) (nI 0) (nI 0) (nI 0)) (fun τ v => by
    unfold kx_ground
    rfl) (by decide)
theorem rno1 (hl0 : l.stackTraces = false) : RQ l yL_ground wsL_ground ({ frames := 8, cells := 6, slots := 36, locals := 150 } : Room) G ids tS tE o z [.ref (o), .int (nI 0), .int (nI 5), .int (nI 0), .int (nI 0), .int (nI 0), .int (nI 0)] σ (lK 1) 6 36 :=
  RQ.no (fun τ v => lc_ground l hl0 G ids tS tE o z τ (nI 0) (nI 5) (nI 0) (nI 0) (nI 0) (nI 0)) (fun τ v => by
    unfold kx_ground
    rfl) (by decide)
theorem rno2 (hl0 : l.stackTraces = false) : RQ l yL_ground wsL_ground ({ frames := 8, cells := 6, slots := 36, locals := 150 } : Room) G ids tS tE o z [.ref (o), .int (nI 0), .int (nI 0), .int (nI 10), .int (nI 0), .int (nI 0), .int (nI 0)] σ (lK 2) 6 36 :=
  RQ.no (fun τ v => lc_ground l hl0 G ids tS tE o z τ (nI 0) (nI 0) (nI 10) (nI 0) (nI 0) (nI 0)) (fun τ v => by
    unfold kx_ground
    rfl) (by decide)
theorem rno3 (hl0 : l.stackTraces = false) : RQ l yL_ground wsL_ground ({ frames := 8, cells := 6, slots := 36, locals := 150 } : Room) G ids tS tE o z [.ref (o), .int (nI 0), .int (nI 0), .int (nI 0), .int (-1), .int (nI 0), .int (nI 0)] σ (lK 2) 6 36 :=
  RQ.no (fun τ v => lc_ground l hl0 G ids tS tE o z τ (nI 0) (nI 0) (nI 0) (-1) (nI 0) (nI 0)) (fun τ v => by
    unfold kx_ground
    rfl) (by decide)
theorem rno4 (hl0 : l.stackTraces = false) : RQ l yL_ground wsL_ground ({ frames := 8, cells := 6, slots := 36, locals := 150 } : Room) G ids tS tE o z [.ref (o), .int (nI 0), .int (nI 0), .int (nI 0), .int (nI 0), .int (nI 30001), .int (nI 0)] σ (lK 2) 6 36 :=
  RQ.no (fun τ v => lc_ground l hl0 G ids tS tE o z τ (nI 0) (nI 0) (nI 0) (nI 0) (nI 30001) (nI 0)) (fun τ v => by
    unfold kx_ground
    rfl) (by decide)
theorem rno5 (hl0 : l.stackTraces = false) : RQ l yL_ground wsL_ground ({ frames := 8, cells := 6, slots := 36, locals := 150 } : Room) G ids tS tE o z [.ref (o), .int (nI 0), .int (nI 0), .int (nI 0), .int (nI 0), .int (nI 0), .int (nI 1001)] σ (lK 2) 6 36 :=
  RQ.no (fun τ v => lc_ground l hl0 G ids tS tE o z τ (nI 0) (nI 0) (nI 0) (nI 0) (nI 0) (nI 1001)) (fun τ v => by
    unfold kx_ground
    rfl) (by decide)
theorem rno6 (hl0 : l.stackTraces = false) : RQ l yL_moss wsL_moss ({ frames := 8, cells := 2, slots := 12, locals := 145 } : Room) G ids tS tE o z [.ref (o), .int (-1), .int (nI 0)] σ (lK 1) 2 12 :=
  RQ.no (fun τ v => lc_moss l hl0 G ids tS tE o z τ (-1) (nI 0)) (fun τ v => by
    unfold kx_moss
    rfl) (by decide)
theorem rno7 (hl0 : l.stackTraces = false) : RQ l yL_moss wsL_moss ({ frames := 8, cells := 2, slots := 12, locals := 145 } : Room) G ids tS tE o z [.ref (o), .int (nI 0), .int (nI 4)] σ (lK 2) 2 12 :=
  RQ.no (fun τ v => lc_moss l hl0 G ids tS tE o z τ (nI 0) (nI 4)) (fun τ v => by
    unfold kx_moss
    rfl) (by decide)
theorem rno8 (hl0 : l.stackTraces = false) (h : IV σ) : RQ l yL_pass wsL_pass ({ frames := 8, cells := 4, slots := 24, locals := 154 } : Room) G ids tS tE o z [.ref (o), .int (nI 25), .int (nI 0), .int (nI 0)] σ (lK 2) 4 24 :=
  RQ.no (fun τ v => lc_pass l hl0 G ids tS tE o z τ (nI 25) (nI 0) (nI 0) (v.iv h).ok.1 (v.iv h).ok.2.1) (fun τ v => by
    unfold kx_pass
    rfl) (by decide)
theorem rno9 (hl0 : l.stackTraces = false) (h : IV σ) : RQ l yL_pass wsL_pass ({ frames := 8, cells := 4, slots := 24, locals := 154 } : Room) G ids tS tE o z [.ref (o), .int (nI 1), .int (nI 31), .int (nI 0)] σ (lK 2) 4 24 :=
  RQ.no (fun τ v => lc_pass l hl0 G ids tS tE o z τ (nI 1) (nI 31) (nI 0) (v.iv h).ok.1 (v.iv h).ok.2.1) (fun τ v => by
    unfold kx_pass
    rfl) (by decide)
theorem rno10 (hl0 : l.stackTraces = false) (h : IV σ) : RQ l yL_pass wsL_pass ({ frames := 8, cells := 4, slots := 24, locals := 154 } : Room) G ids tS tE o z [.ref (o), .int (nI 1), .int (nI 0), .int (nI 10)] σ (lK 2) 4 24 :=
  RQ.no (fun τ v => lc_pass l hl0 G ids tS tE o z τ (nI 1) (nI 0) (nI 10) (v.iv h).ok.1 (v.iv h).ok.2.1) (fun τ v => by
    unfold kx_pass
    rfl) (by decide)
theorem rno11 (hl0 : l.stackTraces = false) : RQ l yL_fire wsL_fire ({ frames := 8, cells := 2, slots := 12, locals := 145 } : Room) G ids tS tE o z [.ref (o), .int (nI 25)] σ (lK 1) 2 12 :=
  RQ.no (fun τ v => lc_fire l hl0 G ids tS tE o z τ (nI 25)) (fun τ v => by
    unfold kx_fire
    rfl) (by decide)
theorem rno12 (hl0 : l.stackTraces = false) : RQ l yL_breach wsL_breach ({ frames := 8, cells := 2, slots := 12, locals := 146 } : Room) G ids tS tE o z [.ref (o), .int (-1)] σ (lK 1) 2 12 :=
  RQ.no (fun τ v => lc_breach l hl0 G ids tS tE o z τ (-1)) (fun τ v => by
    unfold kx_breach
    rfl) (by decide)
theorem rno13 (hl0 : l.stackTraces = false) (h : IV σ) : RQ l yL_house wsL_house ({ frames := 9, cells := 5, slots := 83, locals := 185 } : Room) G ids tS tE o z [.ref (o), .int (nI 25), .int (nI 1), .int (nI 1)] σ (lK 1) 5 83 :=
  RQ.no (fun τ v => lc_house l hl0 G ids tS tE o z τ (nI 25) (nI 1) (nI 1) (v.iv h).ok.1 (v.iv h).ok.2.2 (Or.inr rfl)) (fun τ v => by
    unfold kx_house
    rfl) (by decide)
theorem rno14 (hl0 : l.stackTraces = false) (h : IV σ) : RQ l yL_house wsL_house ({ frames := 9, cells := 5, slots := 83, locals := 185 } : Room) G ids tS tE o z [.ref (o), .int (nI 0), .int (nI 0), .int (nI 1)] σ (lK 1) 5 83 :=
  RQ.no (fun τ v => lc_house l hl0 G ids tS tE o z τ (nI 0) (nI 0) (nI 1) (v.iv h).ok.1 (v.iv h).ok.2.2 (Or.inr rfl)) (fun τ v => by
    unfold kx_house
    rfl) (by decide)
theorem rno15 (hl0 : l.stackTraces = false) (h : IV σ) : RQ l yL_borehole wsL_borehole ({ frames := 9, cells := 6, slots := 3083, locals := 183 } : Room) G ids tS tE o z [.ref (o), .int (nI 25), .int (nI 0)] σ (lK 1) 6 3083 :=
  RQ.no (fun τ v => lc_borehole l hl0 G ids tS tE o z τ (nI 25) (nI 0) (v.iv h).ok.1) (fun τ v => by
    unfold kx_borehole
    rfl) (by decide)
theorem rno16 (hl0 : l.stackTraces = false) (h : IV σ) : RQ l yL_borehole wsL_borehole ({ frames := 9, cells := 6, slots := 3083, locals := 183 } : Room) G ids tS tE o z [.ref (o), .int (nI 0), .int (nI 13)] σ (lK 2) 6 3083 :=
  RQ.no (fun τ v => lc_borehole l hl0 G ids tS tE o z τ (nI 0) (nI 13) (v.iv h).ok.1) (fun τ v => by
    unfold kx_borehole
    rfl) (by decide)
theorem rno17 (hl0 : l.stackTraces = false) : RQ l yL_cellOf wsL_cellOf ({ frames := 8, cells := 2, slots := 12, locals := 145 } : Room) G ids tS tE o z [.ref (o), .int (nI 0), .int (nI 8)] σ (lK 2) 2 12 :=
  RQ.no (fun τ v => lc_cellOf l hl0 G ids tS tE o z τ (nI 0) (nI 8)) (fun τ v => by
    unfold kx_cellOf
    rfl) (by decide)
theorem rno18 (hl0 : l.stackTraces = false) : RQ l yL_layerOf wsL_layerOf ({ frames := 8, cells := 3, slots := 18, locals := 146 } : Room) G ids tS tE o z [.ref (o), .int (nI 0), .int (-1), .int (nI 0)] σ (lK 1) 3 18 :=
  RQ.no (fun τ v => lc_layerOf l hl0 G ids tS tE o z τ (nI 0) (-1) (nI 0)) (fun τ v => by
    unfold kx_layerOf
    rfl) (by decide)
theorem rno19 (hl0 : l.stackTraces = false) : RQ l yL_layerOf wsL_layerOf ({ frames := 8, cells := 3, slots := 18, locals := 146 } : Room) G ids tS tE o z [.ref (o), .int (nI 0), .int (nI 0), .int (nI 6)] σ (lK 2) 3 18 :=
  RQ.no (fun τ v => lc_layerOf l hl0 G ids tS tE o z τ (nI 0) (nI 0) (nI 6)) (fun τ v => by
    unfold kx_layerOf
    rfl) (by decide)
theorem rno20 (hl0 : l.stackTraces = false) : RQ l yL_neighbour wsL_neighbour ({ frames := 8, cells := 2, slots := 12, locals := 146 } : Room) G ids tS tE o z [.ref (o), .int (nI 0), .int (-1)] σ (lK 1) 2 12 :=
  RQ.no (fun τ v => lc_neighbour l hl0 G ids tS tE o z τ (nI 0) (-1)) (fun τ v => by
    unfold kx_neighbour
    rfl) (by decide)
theorem rno21 (hl0 : l.stackTraces = false) : RQ l yL_balance wsL_balance ({ frames := 8, cells := 2, slots := 12, locals := 144 } : Room) G ids tS tE o z [.ref (o), .int (nI 3), .int (nI 0)] σ (lK 2) 2 12 :=
  RQ.no (fun τ v => lc_balance l hl0 G ids tS tE o z τ (nI 3) (nI 0)) (fun τ v => by
    unfold kx_balance
    rfl) (by decide)
theorem rno22 (hl0 : l.stackTraces = false) : RQ l yL_balance wsL_balance ({ frames := 8, cells := 2, slots := 12, locals := 144 } : Room) G ids tS tE o z [.ref (o), .int (nI 0), .int (nI 4)] σ (lK 2) 2 12 :=
  RQ.no (fun τ v => lc_balance l hl0 G ids tS tE o z τ (nI 0) (nI 4)) (fun τ v => by
    unfold kx_balance
    rfl) (by decide)
theorem rno23 (hl0 : l.stackTraces = false) : RQ l yL_air wsL_air ({ frames := 8, cells := 1, slots := 6, locals := 143 } : Room) G ids tS tE o z [.ref (o), .int (nI 2)] σ (lK 2) 1 6 :=
  RQ.no (fun τ v => lc_air l hl0 G ids tS tE o z τ (nI 2)) (fun τ v => by
    unfold kx_air
    rfl) (by decide)
theorem rno_claim (hl0 : l.stackTraces = false) (h : IV σ) : RQ l yL_claim wsL_claim ({ frames := 9, cells := 4, slots := 76, locals := 183 } : Room) G ids tS tE o z [.ref (o), .int (nI 10)] σ (lK 1) 4 76 :=
  RQ.no (fun τ v => lc_claim l hl0 G ids tS tE o z τ (nI 10) (v.iv h).ok.1) (fun τ v => by
    have hi := v.iv h
    simp only [kx_claim, hi.n0.1, ix_1 (n := cpN τ 0) (c := 10) (by decide) (by have := hi.n0.2; omega) hi.n0.2, xs_1]) (by decide)
end RNO
