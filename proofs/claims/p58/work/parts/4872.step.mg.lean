section MH4_0
/-! ===== fx: a STEP of the TALES ===== -/
section F4872_step
variable {g : Nat → Int32} {tp bt : Int64} {a0 a : Nat → Nat → Int32} {b : Nat → Nat → Int64}
set_option maxRecDepth 20000 in
set_option maxHeartbeats 8000000 in
theorem ts_13 {S E F C W n D K : Nat} (hxp : fm_xp g S E F) (hfl : fm_flt g) (hH : fm_th a0 C W) (hT : fm_TS a0 g a n D K) (hR : fm_TR a n) : fe_R 10 gk_m251 7 [(1, .int 13), (0, .ref 0)] [] (fm g tp bt a b) (fm_FTS a0 g tp bt b S E) := by
  obtain ⟨⟨eD, hD3, eK, hK30, hnK⟩, h8, h9⟩ := hT.2.2.2.2.2
  refine fe_s 3 (pc' := 14) (lc' := [(1, .int 13), (0, .ref 0)]) (stk' := [.int 3374, .ref 1]) (mem' := fm g tp bt a b) (by intro _ _ _; eq_refl) ?_
  refine fe_ldI (by rfl) (by rfl) (fx_inN (i := 3374) (by omega) (by omega)) ?_
  rw [show Int32.toNatClampNeg (3374) = 3374 from rfl]
  rw [hT.2.2.2.2.1]
  refine fe_s 9 (pc' := 28) (lc' := [(3, .int (3846 + (6 * (nI n)))), (2, .int (nI n)), (1, .int 13), (0, .ref 0)]) (stk' := [.int 18, .int 13]) (mem' := fm g tp bt a b) (by intro _ _ _; eq_refl) ?_
  rw [show (3846 + (6 * (nI n)) : Int32) = nI (3846 + (6 * n)) from by simp only [show (3846 : Int32) = nI 3846 from rfl, show (6 : Int32) = nI 6 from rfl, nI_add, fm_mul]]
  refine fe_s 1 (pc' := cond (fx_cb .eq 13 18) 37 31) (lc' := [(3, .int (nI (3846 + (6 * n)))), (2, .int (nI n)), (1, .int 13), (0, .ref 0)]) (stk' := []) (mem' := fm g tp bt a b) (by intro _ _ _; eq_refl) ?_
  rw [show (fx_cb .eq 13 18) = false from by decide]
  dsimp only [cond]
  refine fe_s 2 (pc' := 34) (lc' := [(3, .int (nI (3846 + (6 * n)))), (2, .int (nI n)), (1, .int 13), (0, .ref 0)]) (stk' := [.int 19, .int 13]) (mem' := fm g tp bt a b) (by intro _ _ _; eq_refl) ?_
  refine fe_s 1 (pc' := cond (fx_cb .ne 13 19) 41 37) (lc' := [(3, .int (nI (3846 + (6 * n)))), (2, .int (nI n)), (1, .int 13), (0, .ref 0)]) (stk' := []) (mem' := fm g tp bt a b) (by intro _ _ _; eq_refl) ?_
  rw [show (fx_cb .ne 13 19) = true from by decide]
  dsimp only [cond]
  refine fe_s 4 (pc' := 47) (lc' := [(4, .int 0), (3, .int (nI (3846 + (6 * n)))), (2, .int (nI n)), (1, .int 13), (0, .ref 0)]) (stk' := [.int 11, .int 13]) (mem' := fm g tp bt a b) (by intro _ _ _; eq_refl) ?_
  refine fe_s 1 (pc' := cond (fx_cb .lt 13 11) 81 50) (lc' := [(4, .int 0), (3, .int (nI (3846 + (6 * n)))), (2, .int (nI n)), (1, .int 13), (0, .ref 0)]) (stk' := []) (mem' := fm g tp bt a b) (by intro _ _ _; eq_refl) ?_
  rw [show (fx_cb .lt 13 11) = false from by decide]
  dsimp only [cond]
  refine fe_s 2 (pc' := 53) (lc' := [(4, .int 0), (3, .int (nI (3846 + (6 * n)))), (2, .int (nI n)), (1, .int 13), (0, .ref 0)]) (stk' := [.int 21, .int 13]) (mem' := fm g tp bt a b) (by intro _ _ _; eq_refl) ?_
  refine fe_s 1 (pc' := cond (fx_cb .gt 13 21) 81 56) (lc' := [(4, .int 0), (3, .int (nI (3846 + (6 * n)))), (2, .int (nI n)), (1, .int 13), (0, .ref 0)]) (stk' := []) (mem' := fm g tp bt a b) (by intro _ _ _; eq_refl) ?_
  rw [show (fx_cb .gt 13 21) = false from by decide]
  dsimp only [cond]
  refine fe_s 2 (pc' := 59) (lc' := [(4, .int 0), (3, .int (nI (3846 + (6 * n)))), (2, .int (nI n)), (1, .int 13), (0, .ref 0)]) (stk' := [.int 16, .int 13]) (mem' := fm g tp bt a b) (by intro _ _ _; eq_refl) ?_
  refine fe_s 1 (pc' := cond (fx_cb .eq 13 16) 81 62) (lc' := [(4, .int 0), (3, .int (nI (3846 + (6 * n)))), (2, .int (nI n)), (1, .int 13), (0, .ref 0)]) (stk' := []) (mem' := fm g tp bt a b) (by intro _ _ _; eq_refl) ?_
  rw [show (fx_cb .eq 13 16) = false from by decide]
  dsimp only [cond]
  refine fe_s 2 (pc' := 65) (lc' := [(4, .int 0), (3, .int (nI (3846 + (6 * n)))), (2, .int (nI n)), (1, .int 13), (0, .ref 0)]) (stk' := [.int 17, .int 13]) (mem' := fm g tp bt a b) (by intro _ _ _; eq_refl) ?_
  refine fe_s 1 (pc' := cond (fx_cb .eq 13 17) 81 68) (lc' := [(4, .int 0), (3, .int (nI (3846 + (6 * n)))), (2, .int (nI n)), (1, .int 13), (0, .ref 0)]) (stk' := []) (mem' := fm g tp bt a b) (by intro _ _ _; eq_refl) ?_
  rw [show (fx_cb .eq 13 17) = false from by decide]
  dsimp only [cond]
  refine fe_s 2 (pc' := 71) (lc' := [(4, .int 0), (3, .int (nI (3846 + (6 * n)))), (2, .int (nI n)), (1, .int 13), (0, .ref 0)]) (stk' := [.int 20, .int 13]) (mem' := fm g tp bt a b) (by intro _ _ _; eq_refl) ?_
  refine fe_s 1 (pc' := cond (fx_cb .ne 13 20) 87 74) (lc' := [(4, .int 0), (3, .int (nI (3846 + (6 * n)))), (2, .int (nI n)), (1, .int 13), (0, .ref 0)]) (stk' := []) (mem' := fm g tp bt a b) (by intro _ _ _; eq_refl) ?_
  rw [show (fx_cb .ne 13 20) = true from by decide]
  dsimp only [cond]
  refine fe_s 2 (pc' := 90) (lc' := [(4, .int 0), (3, .int (nI (3846 + (6 * n)))), (2, .int (nI n)), (1, .int 13), (0, .ref 0)]) (stk' := [.int 20, .int 13]) (mem' := fm g tp bt a b) (by intro _ _ _; eq_refl) ?_
  refine fe_s 1 (pc' := cond (fx_cb .eq 13 20) 109 93) (lc' := [(4, .int 0), (3, .int (nI (3846 + (6 * n)))), (2, .int (nI n)), (1, .int 13), (0, .ref 0)]) (stk' := []) (mem' := fm g tp bt a b) (by intro _ _ _; eq_refl) ?_
  rw [show (fx_cb .eq 13 20) = false from by decide]
  dsimp only [cond]
  refine fe_s 3 (pc' := 99) (lc' := [(4, .int 0), (3, .int (nI (3846 + (6 * n)))), (2, .int (nI n)), (1, .int 13), (0, .ref 0)]) (stk' := [.int 30, .int (g 23)]) (mem' := fm g tp bt a b) (by intro _ _ _; eq_refl) ?_
  try rw [eK]
  refine fe_s 1 (pc' := cond (fx_cb .ne (nI K) 30) 109 102) (lc' := [(4, .int 0), (3, .int (nI (3846 + (6 * n)))), (2, .int (nI n)), (1, .int 13), (0, .ref 0)]) (stk' := []) (mem' := fm g tp bt a b) (by intro _ _ _; eq_refl) ?_
  by_cases h1 : K = 30
  · rw [show (fx_cb .ne (nI K) 30) = false from cb_neF (a := K) (b := 30) (by omega) (by omega) (by omega)]
    dsimp only [cond]
    refine fe_s 2 (pc' := 105) (lc' := [(4, .int 0), (3, .int (nI (3846 + (6 * n)))), (2, .int (nI n)), (1, .int 13), (0, .ref 0)]) (stk' := [.int 6, .ref 0]) (mem' := fm g tp bt a b) (by intro _ _ _; eq_refl) ?_
    obtain ⟨gf2, hfrf2, hof2, hzf2⟩ := fr_failsq (x := 6) (g := g) (tp := tp) (bt := bt) (a := a) (b := b) (by omega) (by omega) (fm_gy_rf hxp hfl).2.1 (fm_gy_rf hxp hfl).2.2.1
    have gof2 := fm_gy_tr (fm_gy_rf hxp hfl) hof2
    have d22f2 : gf2 22 = nI D := by rw [hof2.1 22 (by decide) (by decide) (by decide) (by decide) (by decide) (by decide)]; first | exact eD | rfl
    have d23f2 : gf2 23 = nI K := by rw [hof2.1 23 (by decide) (by decide) (by decide) (by decide) (by decide) (by decide)]; first | exact eK | rfl
    refine fe_ivV hfrf2 (by omega) (by rfl) (by rfl) (by rfl) (by rfl) (by rfl) (by rfl) ?_
    exact fe_ret ⟨_, _, _, _, _, n, D, K, gof2, ⟨hT.1, hT.2.1, hT.2.2.1, hT.2.2.2.1, hT.2.2.2.2.1, ⟨d22f2, hD3, d23f2, hK30, hnK⟩, h8, h9⟩, Or.inl ⟨rfl, hzf2⟩, rfl⟩ (by rfl) (by rfl) (by rfl)
  · rw [show (fx_cb .ne (nI K) 30) = true from cb_neT (a := K) (b := 30) (by omega) (by omega) (by omega)]
    dsimp only [cond]
    refine fe_s 1 (pc' := 111) (lc' := [(4, .int 0), (3, .int (nI (3846 + (6 * n)))), (2, .int (nI n)), (1, .int 13), (0, .ref 0)]) (stk' := [.int 0]) (mem' := fm g tp bt a b) (by intro _ _ _; eq_refl) ?_
    refine fe_s 1 (pc' := cond (fx_cb .eq 0 0) 129 114) (lc' := [(4, .int 0), (3, .int (nI (3846 + (6 * n)))), (2, .int (nI n)), (1, .int 13), (0, .ref 0)]) (stk' := []) (mem' := fm g tp bt a b) (by intro _ _ _; eq_refl) ?_
    rw [show (fx_cb .eq 0 0) = true from by decide]
    dsimp only [cond]
    refine fe_s 5 (pc' := 137) (lc' := [(4, .int 0), (3, .int (nI (3846 + (6 * n)))), (2, .int (nI n)), (1, .int 13), (0, .ref 0)]) (stk' := [.int 20, .int 13, .int (g 23), .ref 0]) (mem' := fm g tp bt a b) (by intro _ _ _; eq_refl) ?_
    try rw [eK]
    refine fe_s 1 (pc' := cond (fx_cb .ne 13 20) 144 140) (lc' := [(4, .int 0), (3, .int (nI (3846 + (6 * n)))), (2, .int (nI n)), (1, .int 13), (0, .ref 0)]) (stk' := [.int (nI K), .ref 0]) (mem' := fm g tp bt a b) (by intro _ _ _; eq_refl) ?_
    rw [show (fx_cb .ne 13 20) = true from by decide]
    dsimp only [cond]
    refine fe_s 7 (pc' := 155) (lc' := [(4, .int 0), (3, .int (nI (3846 + (6 * n)))), (2, .int (nI n)), (1, .int 13), (0, .ref 0)]) (stk' := [.int 13, .int (nI (3846 + (6 * n))), .ref 1]) (mem' := fm (upd g 23 ((nI K) + 1)) tp bt a b) (by intro _ _ _; eq_refl) ?_
    rw [show ((nI K) + 1 : Int32) = nI (K + 1) from by simp only [show (1 : Int32) = nI 1 from rfl, nI_add, fm_mul]]
    have hn60 : n < 60 := by omega
    refine fe_stI (mem' := fm (upd g 23 (nI (K + 1))) tp bt (fm_u a 1 (nI (3846 + (6 * n)) : Int32).toNatClampNeg 13) b) (by rfl) (by rfl) (fx_inN (i := 3846 + (6 * n)) (by omega) (by omega)) fm_si1 ?_
    rw [show Int32.toNatClampNeg (nI (3846 + (6 * n))) = 3846 + (6 * n) from nI_clamp (by omega)]
    refine fe_s 4 (pc' := 163) (lc' := [(5, .int 1), (4, .int 0), (3, .int (nI (3846 + (6 * n)))), (2, .int (nI n)), (1, .int 13), (0, .ref 0)]) (stk' := [.int 6, .int 1]) (mem' := fm (upd g 23 (nI (K + 1))) tp bt (fm_u a 1 (3846 + (6 * n)) 13) b) (by intro _ _ _; eq_refl) ?_
    refine fe_s 1 (pc' := cond (fx_cb .ge 1 6) 182 166) (lc' := [(5, .int 1), (4, .int 0), (3, .int (nI (3846 + (6 * n)))), (2, .int (nI n)), (1, .int 13), (0, .ref 0)]) (stk' := []) (mem' := fm (upd g 23 (nI (K + 1))) tp bt (fm_u a 1 (3846 + (6 * n)) 13) b) (by intro _ _ _; eq_refl) ?_
    rw [show (fx_cb .ge 1 6) = false from by decide]
    dsimp only [cond]
    refine fe_s 6 (pc' := 175) (lc' := [(5, .int 1), (4, .int 0), (3, .int (nI (3846 + (6 * n)))), (2, .int (nI n)), (1, .int 13), (0, .ref 0)]) (stk' := [.int 0, .int ((nI (3846 + (6 * n))) + 1), .ref 1]) (mem' := fm (upd g 23 (nI (K + 1))) tp bt (fm_u a 1 (3846 + (6 * n)) 13) b) (by intro _ _ _; eq_refl) ?_
    rw [show ((nI (3846 + (6 * n))) + 1 : Int32) = nI ((3846 + (6 * n)) + 1) from by simp only [show (1 : Int32) = nI 1 from rfl, nI_add, fm_mul]]
    refine fe_stI (mem' := fm (upd g 23 (nI (K + 1))) tp bt (fm_u (fm_u a 1 (3846 + (6 * n)) 13) 1 (nI ((3846 + (6 * n)) + 1) : Int32).toNatClampNeg 0) b) (by rfl) (by rfl) (fx_inN (i := (3846 + (6 * n)) + 1) (by omega) (by omega)) fm_si1 ?_
    rw [show Int32.toNatClampNeg (nI ((3846 + (6 * n)) + 1)) = (3846 + (6 * n)) + 1 from nI_clamp (by omega)]
    refine fe_s 4 (pc' := 163) (lc' := [(5, .int (1 + 1)), (4, .int 0), (3, .int (nI (3846 + (6 * n)))), (2, .int (nI n)), (1, .int 13), (0, .ref 0)]) (stk' := [.int 6, .int (1 + 1)]) (mem' := fm (upd g 23 (nI (K + 1))) tp bt (fm_u (fm_u a 1 (3846 + (6 * n)) 13) 1 ((3846 + (6 * n)) + 1) 0) b) (by intro _ _ _; eq_refl) ?_
    rw [show (1 + 1 : Int32) = 2 from rfl]
    refine fe_s 1 (pc' := cond (fx_cb .ge 2 6) 182 166) (lc' := [(5, .int 2), (4, .int 0), (3, .int (nI (3846 + (6 * n)))), (2, .int (nI n)), (1, .int 13), (0, .ref 0)]) (stk' := []) (mem' := fm (upd g 23 (nI (K + 1))) tp bt (fm_u (fm_u a 1 (3846 + (6 * n)) 13) 1 ((3846 + (6 * n)) + 1) 0) b) (by intro _ _ _; eq_refl) ?_
    rw [show (fx_cb .ge 2 6) = false from by decide]
    dsimp only [cond]
    refine fe_s 6 (pc' := 175) (lc' := [(5, .int 2), (4, .int 0), (3, .int (nI (3846 + (6 * n)))), (2, .int (nI n)), (1, .int 13), (0, .ref 0)]) (stk' := [.int 0, .int ((nI (3846 + (6 * n))) + 2), .ref 1]) (mem' := fm (upd g 23 (nI (K + 1))) tp bt (fm_u (fm_u a 1 (3846 + (6 * n)) 13) 1 ((3846 + (6 * n)) + 1) 0) b) (by intro _ _ _; eq_refl) ?_
    rw [show ((nI (3846 + (6 * n))) + 2 : Int32) = nI ((3846 + (6 * n)) + 2) from by simp only [show (2 : Int32) = nI 2 from rfl, nI_add, fm_mul]]
    refine fe_stI (mem' := fm (upd g 23 (nI (K + 1))) tp bt (fm_u (fm_u (fm_u a 1 (3846 + (6 * n)) 13) 1 ((3846 + (6 * n)) + 1) 0) 1 (nI ((3846 + (6 * n)) + 2) : Int32).toNatClampNeg 0) b) (by rfl) (by rfl) (fx_inN (i := (3846 + (6 * n)) + 2) (by omega) (by omega)) fm_si1 ?_
    rw [show Int32.toNatClampNeg (nI ((3846 + (6 * n)) + 2)) = (3846 + (6 * n)) + 2 from nI_clamp (by omega)]
    refine fe_s 4 (pc' := 163) (lc' := [(5, .int (2 + 1)), (4, .int 0), (3, .int (nI (3846 + (6 * n)))), (2, .int (nI n)), (1, .int 13), (0, .ref 0)]) (stk' := [.int 6, .int (2 + 1)]) (mem' := fm (upd g 23 (nI (K + 1))) tp bt (fm_u (fm_u (fm_u a 1 (3846 + (6 * n)) 13) 1 ((3846 + (6 * n)) + 1) 0) 1 ((3846 + (6 * n)) + 2) 0) b) (by intro _ _ _; eq_refl) ?_
    rw [show (2 + 1 : Int32) = 3 from rfl]
    refine fe_s 1 (pc' := cond (fx_cb .ge 3 6) 182 166) (lc' := [(5, .int 3), (4, .int 0), (3, .int (nI (3846 + (6 * n)))), (2, .int (nI n)), (1, .int 13), (0, .ref 0)]) (stk' := []) (mem' := fm (upd g 23 (nI (K + 1))) tp bt (fm_u (fm_u (fm_u a 1 (3846 + (6 * n)) 13) 1 ((3846 + (6 * n)) + 1) 0) 1 ((3846 + (6 * n)) + 2) 0) b) (by intro _ _ _; eq_refl) ?_
    rw [show (fx_cb .ge 3 6) = false from by decide]
    dsimp only [cond]
    refine fe_s 6 (pc' := 175) (lc' := [(5, .int 3), (4, .int 0), (3, .int (nI (3846 + (6 * n)))), (2, .int (nI n)), (1, .int 13), (0, .ref 0)]) (stk' := [.int 0, .int ((nI (3846 + (6 * n))) + 3), .ref 1]) (mem' := fm (upd g 23 (nI (K + 1))) tp bt (fm_u (fm_u (fm_u a 1 (3846 + (6 * n)) 13) 1 ((3846 + (6 * n)) + 1) 0) 1 ((3846 + (6 * n)) + 2) 0) b) (by intro _ _ _; eq_refl) ?_
    rw [show ((nI (3846 + (6 * n))) + 3 : Int32) = nI ((3846 + (6 * n)) + 3) from by simp only [show (3 : Int32) = nI 3 from rfl, nI_add, fm_mul]]
    refine fe_stI (mem' := fm (upd g 23 (nI (K + 1))) tp bt (fm_u (fm_u (fm_u (fm_u a 1 (3846 + (6 * n)) 13) 1 ((3846 + (6 * n)) + 1) 0) 1 ((3846 + (6 * n)) + 2) 0) 1 (nI ((3846 + (6 * n)) + 3) : Int32).toNatClampNeg 0) b) (by rfl) (by rfl) (fx_inN (i := (3846 + (6 * n)) + 3) (by omega) (by omega)) fm_si1 ?_
    rw [show Int32.toNatClampNeg (nI ((3846 + (6 * n)) + 3)) = (3846 + (6 * n)) + 3 from nI_clamp (by omega)]
    refine fe_s 4 (pc' := 163) (lc' := [(5, .int (3 + 1)), (4, .int 0), (3, .int (nI (3846 + (6 * n)))), (2, .int (nI n)), (1, .int 13), (0, .ref 0)]) (stk' := [.int 6, .int (3 + 1)]) (mem' := fm (upd g 23 (nI (K + 1))) tp bt (fm_u (fm_u (fm_u (fm_u a 1 (3846 + (6 * n)) 13) 1 ((3846 + (6 * n)) + 1) 0) 1 ((3846 + (6 * n)) + 2) 0) 1 ((3846 + (6 * n)) + 3) 0) b) (by intro _ _ _; eq_refl) ?_
    rw [show (3 + 1 : Int32) = 4 from rfl]
    refine fe_s 1 (pc' := cond (fx_cb .ge 4 6) 182 166) (lc' := [(5, .int 4), (4, .int 0), (3, .int (nI (3846 + (6 * n)))), (2, .int (nI n)), (1, .int 13), (0, .ref 0)]) (stk' := []) (mem' := fm (upd g 23 (nI (K + 1))) tp bt (fm_u (fm_u (fm_u (fm_u a 1 (3846 + (6 * n)) 13) 1 ((3846 + (6 * n)) + 1) 0) 1 ((3846 + (6 * n)) + 2) 0) 1 ((3846 + (6 * n)) + 3) 0) b) (by intro _ _ _; eq_refl) ?_
    rw [show (fx_cb .ge 4 6) = false from by decide]
    dsimp only [cond]
    refine fe_s 6 (pc' := 175) (lc' := [(5, .int 4), (4, .int 0), (3, .int (nI (3846 + (6 * n)))), (2, .int (nI n)), (1, .int 13), (0, .ref 0)]) (stk' := [.int 0, .int ((nI (3846 + (6 * n))) + 4), .ref 1]) (mem' := fm (upd g 23 (nI (K + 1))) tp bt (fm_u (fm_u (fm_u (fm_u a 1 (3846 + (6 * n)) 13) 1 ((3846 + (6 * n)) + 1) 0) 1 ((3846 + (6 * n)) + 2) 0) 1 ((3846 + (6 * n)) + 3) 0) b) (by intro _ _ _; eq_refl) ?_
    rw [show ((nI (3846 + (6 * n))) + 4 : Int32) = nI ((3846 + (6 * n)) + 4) from by simp only [show (4 : Int32) = nI 4 from rfl, nI_add, fm_mul]]
    refine fe_stI (mem' := fm (upd g 23 (nI (K + 1))) tp bt (fm_u (fm_u (fm_u (fm_u (fm_u a 1 (3846 + (6 * n)) 13) 1 ((3846 + (6 * n)) + 1) 0) 1 ((3846 + (6 * n)) + 2) 0) 1 ((3846 + (6 * n)) + 3) 0) 1 (nI ((3846 + (6 * n)) + 4) : Int32).toNatClampNeg 0) b) (by rfl) (by rfl) (fx_inN (i := (3846 + (6 * n)) + 4) (by omega) (by omega)) fm_si1 ?_
    rw [show Int32.toNatClampNeg (nI ((3846 + (6 * n)) + 4)) = (3846 + (6 * n)) + 4 from nI_clamp (by omega)]
    refine fe_s 4 (pc' := 163) (lc' := [(5, .int (4 + 1)), (4, .int 0), (3, .int (nI (3846 + (6 * n)))), (2, .int (nI n)), (1, .int 13), (0, .ref 0)]) (stk' := [.int 6, .int (4 + 1)]) (mem' := fm (upd g 23 (nI (K + 1))) tp bt (fm_u (fm_u (fm_u (fm_u (fm_u a 1 (3846 + (6 * n)) 13) 1 ((3846 + (6 * n)) + 1) 0) 1 ((3846 + (6 * n)) + 2) 0) 1 ((3846 + (6 * n)) + 3) 0) 1 ((3846 + (6 * n)) + 4) 0) b) (by intro _ _ _; eq_refl) ?_
    rw [show (4 + 1 : Int32) = 5 from rfl]
    refine fe_s 1 (pc' := cond (fx_cb .ge 5 6) 182 166) (lc' := [(5, .int 5), (4, .int 0), (3, .int (nI (3846 + (6 * n)))), (2, .int (nI n)), (1, .int 13), (0, .ref 0)]) (stk' := []) (mem' := fm (upd g 23 (nI (K + 1))) tp bt (fm_u (fm_u (fm_u (fm_u (fm_u a 1 (3846 + (6 * n)) 13) 1 ((3846 + (6 * n)) + 1) 0) 1 ((3846 + (6 * n)) + 2) 0) 1 ((3846 + (6 * n)) + 3) 0) 1 ((3846 + (6 * n)) + 4) 0) b) (by intro _ _ _; eq_refl) ?_
    rw [show (fx_cb .ge 5 6) = false from by decide]
    dsimp only [cond]
    refine fe_s 6 (pc' := 175) (lc' := [(5, .int 5), (4, .int 0), (3, .int (nI (3846 + (6 * n)))), (2, .int (nI n)), (1, .int 13), (0, .ref 0)]) (stk' := [.int 0, .int ((nI (3846 + (6 * n))) + 5), .ref 1]) (mem' := fm (upd g 23 (nI (K + 1))) tp bt (fm_u (fm_u (fm_u (fm_u (fm_u a 1 (3846 + (6 * n)) 13) 1 ((3846 + (6 * n)) + 1) 0) 1 ((3846 + (6 * n)) + 2) 0) 1 ((3846 + (6 * n)) + 3) 0) 1 ((3846 + (6 * n)) + 4) 0) b) (by intro _ _ _; eq_refl) ?_
    rw [show ((nI (3846 + (6 * n))) + 5 : Int32) = nI ((3846 + (6 * n)) + 5) from by simp only [show (5 : Int32) = nI 5 from rfl, nI_add, fm_mul]]
    refine fe_stI (mem' := fm (upd g 23 (nI (K + 1))) tp bt (fm_u (fm_u (fm_u (fm_u (fm_u (fm_u a 1 (3846 + (6 * n)) 13) 1 ((3846 + (6 * n)) + 1) 0) 1 ((3846 + (6 * n)) + 2) 0) 1 ((3846 + (6 * n)) + 3) 0) 1 ((3846 + (6 * n)) + 4) 0) 1 (nI ((3846 + (6 * n)) + 5) : Int32).toNatClampNeg 0) b) (by rfl) (by rfl) (fx_inN (i := (3846 + (6 * n)) + 5) (by omega) (by omega)) fm_si1 ?_
    rw [show Int32.toNatClampNeg (nI ((3846 + (6 * n)) + 5)) = (3846 + (6 * n)) + 5 from nI_clamp (by omega)]
    refine fe_s 4 (pc' := 163) (lc' := [(5, .int (5 + 1)), (4, .int 0), (3, .int (nI (3846 + (6 * n)))), (2, .int (nI n)), (1, .int 13), (0, .ref 0)]) (stk' := [.int 6, .int (5 + 1)]) (mem' := fm (upd g 23 (nI (K + 1))) tp bt (fm_u (fm_u (fm_u (fm_u (fm_u (fm_u a 1 (3846 + (6 * n)) 13) 1 ((3846 + (6 * n)) + 1) 0) 1 ((3846 + (6 * n)) + 2) 0) 1 ((3846 + (6 * n)) + 3) 0) 1 ((3846 + (6 * n)) + 4) 0) 1 ((3846 + (6 * n)) + 5) 0) b) (by intro _ _ _; eq_refl) ?_
    rw [show (5 + 1 : Int32) = 6 from rfl]
    refine fe_s 1 (pc' := cond (fx_cb .ge 6 6) 182 166) (lc' := [(5, .int 6), (4, .int 0), (3, .int (nI (3846 + (6 * n)))), (2, .int (nI n)), (1, .int 13), (0, .ref 0)]) (stk' := []) (mem' := fm (upd g 23 (nI (K + 1))) tp bt (fm_u (fm_u (fm_u (fm_u (fm_u (fm_u a 1 (3846 + (6 * n)) 13) 1 ((3846 + (6 * n)) + 1) 0) 1 ((3846 + (6 * n)) + 2) 0) 1 ((3846 + (6 * n)) + 3) 0) 1 ((3846 + (6 * n)) + 4) 0) 1 ((3846 + (6 * n)) + 5) 0) b) (by intro _ _ _; eq_refl) ?_
    rw [show (fx_cb .ge 6 6) = true from by decide]
    dsimp only [cond]
    refine fe_s 4 (pc' := 190) (lc' := [(5, .int 6), (4, .int 0), (3, .int (nI (3846 + (6 * n)))), (2, .int (nI n)), (1, .int 13), (0, .ref 0)]) (stk' := [.int 3374, .ref 1, .int 3374, .ref 1]) (mem' := fm (upd g 23 (nI (K + 1))) tp bt (fm_u (fm_u (fm_u (fm_u (fm_u (fm_u a 1 (3846 + (6 * n)) 13) 1 ((3846 + (6 * n)) + 1) 0) 1 ((3846 + (6 * n)) + 2) 0) 1 ((3846 + (6 * n)) + 3) 0) 1 ((3846 + (6 * n)) + 4) 0) 1 ((3846 + (6 * n)) + 5) 0) b) (by intro _ _ _; eq_refl) ?_
    refine fe_ldI (by rfl) (by rfl) (fx_inN (i := 3374) (by omega) (by omega)) ?_
    rw [show Int32.toNatClampNeg (3374) = 3374 from rfl]
    rw [show (fm_u (fm_u (fm_u (fm_u (fm_u (fm_u a 1 (3846 + (6 * n)) 13) 1 ((3846 + (6 * n)) + 1) 0) 1 ((3846 + (6 * n)) + 2) 0) 1 ((3846 + (6 * n)) + 3) 0) 1 ((3846 + (6 * n)) + 4) 0) 1 ((3846 + (6 * n)) + 5) 0) 1 3374 = nI n from by rw [fm_u1, if_neg (by omega), fm_u1, if_neg (by omega), fm_u1, if_neg (by omega), fm_u1, if_neg (by omega), fm_u1, if_neg (by omega), fm_u1, if_neg (by omega)]; exact hT.2.2.2.2.1]
    refine fe_s 2 (pc' := 193) (lc' := [(5, .int 6), (4, .int 0), (3, .int (nI (3846 + (6 * n)))), (2, .int (nI n)), (1, .int 13), (0, .ref 0)]) (stk' := [.int ((nI n) + 1), .int 3374, .ref 1]) (mem' := fm (upd g 23 (nI (K + 1))) tp bt (fm_u (fm_u (fm_u (fm_u (fm_u (fm_u a 1 (3846 + (6 * n)) 13) 1 ((3846 + (6 * n)) + 1) 0) 1 ((3846 + (6 * n)) + 2) 0) 1 ((3846 + (6 * n)) + 3) 0) 1 ((3846 + (6 * n)) + 4) 0) 1 ((3846 + (6 * n)) + 5) 0) b) (by intro _ _ _; eq_refl) ?_
    rw [show ((nI n) + 1 : Int32) = nI (n + 1) from by simp only [show (1 : Int32) = nI 1 from rfl, nI_add, fm_mul]]
    refine fe_stI (mem' := fm (upd g 23 (nI (K + 1))) tp bt (fm_u (fm_u (fm_u (fm_u (fm_u (fm_u (fm_u a 1 (3846 + (6 * n)) 13) 1 ((3846 + (6 * n)) + 1) 0) 1 ((3846 + (6 * n)) + 2) 0) 1 ((3846 + (6 * n)) + 3) 0) 1 ((3846 + (6 * n)) + 4) 0) 1 ((3846 + (6 * n)) + 5) 0) 1 (3374 : Int32).toNatClampNeg (nI (n + 1))) b) (by rfl) (by rfl) (fx_inN (i := 3374) (by omega) (by omega)) fm_si1 ?_
    rw [show Int32.toNatClampNeg (3374) = 3374 from rfl]
    obtain ⟨at9, hat9⟩ : ∃ z, z = fm_row a n (3846 + 6 * n) 13 := ⟨_, rfl⟩
    rw [show (fm_u (fm_u (fm_u (fm_u (fm_u (fm_u (fm_u a 1 (3846 + (6 * n)) 13) 1 ((3846 + (6 * n)) + 1) 0) 1 ((3846 + (6 * n)) + 2) 0) 1 ((3846 + (6 * n)) + 3) 0) 1 ((3846 + (6 * n)) + 4) 0) 1 ((3846 + (6 * n)) + 5) 0) 1 (3374) (nI (n + 1))) = at9 from hat9.symm]
    have hCt9 : fm_TC a0 at9 n 13 0 := by rw [hat9]; exact fm_TC_new hT hR hn60 (by decide) (by decide)
    have h8t9 : at9 8 = a 8 := (congrFun hat9 8).trans (fm_row_t (by decide))
    refine fe_s 1 (pc' := 195) (lc' := [(5, .int 6), (4, .int 0), (3, .int (nI (3846 + (6 * n)))), (2, .int (nI n)), (1, .int 13), (0, .ref 0)]) (stk' := [.ref 0]) (mem' := fm (upd g 23 (nI (K + 1))) tp bt at9 b) (by intro _ _ _; eq_refl) ?_
    obtain ⟨gk10, Ek10, Fk10, hfrk10, hok10, hek10, hpk10⟩ := fr_aheadq (g := (upd g 23 (nI (K + 1)))) (tp := tp) (bt := bt) (a := at9) (b := b) (fm_gy_up (fm_gy_rf hxp hfl) (by decide)).2.1 (fm_gy_up (fm_gy_rf hxp hfl) (by decide)).2.2.1
    have gok10 := fm_gy_tr (fm_gy_up (fm_gy_rf hxp hfl) (by decide)) hok10
    have e18k10 : gk10 18 = g 18 := hek10.trans ((pk_un (by decide)).trans rfl)
    have prk10 : gk10 12 = 0 ∨ E < Ek10 := hpk10.imp id (fun z => by have := (fm_gy_rf hxp hfl).2.2.2; omega)
    have d22k10 : gk10 22 = nI D := by rw [hok10.1 22 (by decide) (by decide) (by decide) (by decide) (by decide) (by decide)]; first | exact eD | rfl
    have d23k10 : gk10 23 = nI (K + 1) := by rw [hok10.1 23 (by decide) (by decide) (by decide) (by decide) (by decide) (by decide)]; first | exact rfl | rfl
    refine fe_ivV hfrk10 (by omega) (by rfl) (by rfl) (by rfl) (by rfl) (by rfl) (by rfl) ?_
    refine fe_s 3 (pc' := 201) (lc' := [(5, .int 6), (4, .int 0), (3, .int (nI (3846 + (6 * n)))), (2, .int (nI n)), (1, .int 13), (0, .ref 0)]) (stk' := [.int (nI (3846 + (6 * n))), .int 13, .ref 0]) (mem' := fm gk10 tp bt at9 b) (by intro _ _ _; eq_refl) ?_
    obtain ⟨vp11, memp11, ⟨xp11, gp11, Ep11, Fp11, ap11, Xp11, Yp11, hop11, hCp11, h8p11, hvp11, hRp11⟩, hfrp11⟩ := fr_taleOrder13 (g := gk10) (tp := tp) (bt := bt) (a := at9) (b := b) (a0 := a0) gok10.2.1 gok10.2.2.1 hH hCt9
    cases hRp11
    have h9p11 : ap11 8 = a 8 := h8p11.trans h8t9
    have gop11 := fm_gy_tr gok10 hop11
    have d22p11 : gp11 22 = nI D := by rw [hop11.1 22 (by decide) (by decide) (by decide) (by decide) (by decide) (by decide)]; first | exact d22k10 | rfl
    have d23p11 : gp11 23 = nI (K + 1) := by rw [hop11.1 23 (by decide) (by decide) (by decide) (by decide) (by decide) (by decide)]; first | exact d23k10 | rfl
    refine fe_ivV hfrp11 (by omega) (by rfl) (by rfl) (by rfl) (by rfl) (by rfl) (by rfl) ?_
    rcases hvp11 with ⟨rfl, hzp11⟩ | ⟨rfl, hep11, hrop11⟩
    · refine fe_s 1 (pc' := cond (fx_cb .ne 0 0) 209 207) (lc' := [(5, .int 6), (4, .int 0), (3, .int (nI (3846 + (6 * n)))), (2, .int (nI n)), (1, .int 13), (0, .ref 0)]) (stk' := []) (mem' := fm gp11 tp bt ap11 b) (by intro _ _ _; eq_refl) ?_
      rw [show (fx_cb .ne 0 0) = false from by decide]
      dsimp only [cond]
      refine fe_s 1 (pc' := 208) (lc' := [(5, .int 6), (4, .int 0), (3, .int (nI (3846 + (6 * n)))), (2, .int (nI n)), (1, .int 13), (0, .ref 0)]) (stk' := [.int 0]) (mem' := fm gp11 tp bt ap11 b) (by intro _ _ _; eq_refl) ?_
      exact fe_ret ⟨_, _, _, _, _, n + 1, D, (K + 1), gop11, fm_TS_of hCp11 ⟨d22p11, by omega, d23p11, by omega, by omega⟩ (fun d hd => by rw [h9p11]; obtain ⟨q, q1, q2⟩ := h8 d (by omega); exact ⟨q, by omega, q2⟩) (fun d hd => by rw [h9p11]; exact h9 d hd), Or.inl ⟨rfl, hzp11⟩, rfl⟩ (by rfl) (by rfl) (by rfl)
    · have e18p11 : gp11 18 = g 18 := hep11.trans e18k10
      refine fe_s 1 (pc' := cond (fx_cb .ne 1 0) 209 207) (lc' := [(5, .int 6), (4, .int 0), (3, .int (nI (3846 + (6 * n)))), (2, .int (nI n)), (1, .int 13), (0, .ref 0)]) (stk' := []) (mem' := fm gp11 tp bt ap11 b) (by intro _ _ _; eq_refl) ?_
      rw [show (fx_cb .ne 1 0) = true from by decide]
      dsimp only [cond]
      refine fe_s 1 (pc' := 211) (lc' := [(5, .int 6), (4, .int 0), (3, .int (nI (3846 + (6 * n)))), (2, .int (nI n)), (1, .int 13), (0, .ref 0)]) (stk' := [.int 0]) (mem' := fm gp11 tp bt ap11 b) (by intro _ _ _; eq_refl) ?_
      refine fe_s 1 (pc' := cond (fx_cb .eq 0 0) 234 214) (lc' := [(5, .int 6), (4, .int 0), (3, .int (nI (3846 + (6 * n)))), (2, .int (nI n)), (1, .int 13), (0, .ref 0)]) (stk' := []) (mem' := fm gp11 tp bt ap11 b) (by intro _ _ _; eq_refl) ?_
      rw [show (fx_cb .eq 0 0) = true from by decide]
      dsimp only [cond]
      refine fe_s 2 (pc' := 237) (lc' := [(5, .int 6), (4, .int 0), (3, .int (nI (3846 + (6 * n)))), (2, .int (nI n)), (1, .int 13), (0, .ref 0)]) (stk' := [.int 20, .int 13]) (mem' := fm gp11 tp bt ap11 b) (by intro _ _ _; eq_refl) ?_
      refine fe_s 1 (pc' := cond (fx_cb .ne 13 20) 291 240) (lc' := [(5, .int 6), (4, .int 0), (3, .int (nI (3846 + (6 * n)))), (2, .int (nI n)), (1, .int 13), (0, .ref 0)]) (stk' := []) (mem' := fm gp11 tp bt ap11 b) (by intro _ _ _; eq_refl) ?_
      rw [show (fx_cb .ne 13 20) = true from by decide]
      dsimp only [cond]
      refine fe_s 2 (pc' := 294) (lc' := [(5, .int 6), (4, .int 0), (3, .int (nI (3846 + (6 * n)))), (2, .int (nI n)), (1, .int 13), (0, .ref 0)]) (stk' := [.int 59, .ref 0]) (mem' := fm gp11 tp bt ap11 b) (by intro _ _ _; eq_refl) ?_
      obtain ⟨xc12, gc12, Ec12, Fc12, hfrc12, hoc12, hvc12⟩ := fr_wantSignq (c := 59) (g := gp11) (tp := tp) (bt := bt) (a := ap11) (b := b) gop11.2.1 gop11.2.2.1
      have goc12 := fm_gy_tr gop11 hoc12
      have d22c12 : gc12 22 = nI D := by rw [hoc12.1 22 (by decide) (by decide) (by decide) (by decide) (by decide) (by decide)]; first | exact d22p11 | rfl
      have d23c12 : gc12 23 = nI (K + 1) := by rw [hoc12.1 23 (by decide) (by decide) (by decide) (by decide) (by decide) (by decide)]; first | exact d23p11 | rfl
      refine fe_ivV hfrc12 (by omega) (by rfl) (by rfl) (by rfl) (by rfl) (by rfl) (by rfl) ?_
      rcases hvc12 with ⟨rfl, hzc12⟩ | ⟨rfl, hec12, hpc12⟩
      · exact fe_ret ⟨_, _, _, _, _, n + 1, D, (K + 1), goc12, fm_TS_of hCp11 ⟨d22c12, by omega, d23c12, by omega, by omega⟩ (fun d hd => by rw [h9p11]; obtain ⟨q, q1, q2⟩ := h8 d (by omega); exact ⟨q, by omega, q2⟩) (fun d hd => by rw [h9p11]; exact h9 d hd), Or.inl ⟨rfl, hzc12⟩, rfl⟩ (by rfl) (by rfl) (by rfl)
      · have e18c12 : gc12 18 = g 18 := hec12.trans e18p11
        have prc12 : gc12 12 = 0 ∨ E < Ec12 := hpc12.imp id (fun z => by have := gop11.2.2.2; omega)
        exact fe_ret ⟨_, _, _, _, _, n + 1, D, (K + 1), goc12, fm_TS_of hCp11 ⟨d22c12, by omega, d23c12, by omega, by omega⟩ (fun d hd => by rw [h9p11]; obtain ⟨q, q1, q2⟩ := h8 d (by omega); exact ⟨q, by omega, q2⟩) (fun d hd => by rw [h9p11]; exact h9 d hd), Or.inr ⟨rfl, e18c12, prc12, fm_TR_of hCp11 hrop11⟩, rfl⟩ (by rfl) (by rfl) (by rfl)
set_option maxRecDepth 20000 in
set_option maxHeartbeats 8000000 in
theorem ts_14 {S E F C W n D K : Nat} (hxp : fm_xp g S E F) (hfl : fm_flt g) (hH : fm_th a0 C W) (hT : fm_TS a0 g a n D K) (hR : fm_TR a n) : fe_R 10 gk_m251 7 [(1, .int 14), (0, .ref 0)] [] (fm g tp bt a b) (fm_FTS a0 g tp bt b S E) := by
  obtain ⟨⟨eD, hD3, eK, hK30, hnK⟩, h8, h9⟩ := hT.2.2.2.2.2
  refine fe_s 3 (pc' := 14) (lc' := [(1, .int 14), (0, .ref 0)]) (stk' := [.int 3374, .ref 1]) (mem' := fm g tp bt a b) (by intro _ _ _; eq_refl) ?_
  refine fe_ldI (by rfl) (by rfl) (fx_inN (i := 3374) (by omega) (by omega)) ?_
  rw [show Int32.toNatClampNeg (3374) = 3374 from rfl]
  rw [hT.2.2.2.2.1]
  refine fe_s 9 (pc' := 28) (lc' := [(3, .int (3846 + (6 * (nI n)))), (2, .int (nI n)), (1, .int 14), (0, .ref 0)]) (stk' := [.int 18, .int 14]) (mem' := fm g tp bt a b) (by intro _ _ _; eq_refl) ?_
  rw [show (3846 + (6 * (nI n)) : Int32) = nI (3846 + (6 * n)) from by simp only [show (3846 : Int32) = nI 3846 from rfl, show (6 : Int32) = nI 6 from rfl, nI_add, fm_mul]]
  refine fe_s 1 (pc' := cond (fx_cb .eq 14 18) 37 31) (lc' := [(3, .int (nI (3846 + (6 * n)))), (2, .int (nI n)), (1, .int 14), (0, .ref 0)]) (stk' := []) (mem' := fm g tp bt a b) (by intro _ _ _; eq_refl) ?_
  rw [show (fx_cb .eq 14 18) = false from by decide]
  dsimp only [cond]
  refine fe_s 2 (pc' := 34) (lc' := [(3, .int (nI (3846 + (6 * n)))), (2, .int (nI n)), (1, .int 14), (0, .ref 0)]) (stk' := [.int 19, .int 14]) (mem' := fm g tp bt a b) (by intro _ _ _; eq_refl) ?_
  refine fe_s 1 (pc' := cond (fx_cb .ne 14 19) 41 37) (lc' := [(3, .int (nI (3846 + (6 * n)))), (2, .int (nI n)), (1, .int 14), (0, .ref 0)]) (stk' := []) (mem' := fm g tp bt a b) (by intro _ _ _; eq_refl) ?_
  rw [show (fx_cb .ne 14 19) = true from by decide]
  dsimp only [cond]
  refine fe_s 4 (pc' := 47) (lc' := [(4, .int 0), (3, .int (nI (3846 + (6 * n)))), (2, .int (nI n)), (1, .int 14), (0, .ref 0)]) (stk' := [.int 11, .int 14]) (mem' := fm g tp bt a b) (by intro _ _ _; eq_refl) ?_
  refine fe_s 1 (pc' := cond (fx_cb .lt 14 11) 81 50) (lc' := [(4, .int 0), (3, .int (nI (3846 + (6 * n)))), (2, .int (nI n)), (1, .int 14), (0, .ref 0)]) (stk' := []) (mem' := fm g tp bt a b) (by intro _ _ _; eq_refl) ?_
  rw [show (fx_cb .lt 14 11) = false from by decide]
  dsimp only [cond]
  refine fe_s 2 (pc' := 53) (lc' := [(4, .int 0), (3, .int (nI (3846 + (6 * n)))), (2, .int (nI n)), (1, .int 14), (0, .ref 0)]) (stk' := [.int 21, .int 14]) (mem' := fm g tp bt a b) (by intro _ _ _; eq_refl) ?_
  refine fe_s 1 (pc' := cond (fx_cb .gt 14 21) 81 56) (lc' := [(4, .int 0), (3, .int (nI (3846 + (6 * n)))), (2, .int (nI n)), (1, .int 14), (0, .ref 0)]) (stk' := []) (mem' := fm g tp bt a b) (by intro _ _ _; eq_refl) ?_
  rw [show (fx_cb .gt 14 21) = false from by decide]
  dsimp only [cond]
  refine fe_s 2 (pc' := 59) (lc' := [(4, .int 0), (3, .int (nI (3846 + (6 * n)))), (2, .int (nI n)), (1, .int 14), (0, .ref 0)]) (stk' := [.int 16, .int 14]) (mem' := fm g tp bt a b) (by intro _ _ _; eq_refl) ?_
  refine fe_s 1 (pc' := cond (fx_cb .eq 14 16) 81 62) (lc' := [(4, .int 0), (3, .int (nI (3846 + (6 * n)))), (2, .int (nI n)), (1, .int 14), (0, .ref 0)]) (stk' := []) (mem' := fm g tp bt a b) (by intro _ _ _; eq_refl) ?_
  rw [show (fx_cb .eq 14 16) = false from by decide]
  dsimp only [cond]
  refine fe_s 2 (pc' := 65) (lc' := [(4, .int 0), (3, .int (nI (3846 + (6 * n)))), (2, .int (nI n)), (1, .int 14), (0, .ref 0)]) (stk' := [.int 17, .int 14]) (mem' := fm g tp bt a b) (by intro _ _ _; eq_refl) ?_
  refine fe_s 1 (pc' := cond (fx_cb .eq 14 17) 81 68) (lc' := [(4, .int 0), (3, .int (nI (3846 + (6 * n)))), (2, .int (nI n)), (1, .int 14), (0, .ref 0)]) (stk' := []) (mem' := fm g tp bt a b) (by intro _ _ _; eq_refl) ?_
  rw [show (fx_cb .eq 14 17) = false from by decide]
  dsimp only [cond]
  refine fe_s 2 (pc' := 71) (lc' := [(4, .int 0), (3, .int (nI (3846 + (6 * n)))), (2, .int (nI n)), (1, .int 14), (0, .ref 0)]) (stk' := [.int 20, .int 14]) (mem' := fm g tp bt a b) (by intro _ _ _; eq_refl) ?_
  refine fe_s 1 (pc' := cond (fx_cb .ne 14 20) 87 74) (lc' := [(4, .int 0), (3, .int (nI (3846 + (6 * n)))), (2, .int (nI n)), (1, .int 14), (0, .ref 0)]) (stk' := []) (mem' := fm g tp bt a b) (by intro _ _ _; eq_refl) ?_
  rw [show (fx_cb .ne 14 20) = true from by decide]
  dsimp only [cond]
  refine fe_s 2 (pc' := 90) (lc' := [(4, .int 0), (3, .int (nI (3846 + (6 * n)))), (2, .int (nI n)), (1, .int 14), (0, .ref 0)]) (stk' := [.int 20, .int 14]) (mem' := fm g tp bt a b) (by intro _ _ _; eq_refl) ?_
  refine fe_s 1 (pc' := cond (fx_cb .eq 14 20) 109 93) (lc' := [(4, .int 0), (3, .int (nI (3846 + (6 * n)))), (2, .int (nI n)), (1, .int 14), (0, .ref 0)]) (stk' := []) (mem' := fm g tp bt a b) (by intro _ _ _; eq_refl) ?_
  rw [show (fx_cb .eq 14 20) = false from by decide]
  dsimp only [cond]
  refine fe_s 3 (pc' := 99) (lc' := [(4, .int 0), (3, .int (nI (3846 + (6 * n)))), (2, .int (nI n)), (1, .int 14), (0, .ref 0)]) (stk' := [.int 30, .int (g 23)]) (mem' := fm g tp bt a b) (by intro _ _ _; eq_refl) ?_
  try rw [eK]
  refine fe_s 1 (pc' := cond (fx_cb .ne (nI K) 30) 109 102) (lc' := [(4, .int 0), (3, .int (nI (3846 + (6 * n)))), (2, .int (nI n)), (1, .int 14), (0, .ref 0)]) (stk' := []) (mem' := fm g tp bt a b) (by intro _ _ _; eq_refl) ?_
  by_cases h1 : K = 30
  · rw [show (fx_cb .ne (nI K) 30) = false from cb_neF (a := K) (b := 30) (by omega) (by omega) (by omega)]
    dsimp only [cond]
    refine fe_s 2 (pc' := 105) (lc' := [(4, .int 0), (3, .int (nI (3846 + (6 * n)))), (2, .int (nI n)), (1, .int 14), (0, .ref 0)]) (stk' := [.int 6, .ref 0]) (mem' := fm g tp bt a b) (by intro _ _ _; eq_refl) ?_
    obtain ⟨gf2, hfrf2, hof2, hzf2⟩ := fr_failsq (x := 6) (g := g) (tp := tp) (bt := bt) (a := a) (b := b) (by omega) (by omega) (fm_gy_rf hxp hfl).2.1 (fm_gy_rf hxp hfl).2.2.1
    have gof2 := fm_gy_tr (fm_gy_rf hxp hfl) hof2
    have d22f2 : gf2 22 = nI D := by rw [hof2.1 22 (by decide) (by decide) (by decide) (by decide) (by decide) (by decide)]; first | exact eD | rfl
    have d23f2 : gf2 23 = nI K := by rw [hof2.1 23 (by decide) (by decide) (by decide) (by decide) (by decide) (by decide)]; first | exact eK | rfl
    refine fe_ivV hfrf2 (by omega) (by rfl) (by rfl) (by rfl) (by rfl) (by rfl) (by rfl) ?_
    exact fe_ret ⟨_, _, _, _, _, n, D, K, gof2, ⟨hT.1, hT.2.1, hT.2.2.1, hT.2.2.2.1, hT.2.2.2.2.1, ⟨d22f2, hD3, d23f2, hK30, hnK⟩, h8, h9⟩, Or.inl ⟨rfl, hzf2⟩, rfl⟩ (by rfl) (by rfl) (by rfl)
  · rw [show (fx_cb .ne (nI K) 30) = true from cb_neT (a := K) (b := 30) (by omega) (by omega) (by omega)]
    dsimp only [cond]
    refine fe_s 1 (pc' := 111) (lc' := [(4, .int 0), (3, .int (nI (3846 + (6 * n)))), (2, .int (nI n)), (1, .int 14), (0, .ref 0)]) (stk' := [.int 0]) (mem' := fm g tp bt a b) (by intro _ _ _; eq_refl) ?_
    refine fe_s 1 (pc' := cond (fx_cb .eq 0 0) 129 114) (lc' := [(4, .int 0), (3, .int (nI (3846 + (6 * n)))), (2, .int (nI n)), (1, .int 14), (0, .ref 0)]) (stk' := []) (mem' := fm g tp bt a b) (by intro _ _ _; eq_refl) ?_
    rw [show (fx_cb .eq 0 0) = true from by decide]
    dsimp only [cond]
    refine fe_s 5 (pc' := 137) (lc' := [(4, .int 0), (3, .int (nI (3846 + (6 * n)))), (2, .int (nI n)), (1, .int 14), (0, .ref 0)]) (stk' := [.int 20, .int 14, .int (g 23), .ref 0]) (mem' := fm g tp bt a b) (by intro _ _ _; eq_refl) ?_
    try rw [eK]
    refine fe_s 1 (pc' := cond (fx_cb .ne 14 20) 144 140) (lc' := [(4, .int 0), (3, .int (nI (3846 + (6 * n)))), (2, .int (nI n)), (1, .int 14), (0, .ref 0)]) (stk' := [.int (nI K), .ref 0]) (mem' := fm g tp bt a b) (by intro _ _ _; eq_refl) ?_
    rw [show (fx_cb .ne 14 20) = true from by decide]
    dsimp only [cond]
    refine fe_s 7 (pc' := 155) (lc' := [(4, .int 0), (3, .int (nI (3846 + (6 * n)))), (2, .int (nI n)), (1, .int 14), (0, .ref 0)]) (stk' := [.int 14, .int (nI (3846 + (6 * n))), .ref 1]) (mem' := fm (upd g 23 ((nI K) + 1)) tp bt a b) (by intro _ _ _; eq_refl) ?_
    rw [show ((nI K) + 1 : Int32) = nI (K + 1) from by simp only [show (1 : Int32) = nI 1 from rfl, nI_add, fm_mul]]
    have hn60 : n < 60 := by omega
    refine fe_stI (mem' := fm (upd g 23 (nI (K + 1))) tp bt (fm_u a 1 (nI (3846 + (6 * n)) : Int32).toNatClampNeg 14) b) (by rfl) (by rfl) (fx_inN (i := 3846 + (6 * n)) (by omega) (by omega)) fm_si1 ?_
    rw [show Int32.toNatClampNeg (nI (3846 + (6 * n))) = 3846 + (6 * n) from nI_clamp (by omega)]
    refine fe_s 4 (pc' := 163) (lc' := [(5, .int 1), (4, .int 0), (3, .int (nI (3846 + (6 * n)))), (2, .int (nI n)), (1, .int 14), (0, .ref 0)]) (stk' := [.int 6, .int 1]) (mem' := fm (upd g 23 (nI (K + 1))) tp bt (fm_u a 1 (3846 + (6 * n)) 14) b) (by intro _ _ _; eq_refl) ?_
    refine fe_s 1 (pc' := cond (fx_cb .ge 1 6) 182 166) (lc' := [(5, .int 1), (4, .int 0), (3, .int (nI (3846 + (6 * n)))), (2, .int (nI n)), (1, .int 14), (0, .ref 0)]) (stk' := []) (mem' := fm (upd g 23 (nI (K + 1))) tp bt (fm_u a 1 (3846 + (6 * n)) 14) b) (by intro _ _ _; eq_refl) ?_
    rw [show (fx_cb .ge 1 6) = false from by decide]
    dsimp only [cond]
    refine fe_s 6 (pc' := 175) (lc' := [(5, .int 1), (4, .int 0), (3, .int (nI (3846 + (6 * n)))), (2, .int (nI n)), (1, .int 14), (0, .ref 0)]) (stk' := [.int 0, .int ((nI (3846 + (6 * n))) + 1), .ref 1]) (mem' := fm (upd g 23 (nI (K + 1))) tp bt (fm_u a 1 (3846 + (6 * n)) 14) b) (by intro _ _ _; eq_refl) ?_
    rw [show ((nI (3846 + (6 * n))) + 1 : Int32) = nI ((3846 + (6 * n)) + 1) from by simp only [show (1 : Int32) = nI 1 from rfl, nI_add, fm_mul]]
    refine fe_stI (mem' := fm (upd g 23 (nI (K + 1))) tp bt (fm_u (fm_u a 1 (3846 + (6 * n)) 14) 1 (nI ((3846 + (6 * n)) + 1) : Int32).toNatClampNeg 0) b) (by rfl) (by rfl) (fx_inN (i := (3846 + (6 * n)) + 1) (by omega) (by omega)) fm_si1 ?_
    rw [show Int32.toNatClampNeg (nI ((3846 + (6 * n)) + 1)) = (3846 + (6 * n)) + 1 from nI_clamp (by omega)]
    refine fe_s 4 (pc' := 163) (lc' := [(5, .int (1 + 1)), (4, .int 0), (3, .int (nI (3846 + (6 * n)))), (2, .int (nI n)), (1, .int 14), (0, .ref 0)]) (stk' := [.int 6, .int (1 + 1)]) (mem' := fm (upd g 23 (nI (K + 1))) tp bt (fm_u (fm_u a 1 (3846 + (6 * n)) 14) 1 ((3846 + (6 * n)) + 1) 0) b) (by intro _ _ _; eq_refl) ?_
    rw [show (1 + 1 : Int32) = 2 from rfl]
    refine fe_s 1 (pc' := cond (fx_cb .ge 2 6) 182 166) (lc' := [(5, .int 2), (4, .int 0), (3, .int (nI (3846 + (6 * n)))), (2, .int (nI n)), (1, .int 14), (0, .ref 0)]) (stk' := []) (mem' := fm (upd g 23 (nI (K + 1))) tp bt (fm_u (fm_u a 1 (3846 + (6 * n)) 14) 1 ((3846 + (6 * n)) + 1) 0) b) (by intro _ _ _; eq_refl) ?_
    rw [show (fx_cb .ge 2 6) = false from by decide]
    dsimp only [cond]
    refine fe_s 6 (pc' := 175) (lc' := [(5, .int 2), (4, .int 0), (3, .int (nI (3846 + (6 * n)))), (2, .int (nI n)), (1, .int 14), (0, .ref 0)]) (stk' := [.int 0, .int ((nI (3846 + (6 * n))) + 2), .ref 1]) (mem' := fm (upd g 23 (nI (K + 1))) tp bt (fm_u (fm_u a 1 (3846 + (6 * n)) 14) 1 ((3846 + (6 * n)) + 1) 0) b) (by intro _ _ _; eq_refl) ?_
    rw [show ((nI (3846 + (6 * n))) + 2 : Int32) = nI ((3846 + (6 * n)) + 2) from by simp only [show (2 : Int32) = nI 2 from rfl, nI_add, fm_mul]]
    refine fe_stI (mem' := fm (upd g 23 (nI (K + 1))) tp bt (fm_u (fm_u (fm_u a 1 (3846 + (6 * n)) 14) 1 ((3846 + (6 * n)) + 1) 0) 1 (nI ((3846 + (6 * n)) + 2) : Int32).toNatClampNeg 0) b) (by rfl) (by rfl) (fx_inN (i := (3846 + (6 * n)) + 2) (by omega) (by omega)) fm_si1 ?_
    rw [show Int32.toNatClampNeg (nI ((3846 + (6 * n)) + 2)) = (3846 + (6 * n)) + 2 from nI_clamp (by omega)]
    refine fe_s 4 (pc' := 163) (lc' := [(5, .int (2 + 1)), (4, .int 0), (3, .int (nI (3846 + (6 * n)))), (2, .int (nI n)), (1, .int 14), (0, .ref 0)]) (stk' := [.int 6, .int (2 + 1)]) (mem' := fm (upd g 23 (nI (K + 1))) tp bt (fm_u (fm_u (fm_u a 1 (3846 + (6 * n)) 14) 1 ((3846 + (6 * n)) + 1) 0) 1 ((3846 + (6 * n)) + 2) 0) b) (by intro _ _ _; eq_refl) ?_
    rw [show (2 + 1 : Int32) = 3 from rfl]
    refine fe_s 1 (pc' := cond (fx_cb .ge 3 6) 182 166) (lc' := [(5, .int 3), (4, .int 0), (3, .int (nI (3846 + (6 * n)))), (2, .int (nI n)), (1, .int 14), (0, .ref 0)]) (stk' := []) (mem' := fm (upd g 23 (nI (K + 1))) tp bt (fm_u (fm_u (fm_u a 1 (3846 + (6 * n)) 14) 1 ((3846 + (6 * n)) + 1) 0) 1 ((3846 + (6 * n)) + 2) 0) b) (by intro _ _ _; eq_refl) ?_
    rw [show (fx_cb .ge 3 6) = false from by decide]
    dsimp only [cond]
    refine fe_s 6 (pc' := 175) (lc' := [(5, .int 3), (4, .int 0), (3, .int (nI (3846 + (6 * n)))), (2, .int (nI n)), (1, .int 14), (0, .ref 0)]) (stk' := [.int 0, .int ((nI (3846 + (6 * n))) + 3), .ref 1]) (mem' := fm (upd g 23 (nI (K + 1))) tp bt (fm_u (fm_u (fm_u a 1 (3846 + (6 * n)) 14) 1 ((3846 + (6 * n)) + 1) 0) 1 ((3846 + (6 * n)) + 2) 0) b) (by intro _ _ _; eq_refl) ?_
    rw [show ((nI (3846 + (6 * n))) + 3 : Int32) = nI ((3846 + (6 * n)) + 3) from by simp only [show (3 : Int32) = nI 3 from rfl, nI_add, fm_mul]]
    refine fe_stI (mem' := fm (upd g 23 (nI (K + 1))) tp bt (fm_u (fm_u (fm_u (fm_u a 1 (3846 + (6 * n)) 14) 1 ((3846 + (6 * n)) + 1) 0) 1 ((3846 + (6 * n)) + 2) 0) 1 (nI ((3846 + (6 * n)) + 3) : Int32).toNatClampNeg 0) b) (by rfl) (by rfl) (fx_inN (i := (3846 + (6 * n)) + 3) (by omega) (by omega)) fm_si1 ?_
    rw [show Int32.toNatClampNeg (nI ((3846 + (6 * n)) + 3)) = (3846 + (6 * n)) + 3 from nI_clamp (by omega)]
    refine fe_s 4 (pc' := 163) (lc' := [(5, .int (3 + 1)), (4, .int 0), (3, .int (nI (3846 + (6 * n)))), (2, .int (nI n)), (1, .int 14), (0, .ref 0)]) (stk' := [.int 6, .int (3 + 1)]) (mem' := fm (upd g 23 (nI (K + 1))) tp bt (fm_u (fm_u (fm_u (fm_u a 1 (3846 + (6 * n)) 14) 1 ((3846 + (6 * n)) + 1) 0) 1 ((3846 + (6 * n)) + 2) 0) 1 ((3846 + (6 * n)) + 3) 0) b) (by intro _ _ _; eq_refl) ?_
    rw [show (3 + 1 : Int32) = 4 from rfl]
    refine fe_s 1 (pc' := cond (fx_cb .ge 4 6) 182 166) (lc' := [(5, .int 4), (4, .int 0), (3, .int (nI (3846 + (6 * n)))), (2, .int (nI n)), (1, .int 14), (0, .ref 0)]) (stk' := []) (mem' := fm (upd g 23 (nI (K + 1))) tp bt (fm_u (fm_u (fm_u (fm_u a 1 (3846 + (6 * n)) 14) 1 ((3846 + (6 * n)) + 1) 0) 1 ((3846 + (6 * n)) + 2) 0) 1 ((3846 + (6 * n)) + 3) 0) b) (by intro _ _ _; eq_refl) ?_
    rw [show (fx_cb .ge 4 6) = false from by decide]
    dsimp only [cond]
    refine fe_s 6 (pc' := 175) (lc' := [(5, .int 4), (4, .int 0), (3, .int (nI (3846 + (6 * n)))), (2, .int (nI n)), (1, .int 14), (0, .ref 0)]) (stk' := [.int 0, .int ((nI (3846 + (6 * n))) + 4), .ref 1]) (mem' := fm (upd g 23 (nI (K + 1))) tp bt (fm_u (fm_u (fm_u (fm_u a 1 (3846 + (6 * n)) 14) 1 ((3846 + (6 * n)) + 1) 0) 1 ((3846 + (6 * n)) + 2) 0) 1 ((3846 + (6 * n)) + 3) 0) b) (by intro _ _ _; eq_refl) ?_
    rw [show ((nI (3846 + (6 * n))) + 4 : Int32) = nI ((3846 + (6 * n)) + 4) from by simp only [show (4 : Int32) = nI 4 from rfl, nI_add, fm_mul]]
    refine fe_stI (mem' := fm (upd g 23 (nI (K + 1))) tp bt (fm_u (fm_u (fm_u (fm_u (fm_u a 1 (3846 + (6 * n)) 14) 1 ((3846 + (6 * n)) + 1) 0) 1 ((3846 + (6 * n)) + 2) 0) 1 ((3846 + (6 * n)) + 3) 0) 1 (nI ((3846 + (6 * n)) + 4) : Int32).toNatClampNeg 0) b) (by rfl) (by rfl) (fx_inN (i := (3846 + (6 * n)) + 4) (by omega) (by omega)) fm_si1 ?_
    rw [show Int32.toNatClampNeg (nI ((3846 + (6 * n)) + 4)) = (3846 + (6 * n)) + 4 from nI_clamp (by omega)]
    refine fe_s 4 (pc' := 163) (lc' := [(5, .int (4 + 1)), (4, .int 0), (3, .int (nI (3846 + (6 * n)))), (2, .int (nI n)), (1, .int 14), (0, .ref 0)]) (stk' := [.int 6, .int (4 + 1)]) (mem' := fm (upd g 23 (nI (K + 1))) tp bt (fm_u (fm_u (fm_u (fm_u (fm_u a 1 (3846 + (6 * n)) 14) 1 ((3846 + (6 * n)) + 1) 0) 1 ((3846 + (6 * n)) + 2) 0) 1 ((3846 + (6 * n)) + 3) 0) 1 ((3846 + (6 * n)) + 4) 0) b) (by intro _ _ _; eq_refl) ?_
    rw [show (4 + 1 : Int32) = 5 from rfl]
    refine fe_s 1 (pc' := cond (fx_cb .ge 5 6) 182 166) (lc' := [(5, .int 5), (4, .int 0), (3, .int (nI (3846 + (6 * n)))), (2, .int (nI n)), (1, .int 14), (0, .ref 0)]) (stk' := []) (mem' := fm (upd g 23 (nI (K + 1))) tp bt (fm_u (fm_u (fm_u (fm_u (fm_u a 1 (3846 + (6 * n)) 14) 1 ((3846 + (6 * n)) + 1) 0) 1 ((3846 + (6 * n)) + 2) 0) 1 ((3846 + (6 * n)) + 3) 0) 1 ((3846 + (6 * n)) + 4) 0) b) (by intro _ _ _; eq_refl) ?_
    rw [show (fx_cb .ge 5 6) = false from by decide]
    dsimp only [cond]
    refine fe_s 6 (pc' := 175) (lc' := [(5, .int 5), (4, .int 0), (3, .int (nI (3846 + (6 * n)))), (2, .int (nI n)), (1, .int 14), (0, .ref 0)]) (stk' := [.int 0, .int ((nI (3846 + (6 * n))) + 5), .ref 1]) (mem' := fm (upd g 23 (nI (K + 1))) tp bt (fm_u (fm_u (fm_u (fm_u (fm_u a 1 (3846 + (6 * n)) 14) 1 ((3846 + (6 * n)) + 1) 0) 1 ((3846 + (6 * n)) + 2) 0) 1 ((3846 + (6 * n)) + 3) 0) 1 ((3846 + (6 * n)) + 4) 0) b) (by intro _ _ _; eq_refl) ?_
    rw [show ((nI (3846 + (6 * n))) + 5 : Int32) = nI ((3846 + (6 * n)) + 5) from by simp only [show (5 : Int32) = nI 5 from rfl, nI_add, fm_mul]]
    refine fe_stI (mem' := fm (upd g 23 (nI (K + 1))) tp bt (fm_u (fm_u (fm_u (fm_u (fm_u (fm_u a 1 (3846 + (6 * n)) 14) 1 ((3846 + (6 * n)) + 1) 0) 1 ((3846 + (6 * n)) + 2) 0) 1 ((3846 + (6 * n)) + 3) 0) 1 ((3846 + (6 * n)) + 4) 0) 1 (nI ((3846 + (6 * n)) + 5) : Int32).toNatClampNeg 0) b) (by rfl) (by rfl) (fx_inN (i := (3846 + (6 * n)) + 5) (by omega) (by omega)) fm_si1 ?_
    rw [show Int32.toNatClampNeg (nI ((3846 + (6 * n)) + 5)) = (3846 + (6 * n)) + 5 from nI_clamp (by omega)]
    refine fe_s 4 (pc' := 163) (lc' := [(5, .int (5 + 1)), (4, .int 0), (3, .int (nI (3846 + (6 * n)))), (2, .int (nI n)), (1, .int 14), (0, .ref 0)]) (stk' := [.int 6, .int (5 + 1)]) (mem' := fm (upd g 23 (nI (K + 1))) tp bt (fm_u (fm_u (fm_u (fm_u (fm_u (fm_u a 1 (3846 + (6 * n)) 14) 1 ((3846 + (6 * n)) + 1) 0) 1 ((3846 + (6 * n)) + 2) 0) 1 ((3846 + (6 * n)) + 3) 0) 1 ((3846 + (6 * n)) + 4) 0) 1 ((3846 + (6 * n)) + 5) 0) b) (by intro _ _ _; eq_refl) ?_
    rw [show (5 + 1 : Int32) = 6 from rfl]
    refine fe_s 1 (pc' := cond (fx_cb .ge 6 6) 182 166) (lc' := [(5, .int 6), (4, .int 0), (3, .int (nI (3846 + (6 * n)))), (2, .int (nI n)), (1, .int 14), (0, .ref 0)]) (stk' := []) (mem' := fm (upd g 23 (nI (K + 1))) tp bt (fm_u (fm_u (fm_u (fm_u (fm_u (fm_u a 1 (3846 + (6 * n)) 14) 1 ((3846 + (6 * n)) + 1) 0) 1 ((3846 + (6 * n)) + 2) 0) 1 ((3846 + (6 * n)) + 3) 0) 1 ((3846 + (6 * n)) + 4) 0) 1 ((3846 + (6 * n)) + 5) 0) b) (by intro _ _ _; eq_refl) ?_
    rw [show (fx_cb .ge 6 6) = true from by decide]
    dsimp only [cond]
    refine fe_s 4 (pc' := 190) (lc' := [(5, .int 6), (4, .int 0), (3, .int (nI (3846 + (6 * n)))), (2, .int (nI n)), (1, .int 14), (0, .ref 0)]) (stk' := [.int 3374, .ref 1, .int 3374, .ref 1]) (mem' := fm (upd g 23 (nI (K + 1))) tp bt (fm_u (fm_u (fm_u (fm_u (fm_u (fm_u a 1 (3846 + (6 * n)) 14) 1 ((3846 + (6 * n)) + 1) 0) 1 ((3846 + (6 * n)) + 2) 0) 1 ((3846 + (6 * n)) + 3) 0) 1 ((3846 + (6 * n)) + 4) 0) 1 ((3846 + (6 * n)) + 5) 0) b) (by intro _ _ _; eq_refl) ?_
    refine fe_ldI (by rfl) (by rfl) (fx_inN (i := 3374) (by omega) (by omega)) ?_
    rw [show Int32.toNatClampNeg (3374) = 3374 from rfl]
    rw [show (fm_u (fm_u (fm_u (fm_u (fm_u (fm_u a 1 (3846 + (6 * n)) 14) 1 ((3846 + (6 * n)) + 1) 0) 1 ((3846 + (6 * n)) + 2) 0) 1 ((3846 + (6 * n)) + 3) 0) 1 ((3846 + (6 * n)) + 4) 0) 1 ((3846 + (6 * n)) + 5) 0) 1 3374 = nI n from by rw [fm_u1, if_neg (by omega), fm_u1, if_neg (by omega), fm_u1, if_neg (by omega), fm_u1, if_neg (by omega), fm_u1, if_neg (by omega), fm_u1, if_neg (by omega)]; exact hT.2.2.2.2.1]
    refine fe_s 2 (pc' := 193) (lc' := [(5, .int 6), (4, .int 0), (3, .int (nI (3846 + (6 * n)))), (2, .int (nI n)), (1, .int 14), (0, .ref 0)]) (stk' := [.int ((nI n) + 1), .int 3374, .ref 1]) (mem' := fm (upd g 23 (nI (K + 1))) tp bt (fm_u (fm_u (fm_u (fm_u (fm_u (fm_u a 1 (3846 + (6 * n)) 14) 1 ((3846 + (6 * n)) + 1) 0) 1 ((3846 + (6 * n)) + 2) 0) 1 ((3846 + (6 * n)) + 3) 0) 1 ((3846 + (6 * n)) + 4) 0) 1 ((3846 + (6 * n)) + 5) 0) b) (by intro _ _ _; eq_refl) ?_
    rw [show ((nI n) + 1 : Int32) = nI (n + 1) from by simp only [show (1 : Int32) = nI 1 from rfl, nI_add, fm_mul]]
    refine fe_stI (mem' := fm (upd g 23 (nI (K + 1))) tp bt (fm_u (fm_u (fm_u (fm_u (fm_u (fm_u (fm_u a 1 (3846 + (6 * n)) 14) 1 ((3846 + (6 * n)) + 1) 0) 1 ((3846 + (6 * n)) + 2) 0) 1 ((3846 + (6 * n)) + 3) 0) 1 ((3846 + (6 * n)) + 4) 0) 1 ((3846 + (6 * n)) + 5) 0) 1 (3374 : Int32).toNatClampNeg (nI (n + 1))) b) (by rfl) (by rfl) (fx_inN (i := 3374) (by omega) (by omega)) fm_si1 ?_
    rw [show Int32.toNatClampNeg (3374) = 3374 from rfl]
    obtain ⟨at9, hat9⟩ : ∃ z, z = fm_row a n (3846 + 6 * n) 14 := ⟨_, rfl⟩
    rw [show (fm_u (fm_u (fm_u (fm_u (fm_u (fm_u (fm_u a 1 (3846 + (6 * n)) 14) 1 ((3846 + (6 * n)) + 1) 0) 1 ((3846 + (6 * n)) + 2) 0) 1 ((3846 + (6 * n)) + 3) 0) 1 ((3846 + (6 * n)) + 4) 0) 1 ((3846 + (6 * n)) + 5) 0) 1 (3374) (nI (n + 1))) = at9 from hat9.symm]
    have hCt9 : fm_TC a0 at9 n 14 0 := by rw [hat9]; exact fm_TC_new hT hR hn60 (by decide) (by decide)
    have h8t9 : at9 8 = a 8 := (congrFun hat9 8).trans (fm_row_t (by decide))
    refine fe_s 1 (pc' := 195) (lc' := [(5, .int 6), (4, .int 0), (3, .int (nI (3846 + (6 * n)))), (2, .int (nI n)), (1, .int 14), (0, .ref 0)]) (stk' := [.ref 0]) (mem' := fm (upd g 23 (nI (K + 1))) tp bt at9 b) (by intro _ _ _; eq_refl) ?_
    obtain ⟨gk10, Ek10, Fk10, hfrk10, hok10, hek10, hpk10⟩ := fr_aheadq (g := (upd g 23 (nI (K + 1)))) (tp := tp) (bt := bt) (a := at9) (b := b) (fm_gy_up (fm_gy_rf hxp hfl) (by decide)).2.1 (fm_gy_up (fm_gy_rf hxp hfl) (by decide)).2.2.1
    have gok10 := fm_gy_tr (fm_gy_up (fm_gy_rf hxp hfl) (by decide)) hok10
    have e18k10 : gk10 18 = g 18 := hek10.trans ((pk_un (by decide)).trans rfl)
    have prk10 : gk10 12 = 0 ∨ E < Ek10 := hpk10.imp id (fun z => by have := (fm_gy_rf hxp hfl).2.2.2; omega)
    have d22k10 : gk10 22 = nI D := by rw [hok10.1 22 (by decide) (by decide) (by decide) (by decide) (by decide) (by decide)]; first | exact eD | rfl
    have d23k10 : gk10 23 = nI (K + 1) := by rw [hok10.1 23 (by decide) (by decide) (by decide) (by decide) (by decide) (by decide)]; first | exact rfl | rfl
    refine fe_ivV hfrk10 (by omega) (by rfl) (by rfl) (by rfl) (by rfl) (by rfl) (by rfl) ?_
    refine fe_s 3 (pc' := 201) (lc' := [(5, .int 6), (4, .int 0), (3, .int (nI (3846 + (6 * n)))), (2, .int (nI n)), (1, .int 14), (0, .ref 0)]) (stk' := [.int (nI (3846 + (6 * n))), .int 14, .ref 0]) (mem' := fm gk10 tp bt at9 b) (by intro _ _ _; eq_refl) ?_
    obtain ⟨vp11, memp11, ⟨xp11, gp11, Ep11, Fp11, ap11, Xp11, Yp11, hop11, hCp11, h8p11, hvp11, hRp11⟩, hfrp11⟩ := fr_taleOrder14 (g := gk10) (tp := tp) (bt := bt) (a := at9) (b := b) (a0 := a0) gok10.2.1 gok10.2.2.1 hH hCt9
    cases hRp11
    have h9p11 : ap11 8 = a 8 := h8p11.trans h8t9
    have gop11 := fm_gy_tr gok10 hop11
    have d22p11 : gp11 22 = nI D := by rw [hop11.1 22 (by decide) (by decide) (by decide) (by decide) (by decide) (by decide)]; first | exact d22k10 | rfl
    have d23p11 : gp11 23 = nI (K + 1) := by rw [hop11.1 23 (by decide) (by decide) (by decide) (by decide) (by decide) (by decide)]; first | exact d23k10 | rfl
    refine fe_ivV hfrp11 (by omega) (by rfl) (by rfl) (by rfl) (by rfl) (by rfl) (by rfl) ?_
    rcases hvp11 with ⟨rfl, hzp11⟩ | ⟨rfl, hep11, hrop11⟩
    · refine fe_s 1 (pc' := cond (fx_cb .ne 0 0) 209 207) (lc' := [(5, .int 6), (4, .int 0), (3, .int (nI (3846 + (6 * n)))), (2, .int (nI n)), (1, .int 14), (0, .ref 0)]) (stk' := []) (mem' := fm gp11 tp bt ap11 b) (by intro _ _ _; eq_refl) ?_
      rw [show (fx_cb .ne 0 0) = false from by decide]
      dsimp only [cond]
      refine fe_s 1 (pc' := 208) (lc' := [(5, .int 6), (4, .int 0), (3, .int (nI (3846 + (6 * n)))), (2, .int (nI n)), (1, .int 14), (0, .ref 0)]) (stk' := [.int 0]) (mem' := fm gp11 tp bt ap11 b) (by intro _ _ _; eq_refl) ?_
      exact fe_ret ⟨_, _, _, _, _, n + 1, D, (K + 1), gop11, fm_TS_of hCp11 ⟨d22p11, by omega, d23p11, by omega, by omega⟩ (fun d hd => by rw [h9p11]; obtain ⟨q, q1, q2⟩ := h8 d (by omega); exact ⟨q, by omega, q2⟩) (fun d hd => by rw [h9p11]; exact h9 d hd), Or.inl ⟨rfl, hzp11⟩, rfl⟩ (by rfl) (by rfl) (by rfl)
    · have e18p11 : gp11 18 = g 18 := hep11.trans e18k10
      refine fe_s 1 (pc' := cond (fx_cb .ne 1 0) 209 207) (lc' := [(5, .int 6), (4, .int 0), (3, .int (nI (3846 + (6 * n)))), (2, .int (nI n)), (1, .int 14), (0, .ref 0)]) (stk' := []) (mem' := fm gp11 tp bt ap11 b) (by intro _ _ _; eq_refl) ?_
      rw [show (fx_cb .ne 1 0) = true from by decide]
      dsimp only [cond]
      refine fe_s 1 (pc' := 211) (lc' := [(5, .int 6), (4, .int 0), (3, .int (nI (3846 + (6 * n)))), (2, .int (nI n)), (1, .int 14), (0, .ref 0)]) (stk' := [.int 0]) (mem' := fm gp11 tp bt ap11 b) (by intro _ _ _; eq_refl) ?_
      refine fe_s 1 (pc' := cond (fx_cb .eq 0 0) 234 214) (lc' := [(5, .int 6), (4, .int 0), (3, .int (nI (3846 + (6 * n)))), (2, .int (nI n)), (1, .int 14), (0, .ref 0)]) (stk' := []) (mem' := fm gp11 tp bt ap11 b) (by intro _ _ _; eq_refl) ?_
      rw [show (fx_cb .eq 0 0) = true from by decide]
      dsimp only [cond]
      refine fe_s 2 (pc' := 237) (lc' := [(5, .int 6), (4, .int 0), (3, .int (nI (3846 + (6 * n)))), (2, .int (nI n)), (1, .int 14), (0, .ref 0)]) (stk' := [.int 20, .int 14]) (mem' := fm gp11 tp bt ap11 b) (by intro _ _ _; eq_refl) ?_
      refine fe_s 1 (pc' := cond (fx_cb .ne 14 20) 291 240) (lc' := [(5, .int 6), (4, .int 0), (3, .int (nI (3846 + (6 * n)))), (2, .int (nI n)), (1, .int 14), (0, .ref 0)]) (stk' := []) (mem' := fm gp11 tp bt ap11 b) (by intro _ _ _; eq_refl) ?_
      rw [show (fx_cb .ne 14 20) = true from by decide]
      dsimp only [cond]
      refine fe_s 2 (pc' := 294) (lc' := [(5, .int 6), (4, .int 0), (3, .int (nI (3846 + (6 * n)))), (2, .int (nI n)), (1, .int 14), (0, .ref 0)]) (stk' := [.int 59, .ref 0]) (mem' := fm gp11 tp bt ap11 b) (by intro _ _ _; eq_refl) ?_
      obtain ⟨xc12, gc12, Ec12, Fc12, hfrc12, hoc12, hvc12⟩ := fr_wantSignq (c := 59) (g := gp11) (tp := tp) (bt := bt) (a := ap11) (b := b) gop11.2.1 gop11.2.2.1
      have goc12 := fm_gy_tr gop11 hoc12
      have d22c12 : gc12 22 = nI D := by rw [hoc12.1 22 (by decide) (by decide) (by decide) (by decide) (by decide) (by decide)]; first | exact d22p11 | rfl
      have d23c12 : gc12 23 = nI (K + 1) := by rw [hoc12.1 23 (by decide) (by decide) (by decide) (by decide) (by decide) (by decide)]; first | exact d23p11 | rfl
      refine fe_ivV hfrc12 (by omega) (by rfl) (by rfl) (by rfl) (by rfl) (by rfl) (by rfl) ?_
      rcases hvc12 with ⟨rfl, hzc12⟩ | ⟨rfl, hec12, hpc12⟩
      · exact fe_ret ⟨_, _, _, _, _, n + 1, D, (K + 1), goc12, fm_TS_of hCp11 ⟨d22c12, by omega, d23c12, by omega, by omega⟩ (fun d hd => by rw [h9p11]; obtain ⟨q, q1, q2⟩ := h8 d (by omega); exact ⟨q, by omega, q2⟩) (fun d hd => by rw [h9p11]; exact h9 d hd), Or.inl ⟨rfl, hzc12⟩, rfl⟩ (by rfl) (by rfl) (by rfl)
      · have e18c12 : gc12 18 = g 18 := hec12.trans e18p11
        have prc12 : gc12 12 = 0 ∨ E < Ec12 := hpc12.imp id (fun z => by have := gop11.2.2.2; omega)
        exact fe_ret ⟨_, _, _, _, _, n + 1, D, (K + 1), goc12, fm_TS_of hCp11 ⟨d22c12, by omega, d23c12, by omega, by omega⟩ (fun d hd => by rw [h9p11]; obtain ⟨q, q1, q2⟩ := h8 d (by omega); exact ⟨q, by omega, q2⟩) (fun d hd => by rw [h9p11]; exact h9 d hd), Or.inr ⟨rfl, e18c12, prc12, fm_TR_of hCp11 hrop11⟩, rfl⟩ (by rfl) (by rfl) (by rfl)
end F4872_step
end MH4_0
section MH4_1
/-! ===== fx: a STEP of the TALES ===== -/
section F4873_step
variable {g : Nat → Int32} {tp bt : Int64} {a0 a : Nat → Nat → Int32} {b : Nat → Nat → Int64}
set_option maxRecDepth 20000 in
set_option maxHeartbeats 8000000 in
theorem ts_15 {S E F C W n D K : Nat} (hxp : fm_xp g S E F) (hfl : fm_flt g) (hH : fm_th a0 C W) (hT : fm_TS a0 g a n D K) (hR : fm_TR a n) : fe_R 10 gk_m251 7 [(1, .int 15), (0, .ref 0)] [] (fm g tp bt a b) (fm_FTS a0 g tp bt b S E) := by
  obtain ⟨⟨eD, hD3, eK, hK30, hnK⟩, h8, h9⟩ := hT.2.2.2.2.2
  refine fe_s 3 (pc' := 14) (lc' := [(1, .int 15), (0, .ref 0)]) (stk' := [.int 3374, .ref 1]) (mem' := fm g tp bt a b) (by intro _ _ _; eq_refl) ?_
  refine fe_ldI (by rfl) (by rfl) (fx_inN (i := 3374) (by omega) (by omega)) ?_
  rw [show Int32.toNatClampNeg (3374) = 3374 from rfl]
  rw [hT.2.2.2.2.1]
  refine fe_s 9 (pc' := 28) (lc' := [(3, .int (3846 + (6 * (nI n)))), (2, .int (nI n)), (1, .int 15), (0, .ref 0)]) (stk' := [.int 18, .int 15]) (mem' := fm g tp bt a b) (by intro _ _ _; eq_refl) ?_
  rw [show (3846 + (6 * (nI n)) : Int32) = nI (3846 + (6 * n)) from by simp only [show (3846 : Int32) = nI 3846 from rfl, show (6 : Int32) = nI 6 from rfl, nI_add, fm_mul]]
  refine fe_s 1 (pc' := cond (fx_cb .eq 15 18) 37 31) (lc' := [(3, .int (nI (3846 + (6 * n)))), (2, .int (nI n)), (1, .int 15), (0, .ref 0)]) (stk' := []) (mem' := fm g tp bt a b) (by intro _ _ _; eq_refl) ?_
  rw [show (fx_cb .eq 15 18) = false from by decide]
  dsimp only [cond]
  refine fe_s 2 (pc' := 34) (lc' := [(3, .int (nI (3846 + (6 * n)))), (2, .int (nI n)), (1, .int 15), (0, .ref 0)]) (stk' := [.int 19, .int 15]) (mem' := fm g tp bt a b) (by intro _ _ _; eq_refl) ?_
  refine fe_s 1 (pc' := cond (fx_cb .ne 15 19) 41 37) (lc' := [(3, .int (nI (3846 + (6 * n)))), (2, .int (nI n)), (1, .int 15), (0, .ref 0)]) (stk' := []) (mem' := fm g tp bt a b) (by intro _ _ _; eq_refl) ?_
  rw [show (fx_cb .ne 15 19) = true from by decide]
  dsimp only [cond]
  refine fe_s 4 (pc' := 47) (lc' := [(4, .int 0), (3, .int (nI (3846 + (6 * n)))), (2, .int (nI n)), (1, .int 15), (0, .ref 0)]) (stk' := [.int 11, .int 15]) (mem' := fm g tp bt a b) (by intro _ _ _; eq_refl) ?_
  refine fe_s 1 (pc' := cond (fx_cb .lt 15 11) 81 50) (lc' := [(4, .int 0), (3, .int (nI (3846 + (6 * n)))), (2, .int (nI n)), (1, .int 15), (0, .ref 0)]) (stk' := []) (mem' := fm g tp bt a b) (by intro _ _ _; eq_refl) ?_
  rw [show (fx_cb .lt 15 11) = false from by decide]
  dsimp only [cond]
  refine fe_s 2 (pc' := 53) (lc' := [(4, .int 0), (3, .int (nI (3846 + (6 * n)))), (2, .int (nI n)), (1, .int 15), (0, .ref 0)]) (stk' := [.int 21, .int 15]) (mem' := fm g tp bt a b) (by intro _ _ _; eq_refl) ?_
  refine fe_s 1 (pc' := cond (fx_cb .gt 15 21) 81 56) (lc' := [(4, .int 0), (3, .int (nI (3846 + (6 * n)))), (2, .int (nI n)), (1, .int 15), (0, .ref 0)]) (stk' := []) (mem' := fm g tp bt a b) (by intro _ _ _; eq_refl) ?_
  rw [show (fx_cb .gt 15 21) = false from by decide]
  dsimp only [cond]
  refine fe_s 2 (pc' := 59) (lc' := [(4, .int 0), (3, .int (nI (3846 + (6 * n)))), (2, .int (nI n)), (1, .int 15), (0, .ref 0)]) (stk' := [.int 16, .int 15]) (mem' := fm g tp bt a b) (by intro _ _ _; eq_refl) ?_
  refine fe_s 1 (pc' := cond (fx_cb .eq 15 16) 81 62) (lc' := [(4, .int 0), (3, .int (nI (3846 + (6 * n)))), (2, .int (nI n)), (1, .int 15), (0, .ref 0)]) (stk' := []) (mem' := fm g tp bt a b) (by intro _ _ _; eq_refl) ?_
  rw [show (fx_cb .eq 15 16) = false from by decide]
  dsimp only [cond]
  refine fe_s 2 (pc' := 65) (lc' := [(4, .int 0), (3, .int (nI (3846 + (6 * n)))), (2, .int (nI n)), (1, .int 15), (0, .ref 0)]) (stk' := [.int 17, .int 15]) (mem' := fm g tp bt a b) (by intro _ _ _; eq_refl) ?_
  refine fe_s 1 (pc' := cond (fx_cb .eq 15 17) 81 68) (lc' := [(4, .int 0), (3, .int (nI (3846 + (6 * n)))), (2, .int (nI n)), (1, .int 15), (0, .ref 0)]) (stk' := []) (mem' := fm g tp bt a b) (by intro _ _ _; eq_refl) ?_
  rw [show (fx_cb .eq 15 17) = false from by decide]
  dsimp only [cond]
  refine fe_s 2 (pc' := 71) (lc' := [(4, .int 0), (3, .int (nI (3846 + (6 * n)))), (2, .int (nI n)), (1, .int 15), (0, .ref 0)]) (stk' := [.int 20, .int 15]) (mem' := fm g tp bt a b) (by intro _ _ _; eq_refl) ?_
  refine fe_s 1 (pc' := cond (fx_cb .ne 15 20) 87 74) (lc' := [(4, .int 0), (3, .int (nI (3846 + (6 * n)))), (2, .int (nI n)), (1, .int 15), (0, .ref 0)]) (stk' := []) (mem' := fm g tp bt a b) (by intro _ _ _; eq_refl) ?_
  rw [show (fx_cb .ne 15 20) = true from by decide]
  dsimp only [cond]
  refine fe_s 2 (pc' := 90) (lc' := [(4, .int 0), (3, .int (nI (3846 + (6 * n)))), (2, .int (nI n)), (1, .int 15), (0, .ref 0)]) (stk' := [.int 20, .int 15]) (mem' := fm g tp bt a b) (by intro _ _ _; eq_refl) ?_
  refine fe_s 1 (pc' := cond (fx_cb .eq 15 20) 109 93) (lc' := [(4, .int 0), (3, .int (nI (3846 + (6 * n)))), (2, .int (nI n)), (1, .int 15), (0, .ref 0)]) (stk' := []) (mem' := fm g tp bt a b) (by intro _ _ _; eq_refl) ?_
  rw [show (fx_cb .eq 15 20) = false from by decide]
  dsimp only [cond]
  refine fe_s 3 (pc' := 99) (lc' := [(4, .int 0), (3, .int (nI (3846 + (6 * n)))), (2, .int (nI n)), (1, .int 15), (0, .ref 0)]) (stk' := [.int 30, .int (g 23)]) (mem' := fm g tp bt a b) (by intro _ _ _; eq_refl) ?_
  try rw [eK]
  refine fe_s 1 (pc' := cond (fx_cb .ne (nI K) 30) 109 102) (lc' := [(4, .int 0), (3, .int (nI (3846 + (6 * n)))), (2, .int (nI n)), (1, .int 15), (0, .ref 0)]) (stk' := []) (mem' := fm g tp bt a b) (by intro _ _ _; eq_refl) ?_
  by_cases h1 : K = 30
  · rw [show (fx_cb .ne (nI K) 30) = false from cb_neF (a := K) (b := 30) (by omega) (by omega) (by omega)]
    dsimp only [cond]
    refine fe_s 2 (pc' := 105) (lc' := [(4, .int 0), (3, .int (nI (3846 + (6 * n)))), (2, .int (nI n)), (1, .int 15), (0, .ref 0)]) (stk' := [.int 6, .ref 0]) (mem' := fm g tp bt a b) (by intro _ _ _; eq_refl) ?_
    obtain ⟨gf2, hfrf2, hof2, hzf2⟩ := fr_failsq (x := 6) (g := g) (tp := tp) (bt := bt) (a := a) (b := b) (by omega) (by omega) (fm_gy_rf hxp hfl).2.1 (fm_gy_rf hxp hfl).2.2.1
    have gof2 := fm_gy_tr (fm_gy_rf hxp hfl) hof2
    have d22f2 : gf2 22 = nI D := by rw [hof2.1 22 (by decide) (by decide) (by decide) (by decide) (by decide) (by decide)]; first | exact eD | rfl
    have d23f2 : gf2 23 = nI K := by rw [hof2.1 23 (by decide) (by decide) (by decide) (by decide) (by decide) (by decide)]; first | exact eK | rfl
    refine fe_ivV hfrf2 (by omega) (by rfl) (by rfl) (by rfl) (by rfl) (by rfl) (by rfl) ?_
    exact fe_ret ⟨_, _, _, _, _, n, D, K, gof2, ⟨hT.1, hT.2.1, hT.2.2.1, hT.2.2.2.1, hT.2.2.2.2.1, ⟨d22f2, hD3, d23f2, hK30, hnK⟩, h8, h9⟩, Or.inl ⟨rfl, hzf2⟩, rfl⟩ (by rfl) (by rfl) (by rfl)
  · rw [show (fx_cb .ne (nI K) 30) = true from cb_neT (a := K) (b := 30) (by omega) (by omega) (by omega)]
    dsimp only [cond]
    refine fe_s 1 (pc' := 111) (lc' := [(4, .int 0), (3, .int (nI (3846 + (6 * n)))), (2, .int (nI n)), (1, .int 15), (0, .ref 0)]) (stk' := [.int 0]) (mem' := fm g tp bt a b) (by intro _ _ _; eq_refl) ?_
    refine fe_s 1 (pc' := cond (fx_cb .eq 0 0) 129 114) (lc' := [(4, .int 0), (3, .int (nI (3846 + (6 * n)))), (2, .int (nI n)), (1, .int 15), (0, .ref 0)]) (stk' := []) (mem' := fm g tp bt a b) (by intro _ _ _; eq_refl) ?_
    rw [show (fx_cb .eq 0 0) = true from by decide]
    dsimp only [cond]
    refine fe_s 5 (pc' := 137) (lc' := [(4, .int 0), (3, .int (nI (3846 + (6 * n)))), (2, .int (nI n)), (1, .int 15), (0, .ref 0)]) (stk' := [.int 20, .int 15, .int (g 23), .ref 0]) (mem' := fm g tp bt a b) (by intro _ _ _; eq_refl) ?_
    try rw [eK]
    refine fe_s 1 (pc' := cond (fx_cb .ne 15 20) 144 140) (lc' := [(4, .int 0), (3, .int (nI (3846 + (6 * n)))), (2, .int (nI n)), (1, .int 15), (0, .ref 0)]) (stk' := [.int (nI K), .ref 0]) (mem' := fm g tp bt a b) (by intro _ _ _; eq_refl) ?_
    rw [show (fx_cb .ne 15 20) = true from by decide]
    dsimp only [cond]
    refine fe_s 7 (pc' := 155) (lc' := [(4, .int 0), (3, .int (nI (3846 + (6 * n)))), (2, .int (nI n)), (1, .int 15), (0, .ref 0)]) (stk' := [.int 15, .int (nI (3846 + (6 * n))), .ref 1]) (mem' := fm (upd g 23 ((nI K) + 1)) tp bt a b) (by intro _ _ _; eq_refl) ?_
    rw [show ((nI K) + 1 : Int32) = nI (K + 1) from by simp only [show (1 : Int32) = nI 1 from rfl, nI_add, fm_mul]]
    have hn60 : n < 60 := by omega
    refine fe_stI (mem' := fm (upd g 23 (nI (K + 1))) tp bt (fm_u a 1 (nI (3846 + (6 * n)) : Int32).toNatClampNeg 15) b) (by rfl) (by rfl) (fx_inN (i := 3846 + (6 * n)) (by omega) (by omega)) fm_si1 ?_
    rw [show Int32.toNatClampNeg (nI (3846 + (6 * n))) = 3846 + (6 * n) from nI_clamp (by omega)]
    refine fe_s 4 (pc' := 163) (lc' := [(5, .int 1), (4, .int 0), (3, .int (nI (3846 + (6 * n)))), (2, .int (nI n)), (1, .int 15), (0, .ref 0)]) (stk' := [.int 6, .int 1]) (mem' := fm (upd g 23 (nI (K + 1))) tp bt (fm_u a 1 (3846 + (6 * n)) 15) b) (by intro _ _ _; eq_refl) ?_
    refine fe_s 1 (pc' := cond (fx_cb .ge 1 6) 182 166) (lc' := [(5, .int 1), (4, .int 0), (3, .int (nI (3846 + (6 * n)))), (2, .int (nI n)), (1, .int 15), (0, .ref 0)]) (stk' := []) (mem' := fm (upd g 23 (nI (K + 1))) tp bt (fm_u a 1 (3846 + (6 * n)) 15) b) (by intro _ _ _; eq_refl) ?_
    rw [show (fx_cb .ge 1 6) = false from by decide]
    dsimp only [cond]
    refine fe_s 6 (pc' := 175) (lc' := [(5, .int 1), (4, .int 0), (3, .int (nI (3846 + (6 * n)))), (2, .int (nI n)), (1, .int 15), (0, .ref 0)]) (stk' := [.int 0, .int ((nI (3846 + (6 * n))) + 1), .ref 1]) (mem' := fm (upd g 23 (nI (K + 1))) tp bt (fm_u a 1 (3846 + (6 * n)) 15) b) (by intro _ _ _; eq_refl) ?_
    rw [show ((nI (3846 + (6 * n))) + 1 : Int32) = nI ((3846 + (6 * n)) + 1) from by simp only [show (1 : Int32) = nI 1 from rfl, nI_add, fm_mul]]
    refine fe_stI (mem' := fm (upd g 23 (nI (K + 1))) tp bt (fm_u (fm_u a 1 (3846 + (6 * n)) 15) 1 (nI ((3846 + (6 * n)) + 1) : Int32).toNatClampNeg 0) b) (by rfl) (by rfl) (fx_inN (i := (3846 + (6 * n)) + 1) (by omega) (by omega)) fm_si1 ?_
    rw [show Int32.toNatClampNeg (nI ((3846 + (6 * n)) + 1)) = (3846 + (6 * n)) + 1 from nI_clamp (by omega)]
    refine fe_s 4 (pc' := 163) (lc' := [(5, .int (1 + 1)), (4, .int 0), (3, .int (nI (3846 + (6 * n)))), (2, .int (nI n)), (1, .int 15), (0, .ref 0)]) (stk' := [.int 6, .int (1 + 1)]) (mem' := fm (upd g 23 (nI (K + 1))) tp bt (fm_u (fm_u a 1 (3846 + (6 * n)) 15) 1 ((3846 + (6 * n)) + 1) 0) b) (by intro _ _ _; eq_refl) ?_
    rw [show (1 + 1 : Int32) = 2 from rfl]
    refine fe_s 1 (pc' := cond (fx_cb .ge 2 6) 182 166) (lc' := [(5, .int 2), (4, .int 0), (3, .int (nI (3846 + (6 * n)))), (2, .int (nI n)), (1, .int 15), (0, .ref 0)]) (stk' := []) (mem' := fm (upd g 23 (nI (K + 1))) tp bt (fm_u (fm_u a 1 (3846 + (6 * n)) 15) 1 ((3846 + (6 * n)) + 1) 0) b) (by intro _ _ _; eq_refl) ?_
    rw [show (fx_cb .ge 2 6) = false from by decide]
    dsimp only [cond]
    refine fe_s 6 (pc' := 175) (lc' := [(5, .int 2), (4, .int 0), (3, .int (nI (3846 + (6 * n)))), (2, .int (nI n)), (1, .int 15), (0, .ref 0)]) (stk' := [.int 0, .int ((nI (3846 + (6 * n))) + 2), .ref 1]) (mem' := fm (upd g 23 (nI (K + 1))) tp bt (fm_u (fm_u a 1 (3846 + (6 * n)) 15) 1 ((3846 + (6 * n)) + 1) 0) b) (by intro _ _ _; eq_refl) ?_
    rw [show ((nI (3846 + (6 * n))) + 2 : Int32) = nI ((3846 + (6 * n)) + 2) from by simp only [show (2 : Int32) = nI 2 from rfl, nI_add, fm_mul]]
    refine fe_stI (mem' := fm (upd g 23 (nI (K + 1))) tp bt (fm_u (fm_u (fm_u a 1 (3846 + (6 * n)) 15) 1 ((3846 + (6 * n)) + 1) 0) 1 (nI ((3846 + (6 * n)) + 2) : Int32).toNatClampNeg 0) b) (by rfl) (by rfl) (fx_inN (i := (3846 + (6 * n)) + 2) (by omega) (by omega)) fm_si1 ?_
    rw [show Int32.toNatClampNeg (nI ((3846 + (6 * n)) + 2)) = (3846 + (6 * n)) + 2 from nI_clamp (by omega)]
    refine fe_s 4 (pc' := 163) (lc' := [(5, .int (2 + 1)), (4, .int 0), (3, .int (nI (3846 + (6 * n)))), (2, .int (nI n)), (1, .int 15), (0, .ref 0)]) (stk' := [.int 6, .int (2 + 1)]) (mem' := fm (upd g 23 (nI (K + 1))) tp bt (fm_u (fm_u (fm_u a 1 (3846 + (6 * n)) 15) 1 ((3846 + (6 * n)) + 1) 0) 1 ((3846 + (6 * n)) + 2) 0) b) (by intro _ _ _; eq_refl) ?_
    rw [show (2 + 1 : Int32) = 3 from rfl]
    refine fe_s 1 (pc' := cond (fx_cb .ge 3 6) 182 166) (lc' := [(5, .int 3), (4, .int 0), (3, .int (nI (3846 + (6 * n)))), (2, .int (nI n)), (1, .int 15), (0, .ref 0)]) (stk' := []) (mem' := fm (upd g 23 (nI (K + 1))) tp bt (fm_u (fm_u (fm_u a 1 (3846 + (6 * n)) 15) 1 ((3846 + (6 * n)) + 1) 0) 1 ((3846 + (6 * n)) + 2) 0) b) (by intro _ _ _; eq_refl) ?_
    rw [show (fx_cb .ge 3 6) = false from by decide]
    dsimp only [cond]
    refine fe_s 6 (pc' := 175) (lc' := [(5, .int 3), (4, .int 0), (3, .int (nI (3846 + (6 * n)))), (2, .int (nI n)), (1, .int 15), (0, .ref 0)]) (stk' := [.int 0, .int ((nI (3846 + (6 * n))) + 3), .ref 1]) (mem' := fm (upd g 23 (nI (K + 1))) tp bt (fm_u (fm_u (fm_u a 1 (3846 + (6 * n)) 15) 1 ((3846 + (6 * n)) + 1) 0) 1 ((3846 + (6 * n)) + 2) 0) b) (by intro _ _ _; eq_refl) ?_
    rw [show ((nI (3846 + (6 * n))) + 3 : Int32) = nI ((3846 + (6 * n)) + 3) from by simp only [show (3 : Int32) = nI 3 from rfl, nI_add, fm_mul]]
    refine fe_stI (mem' := fm (upd g 23 (nI (K + 1))) tp bt (fm_u (fm_u (fm_u (fm_u a 1 (3846 + (6 * n)) 15) 1 ((3846 + (6 * n)) + 1) 0) 1 ((3846 + (6 * n)) + 2) 0) 1 (nI ((3846 + (6 * n)) + 3) : Int32).toNatClampNeg 0) b) (by rfl) (by rfl) (fx_inN (i := (3846 + (6 * n)) + 3) (by omega) (by omega)) fm_si1 ?_
    rw [show Int32.toNatClampNeg (nI ((3846 + (6 * n)) + 3)) = (3846 + (6 * n)) + 3 from nI_clamp (by omega)]
    refine fe_s 4 (pc' := 163) (lc' := [(5, .int (3 + 1)), (4, .int 0), (3, .int (nI (3846 + (6 * n)))), (2, .int (nI n)), (1, .int 15), (0, .ref 0)]) (stk' := [.int 6, .int (3 + 1)]) (mem' := fm (upd g 23 (nI (K + 1))) tp bt (fm_u (fm_u (fm_u (fm_u a 1 (3846 + (6 * n)) 15) 1 ((3846 + (6 * n)) + 1) 0) 1 ((3846 + (6 * n)) + 2) 0) 1 ((3846 + (6 * n)) + 3) 0) b) (by intro _ _ _; eq_refl) ?_
    rw [show (3 + 1 : Int32) = 4 from rfl]
    refine fe_s 1 (pc' := cond (fx_cb .ge 4 6) 182 166) (lc' := [(5, .int 4), (4, .int 0), (3, .int (nI (3846 + (6 * n)))), (2, .int (nI n)), (1, .int 15), (0, .ref 0)]) (stk' := []) (mem' := fm (upd g 23 (nI (K + 1))) tp bt (fm_u (fm_u (fm_u (fm_u a 1 (3846 + (6 * n)) 15) 1 ((3846 + (6 * n)) + 1) 0) 1 ((3846 + (6 * n)) + 2) 0) 1 ((3846 + (6 * n)) + 3) 0) b) (by intro _ _ _; eq_refl) ?_
    rw [show (fx_cb .ge 4 6) = false from by decide]
    dsimp only [cond]
    refine fe_s 6 (pc' := 175) (lc' := [(5, .int 4), (4, .int 0), (3, .int (nI (3846 + (6 * n)))), (2, .int (nI n)), (1, .int 15), (0, .ref 0)]) (stk' := [.int 0, .int ((nI (3846 + (6 * n))) + 4), .ref 1]) (mem' := fm (upd g 23 (nI (K + 1))) tp bt (fm_u (fm_u (fm_u (fm_u a 1 (3846 + (6 * n)) 15) 1 ((3846 + (6 * n)) + 1) 0) 1 ((3846 + (6 * n)) + 2) 0) 1 ((3846 + (6 * n)) + 3) 0) b) (by intro _ _ _; eq_refl) ?_
    rw [show ((nI (3846 + (6 * n))) + 4 : Int32) = nI ((3846 + (6 * n)) + 4) from by simp only [show (4 : Int32) = nI 4 from rfl, nI_add, fm_mul]]
    refine fe_stI (mem' := fm (upd g 23 (nI (K + 1))) tp bt (fm_u (fm_u (fm_u (fm_u (fm_u a 1 (3846 + (6 * n)) 15) 1 ((3846 + (6 * n)) + 1) 0) 1 ((3846 + (6 * n)) + 2) 0) 1 ((3846 + (6 * n)) + 3) 0) 1 (nI ((3846 + (6 * n)) + 4) : Int32).toNatClampNeg 0) b) (by rfl) (by rfl) (fx_inN (i := (3846 + (6 * n)) + 4) (by omega) (by omega)) fm_si1 ?_
    rw [show Int32.toNatClampNeg (nI ((3846 + (6 * n)) + 4)) = (3846 + (6 * n)) + 4 from nI_clamp (by omega)]
    refine fe_s 4 (pc' := 163) (lc' := [(5, .int (4 + 1)), (4, .int 0), (3, .int (nI (3846 + (6 * n)))), (2, .int (nI n)), (1, .int 15), (0, .ref 0)]) (stk' := [.int 6, .int (4 + 1)]) (mem' := fm (upd g 23 (nI (K + 1))) tp bt (fm_u (fm_u (fm_u (fm_u (fm_u a 1 (3846 + (6 * n)) 15) 1 ((3846 + (6 * n)) + 1) 0) 1 ((3846 + (6 * n)) + 2) 0) 1 ((3846 + (6 * n)) + 3) 0) 1 ((3846 + (6 * n)) + 4) 0) b) (by intro _ _ _; eq_refl) ?_
    rw [show (4 + 1 : Int32) = 5 from rfl]
    refine fe_s 1 (pc' := cond (fx_cb .ge 5 6) 182 166) (lc' := [(5, .int 5), (4, .int 0), (3, .int (nI (3846 + (6 * n)))), (2, .int (nI n)), (1, .int 15), (0, .ref 0)]) (stk' := []) (mem' := fm (upd g 23 (nI (K + 1))) tp bt (fm_u (fm_u (fm_u (fm_u (fm_u a 1 (3846 + (6 * n)) 15) 1 ((3846 + (6 * n)) + 1) 0) 1 ((3846 + (6 * n)) + 2) 0) 1 ((3846 + (6 * n)) + 3) 0) 1 ((3846 + (6 * n)) + 4) 0) b) (by intro _ _ _; eq_refl) ?_
    rw [show (fx_cb .ge 5 6) = false from by decide]
    dsimp only [cond]
    refine fe_s 6 (pc' := 175) (lc' := [(5, .int 5), (4, .int 0), (3, .int (nI (3846 + (6 * n)))), (2, .int (nI n)), (1, .int 15), (0, .ref 0)]) (stk' := [.int 0, .int ((nI (3846 + (6 * n))) + 5), .ref 1]) (mem' := fm (upd g 23 (nI (K + 1))) tp bt (fm_u (fm_u (fm_u (fm_u (fm_u a 1 (3846 + (6 * n)) 15) 1 ((3846 + (6 * n)) + 1) 0) 1 ((3846 + (6 * n)) + 2) 0) 1 ((3846 + (6 * n)) + 3) 0) 1 ((3846 + (6 * n)) + 4) 0) b) (by intro _ _ _; eq_refl) ?_
    rw [show ((nI (3846 + (6 * n))) + 5 : Int32) = nI ((3846 + (6 * n)) + 5) from by simp only [show (5 : Int32) = nI 5 from rfl, nI_add, fm_mul]]
    refine fe_stI (mem' := fm (upd g 23 (nI (K + 1))) tp bt (fm_u (fm_u (fm_u (fm_u (fm_u (fm_u a 1 (3846 + (6 * n)) 15) 1 ((3846 + (6 * n)) + 1) 0) 1 ((3846 + (6 * n)) + 2) 0) 1 ((3846 + (6 * n)) + 3) 0) 1 ((3846 + (6 * n)) + 4) 0) 1 (nI ((3846 + (6 * n)) + 5) : Int32).toNatClampNeg 0) b) (by rfl) (by rfl) (fx_inN (i := (3846 + (6 * n)) + 5) (by omega) (by omega)) fm_si1 ?_
    rw [show Int32.toNatClampNeg (nI ((3846 + (6 * n)) + 5)) = (3846 + (6 * n)) + 5 from nI_clamp (by omega)]
    refine fe_s 4 (pc' := 163) (lc' := [(5, .int (5 + 1)), (4, .int 0), (3, .int (nI (3846 + (6 * n)))), (2, .int (nI n)), (1, .int 15), (0, .ref 0)]) (stk' := [.int 6, .int (5 + 1)]) (mem' := fm (upd g 23 (nI (K + 1))) tp bt (fm_u (fm_u (fm_u (fm_u (fm_u (fm_u a 1 (3846 + (6 * n)) 15) 1 ((3846 + (6 * n)) + 1) 0) 1 ((3846 + (6 * n)) + 2) 0) 1 ((3846 + (6 * n)) + 3) 0) 1 ((3846 + (6 * n)) + 4) 0) 1 ((3846 + (6 * n)) + 5) 0) b) (by intro _ _ _; eq_refl) ?_
    rw [show (5 + 1 : Int32) = 6 from rfl]
    refine fe_s 1 (pc' := cond (fx_cb .ge 6 6) 182 166) (lc' := [(5, .int 6), (4, .int 0), (3, .int (nI (3846 + (6 * n)))), (2, .int (nI n)), (1, .int 15), (0, .ref 0)]) (stk' := []) (mem' := fm (upd g 23 (nI (K + 1))) tp bt (fm_u (fm_u (fm_u (fm_u (fm_u (fm_u a 1 (3846 + (6 * n)) 15) 1 ((3846 + (6 * n)) + 1) 0) 1 ((3846 + (6 * n)) + 2) 0) 1 ((3846 + (6 * n)) + 3) 0) 1 ((3846 + (6 * n)) + 4) 0) 1 ((3846 + (6 * n)) + 5) 0) b) (by intro _ _ _; eq_refl) ?_
    rw [show (fx_cb .ge 6 6) = true from by decide]
    dsimp only [cond]
    refine fe_s 4 (pc' := 190) (lc' := [(5, .int 6), (4, .int 0), (3, .int (nI (3846 + (6 * n)))), (2, .int (nI n)), (1, .int 15), (0, .ref 0)]) (stk' := [.int 3374, .ref 1, .int 3374, .ref 1]) (mem' := fm (upd g 23 (nI (K + 1))) tp bt (fm_u (fm_u (fm_u (fm_u (fm_u (fm_u a 1 (3846 + (6 * n)) 15) 1 ((3846 + (6 * n)) + 1) 0) 1 ((3846 + (6 * n)) + 2) 0) 1 ((3846 + (6 * n)) + 3) 0) 1 ((3846 + (6 * n)) + 4) 0) 1 ((3846 + (6 * n)) + 5) 0) b) (by intro _ _ _; eq_refl) ?_
    refine fe_ldI (by rfl) (by rfl) (fx_inN (i := 3374) (by omega) (by omega)) ?_
    rw [show Int32.toNatClampNeg (3374) = 3374 from rfl]
    rw [show (fm_u (fm_u (fm_u (fm_u (fm_u (fm_u a 1 (3846 + (6 * n)) 15) 1 ((3846 + (6 * n)) + 1) 0) 1 ((3846 + (6 * n)) + 2) 0) 1 ((3846 + (6 * n)) + 3) 0) 1 ((3846 + (6 * n)) + 4) 0) 1 ((3846 + (6 * n)) + 5) 0) 1 3374 = nI n from by rw [fm_u1, if_neg (by omega), fm_u1, if_neg (by omega), fm_u1, if_neg (by omega), fm_u1, if_neg (by omega), fm_u1, if_neg (by omega), fm_u1, if_neg (by omega)]; exact hT.2.2.2.2.1]
    refine fe_s 2 (pc' := 193) (lc' := [(5, .int 6), (4, .int 0), (3, .int (nI (3846 + (6 * n)))), (2, .int (nI n)), (1, .int 15), (0, .ref 0)]) (stk' := [.int ((nI n) + 1), .int 3374, .ref 1]) (mem' := fm (upd g 23 (nI (K + 1))) tp bt (fm_u (fm_u (fm_u (fm_u (fm_u (fm_u a 1 (3846 + (6 * n)) 15) 1 ((3846 + (6 * n)) + 1) 0) 1 ((3846 + (6 * n)) + 2) 0) 1 ((3846 + (6 * n)) + 3) 0) 1 ((3846 + (6 * n)) + 4) 0) 1 ((3846 + (6 * n)) + 5) 0) b) (by intro _ _ _; eq_refl) ?_
    rw [show ((nI n) + 1 : Int32) = nI (n + 1) from by simp only [show (1 : Int32) = nI 1 from rfl, nI_add, fm_mul]]
    refine fe_stI (mem' := fm (upd g 23 (nI (K + 1))) tp bt (fm_u (fm_u (fm_u (fm_u (fm_u (fm_u (fm_u a 1 (3846 + (6 * n)) 15) 1 ((3846 + (6 * n)) + 1) 0) 1 ((3846 + (6 * n)) + 2) 0) 1 ((3846 + (6 * n)) + 3) 0) 1 ((3846 + (6 * n)) + 4) 0) 1 ((3846 + (6 * n)) + 5) 0) 1 (3374 : Int32).toNatClampNeg (nI (n + 1))) b) (by rfl) (by rfl) (fx_inN (i := 3374) (by omega) (by omega)) fm_si1 ?_
    rw [show Int32.toNatClampNeg (3374) = 3374 from rfl]
    obtain ⟨at9, hat9⟩ : ∃ z, z = fm_row a n (3846 + 6 * n) 15 := ⟨_, rfl⟩
    rw [show (fm_u (fm_u (fm_u (fm_u (fm_u (fm_u (fm_u a 1 (3846 + (6 * n)) 15) 1 ((3846 + (6 * n)) + 1) 0) 1 ((3846 + (6 * n)) + 2) 0) 1 ((3846 + (6 * n)) + 3) 0) 1 ((3846 + (6 * n)) + 4) 0) 1 ((3846 + (6 * n)) + 5) 0) 1 (3374) (nI (n + 1))) = at9 from hat9.symm]
    have hCt9 : fm_TC a0 at9 n 15 0 := by rw [hat9]; exact fm_TC_new hT hR hn60 (by decide) (by decide)
    have h8t9 : at9 8 = a 8 := (congrFun hat9 8).trans (fm_row_t (by decide))
    refine fe_s 1 (pc' := 195) (lc' := [(5, .int 6), (4, .int 0), (3, .int (nI (3846 + (6 * n)))), (2, .int (nI n)), (1, .int 15), (0, .ref 0)]) (stk' := [.ref 0]) (mem' := fm (upd g 23 (nI (K + 1))) tp bt at9 b) (by intro _ _ _; eq_refl) ?_
    obtain ⟨gk10, Ek10, Fk10, hfrk10, hok10, hek10, hpk10⟩ := fr_aheadq (g := (upd g 23 (nI (K + 1)))) (tp := tp) (bt := bt) (a := at9) (b := b) (fm_gy_up (fm_gy_rf hxp hfl) (by decide)).2.1 (fm_gy_up (fm_gy_rf hxp hfl) (by decide)).2.2.1
    have gok10 := fm_gy_tr (fm_gy_up (fm_gy_rf hxp hfl) (by decide)) hok10
    have e18k10 : gk10 18 = g 18 := hek10.trans ((pk_un (by decide)).trans rfl)
    have prk10 : gk10 12 = 0 ∨ E < Ek10 := hpk10.imp id (fun z => by have := (fm_gy_rf hxp hfl).2.2.2; omega)
    have d22k10 : gk10 22 = nI D := by rw [hok10.1 22 (by decide) (by decide) (by decide) (by decide) (by decide) (by decide)]; first | exact eD | rfl
    have d23k10 : gk10 23 = nI (K + 1) := by rw [hok10.1 23 (by decide) (by decide) (by decide) (by decide) (by decide) (by decide)]; first | exact rfl | rfl
    refine fe_ivV hfrk10 (by omega) (by rfl) (by rfl) (by rfl) (by rfl) (by rfl) (by rfl) ?_
    refine fe_s 3 (pc' := 201) (lc' := [(5, .int 6), (4, .int 0), (3, .int (nI (3846 + (6 * n)))), (2, .int (nI n)), (1, .int 15), (0, .ref 0)]) (stk' := [.int (nI (3846 + (6 * n))), .int 15, .ref 0]) (mem' := fm gk10 tp bt at9 b) (by intro _ _ _; eq_refl) ?_
    obtain ⟨vp11, memp11, ⟨xp11, gp11, Ep11, Fp11, ap11, Xp11, Yp11, hop11, hCp11, h8p11, hvp11, hRp11⟩, hfrp11⟩ := fr_taleOrder15 (g := gk10) (tp := tp) (bt := bt) (a := at9) (b := b) (a0 := a0) gok10.2.1 gok10.2.2.1 hH hCt9
    cases hRp11
    have h9p11 : ap11 8 = a 8 := h8p11.trans h8t9
    have gop11 := fm_gy_tr gok10 hop11
    have d22p11 : gp11 22 = nI D := by rw [hop11.1 22 (by decide) (by decide) (by decide) (by decide) (by decide) (by decide)]; first | exact d22k10 | rfl
    have d23p11 : gp11 23 = nI (K + 1) := by rw [hop11.1 23 (by decide) (by decide) (by decide) (by decide) (by decide) (by decide)]; first | exact d23k10 | rfl
    refine fe_ivV hfrp11 (by omega) (by rfl) (by rfl) (by rfl) (by rfl) (by rfl) (by rfl) ?_
    rcases hvp11 with ⟨rfl, hzp11⟩ | ⟨rfl, hep11, hrop11⟩
    · refine fe_s 1 (pc' := cond (fx_cb .ne 0 0) 209 207) (lc' := [(5, .int 6), (4, .int 0), (3, .int (nI (3846 + (6 * n)))), (2, .int (nI n)), (1, .int 15), (0, .ref 0)]) (stk' := []) (mem' := fm gp11 tp bt ap11 b) (by intro _ _ _; eq_refl) ?_
      rw [show (fx_cb .ne 0 0) = false from by decide]
      dsimp only [cond]
      refine fe_s 1 (pc' := 208) (lc' := [(5, .int 6), (4, .int 0), (3, .int (nI (3846 + (6 * n)))), (2, .int (nI n)), (1, .int 15), (0, .ref 0)]) (stk' := [.int 0]) (mem' := fm gp11 tp bt ap11 b) (by intro _ _ _; eq_refl) ?_
      exact fe_ret ⟨_, _, _, _, _, n + 1, D, (K + 1), gop11, fm_TS_of hCp11 ⟨d22p11, by omega, d23p11, by omega, by omega⟩ (fun d hd => by rw [h9p11]; obtain ⟨q, q1, q2⟩ := h8 d (by omega); exact ⟨q, by omega, q2⟩) (fun d hd => by rw [h9p11]; exact h9 d hd), Or.inl ⟨rfl, hzp11⟩, rfl⟩ (by rfl) (by rfl) (by rfl)
    · have e18p11 : gp11 18 = g 18 := hep11.trans e18k10
      refine fe_s 1 (pc' := cond (fx_cb .ne 1 0) 209 207) (lc' := [(5, .int 6), (4, .int 0), (3, .int (nI (3846 + (6 * n)))), (2, .int (nI n)), (1, .int 15), (0, .ref 0)]) (stk' := []) (mem' := fm gp11 tp bt ap11 b) (by intro _ _ _; eq_refl) ?_
      rw [show (fx_cb .ne 1 0) = true from by decide]
      dsimp only [cond]
      refine fe_s 1 (pc' := 211) (lc' := [(5, .int 6), (4, .int 0), (3, .int (nI (3846 + (6 * n)))), (2, .int (nI n)), (1, .int 15), (0, .ref 0)]) (stk' := [.int 0]) (mem' := fm gp11 tp bt ap11 b) (by intro _ _ _; eq_refl) ?_
      refine fe_s 1 (pc' := cond (fx_cb .eq 0 0) 234 214) (lc' := [(5, .int 6), (4, .int 0), (3, .int (nI (3846 + (6 * n)))), (2, .int (nI n)), (1, .int 15), (0, .ref 0)]) (stk' := []) (mem' := fm gp11 tp bt ap11 b) (by intro _ _ _; eq_refl) ?_
      rw [show (fx_cb .eq 0 0) = true from by decide]
      dsimp only [cond]
      refine fe_s 2 (pc' := 237) (lc' := [(5, .int 6), (4, .int 0), (3, .int (nI (3846 + (6 * n)))), (2, .int (nI n)), (1, .int 15), (0, .ref 0)]) (stk' := [.int 20, .int 15]) (mem' := fm gp11 tp bt ap11 b) (by intro _ _ _; eq_refl) ?_
      refine fe_s 1 (pc' := cond (fx_cb .ne 15 20) 291 240) (lc' := [(5, .int 6), (4, .int 0), (3, .int (nI (3846 + (6 * n)))), (2, .int (nI n)), (1, .int 15), (0, .ref 0)]) (stk' := []) (mem' := fm gp11 tp bt ap11 b) (by intro _ _ _; eq_refl) ?_
      rw [show (fx_cb .ne 15 20) = true from by decide]
      dsimp only [cond]
      refine fe_s 2 (pc' := 294) (lc' := [(5, .int 6), (4, .int 0), (3, .int (nI (3846 + (6 * n)))), (2, .int (nI n)), (1, .int 15), (0, .ref 0)]) (stk' := [.int 59, .ref 0]) (mem' := fm gp11 tp bt ap11 b) (by intro _ _ _; eq_refl) ?_
      obtain ⟨xc12, gc12, Ec12, Fc12, hfrc12, hoc12, hvc12⟩ := fr_wantSignq (c := 59) (g := gp11) (tp := tp) (bt := bt) (a := ap11) (b := b) gop11.2.1 gop11.2.2.1
      have goc12 := fm_gy_tr gop11 hoc12
      have d22c12 : gc12 22 = nI D := by rw [hoc12.1 22 (by decide) (by decide) (by decide) (by decide) (by decide) (by decide)]; first | exact d22p11 | rfl
      have d23c12 : gc12 23 = nI (K + 1) := by rw [hoc12.1 23 (by decide) (by decide) (by decide) (by decide) (by decide) (by decide)]; first | exact d23p11 | rfl
      refine fe_ivV hfrc12 (by omega) (by rfl) (by rfl) (by rfl) (by rfl) (by rfl) (by rfl) ?_
      rcases hvc12 with ⟨rfl, hzc12⟩ | ⟨rfl, hec12, hpc12⟩
      · exact fe_ret ⟨_, _, _, _, _, n + 1, D, (K + 1), goc12, fm_TS_of hCp11 ⟨d22c12, by omega, d23c12, by omega, by omega⟩ (fun d hd => by rw [h9p11]; obtain ⟨q, q1, q2⟩ := h8 d (by omega); exact ⟨q, by omega, q2⟩) (fun d hd => by rw [h9p11]; exact h9 d hd), Or.inl ⟨rfl, hzc12⟩, rfl⟩ (by rfl) (by rfl) (by rfl)
      · have e18c12 : gc12 18 = g 18 := hec12.trans e18p11
        have prc12 : gc12 12 = 0 ∨ E < Ec12 := hpc12.imp id (fun z => by have := gop11.2.2.2; omega)
        exact fe_ret ⟨_, _, _, _, _, n + 1, D, (K + 1), goc12, fm_TS_of hCp11 ⟨d22c12, by omega, d23c12, by omega, by omega⟩ (fun d hd => by rw [h9p11]; obtain ⟨q, q1, q2⟩ := h8 d (by omega); exact ⟨q, by omega, q2⟩) (fun d hd => by rw [h9p11]; exact h9 d hd), Or.inr ⟨rfl, e18c12, prc12, fm_TR_of hCp11 hrop11⟩, rfl⟩ (by rfl) (by rfl) (by rfl)
set_option maxRecDepth 20000 in
set_option maxHeartbeats 8000000 in
theorem ts_16 {S E F C W n D K : Nat} (hxp : fm_xp g S E F) (hfl : fm_flt g) (hH : fm_th a0 C W) (hT : fm_TS a0 g a n D K) (hR : fm_TR a n) : fe_R 10 gk_m251 7 [(1, .int 16), (0, .ref 0)] [] (fm g tp bt a b) (fm_FTS a0 g tp bt b S E) := by
  obtain ⟨⟨eD, hD3, eK, hK30, hnK⟩, h8, h9⟩ := hT.2.2.2.2.2
  refine fe_s 3 (pc' := 14) (lc' := [(1, .int 16), (0, .ref 0)]) (stk' := [.int 3374, .ref 1]) (mem' := fm g tp bt a b) (by intro _ _ _; eq_refl) ?_
  refine fe_ldI (by rfl) (by rfl) (fx_inN (i := 3374) (by omega) (by omega)) ?_
  rw [show Int32.toNatClampNeg (3374) = 3374 from rfl]
  rw [hT.2.2.2.2.1]
  refine fe_s 9 (pc' := 28) (lc' := [(3, .int (3846 + (6 * (nI n)))), (2, .int (nI n)), (1, .int 16), (0, .ref 0)]) (stk' := [.int 18, .int 16]) (mem' := fm g tp bt a b) (by intro _ _ _; eq_refl) ?_
  rw [show (3846 + (6 * (nI n)) : Int32) = nI (3846 + (6 * n)) from by simp only [show (3846 : Int32) = nI 3846 from rfl, show (6 : Int32) = nI 6 from rfl, nI_add, fm_mul]]
  refine fe_s 1 (pc' := cond (fx_cb .eq 16 18) 37 31) (lc' := [(3, .int (nI (3846 + (6 * n)))), (2, .int (nI n)), (1, .int 16), (0, .ref 0)]) (stk' := []) (mem' := fm g tp bt a b) (by intro _ _ _; eq_refl) ?_
  rw [show (fx_cb .eq 16 18) = false from by decide]
  dsimp only [cond]
  refine fe_s 2 (pc' := 34) (lc' := [(3, .int (nI (3846 + (6 * n)))), (2, .int (nI n)), (1, .int 16), (0, .ref 0)]) (stk' := [.int 19, .int 16]) (mem' := fm g tp bt a b) (by intro _ _ _; eq_refl) ?_
  refine fe_s 1 (pc' := cond (fx_cb .ne 16 19) 41 37) (lc' := [(3, .int (nI (3846 + (6 * n)))), (2, .int (nI n)), (1, .int 16), (0, .ref 0)]) (stk' := []) (mem' := fm g tp bt a b) (by intro _ _ _; eq_refl) ?_
  rw [show (fx_cb .ne 16 19) = true from by decide]
  dsimp only [cond]
  refine fe_s 4 (pc' := 47) (lc' := [(4, .int 0), (3, .int (nI (3846 + (6 * n)))), (2, .int (nI n)), (1, .int 16), (0, .ref 0)]) (stk' := [.int 11, .int 16]) (mem' := fm g tp bt a b) (by intro _ _ _; eq_refl) ?_
  refine fe_s 1 (pc' := cond (fx_cb .lt 16 11) 81 50) (lc' := [(4, .int 0), (3, .int (nI (3846 + (6 * n)))), (2, .int (nI n)), (1, .int 16), (0, .ref 0)]) (stk' := []) (mem' := fm g tp bt a b) (by intro _ _ _; eq_refl) ?_
  rw [show (fx_cb .lt 16 11) = false from by decide]
  dsimp only [cond]
  refine fe_s 2 (pc' := 53) (lc' := [(4, .int 0), (3, .int (nI (3846 + (6 * n)))), (2, .int (nI n)), (1, .int 16), (0, .ref 0)]) (stk' := [.int 21, .int 16]) (mem' := fm g tp bt a b) (by intro _ _ _; eq_refl) ?_
  refine fe_s 1 (pc' := cond (fx_cb .gt 16 21) 81 56) (lc' := [(4, .int 0), (3, .int (nI (3846 + (6 * n)))), (2, .int (nI n)), (1, .int 16), (0, .ref 0)]) (stk' := []) (mem' := fm g tp bt a b) (by intro _ _ _; eq_refl) ?_
  rw [show (fx_cb .gt 16 21) = false from by decide]
  dsimp only [cond]
  refine fe_s 2 (pc' := 59) (lc' := [(4, .int 0), (3, .int (nI (3846 + (6 * n)))), (2, .int (nI n)), (1, .int 16), (0, .ref 0)]) (stk' := [.int 16, .int 16]) (mem' := fm g tp bt a b) (by intro _ _ _; eq_refl) ?_
  refine fe_s 1 (pc' := cond (fx_cb .eq 16 16) 81 62) (lc' := [(4, .int 0), (3, .int (nI (3846 + (6 * n)))), (2, .int (nI n)), (1, .int 16), (0, .ref 0)]) (stk' := []) (mem' := fm g tp bt a b) (by intro _ _ _; eq_refl) ?_
  rw [show (fx_cb .eq 16 16) = true from by decide]
  dsimp only [cond]
  refine fe_s 2 (pc' := 83) (lc' := [(4, .int 0), (3, .int (nI (3846 + (6 * n)))), (2, .int (nI n)), (1, .int 16), (0, .ref 0)]) (stk' := [.int 2, .ref 0]) (mem' := fm g tp bt a b) (by intro _ _ _; eq_refl) ?_
  obtain ⟨gf1, hfrf1, hof1, hzf1⟩ := fr_failsq (x := 2) (g := g) (tp := tp) (bt := bt) (a := a) (b := b) (by omega) (by omega) (fm_gy_rf hxp hfl).2.1 (fm_gy_rf hxp hfl).2.2.1
  have gof1 := fm_gy_tr (fm_gy_rf hxp hfl) hof1
  have d22f1 : gf1 22 = nI D := by rw [hof1.1 22 (by decide) (by decide) (by decide) (by decide) (by decide) (by decide)]; first | exact eD | rfl
  have d23f1 : gf1 23 = nI K := by rw [hof1.1 23 (by decide) (by decide) (by decide) (by decide) (by decide) (by decide)]; first | exact eK | rfl
  refine fe_ivV hfrf1 (by omega) (by rfl) (by rfl) (by rfl) (by rfl) (by rfl) (by rfl) ?_
  exact fe_ret ⟨_, _, _, _, _, n, D, K, gof1, ⟨hT.1, hT.2.1, hT.2.2.1, hT.2.2.2.1, hT.2.2.2.2.1, ⟨d22f1, hD3, d23f1, hK30, hnK⟩, h8, h9⟩, Or.inl ⟨rfl, hzf1⟩, rfl⟩ (by rfl) (by rfl) (by rfl)
set_option maxRecDepth 20000 in
set_option maxHeartbeats 8000000 in
theorem ts_17 {S E F C W n D K : Nat} (hxp : fm_xp g S E F) (hfl : fm_flt g) (hH : fm_th a0 C W) (hT : fm_TS a0 g a n D K) (hR : fm_TR a n) : fe_R 10 gk_m251 7 [(1, .int 17), (0, .ref 0)] [] (fm g tp bt a b) (fm_FTS a0 g tp bt b S E) := by
  obtain ⟨⟨eD, hD3, eK, hK30, hnK⟩, h8, h9⟩ := hT.2.2.2.2.2
  refine fe_s 3 (pc' := 14) (lc' := [(1, .int 17), (0, .ref 0)]) (stk' := [.int 3374, .ref 1]) (mem' := fm g tp bt a b) (by intro _ _ _; eq_refl) ?_
  refine fe_ldI (by rfl) (by rfl) (fx_inN (i := 3374) (by omega) (by omega)) ?_
  rw [show Int32.toNatClampNeg (3374) = 3374 from rfl]
  rw [hT.2.2.2.2.1]
  refine fe_s 9 (pc' := 28) (lc' := [(3, .int (3846 + (6 * (nI n)))), (2, .int (nI n)), (1, .int 17), (0, .ref 0)]) (stk' := [.int 18, .int 17]) (mem' := fm g tp bt a b) (by intro _ _ _; eq_refl) ?_
  rw [show (3846 + (6 * (nI n)) : Int32) = nI (3846 + (6 * n)) from by simp only [show (3846 : Int32) = nI 3846 from rfl, show (6 : Int32) = nI 6 from rfl, nI_add, fm_mul]]
  refine fe_s 1 (pc' := cond (fx_cb .eq 17 18) 37 31) (lc' := [(3, .int (nI (3846 + (6 * n)))), (2, .int (nI n)), (1, .int 17), (0, .ref 0)]) (stk' := []) (mem' := fm g tp bt a b) (by intro _ _ _; eq_refl) ?_
  rw [show (fx_cb .eq 17 18) = false from by decide]
  dsimp only [cond]
  refine fe_s 2 (pc' := 34) (lc' := [(3, .int (nI (3846 + (6 * n)))), (2, .int (nI n)), (1, .int 17), (0, .ref 0)]) (stk' := [.int 19, .int 17]) (mem' := fm g tp bt a b) (by intro _ _ _; eq_refl) ?_
  refine fe_s 1 (pc' := cond (fx_cb .ne 17 19) 41 37) (lc' := [(3, .int (nI (3846 + (6 * n)))), (2, .int (nI n)), (1, .int 17), (0, .ref 0)]) (stk' := []) (mem' := fm g tp bt a b) (by intro _ _ _; eq_refl) ?_
  rw [show (fx_cb .ne 17 19) = true from by decide]
  dsimp only [cond]
  refine fe_s 4 (pc' := 47) (lc' := [(4, .int 0), (3, .int (nI (3846 + (6 * n)))), (2, .int (nI n)), (1, .int 17), (0, .ref 0)]) (stk' := [.int 11, .int 17]) (mem' := fm g tp bt a b) (by intro _ _ _; eq_refl) ?_
  refine fe_s 1 (pc' := cond (fx_cb .lt 17 11) 81 50) (lc' := [(4, .int 0), (3, .int (nI (3846 + (6 * n)))), (2, .int (nI n)), (1, .int 17), (0, .ref 0)]) (stk' := []) (mem' := fm g tp bt a b) (by intro _ _ _; eq_refl) ?_
  rw [show (fx_cb .lt 17 11) = false from by decide]
  dsimp only [cond]
  refine fe_s 2 (pc' := 53) (lc' := [(4, .int 0), (3, .int (nI (3846 + (6 * n)))), (2, .int (nI n)), (1, .int 17), (0, .ref 0)]) (stk' := [.int 21, .int 17]) (mem' := fm g tp bt a b) (by intro _ _ _; eq_refl) ?_
  refine fe_s 1 (pc' := cond (fx_cb .gt 17 21) 81 56) (lc' := [(4, .int 0), (3, .int (nI (3846 + (6 * n)))), (2, .int (nI n)), (1, .int 17), (0, .ref 0)]) (stk' := []) (mem' := fm g tp bt a b) (by intro _ _ _; eq_refl) ?_
  rw [show (fx_cb .gt 17 21) = false from by decide]
  dsimp only [cond]
  refine fe_s 2 (pc' := 59) (lc' := [(4, .int 0), (3, .int (nI (3846 + (6 * n)))), (2, .int (nI n)), (1, .int 17), (0, .ref 0)]) (stk' := [.int 16, .int 17]) (mem' := fm g tp bt a b) (by intro _ _ _; eq_refl) ?_
  refine fe_s 1 (pc' := cond (fx_cb .eq 17 16) 81 62) (lc' := [(4, .int 0), (3, .int (nI (3846 + (6 * n)))), (2, .int (nI n)), (1, .int 17), (0, .ref 0)]) (stk' := []) (mem' := fm g tp bt a b) (by intro _ _ _; eq_refl) ?_
  rw [show (fx_cb .eq 17 16) = false from by decide]
  dsimp only [cond]
  refine fe_s 2 (pc' := 65) (lc' := [(4, .int 0), (3, .int (nI (3846 + (6 * n)))), (2, .int (nI n)), (1, .int 17), (0, .ref 0)]) (stk' := [.int 17, .int 17]) (mem' := fm g tp bt a b) (by intro _ _ _; eq_refl) ?_
  refine fe_s 1 (pc' := cond (fx_cb .eq 17 17) 81 68) (lc' := [(4, .int 0), (3, .int (nI (3846 + (6 * n)))), (2, .int (nI n)), (1, .int 17), (0, .ref 0)]) (stk' := []) (mem' := fm g tp bt a b) (by intro _ _ _; eq_refl) ?_
  rw [show (fx_cb .eq 17 17) = true from by decide]
  dsimp only [cond]
  refine fe_s 2 (pc' := 83) (lc' := [(4, .int 0), (3, .int (nI (3846 + (6 * n)))), (2, .int (nI n)), (1, .int 17), (0, .ref 0)]) (stk' := [.int 2, .ref 0]) (mem' := fm g tp bt a b) (by intro _ _ _; eq_refl) ?_
  obtain ⟨gf1, hfrf1, hof1, hzf1⟩ := fr_failsq (x := 2) (g := g) (tp := tp) (bt := bt) (a := a) (b := b) (by omega) (by omega) (fm_gy_rf hxp hfl).2.1 (fm_gy_rf hxp hfl).2.2.1
  have gof1 := fm_gy_tr (fm_gy_rf hxp hfl) hof1
  have d22f1 : gf1 22 = nI D := by rw [hof1.1 22 (by decide) (by decide) (by decide) (by decide) (by decide) (by decide)]; first | exact eD | rfl
  have d23f1 : gf1 23 = nI K := by rw [hof1.1 23 (by decide) (by decide) (by decide) (by decide) (by decide) (by decide)]; first | exact eK | rfl
  refine fe_ivV hfrf1 (by omega) (by rfl) (by rfl) (by rfl) (by rfl) (by rfl) (by rfl) ?_
  exact fe_ret ⟨_, _, _, _, _, n, D, K, gof1, ⟨hT.1, hT.2.1, hT.2.2.1, hT.2.2.2.1, hT.2.2.2.2.1, ⟨d22f1, hD3, d23f1, hK30, hnK⟩, h8, h9⟩, Or.inl ⟨rfl, hzf1⟩, rfl⟩ (by rfl) (by rfl) (by rfl)
end F4873_step
end MH4_1
section MH4_2
/-! ===== fx: a STEP of the TALES ===== -/
section F4874_step
variable {g : Nat → Int32} {tp bt : Int64} {a0 a : Nat → Nat → Int32} {b : Nat → Nat → Int64}
set_option maxRecDepth 20000 in
set_option maxHeartbeats 8000000 in
theorem ts_18 {S E F C W n D K : Nat} (hxp : fm_xp g S E F) (hfl : fm_flt g) (hH : fm_th a0 C W) (hT : fm_TS a0 g a n D K) (hR : fm_TR a n) : fe_R 10 gk_m251 7 [(1, .int 18), (0, .ref 0)] [] (fm g tp bt a b) (fm_FTS a0 g tp bt b S E) := by
  obtain ⟨⟨eD, hD3, eK, hK30, hnK⟩, h8, h9⟩ := hT.2.2.2.2.2
  refine fe_s 3 (pc' := 14) (lc' := [(1, .int 18), (0, .ref 0)]) (stk' := [.int 3374, .ref 1]) (mem' := fm g tp bt a b) (by intro _ _ _; eq_refl) ?_
  refine fe_ldI (by rfl) (by rfl) (fx_inN (i := 3374) (by omega) (by omega)) ?_
  rw [show Int32.toNatClampNeg (3374) = 3374 from rfl]
  rw [hT.2.2.2.2.1]
  refine fe_s 9 (pc' := 28) (lc' := [(3, .int (3846 + (6 * (nI n)))), (2, .int (nI n)), (1, .int 18), (0, .ref 0)]) (stk' := [.int 18, .int 18]) (mem' := fm g tp bt a b) (by intro _ _ _; eq_refl) ?_
  rw [show (3846 + (6 * (nI n)) : Int32) = nI (3846 + (6 * n)) from by simp only [show (3846 : Int32) = nI 3846 from rfl, show (6 : Int32) = nI 6 from rfl, nI_add, fm_mul]]
  refine fe_s 1 (pc' := cond (fx_cb .eq 18 18) 37 31) (lc' := [(3, .int (nI (3846 + (6 * n)))), (2, .int (nI n)), (1, .int 18), (0, .ref 0)]) (stk' := []) (mem' := fm g tp bt a b) (by intro _ _ _; eq_refl) ?_
  rw [show (fx_cb .eq 18 18) = true from by decide]
  dsimp only [cond]
  refine fe_s 5 (pc' := 47) (lc' := [(4, .int 1), (3, .int (nI (3846 + (6 * n)))), (2, .int (nI n)), (1, .int 18), (0, .ref 0)]) (stk' := [.int 11, .int 18]) (mem' := fm g tp bt a b) (by intro _ _ _; eq_refl) ?_
  refine fe_s 1 (pc' := cond (fx_cb .lt 18 11) 81 50) (lc' := [(4, .int 1), (3, .int (nI (3846 + (6 * n)))), (2, .int (nI n)), (1, .int 18), (0, .ref 0)]) (stk' := []) (mem' := fm g tp bt a b) (by intro _ _ _; eq_refl) ?_
  rw [show (fx_cb .lt 18 11) = false from by decide]
  dsimp only [cond]
  refine fe_s 2 (pc' := 53) (lc' := [(4, .int 1), (3, .int (nI (3846 + (6 * n)))), (2, .int (nI n)), (1, .int 18), (0, .ref 0)]) (stk' := [.int 21, .int 18]) (mem' := fm g tp bt a b) (by intro _ _ _; eq_refl) ?_
  refine fe_s 1 (pc' := cond (fx_cb .gt 18 21) 81 56) (lc' := [(4, .int 1), (3, .int (nI (3846 + (6 * n)))), (2, .int (nI n)), (1, .int 18), (0, .ref 0)]) (stk' := []) (mem' := fm g tp bt a b) (by intro _ _ _; eq_refl) ?_
  rw [show (fx_cb .gt 18 21) = false from by decide]
  dsimp only [cond]
  refine fe_s 2 (pc' := 59) (lc' := [(4, .int 1), (3, .int (nI (3846 + (6 * n)))), (2, .int (nI n)), (1, .int 18), (0, .ref 0)]) (stk' := [.int 16, .int 18]) (mem' := fm g tp bt a b) (by intro _ _ _; eq_refl) ?_
  refine fe_s 1 (pc' := cond (fx_cb .eq 18 16) 81 62) (lc' := [(4, .int 1), (3, .int (nI (3846 + (6 * n)))), (2, .int (nI n)), (1, .int 18), (0, .ref 0)]) (stk' := []) (mem' := fm g tp bt a b) (by intro _ _ _; eq_refl) ?_
  rw [show (fx_cb .eq 18 16) = false from by decide]
  dsimp only [cond]
  refine fe_s 2 (pc' := 65) (lc' := [(4, .int 1), (3, .int (nI (3846 + (6 * n)))), (2, .int (nI n)), (1, .int 18), (0, .ref 0)]) (stk' := [.int 17, .int 18]) (mem' := fm g tp bt a b) (by intro _ _ _; eq_refl) ?_
  refine fe_s 1 (pc' := cond (fx_cb .eq 18 17) 81 68) (lc' := [(4, .int 1), (3, .int (nI (3846 + (6 * n)))), (2, .int (nI n)), (1, .int 18), (0, .ref 0)]) (stk' := []) (mem' := fm g tp bt a b) (by intro _ _ _; eq_refl) ?_
  rw [show (fx_cb .eq 18 17) = false from by decide]
  dsimp only [cond]
  refine fe_s 2 (pc' := 71) (lc' := [(4, .int 1), (3, .int (nI (3846 + (6 * n)))), (2, .int (nI n)), (1, .int 18), (0, .ref 0)]) (stk' := [.int 20, .int 18]) (mem' := fm g tp bt a b) (by intro _ _ _; eq_refl) ?_
  refine fe_s 1 (pc' := cond (fx_cb .ne 18 20) 87 74) (lc' := [(4, .int 1), (3, .int (nI (3846 + (6 * n)))), (2, .int (nI n)), (1, .int 18), (0, .ref 0)]) (stk' := []) (mem' := fm g tp bt a b) (by intro _ _ _; eq_refl) ?_
  rw [show (fx_cb .ne 18 20) = true from by decide]
  dsimp only [cond]
  refine fe_s 2 (pc' := 90) (lc' := [(4, .int 1), (3, .int (nI (3846 + (6 * n)))), (2, .int (nI n)), (1, .int 18), (0, .ref 0)]) (stk' := [.int 20, .int 18]) (mem' := fm g tp bt a b) (by intro _ _ _; eq_refl) ?_
  refine fe_s 1 (pc' := cond (fx_cb .eq 18 20) 109 93) (lc' := [(4, .int 1), (3, .int (nI (3846 + (6 * n)))), (2, .int (nI n)), (1, .int 18), (0, .ref 0)]) (stk' := []) (mem' := fm g tp bt a b) (by intro _ _ _; eq_refl) ?_
  rw [show (fx_cb .eq 18 20) = false from by decide]
  dsimp only [cond]
  refine fe_s 3 (pc' := 99) (lc' := [(4, .int 1), (3, .int (nI (3846 + (6 * n)))), (2, .int (nI n)), (1, .int 18), (0, .ref 0)]) (stk' := [.int 30, .int (g 23)]) (mem' := fm g tp bt a b) (by intro _ _ _; eq_refl) ?_
  try rw [eK]
  refine fe_s 1 (pc' := cond (fx_cb .ne (nI K) 30) 109 102) (lc' := [(4, .int 1), (3, .int (nI (3846 + (6 * n)))), (2, .int (nI n)), (1, .int 18), (0, .ref 0)]) (stk' := []) (mem' := fm g tp bt a b) (by intro _ _ _; eq_refl) ?_
  by_cases h1 : K = 30
  · rw [show (fx_cb .ne (nI K) 30) = false from cb_neF (a := K) (b := 30) (by omega) (by omega) (by omega)]
    dsimp only [cond]
    refine fe_s 2 (pc' := 105) (lc' := [(4, .int 1), (3, .int (nI (3846 + (6 * n)))), (2, .int (nI n)), (1, .int 18), (0, .ref 0)]) (stk' := [.int 6, .ref 0]) (mem' := fm g tp bt a b) (by intro _ _ _; eq_refl) ?_
    obtain ⟨gf2, hfrf2, hof2, hzf2⟩ := fr_failsq (x := 6) (g := g) (tp := tp) (bt := bt) (a := a) (b := b) (by omega) (by omega) (fm_gy_rf hxp hfl).2.1 (fm_gy_rf hxp hfl).2.2.1
    have gof2 := fm_gy_tr (fm_gy_rf hxp hfl) hof2
    have d22f2 : gf2 22 = nI D := by rw [hof2.1 22 (by decide) (by decide) (by decide) (by decide) (by decide) (by decide)]; first | exact eD | rfl
    have d23f2 : gf2 23 = nI K := by rw [hof2.1 23 (by decide) (by decide) (by decide) (by decide) (by decide) (by decide)]; first | exact eK | rfl
    refine fe_ivV hfrf2 (by omega) (by rfl) (by rfl) (by rfl) (by rfl) (by rfl) (by rfl) ?_
    exact fe_ret ⟨_, _, _, _, _, n, D, K, gof2, ⟨hT.1, hT.2.1, hT.2.2.1, hT.2.2.2.1, hT.2.2.2.2.1, ⟨d22f2, hD3, d23f2, hK30, hnK⟩, h8, h9⟩, Or.inl ⟨rfl, hzf2⟩, rfl⟩ (by rfl) (by rfl) (by rfl)
  · rw [show (fx_cb .ne (nI K) 30) = true from cb_neT (a := K) (b := 30) (by omega) (by omega) (by omega)]
    dsimp only [cond]
    refine fe_s 1 (pc' := 111) (lc' := [(4, .int 1), (3, .int (nI (3846 + (6 * n)))), (2, .int (nI n)), (1, .int 18), (0, .ref 0)]) (stk' := [.int 1]) (mem' := fm g tp bt a b) (by intro _ _ _; eq_refl) ?_
    refine fe_s 1 (pc' := cond (fx_cb .eq 1 0) 129 114) (lc' := [(4, .int 1), (3, .int (nI (3846 + (6 * n)))), (2, .int (nI n)), (1, .int 18), (0, .ref 0)]) (stk' := []) (mem' := fm g tp bt a b) (by intro _ _ _; eq_refl) ?_
    rw [show (fx_cb .eq 1 0) = false from by decide]
    dsimp only [cond]
    refine fe_s 3 (pc' := 119) (lc' := [(4, .int 1), (3, .int (nI (3846 + (6 * n)))), (2, .int (nI n)), (1, .int 18), (0, .ref 0)]) (stk' := [.int 3, .int (g 22)]) (mem' := fm g tp bt a b) (by intro _ _ _; eq_refl) ?_
    try rw [eD]
    refine fe_s 1 (pc' := cond (fx_cb .ne (nI D) 3) 129 122) (lc' := [(4, .int 1), (3, .int (nI (3846 + (6 * n)))), (2, .int (nI n)), (1, .int 18), (0, .ref 0)]) (stk' := []) (mem' := fm g tp bt a b) (by intro _ _ _; eq_refl) ?_
    by_cases h3 : D = 3
    · rw [show (fx_cb .ne (nI D) 3) = false from cb_neF (a := D) (b := 3) (by omega) (by omega) (by omega)]
      dsimp only [cond]
      refine fe_s 2 (pc' := 125) (lc' := [(4, .int 1), (3, .int (nI (3846 + (6 * n)))), (2, .int (nI n)), (1, .int 18), (0, .ref 0)]) (stk' := [.int 7, .ref 0]) (mem' := fm g tp bt a b) (by intro _ _ _; eq_refl) ?_
      obtain ⟨gf4, hfrf4, hof4, hzf4⟩ := fr_failsq (x := 7) (g := g) (tp := tp) (bt := bt) (a := a) (b := b) (by omega) (by omega) (fm_gy_rf hxp hfl).2.1 (fm_gy_rf hxp hfl).2.2.1
      have gof4 := fm_gy_tr (fm_gy_rf hxp hfl) hof4
      have d22f4 : gf4 22 = nI D := by rw [hof4.1 22 (by decide) (by decide) (by decide) (by decide) (by decide) (by decide)]; first | exact eD | rfl
      have d23f4 : gf4 23 = nI K := by rw [hof4.1 23 (by decide) (by decide) (by decide) (by decide) (by decide) (by decide)]; first | exact eK | rfl
      refine fe_ivV hfrf4 (by omega) (by rfl) (by rfl) (by rfl) (by rfl) (by rfl) (by rfl) ?_
      exact fe_ret ⟨_, _, _, _, _, n, D, K, gof4, ⟨hT.1, hT.2.1, hT.2.2.1, hT.2.2.2.1, hT.2.2.2.2.1, ⟨d22f4, hD3, d23f4, hK30, hnK⟩, h8, h9⟩, Or.inl ⟨rfl, hzf4⟩, rfl⟩ (by rfl) (by rfl) (by rfl)
    · rw [show (fx_cb .ne (nI D) 3) = true from cb_neT (a := D) (b := 3) (by omega) (by omega) (by omega)]
      dsimp only [cond]
      refine fe_s 5 (pc' := 137) (lc' := [(4, .int 1), (3, .int (nI (3846 + (6 * n)))), (2, .int (nI n)), (1, .int 18), (0, .ref 0)]) (stk' := [.int 20, .int 18, .int (g 23), .ref 0]) (mem' := fm g tp bt a b) (by intro _ _ _; eq_refl) ?_
      try rw [eK]
      refine fe_s 1 (pc' := cond (fx_cb .ne 18 20) 144 140) (lc' := [(4, .int 1), (3, .int (nI (3846 + (6 * n)))), (2, .int (nI n)), (1, .int 18), (0, .ref 0)]) (stk' := [.int (nI K), .ref 0]) (mem' := fm g tp bt a b) (by intro _ _ _; eq_refl) ?_
      rw [show (fx_cb .ne 18 20) = true from by decide]
      dsimp only [cond]
      refine fe_s 7 (pc' := 155) (lc' := [(4, .int 1), (3, .int (nI (3846 + (6 * n)))), (2, .int (nI n)), (1, .int 18), (0, .ref 0)]) (stk' := [.int 18, .int (nI (3846 + (6 * n))), .ref 1]) (mem' := fm (upd g 23 ((nI K) + 1)) tp bt a b) (by intro _ _ _; eq_refl) ?_
      rw [show ((nI K) + 1 : Int32) = nI (K + 1) from by simp only [show (1 : Int32) = nI 1 from rfl, nI_add, fm_mul]]
      have hn60 : n < 60 := by omega
      refine fe_stI (mem' := fm (upd g 23 (nI (K + 1))) tp bt (fm_u a 1 (nI (3846 + (6 * n)) : Int32).toNatClampNeg 18) b) (by rfl) (by rfl) (fx_inN (i := 3846 + (6 * n)) (by omega) (by omega)) fm_si1 ?_
      rw [show Int32.toNatClampNeg (nI (3846 + (6 * n))) = 3846 + (6 * n) from nI_clamp (by omega)]
      refine fe_s 4 (pc' := 163) (lc' := [(5, .int 1), (4, .int 1), (3, .int (nI (3846 + (6 * n)))), (2, .int (nI n)), (1, .int 18), (0, .ref 0)]) (stk' := [.int 6, .int 1]) (mem' := fm (upd g 23 (nI (K + 1))) tp bt (fm_u a 1 (3846 + (6 * n)) 18) b) (by intro _ _ _; eq_refl) ?_
      refine fe_s 1 (pc' := cond (fx_cb .ge 1 6) 182 166) (lc' := [(5, .int 1), (4, .int 1), (3, .int (nI (3846 + (6 * n)))), (2, .int (nI n)), (1, .int 18), (0, .ref 0)]) (stk' := []) (mem' := fm (upd g 23 (nI (K + 1))) tp bt (fm_u a 1 (3846 + (6 * n)) 18) b) (by intro _ _ _; eq_refl) ?_
      rw [show (fx_cb .ge 1 6) = false from by decide]
      dsimp only [cond]
      refine fe_s 6 (pc' := 175) (lc' := [(5, .int 1), (4, .int 1), (3, .int (nI (3846 + (6 * n)))), (2, .int (nI n)), (1, .int 18), (0, .ref 0)]) (stk' := [.int 0, .int ((nI (3846 + (6 * n))) + 1), .ref 1]) (mem' := fm (upd g 23 (nI (K + 1))) tp bt (fm_u a 1 (3846 + (6 * n)) 18) b) (by intro _ _ _; eq_refl) ?_
      rw [show ((nI (3846 + (6 * n))) + 1 : Int32) = nI ((3846 + (6 * n)) + 1) from by simp only [show (1 : Int32) = nI 1 from rfl, nI_add, fm_mul]]
      refine fe_stI (mem' := fm (upd g 23 (nI (K + 1))) tp bt (fm_u (fm_u a 1 (3846 + (6 * n)) 18) 1 (nI ((3846 + (6 * n)) + 1) : Int32).toNatClampNeg 0) b) (by rfl) (by rfl) (fx_inN (i := (3846 + (6 * n)) + 1) (by omega) (by omega)) fm_si1 ?_
      rw [show Int32.toNatClampNeg (nI ((3846 + (6 * n)) + 1)) = (3846 + (6 * n)) + 1 from nI_clamp (by omega)]
      refine fe_s 4 (pc' := 163) (lc' := [(5, .int (1 + 1)), (4, .int 1), (3, .int (nI (3846 + (6 * n)))), (2, .int (nI n)), (1, .int 18), (0, .ref 0)]) (stk' := [.int 6, .int (1 + 1)]) (mem' := fm (upd g 23 (nI (K + 1))) tp bt (fm_u (fm_u a 1 (3846 + (6 * n)) 18) 1 ((3846 + (6 * n)) + 1) 0) b) (by intro _ _ _; eq_refl) ?_
      rw [show (1 + 1 : Int32) = 2 from rfl]
      refine fe_s 1 (pc' := cond (fx_cb .ge 2 6) 182 166) (lc' := [(5, .int 2), (4, .int 1), (3, .int (nI (3846 + (6 * n)))), (2, .int (nI n)), (1, .int 18), (0, .ref 0)]) (stk' := []) (mem' := fm (upd g 23 (nI (K + 1))) tp bt (fm_u (fm_u a 1 (3846 + (6 * n)) 18) 1 ((3846 + (6 * n)) + 1) 0) b) (by intro _ _ _; eq_refl) ?_
      rw [show (fx_cb .ge 2 6) = false from by decide]
      dsimp only [cond]
      refine fe_s 6 (pc' := 175) (lc' := [(5, .int 2), (4, .int 1), (3, .int (nI (3846 + (6 * n)))), (2, .int (nI n)), (1, .int 18), (0, .ref 0)]) (stk' := [.int 0, .int ((nI (3846 + (6 * n))) + 2), .ref 1]) (mem' := fm (upd g 23 (nI (K + 1))) tp bt (fm_u (fm_u a 1 (3846 + (6 * n)) 18) 1 ((3846 + (6 * n)) + 1) 0) b) (by intro _ _ _; eq_refl) ?_
      rw [show ((nI (3846 + (6 * n))) + 2 : Int32) = nI ((3846 + (6 * n)) + 2) from by simp only [show (2 : Int32) = nI 2 from rfl, nI_add, fm_mul]]
      refine fe_stI (mem' := fm (upd g 23 (nI (K + 1))) tp bt (fm_u (fm_u (fm_u a 1 (3846 + (6 * n)) 18) 1 ((3846 + (6 * n)) + 1) 0) 1 (nI ((3846 + (6 * n)) + 2) : Int32).toNatClampNeg 0) b) (by rfl) (by rfl) (fx_inN (i := (3846 + (6 * n)) + 2) (by omega) (by omega)) fm_si1 ?_
      rw [show Int32.toNatClampNeg (nI ((3846 + (6 * n)) + 2)) = (3846 + (6 * n)) + 2 from nI_clamp (by omega)]
      refine fe_s 4 (pc' := 163) (lc' := [(5, .int (2 + 1)), (4, .int 1), (3, .int (nI (3846 + (6 * n)))), (2, .int (nI n)), (1, .int 18), (0, .ref 0)]) (stk' := [.int 6, .int (2 + 1)]) (mem' := fm (upd g 23 (nI (K + 1))) tp bt (fm_u (fm_u (fm_u a 1 (3846 + (6 * n)) 18) 1 ((3846 + (6 * n)) + 1) 0) 1 ((3846 + (6 * n)) + 2) 0) b) (by intro _ _ _; eq_refl) ?_
      rw [show (2 + 1 : Int32) = 3 from rfl]
      refine fe_s 1 (pc' := cond (fx_cb .ge 3 6) 182 166) (lc' := [(5, .int 3), (4, .int 1), (3, .int (nI (3846 + (6 * n)))), (2, .int (nI n)), (1, .int 18), (0, .ref 0)]) (stk' := []) (mem' := fm (upd g 23 (nI (K + 1))) tp bt (fm_u (fm_u (fm_u a 1 (3846 + (6 * n)) 18) 1 ((3846 + (6 * n)) + 1) 0) 1 ((3846 + (6 * n)) + 2) 0) b) (by intro _ _ _; eq_refl) ?_
      rw [show (fx_cb .ge 3 6) = false from by decide]
      dsimp only [cond]
      refine fe_s 6 (pc' := 175) (lc' := [(5, .int 3), (4, .int 1), (3, .int (nI (3846 + (6 * n)))), (2, .int (nI n)), (1, .int 18), (0, .ref 0)]) (stk' := [.int 0, .int ((nI (3846 + (6 * n))) + 3), .ref 1]) (mem' := fm (upd g 23 (nI (K + 1))) tp bt (fm_u (fm_u (fm_u a 1 (3846 + (6 * n)) 18) 1 ((3846 + (6 * n)) + 1) 0) 1 ((3846 + (6 * n)) + 2) 0) b) (by intro _ _ _; eq_refl) ?_
      rw [show ((nI (3846 + (6 * n))) + 3 : Int32) = nI ((3846 + (6 * n)) + 3) from by simp only [show (3 : Int32) = nI 3 from rfl, nI_add, fm_mul]]
      refine fe_stI (mem' := fm (upd g 23 (nI (K + 1))) tp bt (fm_u (fm_u (fm_u (fm_u a 1 (3846 + (6 * n)) 18) 1 ((3846 + (6 * n)) + 1) 0) 1 ((3846 + (6 * n)) + 2) 0) 1 (nI ((3846 + (6 * n)) + 3) : Int32).toNatClampNeg 0) b) (by rfl) (by rfl) (fx_inN (i := (3846 + (6 * n)) + 3) (by omega) (by omega)) fm_si1 ?_
      rw [show Int32.toNatClampNeg (nI ((3846 + (6 * n)) + 3)) = (3846 + (6 * n)) + 3 from nI_clamp (by omega)]
      refine fe_s 4 (pc' := 163) (lc' := [(5, .int (3 + 1)), (4, .int 1), (3, .int (nI (3846 + (6 * n)))), (2, .int (nI n)), (1, .int 18), (0, .ref 0)]) (stk' := [.int 6, .int (3 + 1)]) (mem' := fm (upd g 23 (nI (K + 1))) tp bt (fm_u (fm_u (fm_u (fm_u a 1 (3846 + (6 * n)) 18) 1 ((3846 + (6 * n)) + 1) 0) 1 ((3846 + (6 * n)) + 2) 0) 1 ((3846 + (6 * n)) + 3) 0) b) (by intro _ _ _; eq_refl) ?_
      rw [show (3 + 1 : Int32) = 4 from rfl]
      refine fe_s 1 (pc' := cond (fx_cb .ge 4 6) 182 166) (lc' := [(5, .int 4), (4, .int 1), (3, .int (nI (3846 + (6 * n)))), (2, .int (nI n)), (1, .int 18), (0, .ref 0)]) (stk' := []) (mem' := fm (upd g 23 (nI (K + 1))) tp bt (fm_u (fm_u (fm_u (fm_u a 1 (3846 + (6 * n)) 18) 1 ((3846 + (6 * n)) + 1) 0) 1 ((3846 + (6 * n)) + 2) 0) 1 ((3846 + (6 * n)) + 3) 0) b) (by intro _ _ _; eq_refl) ?_
      rw [show (fx_cb .ge 4 6) = false from by decide]
      dsimp only [cond]
      refine fe_s 6 (pc' := 175) (lc' := [(5, .int 4), (4, .int 1), (3, .int (nI (3846 + (6 * n)))), (2, .int (nI n)), (1, .int 18), (0, .ref 0)]) (stk' := [.int 0, .int ((nI (3846 + (6 * n))) + 4), .ref 1]) (mem' := fm (upd g 23 (nI (K + 1))) tp bt (fm_u (fm_u (fm_u (fm_u a 1 (3846 + (6 * n)) 18) 1 ((3846 + (6 * n)) + 1) 0) 1 ((3846 + (6 * n)) + 2) 0) 1 ((3846 + (6 * n)) + 3) 0) b) (by intro _ _ _; eq_refl) ?_
      rw [show ((nI (3846 + (6 * n))) + 4 : Int32) = nI ((3846 + (6 * n)) + 4) from by simp only [show (4 : Int32) = nI 4 from rfl, nI_add, fm_mul]]
      refine fe_stI (mem' := fm (upd g 23 (nI (K + 1))) tp bt (fm_u (fm_u (fm_u (fm_u (fm_u a 1 (3846 + (6 * n)) 18) 1 ((3846 + (6 * n)) + 1) 0) 1 ((3846 + (6 * n)) + 2) 0) 1 ((3846 + (6 * n)) + 3) 0) 1 (nI ((3846 + (6 * n)) + 4) : Int32).toNatClampNeg 0) b) (by rfl) (by rfl) (fx_inN (i := (3846 + (6 * n)) + 4) (by omega) (by omega)) fm_si1 ?_
      rw [show Int32.toNatClampNeg (nI ((3846 + (6 * n)) + 4)) = (3846 + (6 * n)) + 4 from nI_clamp (by omega)]
      refine fe_s 4 (pc' := 163) (lc' := [(5, .int (4 + 1)), (4, .int 1), (3, .int (nI (3846 + (6 * n)))), (2, .int (nI n)), (1, .int 18), (0, .ref 0)]) (stk' := [.int 6, .int (4 + 1)]) (mem' := fm (upd g 23 (nI (K + 1))) tp bt (fm_u (fm_u (fm_u (fm_u (fm_u a 1 (3846 + (6 * n)) 18) 1 ((3846 + (6 * n)) + 1) 0) 1 ((3846 + (6 * n)) + 2) 0) 1 ((3846 + (6 * n)) + 3) 0) 1 ((3846 + (6 * n)) + 4) 0) b) (by intro _ _ _; eq_refl) ?_
      rw [show (4 + 1 : Int32) = 5 from rfl]
      refine fe_s 1 (pc' := cond (fx_cb .ge 5 6) 182 166) (lc' := [(5, .int 5), (4, .int 1), (3, .int (nI (3846 + (6 * n)))), (2, .int (nI n)), (1, .int 18), (0, .ref 0)]) (stk' := []) (mem' := fm (upd g 23 (nI (K + 1))) tp bt (fm_u (fm_u (fm_u (fm_u (fm_u a 1 (3846 + (6 * n)) 18) 1 ((3846 + (6 * n)) + 1) 0) 1 ((3846 + (6 * n)) + 2) 0) 1 ((3846 + (6 * n)) + 3) 0) 1 ((3846 + (6 * n)) + 4) 0) b) (by intro _ _ _; eq_refl) ?_
      rw [show (fx_cb .ge 5 6) = false from by decide]
      dsimp only [cond]
      refine fe_s 6 (pc' := 175) (lc' := [(5, .int 5), (4, .int 1), (3, .int (nI (3846 + (6 * n)))), (2, .int (nI n)), (1, .int 18), (0, .ref 0)]) (stk' := [.int 0, .int ((nI (3846 + (6 * n))) + 5), .ref 1]) (mem' := fm (upd g 23 (nI (K + 1))) tp bt (fm_u (fm_u (fm_u (fm_u (fm_u a 1 (3846 + (6 * n)) 18) 1 ((3846 + (6 * n)) + 1) 0) 1 ((3846 + (6 * n)) + 2) 0) 1 ((3846 + (6 * n)) + 3) 0) 1 ((3846 + (6 * n)) + 4) 0) b) (by intro _ _ _; eq_refl) ?_
      rw [show ((nI (3846 + (6 * n))) + 5 : Int32) = nI ((3846 + (6 * n)) + 5) from by simp only [show (5 : Int32) = nI 5 from rfl, nI_add, fm_mul]]
      refine fe_stI (mem' := fm (upd g 23 (nI (K + 1))) tp bt (fm_u (fm_u (fm_u (fm_u (fm_u (fm_u a 1 (3846 + (6 * n)) 18) 1 ((3846 + (6 * n)) + 1) 0) 1 ((3846 + (6 * n)) + 2) 0) 1 ((3846 + (6 * n)) + 3) 0) 1 ((3846 + (6 * n)) + 4) 0) 1 (nI ((3846 + (6 * n)) + 5) : Int32).toNatClampNeg 0) b) (by rfl) (by rfl) (fx_inN (i := (3846 + (6 * n)) + 5) (by omega) (by omega)) fm_si1 ?_
      rw [show Int32.toNatClampNeg (nI ((3846 + (6 * n)) + 5)) = (3846 + (6 * n)) + 5 from nI_clamp (by omega)]
      refine fe_s 4 (pc' := 163) (lc' := [(5, .int (5 + 1)), (4, .int 1), (3, .int (nI (3846 + (6 * n)))), (2, .int (nI n)), (1, .int 18), (0, .ref 0)]) (stk' := [.int 6, .int (5 + 1)]) (mem' := fm (upd g 23 (nI (K + 1))) tp bt (fm_u (fm_u (fm_u (fm_u (fm_u (fm_u a 1 (3846 + (6 * n)) 18) 1 ((3846 + (6 * n)) + 1) 0) 1 ((3846 + (6 * n)) + 2) 0) 1 ((3846 + (6 * n)) + 3) 0) 1 ((3846 + (6 * n)) + 4) 0) 1 ((3846 + (6 * n)) + 5) 0) b) (by intro _ _ _; eq_refl) ?_
      rw [show (5 + 1 : Int32) = 6 from rfl]
      refine fe_s 1 (pc' := cond (fx_cb .ge 6 6) 182 166) (lc' := [(5, .int 6), (4, .int 1), (3, .int (nI (3846 + (6 * n)))), (2, .int (nI n)), (1, .int 18), (0, .ref 0)]) (stk' := []) (mem' := fm (upd g 23 (nI (K + 1))) tp bt (fm_u (fm_u (fm_u (fm_u (fm_u (fm_u a 1 (3846 + (6 * n)) 18) 1 ((3846 + (6 * n)) + 1) 0) 1 ((3846 + (6 * n)) + 2) 0) 1 ((3846 + (6 * n)) + 3) 0) 1 ((3846 + (6 * n)) + 4) 0) 1 ((3846 + (6 * n)) + 5) 0) b) (by intro _ _ _; eq_refl) ?_
      rw [show (fx_cb .ge 6 6) = true from by decide]
      dsimp only [cond]
      refine fe_s 4 (pc' := 190) (lc' := [(5, .int 6), (4, .int 1), (3, .int (nI (3846 + (6 * n)))), (2, .int (nI n)), (1, .int 18), (0, .ref 0)]) (stk' := [.int 3374, .ref 1, .int 3374, .ref 1]) (mem' := fm (upd g 23 (nI (K + 1))) tp bt (fm_u (fm_u (fm_u (fm_u (fm_u (fm_u a 1 (3846 + (6 * n)) 18) 1 ((3846 + (6 * n)) + 1) 0) 1 ((3846 + (6 * n)) + 2) 0) 1 ((3846 + (6 * n)) + 3) 0) 1 ((3846 + (6 * n)) + 4) 0) 1 ((3846 + (6 * n)) + 5) 0) b) (by intro _ _ _; eq_refl) ?_
      refine fe_ldI (by rfl) (by rfl) (fx_inN (i := 3374) (by omega) (by omega)) ?_
      rw [show Int32.toNatClampNeg (3374) = 3374 from rfl]
      rw [show (fm_u (fm_u (fm_u (fm_u (fm_u (fm_u a 1 (3846 + (6 * n)) 18) 1 ((3846 + (6 * n)) + 1) 0) 1 ((3846 + (6 * n)) + 2) 0) 1 ((3846 + (6 * n)) + 3) 0) 1 ((3846 + (6 * n)) + 4) 0) 1 ((3846 + (6 * n)) + 5) 0) 1 3374 = nI n from by rw [fm_u1, if_neg (by omega), fm_u1, if_neg (by omega), fm_u1, if_neg (by omega), fm_u1, if_neg (by omega), fm_u1, if_neg (by omega), fm_u1, if_neg (by omega)]; exact hT.2.2.2.2.1]
      refine fe_s 2 (pc' := 193) (lc' := [(5, .int 6), (4, .int 1), (3, .int (nI (3846 + (6 * n)))), (2, .int (nI n)), (1, .int 18), (0, .ref 0)]) (stk' := [.int ((nI n) + 1), .int 3374, .ref 1]) (mem' := fm (upd g 23 (nI (K + 1))) tp bt (fm_u (fm_u (fm_u (fm_u (fm_u (fm_u a 1 (3846 + (6 * n)) 18) 1 ((3846 + (6 * n)) + 1) 0) 1 ((3846 + (6 * n)) + 2) 0) 1 ((3846 + (6 * n)) + 3) 0) 1 ((3846 + (6 * n)) + 4) 0) 1 ((3846 + (6 * n)) + 5) 0) b) (by intro _ _ _; eq_refl) ?_
      rw [show ((nI n) + 1 : Int32) = nI (n + 1) from by simp only [show (1 : Int32) = nI 1 from rfl, nI_add, fm_mul]]
      refine fe_stI (mem' := fm (upd g 23 (nI (K + 1))) tp bt (fm_u (fm_u (fm_u (fm_u (fm_u (fm_u (fm_u a 1 (3846 + (6 * n)) 18) 1 ((3846 + (6 * n)) + 1) 0) 1 ((3846 + (6 * n)) + 2) 0) 1 ((3846 + (6 * n)) + 3) 0) 1 ((3846 + (6 * n)) + 4) 0) 1 ((3846 + (6 * n)) + 5) 0) 1 (3374 : Int32).toNatClampNeg (nI (n + 1))) b) (by rfl) (by rfl) (fx_inN (i := 3374) (by omega) (by omega)) fm_si1 ?_
      rw [show Int32.toNatClampNeg (3374) = 3374 from rfl]
      obtain ⟨at11, hat11⟩ : ∃ z, z = fm_row a n (3846 + 6 * n) 18 := ⟨_, rfl⟩
      rw [show (fm_u (fm_u (fm_u (fm_u (fm_u (fm_u (fm_u a 1 (3846 + (6 * n)) 18) 1 ((3846 + (6 * n)) + 1) 0) 1 ((3846 + (6 * n)) + 2) 0) 1 ((3846 + (6 * n)) + 3) 0) 1 ((3846 + (6 * n)) + 4) 0) 1 ((3846 + (6 * n)) + 5) 0) 1 (3374) (nI (n + 1))) = at11 from hat11.symm]
      have hCt11 : fm_TC a0 at11 n 18 0 := by rw [hat11]; exact fm_TC_new hT hR hn60 (by decide) (by decide)
      have h8t11 : at11 8 = a 8 := (congrFun hat11 8).trans (fm_row_t (by decide))
      refine fe_s 1 (pc' := 195) (lc' := [(5, .int 6), (4, .int 1), (3, .int (nI (3846 + (6 * n)))), (2, .int (nI n)), (1, .int 18), (0, .ref 0)]) (stk' := [.ref 0]) (mem' := fm (upd g 23 (nI (K + 1))) tp bt at11 b) (by intro _ _ _; eq_refl) ?_
      obtain ⟨gk12, Ek12, Fk12, hfrk12, hok12, hek12, hpk12⟩ := fr_aheadq (g := (upd g 23 (nI (K + 1)))) (tp := tp) (bt := bt) (a := at11) (b := b) (fm_gy_up (fm_gy_rf hxp hfl) (by decide)).2.1 (fm_gy_up (fm_gy_rf hxp hfl) (by decide)).2.2.1
      have gok12 := fm_gy_tr (fm_gy_up (fm_gy_rf hxp hfl) (by decide)) hok12
      have e18k12 : gk12 18 = g 18 := hek12.trans ((pk_un (by decide)).trans rfl)
      have prk12 : gk12 12 = 0 ∨ E < Ek12 := hpk12.imp id (fun z => by have := (fm_gy_rf hxp hfl).2.2.2; omega)
      have d22k12 : gk12 22 = nI D := by rw [hok12.1 22 (by decide) (by decide) (by decide) (by decide) (by decide) (by decide)]; first | exact eD | rfl
      have d23k12 : gk12 23 = nI (K + 1) := by rw [hok12.1 23 (by decide) (by decide) (by decide) (by decide) (by decide) (by decide)]; first | exact rfl | rfl
      refine fe_ivV hfrk12 (by omega) (by rfl) (by rfl) (by rfl) (by rfl) (by rfl) (by rfl) ?_
      refine fe_s 3 (pc' := 201) (lc' := [(5, .int 6), (4, .int 1), (3, .int (nI (3846 + (6 * n)))), (2, .int (nI n)), (1, .int 18), (0, .ref 0)]) (stk' := [.int (nI (3846 + (6 * n))), .int 18, .ref 0]) (mem' := fm gk12 tp bt at11 b) (by intro _ _ _; eq_refl) ?_
      obtain ⟨vp13, memp13, ⟨xp13, gp13, Ep13, Fp13, ap13, Xp13, Yp13, hop13, hCp13, h8p13, hvp13, hRp13⟩, hfrp13⟩ := fr_taleOrder18 (g := gk12) (tp := tp) (bt := bt) (a := at11) (b := b) (a0 := a0) gok12.2.1 gok12.2.2.1 hH hCt11
      cases hRp13
      have h9p13 : ap13 8 = a 8 := h8p13.trans h8t11
      have gop13 := fm_gy_tr gok12 hop13
      have d22p13 : gp13 22 = nI D := by rw [hop13.1 22 (by decide) (by decide) (by decide) (by decide) (by decide) (by decide)]; first | exact d22k12 | rfl
      have d23p13 : gp13 23 = nI (K + 1) := by rw [hop13.1 23 (by decide) (by decide) (by decide) (by decide) (by decide) (by decide)]; first | exact d23k12 | rfl
      refine fe_ivV hfrp13 (by omega) (by rfl) (by rfl) (by rfl) (by rfl) (by rfl) (by rfl) ?_
      rcases hvp13 with ⟨rfl, hzp13⟩ | ⟨rfl, hep13, hrop13⟩
      · refine fe_s 1 (pc' := cond (fx_cb .ne 0 0) 209 207) (lc' := [(5, .int 6), (4, .int 1), (3, .int (nI (3846 + (6 * n)))), (2, .int (nI n)), (1, .int 18), (0, .ref 0)]) (stk' := []) (mem' := fm gp13 tp bt ap13 b) (by intro _ _ _; eq_refl) ?_
        rw [show (fx_cb .ne 0 0) = false from by decide]
        dsimp only [cond]
        refine fe_s 1 (pc' := 208) (lc' := [(5, .int 6), (4, .int 1), (3, .int (nI (3846 + (6 * n)))), (2, .int (nI n)), (1, .int 18), (0, .ref 0)]) (stk' := [.int 0]) (mem' := fm gp13 tp bt ap13 b) (by intro _ _ _; eq_refl) ?_
        exact fe_ret ⟨_, _, _, _, _, n + 1, D, (K + 1), gop13, fm_TS_of hCp13 ⟨d22p13, by omega, d23p13, by omega, by omega⟩ (fun d hd => by rw [h9p13]; obtain ⟨q, q1, q2⟩ := h8 d (by omega); exact ⟨q, by omega, q2⟩) (fun d hd => by rw [h9p13]; exact h9 d hd), Or.inl ⟨rfl, hzp13⟩, rfl⟩ (by rfl) (by rfl) (by rfl)
      · have e18p13 : gp13 18 = g 18 := hep13.trans e18k12
        refine fe_s 1 (pc' := cond (fx_cb .ne 1 0) 209 207) (lc' := [(5, .int 6), (4, .int 1), (3, .int (nI (3846 + (6 * n)))), (2, .int (nI n)), (1, .int 18), (0, .ref 0)]) (stk' := []) (mem' := fm gp13 tp bt ap13 b) (by intro _ _ _; eq_refl) ?_
        rw [show (fx_cb .ne 1 0) = true from by decide]
        dsimp only [cond]
        refine fe_s 1 (pc' := 211) (lc' := [(5, .int 6), (4, .int 1), (3, .int (nI (3846 + (6 * n)))), (2, .int (nI n)), (1, .int 18), (0, .ref 0)]) (stk' := [.int 1]) (mem' := fm gp13 tp bt ap13 b) (by intro _ _ _; eq_refl) ?_
        refine fe_s 1 (pc' := cond (fx_cb .eq 1 0) 234 214) (lc' := [(5, .int 6), (4, .int 1), (3, .int (nI (3846 + (6 * n)))), (2, .int (nI n)), (1, .int 18), (0, .ref 0)]) (stk' := []) (mem' := fm gp13 tp bt ap13 b) (by intro _ _ _; eq_refl) ?_
        rw [show (fx_cb .eq 1 0) = false from by decide]
        dsimp only [cond]
        refine fe_s 5 (pc' := 223) (lc' := [(5, .int 6), (4, .int 1), (3, .int (nI (3846 + (6 * n)))), (2, .int (nI n)), (1, .int 18), (0, .ref 0)]) (stk' := [.int (nI n), .int (gp13 22), .ref 8]) (mem' := fm gp13 tp bt ap13 b) (by intro _ _ _; eq_refl) ?_
        try rw [d22p13]
        refine fe_stI (mem' := fm gp13 tp bt (fm_u ap13 8 (nI D : Int32).toNatClampNeg (nI n)) b) (by rfl) (by rfl) (fx_inN (i := D) (by omega) (by omega)) fm_si8 ?_
        rw [show Int32.toNatClampNeg (nI D) = D from nI_clamp (by omega)]
        obtain ⟨at14, hat14⟩ : ∃ z, z = fm_u ap13 8 (D) (nI n) := ⟨_, rfl⟩
        rw [← hat14]
        have hCt14 : fm_TC a0 at14 n Xp13 Yp13 := by rw [hat14]; exact fm_TC_8 hCp13
        have w8t14 : ∀ d, at14 8 d = if d = D then nI n else a 8 d := fun d => by rw [hat14, fm_us, h9p13]
        refine fe_s 8 (pc' := 237) (lc' := [(5, .int 6), (4, .int 1), (3, .int (nI (3846 + (6 * n)))), (2, .int (nI n)), (1, .int 18), (0, .ref 0)]) (stk' := [.int 20, .int 18]) (mem' := fm (upd gp13 22 ((gp13 22) + 1)) tp bt at14 b) (by intro _ _ _; eq_refl) ?_
        try rw [d22p13]
        rw [show ((nI D) + 1 : Int32) = nI (D + 1) from by simp only [show (1 : Int32) = nI 1 from rfl, nI_add, fm_mul]]
        refine fe_s 1 (pc' := cond (fx_cb .ne 18 20) 291 240) (lc' := [(5, .int 6), (4, .int 1), (3, .int (nI (3846 + (6 * n)))), (2, .int (nI n)), (1, .int 18), (0, .ref 0)]) (stk' := []) (mem' := fm (upd gp13 22 (nI (D + 1))) tp bt at14 b) (by intro _ _ _; eq_refl) ?_
        rw [show (fx_cb .ne 18 20) = true from by decide]
        dsimp only [cond]
        refine fe_s 2 (pc' := 294) (lc' := [(5, .int 6), (4, .int 1), (3, .int (nI (3846 + (6 * n)))), (2, .int (nI n)), (1, .int 18), (0, .ref 0)]) (stk' := [.int 59, .ref 0]) (mem' := fm (upd gp13 22 (nI (D + 1))) tp bt at14 b) (by intro _ _ _; eq_refl) ?_
        obtain ⟨xc15, gc15, Ec15, Fc15, hfrc15, hoc15, hvc15⟩ := fr_wantSignq (c := 59) (g := (upd gp13 22 (nI (D + 1)))) (tp := tp) (bt := bt) (a := at14) (b := b) (fm_gy_up gop13 (by decide)).2.1 (fm_gy_up gop13 (by decide)).2.2.1
        have goc15 := fm_gy_tr (fm_gy_up gop13 (by decide)) hoc15
        have d22c15 : gc15 22 = nI (D + 1) := by rw [hoc15.1 22 (by decide) (by decide) (by decide) (by decide) (by decide) (by decide)]; first | exact rfl | rfl
        have d23c15 : gc15 23 = nI (K + 1) := by rw [hoc15.1 23 (by decide) (by decide) (by decide) (by decide) (by decide) (by decide)]; first | exact d23p13 | rfl
        refine fe_ivV hfrc15 (by omega) (by rfl) (by rfl) (by rfl) (by rfl) (by rfl) (by rfl) ?_
        rcases hvc15 with ⟨rfl, hzc15⟩ | ⟨rfl, hec15, hpc15⟩
        · exact fe_ret ⟨_, _, _, _, _, n + 1, (D + 1), (K + 1), goc15, fm_TS_of hCt14 ⟨d22c15, by omega, d23c15, by omega, by omega⟩ (fun d hd => by rw [w8t14 d]; split; exact ⟨n, by omega, rfl⟩; obtain ⟨q, q1, q2⟩ := h8 d (by omega); exact ⟨q, by omega, q2⟩) (fun d hd => by rw [w8t14 d]; split; exact ⟨n, by omega, rfl⟩; exact h9 d hd), Or.inl ⟨rfl, hzc15⟩, rfl⟩ (by rfl) (by rfl) (by rfl)
        · have e18c15 : gc15 18 = g 18 := hec15.trans ((pk_un (by decide)).trans e18p13)
          have prc15 : gc15 12 = 0 ∨ E < Ec15 := hpc15.imp id (fun z => by have := gop13.2.2.2; omega)
          exact fe_ret ⟨_, _, _, _, _, n + 1, (D + 1), (K + 1), goc15, fm_TS_of hCt14 ⟨d22c15, by omega, d23c15, by omega, by omega⟩ (fun d hd => by rw [w8t14 d]; split; exact ⟨n, by omega, rfl⟩; obtain ⟨q, q1, q2⟩ := h8 d (by omega); exact ⟨q, by omega, q2⟩) (fun d hd => by rw [w8t14 d]; split; exact ⟨n, by omega, rfl⟩; exact h9 d hd), Or.inr ⟨rfl, e18c15, prc15, fm_TR_of hCt14 hrop13⟩, rfl⟩ (by rfl) (by rfl) (by rfl)
set_option maxRecDepth 20000 in
set_option maxHeartbeats 8000000 in
theorem ts_19 {S E F C W n D K : Nat} (hxp : fm_xp g S E F) (hfl : fm_flt g) (hH : fm_th a0 C W) (hT : fm_TS a0 g a n D K) (hR : fm_TR a n) : fe_R 10 gk_m251 7 [(1, .int 19), (0, .ref 0)] [] (fm g tp bt a b) (fm_FTS a0 g tp bt b S E) := by
  obtain ⟨⟨eD, hD3, eK, hK30, hnK⟩, h8, h9⟩ := hT.2.2.2.2.2
  refine fe_s 3 (pc' := 14) (lc' := [(1, .int 19), (0, .ref 0)]) (stk' := [.int 3374, .ref 1]) (mem' := fm g tp bt a b) (by intro _ _ _; eq_refl) ?_
  refine fe_ldI (by rfl) (by rfl) (fx_inN (i := 3374) (by omega) (by omega)) ?_
  rw [show Int32.toNatClampNeg (3374) = 3374 from rfl]
  rw [hT.2.2.2.2.1]
  refine fe_s 9 (pc' := 28) (lc' := [(3, .int (3846 + (6 * (nI n)))), (2, .int (nI n)), (1, .int 19), (0, .ref 0)]) (stk' := [.int 18, .int 19]) (mem' := fm g tp bt a b) (by intro _ _ _; eq_refl) ?_
  rw [show (3846 + (6 * (nI n)) : Int32) = nI (3846 + (6 * n)) from by simp only [show (3846 : Int32) = nI 3846 from rfl, show (6 : Int32) = nI 6 from rfl, nI_add, fm_mul]]
  refine fe_s 1 (pc' := cond (fx_cb .eq 19 18) 37 31) (lc' := [(3, .int (nI (3846 + (6 * n)))), (2, .int (nI n)), (1, .int 19), (0, .ref 0)]) (stk' := []) (mem' := fm g tp bt a b) (by intro _ _ _; eq_refl) ?_
  rw [show (fx_cb .eq 19 18) = false from by decide]
  dsimp only [cond]
  refine fe_s 2 (pc' := 34) (lc' := [(3, .int (nI (3846 + (6 * n)))), (2, .int (nI n)), (1, .int 19), (0, .ref 0)]) (stk' := [.int 19, .int 19]) (mem' := fm g tp bt a b) (by intro _ _ _; eq_refl) ?_
  refine fe_s 1 (pc' := cond (fx_cb .ne 19 19) 41 37) (lc' := [(3, .int (nI (3846 + (6 * n)))), (2, .int (nI n)), (1, .int 19), (0, .ref 0)]) (stk' := []) (mem' := fm g tp bt a b) (by intro _ _ _; eq_refl) ?_
  rw [show (fx_cb .ne 19 19) = false from by decide]
  dsimp only [cond]
  refine fe_s 5 (pc' := 47) (lc' := [(4, .int 1), (3, .int (nI (3846 + (6 * n)))), (2, .int (nI n)), (1, .int 19), (0, .ref 0)]) (stk' := [.int 11, .int 19]) (mem' := fm g tp bt a b) (by intro _ _ _; eq_refl) ?_
  refine fe_s 1 (pc' := cond (fx_cb .lt 19 11) 81 50) (lc' := [(4, .int 1), (3, .int (nI (3846 + (6 * n)))), (2, .int (nI n)), (1, .int 19), (0, .ref 0)]) (stk' := []) (mem' := fm g tp bt a b) (by intro _ _ _; eq_refl) ?_
  rw [show (fx_cb .lt 19 11) = false from by decide]
  dsimp only [cond]
  refine fe_s 2 (pc' := 53) (lc' := [(4, .int 1), (3, .int (nI (3846 + (6 * n)))), (2, .int (nI n)), (1, .int 19), (0, .ref 0)]) (stk' := [.int 21, .int 19]) (mem' := fm g tp bt a b) (by intro _ _ _; eq_refl) ?_
  refine fe_s 1 (pc' := cond (fx_cb .gt 19 21) 81 56) (lc' := [(4, .int 1), (3, .int (nI (3846 + (6 * n)))), (2, .int (nI n)), (1, .int 19), (0, .ref 0)]) (stk' := []) (mem' := fm g tp bt a b) (by intro _ _ _; eq_refl) ?_
  rw [show (fx_cb .gt 19 21) = false from by decide]
  dsimp only [cond]
  refine fe_s 2 (pc' := 59) (lc' := [(4, .int 1), (3, .int (nI (3846 + (6 * n)))), (2, .int (nI n)), (1, .int 19), (0, .ref 0)]) (stk' := [.int 16, .int 19]) (mem' := fm g tp bt a b) (by intro _ _ _; eq_refl) ?_
  refine fe_s 1 (pc' := cond (fx_cb .eq 19 16) 81 62) (lc' := [(4, .int 1), (3, .int (nI (3846 + (6 * n)))), (2, .int (nI n)), (1, .int 19), (0, .ref 0)]) (stk' := []) (mem' := fm g tp bt a b) (by intro _ _ _; eq_refl) ?_
  rw [show (fx_cb .eq 19 16) = false from by decide]
  dsimp only [cond]
  refine fe_s 2 (pc' := 65) (lc' := [(4, .int 1), (3, .int (nI (3846 + (6 * n)))), (2, .int (nI n)), (1, .int 19), (0, .ref 0)]) (stk' := [.int 17, .int 19]) (mem' := fm g tp bt a b) (by intro _ _ _; eq_refl) ?_
  refine fe_s 1 (pc' := cond (fx_cb .eq 19 17) 81 68) (lc' := [(4, .int 1), (3, .int (nI (3846 + (6 * n)))), (2, .int (nI n)), (1, .int 19), (0, .ref 0)]) (stk' := []) (mem' := fm g tp bt a b) (by intro _ _ _; eq_refl) ?_
  rw [show (fx_cb .eq 19 17) = false from by decide]
  dsimp only [cond]
  refine fe_s 2 (pc' := 71) (lc' := [(4, .int 1), (3, .int (nI (3846 + (6 * n)))), (2, .int (nI n)), (1, .int 19), (0, .ref 0)]) (stk' := [.int 20, .int 19]) (mem' := fm g tp bt a b) (by intro _ _ _; eq_refl) ?_
  refine fe_s 1 (pc' := cond (fx_cb .ne 19 20) 87 74) (lc' := [(4, .int 1), (3, .int (nI (3846 + (6 * n)))), (2, .int (nI n)), (1, .int 19), (0, .ref 0)]) (stk' := []) (mem' := fm g tp bt a b) (by intro _ _ _; eq_refl) ?_
  rw [show (fx_cb .ne 19 20) = true from by decide]
  dsimp only [cond]
  refine fe_s 2 (pc' := 90) (lc' := [(4, .int 1), (3, .int (nI (3846 + (6 * n)))), (2, .int (nI n)), (1, .int 19), (0, .ref 0)]) (stk' := [.int 20, .int 19]) (mem' := fm g tp bt a b) (by intro _ _ _; eq_refl) ?_
  refine fe_s 1 (pc' := cond (fx_cb .eq 19 20) 109 93) (lc' := [(4, .int 1), (3, .int (nI (3846 + (6 * n)))), (2, .int (nI n)), (1, .int 19), (0, .ref 0)]) (stk' := []) (mem' := fm g tp bt a b) (by intro _ _ _; eq_refl) ?_
  rw [show (fx_cb .eq 19 20) = false from by decide]
  dsimp only [cond]
  refine fe_s 3 (pc' := 99) (lc' := [(4, .int 1), (3, .int (nI (3846 + (6 * n)))), (2, .int (nI n)), (1, .int 19), (0, .ref 0)]) (stk' := [.int 30, .int (g 23)]) (mem' := fm g tp bt a b) (by intro _ _ _; eq_refl) ?_
  try rw [eK]
  refine fe_s 1 (pc' := cond (fx_cb .ne (nI K) 30) 109 102) (lc' := [(4, .int 1), (3, .int (nI (3846 + (6 * n)))), (2, .int (nI n)), (1, .int 19), (0, .ref 0)]) (stk' := []) (mem' := fm g tp bt a b) (by intro _ _ _; eq_refl) ?_
  by_cases h1 : K = 30
  · rw [show (fx_cb .ne (nI K) 30) = false from cb_neF (a := K) (b := 30) (by omega) (by omega) (by omega)]
    dsimp only [cond]
    refine fe_s 2 (pc' := 105) (lc' := [(4, .int 1), (3, .int (nI (3846 + (6 * n)))), (2, .int (nI n)), (1, .int 19), (0, .ref 0)]) (stk' := [.int 6, .ref 0]) (mem' := fm g tp bt a b) (by intro _ _ _; eq_refl) ?_
    obtain ⟨gf2, hfrf2, hof2, hzf2⟩ := fr_failsq (x := 6) (g := g) (tp := tp) (bt := bt) (a := a) (b := b) (by omega) (by omega) (fm_gy_rf hxp hfl).2.1 (fm_gy_rf hxp hfl).2.2.1
    have gof2 := fm_gy_tr (fm_gy_rf hxp hfl) hof2
    have d22f2 : gf2 22 = nI D := by rw [hof2.1 22 (by decide) (by decide) (by decide) (by decide) (by decide) (by decide)]; first | exact eD | rfl
    have d23f2 : gf2 23 = nI K := by rw [hof2.1 23 (by decide) (by decide) (by decide) (by decide) (by decide) (by decide)]; first | exact eK | rfl
    refine fe_ivV hfrf2 (by omega) (by rfl) (by rfl) (by rfl) (by rfl) (by rfl) (by rfl) ?_
    exact fe_ret ⟨_, _, _, _, _, n, D, K, gof2, ⟨hT.1, hT.2.1, hT.2.2.1, hT.2.2.2.1, hT.2.2.2.2.1, ⟨d22f2, hD3, d23f2, hK30, hnK⟩, h8, h9⟩, Or.inl ⟨rfl, hzf2⟩, rfl⟩ (by rfl) (by rfl) (by rfl)
  · rw [show (fx_cb .ne (nI K) 30) = true from cb_neT (a := K) (b := 30) (by omega) (by omega) (by omega)]
    dsimp only [cond]
    refine fe_s 1 (pc' := 111) (lc' := [(4, .int 1), (3, .int (nI (3846 + (6 * n)))), (2, .int (nI n)), (1, .int 19), (0, .ref 0)]) (stk' := [.int 1]) (mem' := fm g tp bt a b) (by intro _ _ _; eq_refl) ?_
    refine fe_s 1 (pc' := cond (fx_cb .eq 1 0) 129 114) (lc' := [(4, .int 1), (3, .int (nI (3846 + (6 * n)))), (2, .int (nI n)), (1, .int 19), (0, .ref 0)]) (stk' := []) (mem' := fm g tp bt a b) (by intro _ _ _; eq_refl) ?_
    rw [show (fx_cb .eq 1 0) = false from by decide]
    dsimp only [cond]
    refine fe_s 3 (pc' := 119) (lc' := [(4, .int 1), (3, .int (nI (3846 + (6 * n)))), (2, .int (nI n)), (1, .int 19), (0, .ref 0)]) (stk' := [.int 3, .int (g 22)]) (mem' := fm g tp bt a b) (by intro _ _ _; eq_refl) ?_
    try rw [eD]
    refine fe_s 1 (pc' := cond (fx_cb .ne (nI D) 3) 129 122) (lc' := [(4, .int 1), (3, .int (nI (3846 + (6 * n)))), (2, .int (nI n)), (1, .int 19), (0, .ref 0)]) (stk' := []) (mem' := fm g tp bt a b) (by intro _ _ _; eq_refl) ?_
    by_cases h3 : D = 3
    · rw [show (fx_cb .ne (nI D) 3) = false from cb_neF (a := D) (b := 3) (by omega) (by omega) (by omega)]
      dsimp only [cond]
      refine fe_s 2 (pc' := 125) (lc' := [(4, .int 1), (3, .int (nI (3846 + (6 * n)))), (2, .int (nI n)), (1, .int 19), (0, .ref 0)]) (stk' := [.int 7, .ref 0]) (mem' := fm g tp bt a b) (by intro _ _ _; eq_refl) ?_
      obtain ⟨gf4, hfrf4, hof4, hzf4⟩ := fr_failsq (x := 7) (g := g) (tp := tp) (bt := bt) (a := a) (b := b) (by omega) (by omega) (fm_gy_rf hxp hfl).2.1 (fm_gy_rf hxp hfl).2.2.1
      have gof4 := fm_gy_tr (fm_gy_rf hxp hfl) hof4
      have d22f4 : gf4 22 = nI D := by rw [hof4.1 22 (by decide) (by decide) (by decide) (by decide) (by decide) (by decide)]; first | exact eD | rfl
      have d23f4 : gf4 23 = nI K := by rw [hof4.1 23 (by decide) (by decide) (by decide) (by decide) (by decide) (by decide)]; first | exact eK | rfl
      refine fe_ivV hfrf4 (by omega) (by rfl) (by rfl) (by rfl) (by rfl) (by rfl) (by rfl) ?_
      exact fe_ret ⟨_, _, _, _, _, n, D, K, gof4, ⟨hT.1, hT.2.1, hT.2.2.1, hT.2.2.2.1, hT.2.2.2.2.1, ⟨d22f4, hD3, d23f4, hK30, hnK⟩, h8, h9⟩, Or.inl ⟨rfl, hzf4⟩, rfl⟩ (by rfl) (by rfl) (by rfl)
    · rw [show (fx_cb .ne (nI D) 3) = true from cb_neT (a := D) (b := 3) (by omega) (by omega) (by omega)]
      dsimp only [cond]
      refine fe_s 5 (pc' := 137) (lc' := [(4, .int 1), (3, .int (nI (3846 + (6 * n)))), (2, .int (nI n)), (1, .int 19), (0, .ref 0)]) (stk' := [.int 20, .int 19, .int (g 23), .ref 0]) (mem' := fm g tp bt a b) (by intro _ _ _; eq_refl) ?_
      try rw [eK]
      refine fe_s 1 (pc' := cond (fx_cb .ne 19 20) 144 140) (lc' := [(4, .int 1), (3, .int (nI (3846 + (6 * n)))), (2, .int (nI n)), (1, .int 19), (0, .ref 0)]) (stk' := [.int (nI K), .ref 0]) (mem' := fm g tp bt a b) (by intro _ _ _; eq_refl) ?_
      rw [show (fx_cb .ne 19 20) = true from by decide]
      dsimp only [cond]
      refine fe_s 7 (pc' := 155) (lc' := [(4, .int 1), (3, .int (nI (3846 + (6 * n)))), (2, .int (nI n)), (1, .int 19), (0, .ref 0)]) (stk' := [.int 19, .int (nI (3846 + (6 * n))), .ref 1]) (mem' := fm (upd g 23 ((nI K) + 1)) tp bt a b) (by intro _ _ _; eq_refl) ?_
      rw [show ((nI K) + 1 : Int32) = nI (K + 1) from by simp only [show (1 : Int32) = nI 1 from rfl, nI_add, fm_mul]]
      have hn60 : n < 60 := by omega
      refine fe_stI (mem' := fm (upd g 23 (nI (K + 1))) tp bt (fm_u a 1 (nI (3846 + (6 * n)) : Int32).toNatClampNeg 19) b) (by rfl) (by rfl) (fx_inN (i := 3846 + (6 * n)) (by omega) (by omega)) fm_si1 ?_
      rw [show Int32.toNatClampNeg (nI (3846 + (6 * n))) = 3846 + (6 * n) from nI_clamp (by omega)]
      refine fe_s 4 (pc' := 163) (lc' := [(5, .int 1), (4, .int 1), (3, .int (nI (3846 + (6 * n)))), (2, .int (nI n)), (1, .int 19), (0, .ref 0)]) (stk' := [.int 6, .int 1]) (mem' := fm (upd g 23 (nI (K + 1))) tp bt (fm_u a 1 (3846 + (6 * n)) 19) b) (by intro _ _ _; eq_refl) ?_
      refine fe_s 1 (pc' := cond (fx_cb .ge 1 6) 182 166) (lc' := [(5, .int 1), (4, .int 1), (3, .int (nI (3846 + (6 * n)))), (2, .int (nI n)), (1, .int 19), (0, .ref 0)]) (stk' := []) (mem' := fm (upd g 23 (nI (K + 1))) tp bt (fm_u a 1 (3846 + (6 * n)) 19) b) (by intro _ _ _; eq_refl) ?_
      rw [show (fx_cb .ge 1 6) = false from by decide]
      dsimp only [cond]
      refine fe_s 6 (pc' := 175) (lc' := [(5, .int 1), (4, .int 1), (3, .int (nI (3846 + (6 * n)))), (2, .int (nI n)), (1, .int 19), (0, .ref 0)]) (stk' := [.int 0, .int ((nI (3846 + (6 * n))) + 1), .ref 1]) (mem' := fm (upd g 23 (nI (K + 1))) tp bt (fm_u a 1 (3846 + (6 * n)) 19) b) (by intro _ _ _; eq_refl) ?_
      rw [show ((nI (3846 + (6 * n))) + 1 : Int32) = nI ((3846 + (6 * n)) + 1) from by simp only [show (1 : Int32) = nI 1 from rfl, nI_add, fm_mul]]
      refine fe_stI (mem' := fm (upd g 23 (nI (K + 1))) tp bt (fm_u (fm_u a 1 (3846 + (6 * n)) 19) 1 (nI ((3846 + (6 * n)) + 1) : Int32).toNatClampNeg 0) b) (by rfl) (by rfl) (fx_inN (i := (3846 + (6 * n)) + 1) (by omega) (by omega)) fm_si1 ?_
      rw [show Int32.toNatClampNeg (nI ((3846 + (6 * n)) + 1)) = (3846 + (6 * n)) + 1 from nI_clamp (by omega)]
      refine fe_s 4 (pc' := 163) (lc' := [(5, .int (1 + 1)), (4, .int 1), (3, .int (nI (3846 + (6 * n)))), (2, .int (nI n)), (1, .int 19), (0, .ref 0)]) (stk' := [.int 6, .int (1 + 1)]) (mem' := fm (upd g 23 (nI (K + 1))) tp bt (fm_u (fm_u a 1 (3846 + (6 * n)) 19) 1 ((3846 + (6 * n)) + 1) 0) b) (by intro _ _ _; eq_refl) ?_
      rw [show (1 + 1 : Int32) = 2 from rfl]
      refine fe_s 1 (pc' := cond (fx_cb .ge 2 6) 182 166) (lc' := [(5, .int 2), (4, .int 1), (3, .int (nI (3846 + (6 * n)))), (2, .int (nI n)), (1, .int 19), (0, .ref 0)]) (stk' := []) (mem' := fm (upd g 23 (nI (K + 1))) tp bt (fm_u (fm_u a 1 (3846 + (6 * n)) 19) 1 ((3846 + (6 * n)) + 1) 0) b) (by intro _ _ _; eq_refl) ?_
      rw [show (fx_cb .ge 2 6) = false from by decide]
      dsimp only [cond]
      refine fe_s 6 (pc' := 175) (lc' := [(5, .int 2), (4, .int 1), (3, .int (nI (3846 + (6 * n)))), (2, .int (nI n)), (1, .int 19), (0, .ref 0)]) (stk' := [.int 0, .int ((nI (3846 + (6 * n))) + 2), .ref 1]) (mem' := fm (upd g 23 (nI (K + 1))) tp bt (fm_u (fm_u a 1 (3846 + (6 * n)) 19) 1 ((3846 + (6 * n)) + 1) 0) b) (by intro _ _ _; eq_refl) ?_
      rw [show ((nI (3846 + (6 * n))) + 2 : Int32) = nI ((3846 + (6 * n)) + 2) from by simp only [show (2 : Int32) = nI 2 from rfl, nI_add, fm_mul]]
      refine fe_stI (mem' := fm (upd g 23 (nI (K + 1))) tp bt (fm_u (fm_u (fm_u a 1 (3846 + (6 * n)) 19) 1 ((3846 + (6 * n)) + 1) 0) 1 (nI ((3846 + (6 * n)) + 2) : Int32).toNatClampNeg 0) b) (by rfl) (by rfl) (fx_inN (i := (3846 + (6 * n)) + 2) (by omega) (by omega)) fm_si1 ?_
      rw [show Int32.toNatClampNeg (nI ((3846 + (6 * n)) + 2)) = (3846 + (6 * n)) + 2 from nI_clamp (by omega)]
      refine fe_s 4 (pc' := 163) (lc' := [(5, .int (2 + 1)), (4, .int 1), (3, .int (nI (3846 + (6 * n)))), (2, .int (nI n)), (1, .int 19), (0, .ref 0)]) (stk' := [.int 6, .int (2 + 1)]) (mem' := fm (upd g 23 (nI (K + 1))) tp bt (fm_u (fm_u (fm_u a 1 (3846 + (6 * n)) 19) 1 ((3846 + (6 * n)) + 1) 0) 1 ((3846 + (6 * n)) + 2) 0) b) (by intro _ _ _; eq_refl) ?_
      rw [show (2 + 1 : Int32) = 3 from rfl]
      refine fe_s 1 (pc' := cond (fx_cb .ge 3 6) 182 166) (lc' := [(5, .int 3), (4, .int 1), (3, .int (nI (3846 + (6 * n)))), (2, .int (nI n)), (1, .int 19), (0, .ref 0)]) (stk' := []) (mem' := fm (upd g 23 (nI (K + 1))) tp bt (fm_u (fm_u (fm_u a 1 (3846 + (6 * n)) 19) 1 ((3846 + (6 * n)) + 1) 0) 1 ((3846 + (6 * n)) + 2) 0) b) (by intro _ _ _; eq_refl) ?_
      rw [show (fx_cb .ge 3 6) = false from by decide]
      dsimp only [cond]
      refine fe_s 6 (pc' := 175) (lc' := [(5, .int 3), (4, .int 1), (3, .int (nI (3846 + (6 * n)))), (2, .int (nI n)), (1, .int 19), (0, .ref 0)]) (stk' := [.int 0, .int ((nI (3846 + (6 * n))) + 3), .ref 1]) (mem' := fm (upd g 23 (nI (K + 1))) tp bt (fm_u (fm_u (fm_u a 1 (3846 + (6 * n)) 19) 1 ((3846 + (6 * n)) + 1) 0) 1 ((3846 + (6 * n)) + 2) 0) b) (by intro _ _ _; eq_refl) ?_
      rw [show ((nI (3846 + (6 * n))) + 3 : Int32) = nI ((3846 + (6 * n)) + 3) from by simp only [show (3 : Int32) = nI 3 from rfl, nI_add, fm_mul]]
      refine fe_stI (mem' := fm (upd g 23 (nI (K + 1))) tp bt (fm_u (fm_u (fm_u (fm_u a 1 (3846 + (6 * n)) 19) 1 ((3846 + (6 * n)) + 1) 0) 1 ((3846 + (6 * n)) + 2) 0) 1 (nI ((3846 + (6 * n)) + 3) : Int32).toNatClampNeg 0) b) (by rfl) (by rfl) (fx_inN (i := (3846 + (6 * n)) + 3) (by omega) (by omega)) fm_si1 ?_
      rw [show Int32.toNatClampNeg (nI ((3846 + (6 * n)) + 3)) = (3846 + (6 * n)) + 3 from nI_clamp (by omega)]
      refine fe_s 4 (pc' := 163) (lc' := [(5, .int (3 + 1)), (4, .int 1), (3, .int (nI (3846 + (6 * n)))), (2, .int (nI n)), (1, .int 19), (0, .ref 0)]) (stk' := [.int 6, .int (3 + 1)]) (mem' := fm (upd g 23 (nI (K + 1))) tp bt (fm_u (fm_u (fm_u (fm_u a 1 (3846 + (6 * n)) 19) 1 ((3846 + (6 * n)) + 1) 0) 1 ((3846 + (6 * n)) + 2) 0) 1 ((3846 + (6 * n)) + 3) 0) b) (by intro _ _ _; eq_refl) ?_
      rw [show (3 + 1 : Int32) = 4 from rfl]
      refine fe_s 1 (pc' := cond (fx_cb .ge 4 6) 182 166) (lc' := [(5, .int 4), (4, .int 1), (3, .int (nI (3846 + (6 * n)))), (2, .int (nI n)), (1, .int 19), (0, .ref 0)]) (stk' := []) (mem' := fm (upd g 23 (nI (K + 1))) tp bt (fm_u (fm_u (fm_u (fm_u a 1 (3846 + (6 * n)) 19) 1 ((3846 + (6 * n)) + 1) 0) 1 ((3846 + (6 * n)) + 2) 0) 1 ((3846 + (6 * n)) + 3) 0) b) (by intro _ _ _; eq_refl) ?_
      rw [show (fx_cb .ge 4 6) = false from by decide]
      dsimp only [cond]
      refine fe_s 6 (pc' := 175) (lc' := [(5, .int 4), (4, .int 1), (3, .int (nI (3846 + (6 * n)))), (2, .int (nI n)), (1, .int 19), (0, .ref 0)]) (stk' := [.int 0, .int ((nI (3846 + (6 * n))) + 4), .ref 1]) (mem' := fm (upd g 23 (nI (K + 1))) tp bt (fm_u (fm_u (fm_u (fm_u a 1 (3846 + (6 * n)) 19) 1 ((3846 + (6 * n)) + 1) 0) 1 ((3846 + (6 * n)) + 2) 0) 1 ((3846 + (6 * n)) + 3) 0) b) (by intro _ _ _; eq_refl) ?_
      rw [show ((nI (3846 + (6 * n))) + 4 : Int32) = nI ((3846 + (6 * n)) + 4) from by simp only [show (4 : Int32) = nI 4 from rfl, nI_add, fm_mul]]
      refine fe_stI (mem' := fm (upd g 23 (nI (K + 1))) tp bt (fm_u (fm_u (fm_u (fm_u (fm_u a 1 (3846 + (6 * n)) 19) 1 ((3846 + (6 * n)) + 1) 0) 1 ((3846 + (6 * n)) + 2) 0) 1 ((3846 + (6 * n)) + 3) 0) 1 (nI ((3846 + (6 * n)) + 4) : Int32).toNatClampNeg 0) b) (by rfl) (by rfl) (fx_inN (i := (3846 + (6 * n)) + 4) (by omega) (by omega)) fm_si1 ?_
      rw [show Int32.toNatClampNeg (nI ((3846 + (6 * n)) + 4)) = (3846 + (6 * n)) + 4 from nI_clamp (by omega)]
      refine fe_s 4 (pc' := 163) (lc' := [(5, .int (4 + 1)), (4, .int 1), (3, .int (nI (3846 + (6 * n)))), (2, .int (nI n)), (1, .int 19), (0, .ref 0)]) (stk' := [.int 6, .int (4 + 1)]) (mem' := fm (upd g 23 (nI (K + 1))) tp bt (fm_u (fm_u (fm_u (fm_u (fm_u a 1 (3846 + (6 * n)) 19) 1 ((3846 + (6 * n)) + 1) 0) 1 ((3846 + (6 * n)) + 2) 0) 1 ((3846 + (6 * n)) + 3) 0) 1 ((3846 + (6 * n)) + 4) 0) b) (by intro _ _ _; eq_refl) ?_
      rw [show (4 + 1 : Int32) = 5 from rfl]
      refine fe_s 1 (pc' := cond (fx_cb .ge 5 6) 182 166) (lc' := [(5, .int 5), (4, .int 1), (3, .int (nI (3846 + (6 * n)))), (2, .int (nI n)), (1, .int 19), (0, .ref 0)]) (stk' := []) (mem' := fm (upd g 23 (nI (K + 1))) tp bt (fm_u (fm_u (fm_u (fm_u (fm_u a 1 (3846 + (6 * n)) 19) 1 ((3846 + (6 * n)) + 1) 0) 1 ((3846 + (6 * n)) + 2) 0) 1 ((3846 + (6 * n)) + 3) 0) 1 ((3846 + (6 * n)) + 4) 0) b) (by intro _ _ _; eq_refl) ?_
      rw [show (fx_cb .ge 5 6) = false from by decide]
      dsimp only [cond]
      refine fe_s 6 (pc' := 175) (lc' := [(5, .int 5), (4, .int 1), (3, .int (nI (3846 + (6 * n)))), (2, .int (nI n)), (1, .int 19), (0, .ref 0)]) (stk' := [.int 0, .int ((nI (3846 + (6 * n))) + 5), .ref 1]) (mem' := fm (upd g 23 (nI (K + 1))) tp bt (fm_u (fm_u (fm_u (fm_u (fm_u a 1 (3846 + (6 * n)) 19) 1 ((3846 + (6 * n)) + 1) 0) 1 ((3846 + (6 * n)) + 2) 0) 1 ((3846 + (6 * n)) + 3) 0) 1 ((3846 + (6 * n)) + 4) 0) b) (by intro _ _ _; eq_refl) ?_
      rw [show ((nI (3846 + (6 * n))) + 5 : Int32) = nI ((3846 + (6 * n)) + 5) from by simp only [show (5 : Int32) = nI 5 from rfl, nI_add, fm_mul]]
      refine fe_stI (mem' := fm (upd g 23 (nI (K + 1))) tp bt (fm_u (fm_u (fm_u (fm_u (fm_u (fm_u a 1 (3846 + (6 * n)) 19) 1 ((3846 + (6 * n)) + 1) 0) 1 ((3846 + (6 * n)) + 2) 0) 1 ((3846 + (6 * n)) + 3) 0) 1 ((3846 + (6 * n)) + 4) 0) 1 (nI ((3846 + (6 * n)) + 5) : Int32).toNatClampNeg 0) b) (by rfl) (by rfl) (fx_inN (i := (3846 + (6 * n)) + 5) (by omega) (by omega)) fm_si1 ?_
      rw [show Int32.toNatClampNeg (nI ((3846 + (6 * n)) + 5)) = (3846 + (6 * n)) + 5 from nI_clamp (by omega)]
      refine fe_s 4 (pc' := 163) (lc' := [(5, .int (5 + 1)), (4, .int 1), (3, .int (nI (3846 + (6 * n)))), (2, .int (nI n)), (1, .int 19), (0, .ref 0)]) (stk' := [.int 6, .int (5 + 1)]) (mem' := fm (upd g 23 (nI (K + 1))) tp bt (fm_u (fm_u (fm_u (fm_u (fm_u (fm_u a 1 (3846 + (6 * n)) 19) 1 ((3846 + (6 * n)) + 1) 0) 1 ((3846 + (6 * n)) + 2) 0) 1 ((3846 + (6 * n)) + 3) 0) 1 ((3846 + (6 * n)) + 4) 0) 1 ((3846 + (6 * n)) + 5) 0) b) (by intro _ _ _; eq_refl) ?_
      rw [show (5 + 1 : Int32) = 6 from rfl]
      refine fe_s 1 (pc' := cond (fx_cb .ge 6 6) 182 166) (lc' := [(5, .int 6), (4, .int 1), (3, .int (nI (3846 + (6 * n)))), (2, .int (nI n)), (1, .int 19), (0, .ref 0)]) (stk' := []) (mem' := fm (upd g 23 (nI (K + 1))) tp bt (fm_u (fm_u (fm_u (fm_u (fm_u (fm_u a 1 (3846 + (6 * n)) 19) 1 ((3846 + (6 * n)) + 1) 0) 1 ((3846 + (6 * n)) + 2) 0) 1 ((3846 + (6 * n)) + 3) 0) 1 ((3846 + (6 * n)) + 4) 0) 1 ((3846 + (6 * n)) + 5) 0) b) (by intro _ _ _; eq_refl) ?_
      rw [show (fx_cb .ge 6 6) = true from by decide]
      dsimp only [cond]
      refine fe_s 4 (pc' := 190) (lc' := [(5, .int 6), (4, .int 1), (3, .int (nI (3846 + (6 * n)))), (2, .int (nI n)), (1, .int 19), (0, .ref 0)]) (stk' := [.int 3374, .ref 1, .int 3374, .ref 1]) (mem' := fm (upd g 23 (nI (K + 1))) tp bt (fm_u (fm_u (fm_u (fm_u (fm_u (fm_u a 1 (3846 + (6 * n)) 19) 1 ((3846 + (6 * n)) + 1) 0) 1 ((3846 + (6 * n)) + 2) 0) 1 ((3846 + (6 * n)) + 3) 0) 1 ((3846 + (6 * n)) + 4) 0) 1 ((3846 + (6 * n)) + 5) 0) b) (by intro _ _ _; eq_refl) ?_
      refine fe_ldI (by rfl) (by rfl) (fx_inN (i := 3374) (by omega) (by omega)) ?_
      rw [show Int32.toNatClampNeg (3374) = 3374 from rfl]
      rw [show (fm_u (fm_u (fm_u (fm_u (fm_u (fm_u a 1 (3846 + (6 * n)) 19) 1 ((3846 + (6 * n)) + 1) 0) 1 ((3846 + (6 * n)) + 2) 0) 1 ((3846 + (6 * n)) + 3) 0) 1 ((3846 + (6 * n)) + 4) 0) 1 ((3846 + (6 * n)) + 5) 0) 1 3374 = nI n from by rw [fm_u1, if_neg (by omega), fm_u1, if_neg (by omega), fm_u1, if_neg (by omega), fm_u1, if_neg (by omega), fm_u1, if_neg (by omega), fm_u1, if_neg (by omega)]; exact hT.2.2.2.2.1]
      refine fe_s 2 (pc' := 193) (lc' := [(5, .int 6), (4, .int 1), (3, .int (nI (3846 + (6 * n)))), (2, .int (nI n)), (1, .int 19), (0, .ref 0)]) (stk' := [.int ((nI n) + 1), .int 3374, .ref 1]) (mem' := fm (upd g 23 (nI (K + 1))) tp bt (fm_u (fm_u (fm_u (fm_u (fm_u (fm_u a 1 (3846 + (6 * n)) 19) 1 ((3846 + (6 * n)) + 1) 0) 1 ((3846 + (6 * n)) + 2) 0) 1 ((3846 + (6 * n)) + 3) 0) 1 ((3846 + (6 * n)) + 4) 0) 1 ((3846 + (6 * n)) + 5) 0) b) (by intro _ _ _; eq_refl) ?_
      rw [show ((nI n) + 1 : Int32) = nI (n + 1) from by simp only [show (1 : Int32) = nI 1 from rfl, nI_add, fm_mul]]
      refine fe_stI (mem' := fm (upd g 23 (nI (K + 1))) tp bt (fm_u (fm_u (fm_u (fm_u (fm_u (fm_u (fm_u a 1 (3846 + (6 * n)) 19) 1 ((3846 + (6 * n)) + 1) 0) 1 ((3846 + (6 * n)) + 2) 0) 1 ((3846 + (6 * n)) + 3) 0) 1 ((3846 + (6 * n)) + 4) 0) 1 ((3846 + (6 * n)) + 5) 0) 1 (3374 : Int32).toNatClampNeg (nI (n + 1))) b) (by rfl) (by rfl) (fx_inN (i := 3374) (by omega) (by omega)) fm_si1 ?_
      rw [show Int32.toNatClampNeg (3374) = 3374 from rfl]
      obtain ⟨at11, hat11⟩ : ∃ z, z = fm_row a n (3846 + 6 * n) 19 := ⟨_, rfl⟩
      rw [show (fm_u (fm_u (fm_u (fm_u (fm_u (fm_u (fm_u a 1 (3846 + (6 * n)) 19) 1 ((3846 + (6 * n)) + 1) 0) 1 ((3846 + (6 * n)) + 2) 0) 1 ((3846 + (6 * n)) + 3) 0) 1 ((3846 + (6 * n)) + 4) 0) 1 ((3846 + (6 * n)) + 5) 0) 1 (3374) (nI (n + 1))) = at11 from hat11.symm]
      have hCt11 : fm_TC a0 at11 n 19 0 := by rw [hat11]; exact fm_TC_new hT hR hn60 (by decide) (by decide)
      have h8t11 : at11 8 = a 8 := (congrFun hat11 8).trans (fm_row_t (by decide))
      refine fe_s 1 (pc' := 195) (lc' := [(5, .int 6), (4, .int 1), (3, .int (nI (3846 + (6 * n)))), (2, .int (nI n)), (1, .int 19), (0, .ref 0)]) (stk' := [.ref 0]) (mem' := fm (upd g 23 (nI (K + 1))) tp bt at11 b) (by intro _ _ _; eq_refl) ?_
      obtain ⟨gk12, Ek12, Fk12, hfrk12, hok12, hek12, hpk12⟩ := fr_aheadq (g := (upd g 23 (nI (K + 1)))) (tp := tp) (bt := bt) (a := at11) (b := b) (fm_gy_up (fm_gy_rf hxp hfl) (by decide)).2.1 (fm_gy_up (fm_gy_rf hxp hfl) (by decide)).2.2.1
      have gok12 := fm_gy_tr (fm_gy_up (fm_gy_rf hxp hfl) (by decide)) hok12
      have e18k12 : gk12 18 = g 18 := hek12.trans ((pk_un (by decide)).trans rfl)
      have prk12 : gk12 12 = 0 ∨ E < Ek12 := hpk12.imp id (fun z => by have := (fm_gy_rf hxp hfl).2.2.2; omega)
      have d22k12 : gk12 22 = nI D := by rw [hok12.1 22 (by decide) (by decide) (by decide) (by decide) (by decide) (by decide)]; first | exact eD | rfl
      have d23k12 : gk12 23 = nI (K + 1) := by rw [hok12.1 23 (by decide) (by decide) (by decide) (by decide) (by decide) (by decide)]; first | exact rfl | rfl
      refine fe_ivV hfrk12 (by omega) (by rfl) (by rfl) (by rfl) (by rfl) (by rfl) (by rfl) ?_
      refine fe_s 3 (pc' := 201) (lc' := [(5, .int 6), (4, .int 1), (3, .int (nI (3846 + (6 * n)))), (2, .int (nI n)), (1, .int 19), (0, .ref 0)]) (stk' := [.int (nI (3846 + (6 * n))), .int 19, .ref 0]) (mem' := fm gk12 tp bt at11 b) (by intro _ _ _; eq_refl) ?_
      obtain ⟨vp13, memp13, ⟨xp13, gp13, Ep13, Fp13, ap13, Xp13, Yp13, hop13, hCp13, h8p13, hvp13, hRp13⟩, hfrp13⟩ := fr_taleOrder19 (g := gk12) (tp := tp) (bt := bt) (a := at11) (b := b) (a0 := a0) gok12.2.1 gok12.2.2.1 hH hCt11
      cases hRp13
      have h9p13 : ap13 8 = a 8 := h8p13.trans h8t11
      have gop13 := fm_gy_tr gok12 hop13
      have d22p13 : gp13 22 = nI D := by rw [hop13.1 22 (by decide) (by decide) (by decide) (by decide) (by decide) (by decide)]; first | exact d22k12 | rfl
      have d23p13 : gp13 23 = nI (K + 1) := by rw [hop13.1 23 (by decide) (by decide) (by decide) (by decide) (by decide) (by decide)]; first | exact d23k12 | rfl
      refine fe_ivV hfrp13 (by omega) (by rfl) (by rfl) (by rfl) (by rfl) (by rfl) (by rfl) ?_
      rcases hvp13 with ⟨rfl, hzp13⟩ | ⟨rfl, hep13, hrop13⟩
      · refine fe_s 1 (pc' := cond (fx_cb .ne 0 0) 209 207) (lc' := [(5, .int 6), (4, .int 1), (3, .int (nI (3846 + (6 * n)))), (2, .int (nI n)), (1, .int 19), (0, .ref 0)]) (stk' := []) (mem' := fm gp13 tp bt ap13 b) (by intro _ _ _; eq_refl) ?_
        rw [show (fx_cb .ne 0 0) = false from by decide]
        dsimp only [cond]
        refine fe_s 1 (pc' := 208) (lc' := [(5, .int 6), (4, .int 1), (3, .int (nI (3846 + (6 * n)))), (2, .int (nI n)), (1, .int 19), (0, .ref 0)]) (stk' := [.int 0]) (mem' := fm gp13 tp bt ap13 b) (by intro _ _ _; eq_refl) ?_
        exact fe_ret ⟨_, _, _, _, _, n + 1, D, (K + 1), gop13, fm_TS_of hCp13 ⟨d22p13, by omega, d23p13, by omega, by omega⟩ (fun d hd => by rw [h9p13]; obtain ⟨q, q1, q2⟩ := h8 d (by omega); exact ⟨q, by omega, q2⟩) (fun d hd => by rw [h9p13]; exact h9 d hd), Or.inl ⟨rfl, hzp13⟩, rfl⟩ (by rfl) (by rfl) (by rfl)
      · have e18p13 : gp13 18 = g 18 := hep13.trans e18k12
        refine fe_s 1 (pc' := cond (fx_cb .ne 1 0) 209 207) (lc' := [(5, .int 6), (4, .int 1), (3, .int (nI (3846 + (6 * n)))), (2, .int (nI n)), (1, .int 19), (0, .ref 0)]) (stk' := []) (mem' := fm gp13 tp bt ap13 b) (by intro _ _ _; eq_refl) ?_
        rw [show (fx_cb .ne 1 0) = true from by decide]
        dsimp only [cond]
        refine fe_s 1 (pc' := 211) (lc' := [(5, .int 6), (4, .int 1), (3, .int (nI (3846 + (6 * n)))), (2, .int (nI n)), (1, .int 19), (0, .ref 0)]) (stk' := [.int 1]) (mem' := fm gp13 tp bt ap13 b) (by intro _ _ _; eq_refl) ?_
        refine fe_s 1 (pc' := cond (fx_cb .eq 1 0) 234 214) (lc' := [(5, .int 6), (4, .int 1), (3, .int (nI (3846 + (6 * n)))), (2, .int (nI n)), (1, .int 19), (0, .ref 0)]) (stk' := []) (mem' := fm gp13 tp bt ap13 b) (by intro _ _ _; eq_refl) ?_
        rw [show (fx_cb .eq 1 0) = false from by decide]
        dsimp only [cond]
        refine fe_s 5 (pc' := 223) (lc' := [(5, .int 6), (4, .int 1), (3, .int (nI (3846 + (6 * n)))), (2, .int (nI n)), (1, .int 19), (0, .ref 0)]) (stk' := [.int (nI n), .int (gp13 22), .ref 8]) (mem' := fm gp13 tp bt ap13 b) (by intro _ _ _; eq_refl) ?_
        try rw [d22p13]
        refine fe_stI (mem' := fm gp13 tp bt (fm_u ap13 8 (nI D : Int32).toNatClampNeg (nI n)) b) (by rfl) (by rfl) (fx_inN (i := D) (by omega) (by omega)) fm_si8 ?_
        rw [show Int32.toNatClampNeg (nI D) = D from nI_clamp (by omega)]
        obtain ⟨at14, hat14⟩ : ∃ z, z = fm_u ap13 8 (D) (nI n) := ⟨_, rfl⟩
        rw [← hat14]
        have hCt14 : fm_TC a0 at14 n Xp13 Yp13 := by rw [hat14]; exact fm_TC_8 hCp13
        have w8t14 : ∀ d, at14 8 d = if d = D then nI n else a 8 d := fun d => by rw [hat14, fm_us, h9p13]
        refine fe_s 8 (pc' := 237) (lc' := [(5, .int 6), (4, .int 1), (3, .int (nI (3846 + (6 * n)))), (2, .int (nI n)), (1, .int 19), (0, .ref 0)]) (stk' := [.int 20, .int 19]) (mem' := fm (upd gp13 22 ((gp13 22) + 1)) tp bt at14 b) (by intro _ _ _; eq_refl) ?_
        try rw [d22p13]
        rw [show ((nI D) + 1 : Int32) = nI (D + 1) from by simp only [show (1 : Int32) = nI 1 from rfl, nI_add, fm_mul]]
        refine fe_s 1 (pc' := cond (fx_cb .ne 19 20) 291 240) (lc' := [(5, .int 6), (4, .int 1), (3, .int (nI (3846 + (6 * n)))), (2, .int (nI n)), (1, .int 19), (0, .ref 0)]) (stk' := []) (mem' := fm (upd gp13 22 (nI (D + 1))) tp bt at14 b) (by intro _ _ _; eq_refl) ?_
        rw [show (fx_cb .ne 19 20) = true from by decide]
        dsimp only [cond]
        refine fe_s 2 (pc' := 294) (lc' := [(5, .int 6), (4, .int 1), (3, .int (nI (3846 + (6 * n)))), (2, .int (nI n)), (1, .int 19), (0, .ref 0)]) (stk' := [.int 59, .ref 0]) (mem' := fm (upd gp13 22 (nI (D + 1))) tp bt at14 b) (by intro _ _ _; eq_refl) ?_
        obtain ⟨xc15, gc15, Ec15, Fc15, hfrc15, hoc15, hvc15⟩ := fr_wantSignq (c := 59) (g := (upd gp13 22 (nI (D + 1)))) (tp := tp) (bt := bt) (a := at14) (b := b) (fm_gy_up gop13 (by decide)).2.1 (fm_gy_up gop13 (by decide)).2.2.1
        have goc15 := fm_gy_tr (fm_gy_up gop13 (by decide)) hoc15
        have d22c15 : gc15 22 = nI (D + 1) := by rw [hoc15.1 22 (by decide) (by decide) (by decide) (by decide) (by decide) (by decide)]; first | exact rfl | rfl
        have d23c15 : gc15 23 = nI (K + 1) := by rw [hoc15.1 23 (by decide) (by decide) (by decide) (by decide) (by decide) (by decide)]; first | exact d23p13 | rfl
        refine fe_ivV hfrc15 (by omega) (by rfl) (by rfl) (by rfl) (by rfl) (by rfl) (by rfl) ?_
        rcases hvc15 with ⟨rfl, hzc15⟩ | ⟨rfl, hec15, hpc15⟩
        · exact fe_ret ⟨_, _, _, _, _, n + 1, (D + 1), (K + 1), goc15, fm_TS_of hCt14 ⟨d22c15, by omega, d23c15, by omega, by omega⟩ (fun d hd => by rw [w8t14 d]; split; exact ⟨n, by omega, rfl⟩; obtain ⟨q, q1, q2⟩ := h8 d (by omega); exact ⟨q, by omega, q2⟩) (fun d hd => by rw [w8t14 d]; split; exact ⟨n, by omega, rfl⟩; exact h9 d hd), Or.inl ⟨rfl, hzc15⟩, rfl⟩ (by rfl) (by rfl) (by rfl)
        · have e18c15 : gc15 18 = g 18 := hec15.trans ((pk_un (by decide)).trans e18p13)
          have prc15 : gc15 12 = 0 ∨ E < Ec15 := hpc15.imp id (fun z => by have := gop13.2.2.2; omega)
          exact fe_ret ⟨_, _, _, _, _, n + 1, (D + 1), (K + 1), goc15, fm_TS_of hCt14 ⟨d22c15, by omega, d23c15, by omega, by omega⟩ (fun d hd => by rw [w8t14 d]; split; exact ⟨n, by omega, rfl⟩; obtain ⟨q, q1, q2⟩ := h8 d (by omega); exact ⟨q, by omega, q2⟩) (fun d hd => by rw [w8t14 d]; split; exact ⟨n, by omega, rfl⟩; exact h9 d hd), Or.inr ⟨rfl, e18c15, prc15, fm_TR_of hCt14 hrop13⟩, rfl⟩ (by rfl) (by rfl) (by rfl)
end F4874_step
end MH4_2
