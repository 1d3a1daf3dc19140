section MH5_0
/-! ===== fx: a STEP of the TALES ===== -/
section F4875_step
variable {g : Nat → Int32} {tp bt : Int64} {a0 a : Nat → Nat → Int32} {b : Nat → Nat → Int64}
set_option maxRecDepth 20000 in
set_option maxHeartbeats 8000000 in
theorem ts_20 {S E F C W n D K : Nat} (hxp : fm_xp g S E F) (hfl : fm_flt g) (hH : fm_th a0 C W) (hT : fm_TS a0 g a n D K) (hR : fm_TR a n) : fe_R 10 gk_m251 7 [(1, .int 20), (0, .ref 0)] [] (fm g tp bt a b) (fm_FTS a0 g tp bt b S E) := by
  obtain ⟨⟨eD, hD3, eK, hK30, hnK⟩, h8, h9⟩ := hT.2.2.2.2.2
  refine fe_s 3 (pc' := 14) (lc' := [(1, .int 20), (0, .ref 0)]) (stk' := [.int 3374, .ref 1]) (mem' := fm g tp bt a b) (by intro _ _ _; eq_refl) ?_
  refine fe_ldI (by rfl) (by rfl) (fx_inN (i := 3374) (by omega) (by omega)) ?_
  rw [show Int32.toNatClampNeg (3374) = 3374 from rfl]
  rw [hT.2.2.2.2.1]
  refine fe_s 9 (pc' := 28) (lc' := [(3, .int (3846 + (6 * (nI n)))), (2, .int (nI n)), (1, .int 20), (0, .ref 0)]) (stk' := [.int 18, .int 20]) (mem' := fm g tp bt a b) (by intro _ _ _; eq_refl) ?_
  rw [show (3846 + (6 * (nI n)) : Int32) = nI (3846 + (6 * n)) from by simp only [show (3846 : Int32) = nI 3846 from rfl, show (6 : Int32) = nI 6 from rfl, nI_add, fm_mul]]
  refine fe_s 1 (pc' := cond (fx_cb .eq 20 18) 37 31) (lc' := [(3, .int (nI (3846 + (6 * n)))), (2, .int (nI n)), (1, .int 20), (0, .ref 0)]) (stk' := []) (mem' := fm g tp bt a b) (by intro _ _ _; eq_refl) ?_
  rw [show (fx_cb .eq 20 18) = false from by decide]
  dsimp only [cond]
  refine fe_s 2 (pc' := 34) (lc' := [(3, .int (nI (3846 + (6 * n)))), (2, .int (nI n)), (1, .int 20), (0, .ref 0)]) (stk' := [.int 19, .int 20]) (mem' := fm g tp bt a b) (by intro _ _ _; eq_refl) ?_
  refine fe_s 1 (pc' := cond (fx_cb .ne 20 19) 41 37) (lc' := [(3, .int (nI (3846 + (6 * n)))), (2, .int (nI n)), (1, .int 20), (0, .ref 0)]) (stk' := []) (mem' := fm g tp bt a b) (by intro _ _ _; eq_refl) ?_
  rw [show (fx_cb .ne 20 19) = true from by decide]
  dsimp only [cond]
  refine fe_s 4 (pc' := 47) (lc' := [(4, .int 0), (3, .int (nI (3846 + (6 * n)))), (2, .int (nI n)), (1, .int 20), (0, .ref 0)]) (stk' := [.int 11, .int 20]) (mem' := fm g tp bt a b) (by intro _ _ _; eq_refl) ?_
  refine fe_s 1 (pc' := cond (fx_cb .lt 20 11) 81 50) (lc' := [(4, .int 0), (3, .int (nI (3846 + (6 * n)))), (2, .int (nI n)), (1, .int 20), (0, .ref 0)]) (stk' := []) (mem' := fm g tp bt a b) (by intro _ _ _; eq_refl) ?_
  rw [show (fx_cb .lt 20 11) = false from by decide]
  dsimp only [cond]
  refine fe_s 2 (pc' := 53) (lc' := [(4, .int 0), (3, .int (nI (3846 + (6 * n)))), (2, .int (nI n)), (1, .int 20), (0, .ref 0)]) (stk' := [.int 21, .int 20]) (mem' := fm g tp bt a b) (by intro _ _ _; eq_refl) ?_
  refine fe_s 1 (pc' := cond (fx_cb .gt 20 21) 81 56) (lc' := [(4, .int 0), (3, .int (nI (3846 + (6 * n)))), (2, .int (nI n)), (1, .int 20), (0, .ref 0)]) (stk' := []) (mem' := fm g tp bt a b) (by intro _ _ _; eq_refl) ?_
  rw [show (fx_cb .gt 20 21) = false from by decide]
  dsimp only [cond]
  refine fe_s 2 (pc' := 59) (lc' := [(4, .int 0), (3, .int (nI (3846 + (6 * n)))), (2, .int (nI n)), (1, .int 20), (0, .ref 0)]) (stk' := [.int 16, .int 20]) (mem' := fm g tp bt a b) (by intro _ _ _; eq_refl) ?_
  refine fe_s 1 (pc' := cond (fx_cb .eq 20 16) 81 62) (lc' := [(4, .int 0), (3, .int (nI (3846 + (6 * n)))), (2, .int (nI n)), (1, .int 20), (0, .ref 0)]) (stk' := []) (mem' := fm g tp bt a b) (by intro _ _ _; eq_refl) ?_
  rw [show (fx_cb .eq 20 16) = false from by decide]
  dsimp only [cond]
  refine fe_s 2 (pc' := 65) (lc' := [(4, .int 0), (3, .int (nI (3846 + (6 * n)))), (2, .int (nI n)), (1, .int 20), (0, .ref 0)]) (stk' := [.int 17, .int 20]) (mem' := fm g tp bt a b) (by intro _ _ _; eq_refl) ?_
  refine fe_s 1 (pc' := cond (fx_cb .eq 20 17) 81 68) (lc' := [(4, .int 0), (3, .int (nI (3846 + (6 * n)))), (2, .int (nI n)), (1, .int 20), (0, .ref 0)]) (stk' := []) (mem' := fm g tp bt a b) (by intro _ _ _; eq_refl) ?_
  rw [show (fx_cb .eq 20 17) = false from by decide]
  dsimp only [cond]
  refine fe_s 2 (pc' := 71) (lc' := [(4, .int 0), (3, .int (nI (3846 + (6 * n)))), (2, .int (nI n)), (1, .int 20), (0, .ref 0)]) (stk' := [.int 20, .int 20]) (mem' := fm g tp bt a b) (by intro _ _ _; eq_refl) ?_
  refine fe_s 1 (pc' := cond (fx_cb .ne 20 20) 87 74) (lc' := [(4, .int 0), (3, .int (nI (3846 + (6 * n)))), (2, .int (nI n)), (1, .int 20), (0, .ref 0)]) (stk' := []) (mem' := fm g tp bt a b) (by intro _ _ _; eq_refl) ?_
  rw [show (fx_cb .ne 20 20) = false from by decide]
  dsimp only [cond]
  refine fe_s 2 (pc' := 78) (lc' := [(4, .int 0), (3, .int (nI (3846 + (6 * n)))), (2, .int (nI n)), (1, .int 20), (0, .ref 0)]) (stk' := [.int (g 22)]) (mem' := fm g tp bt a b) (by intro _ _ _; eq_refl) ?_
  try rw [eD]
  refine fe_s 1 (pc' := cond (fx_cb .ne (nI D) 0) 87 81) (lc' := [(4, .int 0), (3, .int (nI (3846 + (6 * n)))), (2, .int (nI n)), (1, .int 20), (0, .ref 0)]) (stk' := []) (mem' := fm g tp bt a b) (by intro _ _ _; eq_refl) ?_
  by_cases h1 : D = 0
  · rw [show (fx_cb .ne (nI D) 0) = false from cb_neF (a := D) (b := 0) (by omega) (by omega) (by omega)]
    dsimp only [cond]
    refine fe_s 2 (pc' := 83) (lc' := [(4, .int 0), (3, .int (nI (3846 + (6 * n)))), (2, .int (nI n)), (1, .int 20), (0, .ref 0)]) (stk' := [.int 2, .ref 0]) (mem' := fm g tp bt a b) (by intro _ _ _; eq_refl) ?_
    obtain ⟨gf2, hfrf2, hof2, hzf2⟩ := fr_failsq (x := 2) (g := g) (tp := tp) (bt := bt) (a := a) (b := b) (by omega) (by omega) (fm_gy_rf hxp hfl).2.1 (fm_gy_rf hxp hfl).2.2.1
    have gof2 := fm_gy_tr (fm_gy_rf hxp hfl) hof2
    have d22f2 : gf2 22 = nI D := by rw [hof2.1 22 (by decide) (by decide) (by decide) (by decide) (by decide) (by decide)]; first | exact eD | rfl
    have d23f2 : gf2 23 = nI K := by rw [hof2.1 23 (by decide) (by decide) (by decide) (by decide) (by decide) (by decide)]; first | exact eK | rfl
    refine fe_ivV hfrf2 (by omega) (by rfl) (by rfl) (by rfl) (by rfl) (by rfl) (by rfl) ?_
    exact fe_ret ⟨_, _, _, _, _, n, D, K, gof2, ⟨hT.1, hT.2.1, hT.2.2.1, hT.2.2.2.1, hT.2.2.2.2.1, ⟨d22f2, hD3, d23f2, hK30, hnK⟩, h8, h9⟩, Or.inl ⟨rfl, hzf2⟩, rfl⟩ (by rfl) (by rfl) (by rfl)
  · rw [show (fx_cb .ne (nI D) 0) = true from cb_neT (a := D) (b := 0) (by omega) (by omega) (by omega)]
    dsimp only [cond]
    refine fe_s 2 (pc' := 90) (lc' := [(4, .int 0), (3, .int (nI (3846 + (6 * n)))), (2, .int (nI n)), (1, .int 20), (0, .ref 0)]) (stk' := [.int 20, .int 20]) (mem' := fm g tp bt a b) (by intro _ _ _; eq_refl) ?_
    refine fe_s 1 (pc' := cond (fx_cb .eq 20 20) 109 93) (lc' := [(4, .int 0), (3, .int (nI (3846 + (6 * n)))), (2, .int (nI n)), (1, .int 20), (0, .ref 0)]) (stk' := []) (mem' := fm g tp bt a b) (by intro _ _ _; eq_refl) ?_
    rw [show (fx_cb .eq 20 20) = true from by decide]
    dsimp only [cond]
    refine fe_s 1 (pc' := 111) (lc' := [(4, .int 0), (3, .int (nI (3846 + (6 * n)))), (2, .int (nI n)), (1, .int 20), (0, .ref 0)]) (stk' := [.int 0]) (mem' := fm g tp bt a b) (by intro _ _ _; eq_refl) ?_
    refine fe_s 1 (pc' := cond (fx_cb .eq 0 0) 129 114) (lc' := [(4, .int 0), (3, .int (nI (3846 + (6 * n)))), (2, .int (nI n)), (1, .int 20), (0, .ref 0)]) (stk' := []) (mem' := fm g tp bt a b) (by intro _ _ _; eq_refl) ?_
    rw [show (fx_cb .eq 0 0) = true from by decide]
    dsimp only [cond]
    refine fe_s 5 (pc' := 137) (lc' := [(4, .int 0), (3, .int (nI (3846 + (6 * n)))), (2, .int (nI n)), (1, .int 20), (0, .ref 0)]) (stk' := [.int 20, .int 20, .int (g 23), .ref 0]) (mem' := fm g tp bt a b) (by intro _ _ _; eq_refl) ?_
    try rw [eK]
    refine fe_s 1 (pc' := cond (fx_cb .ne 20 20) 144 140) (lc' := [(4, .int 0), (3, .int (nI (3846 + (6 * n)))), (2, .int (nI n)), (1, .int 20), (0, .ref 0)]) (stk' := [.int (nI K), .ref 0]) (mem' := fm g tp bt a b) (by intro _ _ _; eq_refl) ?_
    rw [show (fx_cb .ne 20 20) = false from by decide]
    dsimp only [cond]
    refine fe_s 8 (pc' := 155) (lc' := [(4, .int 0), (3, .int (nI (3846 + (6 * n)))), (2, .int (nI n)), (1, .int 20), (0, .ref 0)]) (stk' := [.int 20, .int (nI (3846 + (6 * n))), .ref 1]) (mem' := fm (upd g 23 ((nI K) + 0)) tp bt a b) (by intro _ _ _; eq_refl) ?_
    rw [show ((nI K) + 0 : Int32) = nI (K + 0) from by simp only [show (0 : Int32) = nI 0 from rfl, nI_add, fm_mul]]
    have hn60 : n < 60 := by omega
    refine fe_stI (mem' := fm (upd g 23 (nI (K + 0))) tp bt (fm_u a 1 (nI (3846 + (6 * n)) : Int32).toNatClampNeg 20) b) (by rfl) (by rfl) (fx_inN (i := 3846 + (6 * n)) (by omega) (by omega)) fm_si1 ?_
    rw [show Int32.toNatClampNeg (nI (3846 + (6 * n))) = 3846 + (6 * n) from nI_clamp (by omega)]
    refine fe_s 4 (pc' := 163) (lc' := [(5, .int 1), (4, .int 0), (3, .int (nI (3846 + (6 * n)))), (2, .int (nI n)), (1, .int 20), (0, .ref 0)]) (stk' := [.int 6, .int 1]) (mem' := fm (upd g 23 (nI (K + 0))) tp bt (fm_u a 1 (3846 + (6 * n)) 20) b) (by intro _ _ _; eq_refl) ?_
    refine fe_s 1 (pc' := cond (fx_cb .ge 1 6) 182 166) (lc' := [(5, .int 1), (4, .int 0), (3, .int (nI (3846 + (6 * n)))), (2, .int (nI n)), (1, .int 20), (0, .ref 0)]) (stk' := []) (mem' := fm (upd g 23 (nI (K + 0))) tp bt (fm_u a 1 (3846 + (6 * n)) 20) b) (by intro _ _ _; eq_refl) ?_
    rw [show (fx_cb .ge 1 6) = false from by decide]
    dsimp only [cond]
    refine fe_s 6 (pc' := 175) (lc' := [(5, .int 1), (4, .int 0), (3, .int (nI (3846 + (6 * n)))), (2, .int (nI n)), (1, .int 20), (0, .ref 0)]) (stk' := [.int 0, .int ((nI (3846 + (6 * n))) + 1), .ref 1]) (mem' := fm (upd g 23 (nI (K + 0))) tp bt (fm_u a 1 (3846 + (6 * n)) 20) b) (by intro _ _ _; eq_refl) ?_
    rw [show ((nI (3846 + (6 * n))) + 1 : Int32) = nI ((3846 + (6 * n)) + 1) from by simp only [show (1 : Int32) = nI 1 from rfl, nI_add, fm_mul]]
    refine fe_stI (mem' := fm (upd g 23 (nI (K + 0))) tp bt (fm_u (fm_u a 1 (3846 + (6 * n)) 20) 1 (nI ((3846 + (6 * n)) + 1) : Int32).toNatClampNeg 0) b) (by rfl) (by rfl) (fx_inN (i := (3846 + (6 * n)) + 1) (by omega) (by omega)) fm_si1 ?_
    rw [show Int32.toNatClampNeg (nI ((3846 + (6 * n)) + 1)) = (3846 + (6 * n)) + 1 from nI_clamp (by omega)]
    refine fe_s 4 (pc' := 163) (lc' := [(5, .int (1 + 1)), (4, .int 0), (3, .int (nI (3846 + (6 * n)))), (2, .int (nI n)), (1, .int 20), (0, .ref 0)]) (stk' := [.int 6, .int (1 + 1)]) (mem' := fm (upd g 23 (nI (K + 0))) tp bt (fm_u (fm_u a 1 (3846 + (6 * n)) 20) 1 ((3846 + (6 * n)) + 1) 0) b) (by intro _ _ _; eq_refl) ?_
    rw [show (1 + 1 : Int32) = 2 from rfl]
    refine fe_s 1 (pc' := cond (fx_cb .ge 2 6) 182 166) (lc' := [(5, .int 2), (4, .int 0), (3, .int (nI (3846 + (6 * n)))), (2, .int (nI n)), (1, .int 20), (0, .ref 0)]) (stk' := []) (mem' := fm (upd g 23 (nI (K + 0))) tp bt (fm_u (fm_u a 1 (3846 + (6 * n)) 20) 1 ((3846 + (6 * n)) + 1) 0) b) (by intro _ _ _; eq_refl) ?_
    rw [show (fx_cb .ge 2 6) = false from by decide]
    dsimp only [cond]
    refine fe_s 6 (pc' := 175) (lc' := [(5, .int 2), (4, .int 0), (3, .int (nI (3846 + (6 * n)))), (2, .int (nI n)), (1, .int 20), (0, .ref 0)]) (stk' := [.int 0, .int ((nI (3846 + (6 * n))) + 2), .ref 1]) (mem' := fm (upd g 23 (nI (K + 0))) tp bt (fm_u (fm_u a 1 (3846 + (6 * n)) 20) 1 ((3846 + (6 * n)) + 1) 0) b) (by intro _ _ _; eq_refl) ?_
    rw [show ((nI (3846 + (6 * n))) + 2 : Int32) = nI ((3846 + (6 * n)) + 2) from by simp only [show (2 : Int32) = nI 2 from rfl, nI_add, fm_mul]]
    refine fe_stI (mem' := fm (upd g 23 (nI (K + 0))) tp bt (fm_u (fm_u (fm_u a 1 (3846 + (6 * n)) 20) 1 ((3846 + (6 * n)) + 1) 0) 1 (nI ((3846 + (6 * n)) + 2) : Int32).toNatClampNeg 0) b) (by rfl) (by rfl) (fx_inN (i := (3846 + (6 * n)) + 2) (by omega) (by omega)) fm_si1 ?_
    rw [show Int32.toNatClampNeg (nI ((3846 + (6 * n)) + 2)) = (3846 + (6 * n)) + 2 from nI_clamp (by omega)]
    refine fe_s 4 (pc' := 163) (lc' := [(5, .int (2 + 1)), (4, .int 0), (3, .int (nI (3846 + (6 * n)))), (2, .int (nI n)), (1, .int 20), (0, .ref 0)]) (stk' := [.int 6, .int (2 + 1)]) (mem' := fm (upd g 23 (nI (K + 0))) tp bt (fm_u (fm_u (fm_u a 1 (3846 + (6 * n)) 20) 1 ((3846 + (6 * n)) + 1) 0) 1 ((3846 + (6 * n)) + 2) 0) b) (by intro _ _ _; eq_refl) ?_
    rw [show (2 + 1 : Int32) = 3 from rfl]
    refine fe_s 1 (pc' := cond (fx_cb .ge 3 6) 182 166) (lc' := [(5, .int 3), (4, .int 0), (3, .int (nI (3846 + (6 * n)))), (2, .int (nI n)), (1, .int 20), (0, .ref 0)]) (stk' := []) (mem' := fm (upd g 23 (nI (K + 0))) tp bt (fm_u (fm_u (fm_u a 1 (3846 + (6 * n)) 20) 1 ((3846 + (6 * n)) + 1) 0) 1 ((3846 + (6 * n)) + 2) 0) b) (by intro _ _ _; eq_refl) ?_
    rw [show (fx_cb .ge 3 6) = false from by decide]
    dsimp only [cond]
    refine fe_s 6 (pc' := 175) (lc' := [(5, .int 3), (4, .int 0), (3, .int (nI (3846 + (6 * n)))), (2, .int (nI n)), (1, .int 20), (0, .ref 0)]) (stk' := [.int 0, .int ((nI (3846 + (6 * n))) + 3), .ref 1]) (mem' := fm (upd g 23 (nI (K + 0))) tp bt (fm_u (fm_u (fm_u a 1 (3846 + (6 * n)) 20) 1 ((3846 + (6 * n)) + 1) 0) 1 ((3846 + (6 * n)) + 2) 0) b) (by intro _ _ _; eq_refl) ?_
    rw [show ((nI (3846 + (6 * n))) + 3 : Int32) = nI ((3846 + (6 * n)) + 3) from by simp only [show (3 : Int32) = nI 3 from rfl, nI_add, fm_mul]]
    refine fe_stI (mem' := fm (upd g 23 (nI (K + 0))) tp bt (fm_u (fm_u (fm_u (fm_u a 1 (3846 + (6 * n)) 20) 1 ((3846 + (6 * n)) + 1) 0) 1 ((3846 + (6 * n)) + 2) 0) 1 (nI ((3846 + (6 * n)) + 3) : Int32).toNatClampNeg 0) b) (by rfl) (by rfl) (fx_inN (i := (3846 + (6 * n)) + 3) (by omega) (by omega)) fm_si1 ?_
    rw [show Int32.toNatClampNeg (nI ((3846 + (6 * n)) + 3)) = (3846 + (6 * n)) + 3 from nI_clamp (by omega)]
    refine fe_s 4 (pc' := 163) (lc' := [(5, .int (3 + 1)), (4, .int 0), (3, .int (nI (3846 + (6 * n)))), (2, .int (nI n)), (1, .int 20), (0, .ref 0)]) (stk' := [.int 6, .int (3 + 1)]) (mem' := fm (upd g 23 (nI (K + 0))) tp bt (fm_u (fm_u (fm_u (fm_u a 1 (3846 + (6 * n)) 20) 1 ((3846 + (6 * n)) + 1) 0) 1 ((3846 + (6 * n)) + 2) 0) 1 ((3846 + (6 * n)) + 3) 0) b) (by intro _ _ _; eq_refl) ?_
    rw [show (3 + 1 : Int32) = 4 from rfl]
    refine fe_s 1 (pc' := cond (fx_cb .ge 4 6) 182 166) (lc' := [(5, .int 4), (4, .int 0), (3, .int (nI (3846 + (6 * n)))), (2, .int (nI n)), (1, .int 20), (0, .ref 0)]) (stk' := []) (mem' := fm (upd g 23 (nI (K + 0))) tp bt (fm_u (fm_u (fm_u (fm_u a 1 (3846 + (6 * n)) 20) 1 ((3846 + (6 * n)) + 1) 0) 1 ((3846 + (6 * n)) + 2) 0) 1 ((3846 + (6 * n)) + 3) 0) b) (by intro _ _ _; eq_refl) ?_
    rw [show (fx_cb .ge 4 6) = false from by decide]
    dsimp only [cond]
    refine fe_s 6 (pc' := 175) (lc' := [(5, .int 4), (4, .int 0), (3, .int (nI (3846 + (6 * n)))), (2, .int (nI n)), (1, .int 20), (0, .ref 0)]) (stk' := [.int 0, .int ((nI (3846 + (6 * n))) + 4), .ref 1]) (mem' := fm (upd g 23 (nI (K + 0))) tp bt (fm_u (fm_u (fm_u (fm_u a 1 (3846 + (6 * n)) 20) 1 ((3846 + (6 * n)) + 1) 0) 1 ((3846 + (6 * n)) + 2) 0) 1 ((3846 + (6 * n)) + 3) 0) b) (by intro _ _ _; eq_refl) ?_
    rw [show ((nI (3846 + (6 * n))) + 4 : Int32) = nI ((3846 + (6 * n)) + 4) from by simp only [show (4 : Int32) = nI 4 from rfl, nI_add, fm_mul]]
    refine fe_stI (mem' := fm (upd g 23 (nI (K + 0))) tp bt (fm_u (fm_u (fm_u (fm_u (fm_u a 1 (3846 + (6 * n)) 20) 1 ((3846 + (6 * n)) + 1) 0) 1 ((3846 + (6 * n)) + 2) 0) 1 ((3846 + (6 * n)) + 3) 0) 1 (nI ((3846 + (6 * n)) + 4) : Int32).toNatClampNeg 0) b) (by rfl) (by rfl) (fx_inN (i := (3846 + (6 * n)) + 4) (by omega) (by omega)) fm_si1 ?_
    rw [show Int32.toNatClampNeg (nI ((3846 + (6 * n)) + 4)) = (3846 + (6 * n)) + 4 from nI_clamp (by omega)]
    refine fe_s 4 (pc' := 163) (lc' := [(5, .int (4 + 1)), (4, .int 0), (3, .int (nI (3846 + (6 * n)))), (2, .int (nI n)), (1, .int 20), (0, .ref 0)]) (stk' := [.int 6, .int (4 + 1)]) (mem' := fm (upd g 23 (nI (K + 0))) tp bt (fm_u (fm_u (fm_u (fm_u (fm_u a 1 (3846 + (6 * n)) 20) 1 ((3846 + (6 * n)) + 1) 0) 1 ((3846 + (6 * n)) + 2) 0) 1 ((3846 + (6 * n)) + 3) 0) 1 ((3846 + (6 * n)) + 4) 0) b) (by intro _ _ _; eq_refl) ?_
    rw [show (4 + 1 : Int32) = 5 from rfl]
    refine fe_s 1 (pc' := cond (fx_cb .ge 5 6) 182 166) (lc' := [(5, .int 5), (4, .int 0), (3, .int (nI (3846 + (6 * n)))), (2, .int (nI n)), (1, .int 20), (0, .ref 0)]) (stk' := []) (mem' := fm (upd g 23 (nI (K + 0))) tp bt (fm_u (fm_u (fm_u (fm_u (fm_u a 1 (3846 + (6 * n)) 20) 1 ((3846 + (6 * n)) + 1) 0) 1 ((3846 + (6 * n)) + 2) 0) 1 ((3846 + (6 * n)) + 3) 0) 1 ((3846 + (6 * n)) + 4) 0) b) (by intro _ _ _; eq_refl) ?_
    rw [show (fx_cb .ge 5 6) = false from by decide]
    dsimp only [cond]
    refine fe_s 6 (pc' := 175) (lc' := [(5, .int 5), (4, .int 0), (3, .int (nI (3846 + (6 * n)))), (2, .int (nI n)), (1, .int 20), (0, .ref 0)]) (stk' := [.int 0, .int ((nI (3846 + (6 * n))) + 5), .ref 1]) (mem' := fm (upd g 23 (nI (K + 0))) tp bt (fm_u (fm_u (fm_u (fm_u (fm_u a 1 (3846 + (6 * n)) 20) 1 ((3846 + (6 * n)) + 1) 0) 1 ((3846 + (6 * n)) + 2) 0) 1 ((3846 + (6 * n)) + 3) 0) 1 ((3846 + (6 * n)) + 4) 0) b) (by intro _ _ _; eq_refl) ?_
    rw [show ((nI (3846 + (6 * n))) + 5 : Int32) = nI ((3846 + (6 * n)) + 5) from by simp only [show (5 : Int32) = nI 5 from rfl, nI_add, fm_mul]]
    refine fe_stI (mem' := fm (upd g 23 (nI (K + 0))) tp bt (fm_u (fm_u (fm_u (fm_u (fm_u (fm_u a 1 (3846 + (6 * n)) 20) 1 ((3846 + (6 * n)) + 1) 0) 1 ((3846 + (6 * n)) + 2) 0) 1 ((3846 + (6 * n)) + 3) 0) 1 ((3846 + (6 * n)) + 4) 0) 1 (nI ((3846 + (6 * n)) + 5) : Int32).toNatClampNeg 0) b) (by rfl) (by rfl) (fx_inN (i := (3846 + (6 * n)) + 5) (by omega) (by omega)) fm_si1 ?_
    rw [show Int32.toNatClampNeg (nI ((3846 + (6 * n)) + 5)) = (3846 + (6 * n)) + 5 from nI_clamp (by omega)]
    refine fe_s 4 (pc' := 163) (lc' := [(5, .int (5 + 1)), (4, .int 0), (3, .int (nI (3846 + (6 * n)))), (2, .int (nI n)), (1, .int 20), (0, .ref 0)]) (stk' := [.int 6, .int (5 + 1)]) (mem' := fm (upd g 23 (nI (K + 0))) tp bt (fm_u (fm_u (fm_u (fm_u (fm_u (fm_u a 1 (3846 + (6 * n)) 20) 1 ((3846 + (6 * n)) + 1) 0) 1 ((3846 + (6 * n)) + 2) 0) 1 ((3846 + (6 * n)) + 3) 0) 1 ((3846 + (6 * n)) + 4) 0) 1 ((3846 + (6 * n)) + 5) 0) b) (by intro _ _ _; eq_refl) ?_
    rw [show (5 + 1 : Int32) = 6 from rfl]
    refine fe_s 1 (pc' := cond (fx_cb .ge 6 6) 182 166) (lc' := [(5, .int 6), (4, .int 0), (3, .int (nI (3846 + (6 * n)))), (2, .int (nI n)), (1, .int 20), (0, .ref 0)]) (stk' := []) (mem' := fm (upd g 23 (nI (K + 0))) tp bt (fm_u (fm_u (fm_u (fm_u (fm_u (fm_u a 1 (3846 + (6 * n)) 20) 1 ((3846 + (6 * n)) + 1) 0) 1 ((3846 + (6 * n)) + 2) 0) 1 ((3846 + (6 * n)) + 3) 0) 1 ((3846 + (6 * n)) + 4) 0) 1 ((3846 + (6 * n)) + 5) 0) b) (by intro _ _ _; eq_refl) ?_
    rw [show (fx_cb .ge 6 6) = true from by decide]
    dsimp only [cond]
    refine fe_s 4 (pc' := 190) (lc' := [(5, .int 6), (4, .int 0), (3, .int (nI (3846 + (6 * n)))), (2, .int (nI n)), (1, .int 20), (0, .ref 0)]) (stk' := [.int 3374, .ref 1, .int 3374, .ref 1]) (mem' := fm (upd g 23 (nI (K + 0))) tp bt (fm_u (fm_u (fm_u (fm_u (fm_u (fm_u a 1 (3846 + (6 * n)) 20) 1 ((3846 + (6 * n)) + 1) 0) 1 ((3846 + (6 * n)) + 2) 0) 1 ((3846 + (6 * n)) + 3) 0) 1 ((3846 + (6 * n)) + 4) 0) 1 ((3846 + (6 * n)) + 5) 0) b) (by intro _ _ _; eq_refl) ?_
    refine fe_ldI (by rfl) (by rfl) (fx_inN (i := 3374) (by omega) (by omega)) ?_
    rw [show Int32.toNatClampNeg (3374) = 3374 from rfl]
    rw [show (fm_u (fm_u (fm_u (fm_u (fm_u (fm_u a 1 (3846 + (6 * n)) 20) 1 ((3846 + (6 * n)) + 1) 0) 1 ((3846 + (6 * n)) + 2) 0) 1 ((3846 + (6 * n)) + 3) 0) 1 ((3846 + (6 * n)) + 4) 0) 1 ((3846 + (6 * n)) + 5) 0) 1 3374 = nI n from by rw [fm_u1, if_neg (by omega), fm_u1, if_neg (by omega), fm_u1, if_neg (by omega), fm_u1, if_neg (by omega), fm_u1, if_neg (by omega), fm_u1, if_neg (by omega)]; exact hT.2.2.2.2.1]
    refine fe_s 2 (pc' := 193) (lc' := [(5, .int 6), (4, .int 0), (3, .int (nI (3846 + (6 * n)))), (2, .int (nI n)), (1, .int 20), (0, .ref 0)]) (stk' := [.int ((nI n) + 1), .int 3374, .ref 1]) (mem' := fm (upd g 23 (nI (K + 0))) tp bt (fm_u (fm_u (fm_u (fm_u (fm_u (fm_u a 1 (3846 + (6 * n)) 20) 1 ((3846 + (6 * n)) + 1) 0) 1 ((3846 + (6 * n)) + 2) 0) 1 ((3846 + (6 * n)) + 3) 0) 1 ((3846 + (6 * n)) + 4) 0) 1 ((3846 + (6 * n)) + 5) 0) b) (by intro _ _ _; eq_refl) ?_
    rw [show ((nI n) + 1 : Int32) = nI (n + 1) from by simp only [show (1 : Int32) = nI 1 from rfl, nI_add, fm_mul]]
    refine fe_stI (mem' := fm (upd g 23 (nI (K + 0))) tp bt (fm_u (fm_u (fm_u (fm_u (fm_u (fm_u (fm_u a 1 (3846 + (6 * n)) 20) 1 ((3846 + (6 * n)) + 1) 0) 1 ((3846 + (6 * n)) + 2) 0) 1 ((3846 + (6 * n)) + 3) 0) 1 ((3846 + (6 * n)) + 4) 0) 1 ((3846 + (6 * n)) + 5) 0) 1 (3374 : Int32).toNatClampNeg (nI (n + 1))) b) (by rfl) (by rfl) (fx_inN (i := 3374) (by omega) (by omega)) fm_si1 ?_
    rw [show Int32.toNatClampNeg (3374) = 3374 from rfl]
    obtain ⟨at9, hat9⟩ : ∃ z, z = fm_row a n (3846 + 6 * n) 20 := ⟨_, rfl⟩
    rw [show (fm_u (fm_u (fm_u (fm_u (fm_u (fm_u (fm_u a 1 (3846 + (6 * n)) 20) 1 ((3846 + (6 * n)) + 1) 0) 1 ((3846 + (6 * n)) + 2) 0) 1 ((3846 + (6 * n)) + 3) 0) 1 ((3846 + (6 * n)) + 4) 0) 1 ((3846 + (6 * n)) + 5) 0) 1 (3374) (nI (n + 1))) = at9 from hat9.symm]
    have hCt9 : fm_TC a0 at9 n 20 0 := by rw [hat9]; exact fm_TC_new hT hR hn60 (by decide) (by decide)
    have h8t9 : at9 8 = a 8 := (congrFun hat9 8).trans (fm_row_t (by decide))
    refine fe_s 1 (pc' := 195) (lc' := [(5, .int 6), (4, .int 0), (3, .int (nI (3846 + (6 * n)))), (2, .int (nI n)), (1, .int 20), (0, .ref 0)]) (stk' := [.ref 0]) (mem' := fm (upd g 23 (nI (K + 0))) tp bt at9 b) (by intro _ _ _; eq_refl) ?_
    obtain ⟨gk10, Ek10, Fk10, hfrk10, hok10, hek10, hpk10⟩ := fr_aheadq (g := (upd g 23 (nI (K + 0)))) (tp := tp) (bt := bt) (a := at9) (b := b) (fm_gy_up (fm_gy_rf hxp hfl) (by decide)).2.1 (fm_gy_up (fm_gy_rf hxp hfl) (by decide)).2.2.1
    have gok10 := fm_gy_tr (fm_gy_up (fm_gy_rf hxp hfl) (by decide)) hok10
    have e18k10 : gk10 18 = g 18 := hek10.trans ((pk_un (by decide)).trans rfl)
    have prk10 : gk10 12 = 0 ∨ E < Ek10 := hpk10.imp id (fun z => by have := (fm_gy_rf hxp hfl).2.2.2; omega)
    have d22k10 : gk10 22 = nI D := by rw [hok10.1 22 (by decide) (by decide) (by decide) (by decide) (by decide) (by decide)]; first | exact eD | rfl
    have d23k10 : gk10 23 = nI (K + 0) := by rw [hok10.1 23 (by decide) (by decide) (by decide) (by decide) (by decide) (by decide)]; first | exact rfl | rfl
    refine fe_ivV hfrk10 (by omega) (by rfl) (by rfl) (by rfl) (by rfl) (by rfl) (by rfl) ?_
    refine fe_s 3 (pc' := 201) (lc' := [(5, .int 6), (4, .int 0), (3, .int (nI (3846 + (6 * n)))), (2, .int (nI n)), (1, .int 20), (0, .ref 0)]) (stk' := [.int (nI (3846 + (6 * n))), .int 20, .ref 0]) (mem' := fm gk10 tp bt at9 b) (by intro _ _ _; eq_refl) ?_
    refine fe_ivV (fr_taleOrder20x (r := nI (3846 + (6 * n))) (mem := fm gk10 tp bt at9 b)) (by omega) (by rfl) (by rfl) (by rfl) (by rfl) (by rfl) (by rfl) ?_
    refine fe_s 1 (pc' := cond (fx_cb .ne 1 0) 209 207) (lc' := [(5, .int 6), (4, .int 0), (3, .int (nI (3846 + (6 * n)))), (2, .int (nI n)), (1, .int 20), (0, .ref 0)]) (stk' := []) (mem' := fm gk10 tp bt at9 b) (by intro _ _ _; eq_refl) ?_
    rw [show (fx_cb .ne 1 0) = true from by decide]
    dsimp only [cond]
    refine fe_s 1 (pc' := 211) (lc' := [(5, .int 6), (4, .int 0), (3, .int (nI (3846 + (6 * n)))), (2, .int (nI n)), (1, .int 20), (0, .ref 0)]) (stk' := [.int 0]) (mem' := fm gk10 tp bt at9 b) (by intro _ _ _; eq_refl) ?_
    refine fe_s 1 (pc' := cond (fx_cb .eq 0 0) 234 214) (lc' := [(5, .int 6), (4, .int 0), (3, .int (nI (3846 + (6 * n)))), (2, .int (nI n)), (1, .int 20), (0, .ref 0)]) (stk' := []) (mem' := fm gk10 tp bt at9 b) (by intro _ _ _; eq_refl) ?_
    rw [show (fx_cb .eq 0 0) = true from by decide]
    dsimp only [cond]
    refine fe_s 2 (pc' := 237) (lc' := [(5, .int 6), (4, .int 0), (3, .int (nI (3846 + (6 * n)))), (2, .int (nI n)), (1, .int 20), (0, .ref 0)]) (stk' := [.int 20, .int 20]) (mem' := fm gk10 tp bt at9 b) (by intro _ _ _; eq_refl) ?_
    refine fe_s 1 (pc' := cond (fx_cb .ne 20 20) 291 240) (lc' := [(5, .int 6), (4, .int 0), (3, .int (nI (3846 + (6 * n)))), (2, .int (nI n)), (1, .int 20), (0, .ref 0)]) (stk' := []) (mem' := fm gk10 tp bt at9 b) (by intro _ _ _; eq_refl) ?_
    rw [show (fx_cb .ne 20 20) = false from by decide]
    dsimp only [cond]
    refine fe_s 15 (pc' := 265) (lc' := [(5, .int 6), (4, .int 0), (3, .int (nI (3846 + (6 * n)))), (2, .int (nI n)), (1, .int 20), (0, .ref 0)]) (stk' := [.int ((gk10 22) - 1), .ref 8, .int ((nI (3846 + (6 * n))) + 4), .ref 1]) (mem' := fm (upd gk10 22 ((gk10 22) - 1)) tp bt at9 b) (by intro _ _ _; eq_refl) ?_
    try rw [d22k10]
    rw [show ((nI D) - 1 : Int32) = nI (D - 1) from by simp only [show (1 : Int32) = nI 1 from rfl, tg_sub2 (x := D) (y := 1) (by omega), nI_add, fm_mul]]
    rw [show ((nI (3846 + (6 * n))) + 4 : Int32) = nI ((3846 + (6 * n)) + 4) from by simp only [show (4 : Int32) = nI 4 from rfl, nI_add, fm_mul]]
    refine fe_ldI (by rfl) (by rfl) (fx_inN (i := D - 1) (by omega) (by omega)) ?_
    rw [show Int32.toNatClampNeg (nI (D - 1)) = D - 1 from nI_clamp (by omega)]
    obtain ⟨w, hw, ew⟩ := h8 (D - 1) (by omega)
    rw [show at9 8 (D - 1) = nI w from by rw [h8t9]; exact ew]
    refine fe_stI (mem' := fm (upd gk10 22 (nI (D - 1))) tp bt (fm_u at9 1 (nI ((3846 + (6 * n)) + 4) : Int32).toNatClampNeg (nI w)) b) (by rfl) (by rfl) (fx_inN (i := (3846 + (6 * n)) + 4) (by omega) (by omega)) fm_si1 ?_
    rw [show Int32.toNatClampNeg (nI ((3846 + (6 * n)) + 4)) = (3846 + (6 * n)) + 4 from nI_clamp (by omega)]
    obtain ⟨at11, hat11⟩ : ∃ z, z = fm_u at9 1 ((3846 + (6 * n)) + 4) (nI w) := ⟨_, rfl⟩
    rw [← hat11]
    have hCt11 : fm_TC a0 at11 n 20 0 := by rw [hat11, show (3846 + (6 * n)) + 4 = 3850 + 6 * n by omega]; exact fm_TC_4 hCt9 (by omega) (by rw [nI_i32 (by omega)]; omega) (by rw [nI_i32 (by omega)]; omega)
    have h8t11 : at11 8 = a 8 := (congrFun hat11 8).trans ((fm_ut (by decide)).trans h8t9)
    refine fe_s 8 (pc' := 284) (lc' := [(5, .int 6), (4, .int 0), (3, .int (nI (3846 + (6 * n)))), (2, .int (nI n)), (1, .int 20), (0, .ref 0)]) (stk' := [.int (nI (D - 1)), .ref 8, .int 6, .int 3846, .ref 1]) (mem' := fm (upd gk10 22 (nI (D - 1))) tp bt at11 b) (by intro _ _ _; eq_refl) ?_
    refine fe_ldI (by rfl) (by rfl) (fx_inN (i := D - 1) (by omega) (by omega)) ?_
    rw [show Int32.toNatClampNeg (nI (D - 1)) = D - 1 from nI_clamp (by omega)]
    rw [show at11 8 (D - 1) = nI w from by rw [h8t11]; exact ew]
    refine fe_s 5 (pc' := 290) (lc' := [(5, .int 6), (4, .int 0), (3, .int (nI (3846 + (6 * n)))), (2, .int (nI n)), (1, .int 20), (0, .ref 0)]) (stk' := [.int (nI n), .int ((3846 + (6 * (nI w))) + 4), .ref 1]) (mem' := fm (upd gk10 22 (nI (D - 1))) tp bt at11 b) (by intro _ _ _; eq_refl) ?_
    rw [show ((3846 + (6 * (nI w))) + 4 : Int32) = nI ((3846 + (6 * w)) + 4) from by simp only [show (3846 : Int32) = nI 3846 from rfl, show (6 : Int32) = nI 6 from rfl, show (4 : Int32) = nI 4 from rfl, nI_add, fm_mul]]
    refine fe_stI (mem' := fm (upd gk10 22 (nI (D - 1))) tp bt (fm_u at11 1 (nI ((3846 + (6 * w)) + 4) : Int32).toNatClampNeg (nI n)) b) (by rfl) (by rfl) (fx_inN (i := (3846 + (6 * w)) + 4) (by omega) (by omega)) fm_si1 ?_
    rw [show Int32.toNatClampNeg (nI ((3846 + (6 * w)) + 4)) = (3846 + (6 * w)) + 4 from nI_clamp (by omega)]
    obtain ⟨at12, hat12⟩ : ∃ z, z = fm_u at11 1 ((3846 + (6 * w)) + 4) (nI n) := ⟨_, rfl⟩
    rw [← hat12]
    have hCt12 : fm_TC a0 at12 n 20 0 := by rw [hat12, show (3846 + (6 * w)) + 4 = 3850 + 6 * w by omega]; exact fm_TC_4 hCt11 (by omega) (by rw [nI_i32 (by omega)]; omega) (by rw [nI_i32 (by omega)]; omega)
    have h8t12 : at12 8 = a 8 := (congrFun hat12 8).trans ((fm_ut (by decide)).trans h8t11)
    refine fe_s 2 (pc' := 294) (lc' := [(5, .int 6), (4, .int 0), (3, .int (nI (3846 + (6 * n)))), (2, .int (nI n)), (1, .int 20), (0, .ref 0)]) (stk' := [.int 59, .ref 0]) (mem' := fm (upd gk10 22 (nI (D - 1))) tp bt at12 b) (by intro _ _ _; eq_refl) ?_
    obtain ⟨xc13, gc13, Ec13, Fc13, hfrc13, hoc13, hvc13⟩ := fr_wantSignq (c := 59) (g := (upd gk10 22 (nI (D - 1)))) (tp := tp) (bt := bt) (a := at12) (b := b) (fm_gy_up gok10 (by decide)).2.1 (fm_gy_up gok10 (by decide)).2.2.1
    have goc13 := fm_gy_tr (fm_gy_up gok10 (by decide)) hoc13
    have d22c13 : gc13 22 = nI (D - 1) := by rw [hoc13.1 22 (by decide) (by decide) (by decide) (by decide) (by decide) (by decide)]; first | exact rfl | rfl
    have d23c13 : gc13 23 = nI (K + 0) := by rw [hoc13.1 23 (by decide) (by decide) (by decide) (by decide) (by decide) (by decide)]; first | exact d23k10 | rfl
    refine fe_ivV hfrc13 (by omega) (by rfl) (by rfl) (by rfl) (by rfl) (by rfl) (by rfl) ?_
    rcases hvc13 with ⟨rfl, hzc13⟩ | ⟨rfl, hec13, hpc13⟩
    · exact fe_ret ⟨_, _, _, _, _, n + 1, (D - 1), (K + 0), goc13, fm_TS_of hCt12 ⟨d22c13, by omega, d23c13, by omega, by omega⟩ (fun d hd => by rw [h8t12]; obtain ⟨q, q1, q2⟩ := h8 d (by omega); exact ⟨q, by omega, q2⟩) (fun d hd => by rw [h8t12]; exact h9 d hd), Or.inl ⟨rfl, hzc13⟩, rfl⟩ (by rfl) (by rfl) (by rfl)
    · have e18c13 : gc13 18 = g 18 := hec13.trans ((pk_un (by decide)).trans e18k10)
      have prc13 : gc13 12 = 0 ∨ E < Ec13 := hpc13.imp id (fun z => by have := gok10.2.2.2; omega)
      exact fe_ret ⟨_, _, _, _, _, n + 1, (D - 1), (K + 0), goc13, fm_TS_of hCt12 ⟨d22c13, by omega, d23c13, by omega, by omega⟩ (fun d hd => by rw [h8t12]; obtain ⟨q, q1, q2⟩ := h8 d (by omega); exact ⟨q, by omega, q2⟩) (fun d hd => by rw [h8t12]; exact h9 d hd), Or.inr ⟨rfl, e18c13, prc13, fm_TR_of hCt12 (fm_ro_n (by decide) (by decide) (by decide) (by decide) (by decide))⟩, rfl⟩ (by rfl) (by rfl) (by rfl)
set_option maxRecDepth 20000 in
set_option maxHeartbeats 8000000 in
theorem ts_21 {S E F C W n D K : Nat} (hxp : fm_xp g S E F) (hfl : fm_flt g) (hH : fm_th a0 C W) (hT : fm_TS a0 g a n D K) (hR : fm_TR a n) : fe_R 10 gk_m251 7 [(1, .int 21), (0, .ref 0)] [] (fm g tp bt a b) (fm_FTS a0 g tp bt b S E) := by
  obtain ⟨⟨eD, hD3, eK, hK30, hnK⟩, h8, h9⟩ := hT.2.2.2.2.2
  refine fe_s 3 (pc' := 14) (lc' := [(1, .int 21), (0, .ref 0)]) (stk' := [.int 3374, .ref 1]) (mem' := fm g tp bt a b) (by intro _ _ _; eq_refl) ?_
  refine fe_ldI (by rfl) (by rfl) (fx_inN (i := 3374) (by omega) (by omega)) ?_
  rw [show Int32.toNatClampNeg (3374) = 3374 from rfl]
  rw [hT.2.2.2.2.1]
  refine fe_s 9 (pc' := 28) (lc' := [(3, .int (3846 + (6 * (nI n)))), (2, .int (nI n)), (1, .int 21), (0, .ref 0)]) (stk' := [.int 18, .int 21]) (mem' := fm g tp bt a b) (by intro _ _ _; eq_refl) ?_
  rw [show (3846 + (6 * (nI n)) : Int32) = nI (3846 + (6 * n)) from by simp only [show (3846 : Int32) = nI 3846 from rfl, show (6 : Int32) = nI 6 from rfl, nI_add, fm_mul]]
  refine fe_s 1 (pc' := cond (fx_cb .eq 21 18) 37 31) (lc' := [(3, .int (nI (3846 + (6 * n)))), (2, .int (nI n)), (1, .int 21), (0, .ref 0)]) (stk' := []) (mem' := fm g tp bt a b) (by intro _ _ _; eq_refl) ?_
  rw [show (fx_cb .eq 21 18) = false from by decide]
  dsimp only [cond]
  refine fe_s 2 (pc' := 34) (lc' := [(3, .int (nI (3846 + (6 * n)))), (2, .int (nI n)), (1, .int 21), (0, .ref 0)]) (stk' := [.int 19, .int 21]) (mem' := fm g tp bt a b) (by intro _ _ _; eq_refl) ?_
  refine fe_s 1 (pc' := cond (fx_cb .ne 21 19) 41 37) (lc' := [(3, .int (nI (3846 + (6 * n)))), (2, .int (nI n)), (1, .int 21), (0, .ref 0)]) (stk' := []) (mem' := fm g tp bt a b) (by intro _ _ _; eq_refl) ?_
  rw [show (fx_cb .ne 21 19) = true from by decide]
  dsimp only [cond]
  refine fe_s 4 (pc' := 47) (lc' := [(4, .int 0), (3, .int (nI (3846 + (6 * n)))), (2, .int (nI n)), (1, .int 21), (0, .ref 0)]) (stk' := [.int 11, .int 21]) (mem' := fm g tp bt a b) (by intro _ _ _; eq_refl) ?_
  refine fe_s 1 (pc' := cond (fx_cb .lt 21 11) 81 50) (lc' := [(4, .int 0), (3, .int (nI (3846 + (6 * n)))), (2, .int (nI n)), (1, .int 21), (0, .ref 0)]) (stk' := []) (mem' := fm g tp bt a b) (by intro _ _ _; eq_refl) ?_
  rw [show (fx_cb .lt 21 11) = false from by decide]
  dsimp only [cond]
  refine fe_s 2 (pc' := 53) (lc' := [(4, .int 0), (3, .int (nI (3846 + (6 * n)))), (2, .int (nI n)), (1, .int 21), (0, .ref 0)]) (stk' := [.int 21, .int 21]) (mem' := fm g tp bt a b) (by intro _ _ _; eq_refl) ?_
  refine fe_s 1 (pc' := cond (fx_cb .gt 21 21) 81 56) (lc' := [(4, .int 0), (3, .int (nI (3846 + (6 * n)))), (2, .int (nI n)), (1, .int 21), (0, .ref 0)]) (stk' := []) (mem' := fm g tp bt a b) (by intro _ _ _; eq_refl) ?_
  rw [show (fx_cb .gt 21 21) = false from by decide]
  dsimp only [cond]
  refine fe_s 2 (pc' := 59) (lc' := [(4, .int 0), (3, .int (nI (3846 + (6 * n)))), (2, .int (nI n)), (1, .int 21), (0, .ref 0)]) (stk' := [.int 16, .int 21]) (mem' := fm g tp bt a b) (by intro _ _ _; eq_refl) ?_
  refine fe_s 1 (pc' := cond (fx_cb .eq 21 16) 81 62) (lc' := [(4, .int 0), (3, .int (nI (3846 + (6 * n)))), (2, .int (nI n)), (1, .int 21), (0, .ref 0)]) (stk' := []) (mem' := fm g tp bt a b) (by intro _ _ _; eq_refl) ?_
  rw [show (fx_cb .eq 21 16) = false from by decide]
  dsimp only [cond]
  refine fe_s 2 (pc' := 65) (lc' := [(4, .int 0), (3, .int (nI (3846 + (6 * n)))), (2, .int (nI n)), (1, .int 21), (0, .ref 0)]) (stk' := [.int 17, .int 21]) (mem' := fm g tp bt a b) (by intro _ _ _; eq_refl) ?_
  refine fe_s 1 (pc' := cond (fx_cb .eq 21 17) 81 68) (lc' := [(4, .int 0), (3, .int (nI (3846 + (6 * n)))), (2, .int (nI n)), (1, .int 21), (0, .ref 0)]) (stk' := []) (mem' := fm g tp bt a b) (by intro _ _ _; eq_refl) ?_
  rw [show (fx_cb .eq 21 17) = false from by decide]
  dsimp only [cond]
  refine fe_s 2 (pc' := 71) (lc' := [(4, .int 0), (3, .int (nI (3846 + (6 * n)))), (2, .int (nI n)), (1, .int 21), (0, .ref 0)]) (stk' := [.int 20, .int 21]) (mem' := fm g tp bt a b) (by intro _ _ _; eq_refl) ?_
  refine fe_s 1 (pc' := cond (fx_cb .ne 21 20) 87 74) (lc' := [(4, .int 0), (3, .int (nI (3846 + (6 * n)))), (2, .int (nI n)), (1, .int 21), (0, .ref 0)]) (stk' := []) (mem' := fm g tp bt a b) (by intro _ _ _; eq_refl) ?_
  rw [show (fx_cb .ne 21 20) = true from by decide]
  dsimp only [cond]
  refine fe_s 2 (pc' := 90) (lc' := [(4, .int 0), (3, .int (nI (3846 + (6 * n)))), (2, .int (nI n)), (1, .int 21), (0, .ref 0)]) (stk' := [.int 20, .int 21]) (mem' := fm g tp bt a b) (by intro _ _ _; eq_refl) ?_
  refine fe_s 1 (pc' := cond (fx_cb .eq 21 20) 109 93) (lc' := [(4, .int 0), (3, .int (nI (3846 + (6 * n)))), (2, .int (nI n)), (1, .int 21), (0, .ref 0)]) (stk' := []) (mem' := fm g tp bt a b) (by intro _ _ _; eq_refl) ?_
  rw [show (fx_cb .eq 21 20) = false from by decide]
  dsimp only [cond]
  refine fe_s 3 (pc' := 99) (lc' := [(4, .int 0), (3, .int (nI (3846 + (6 * n)))), (2, .int (nI n)), (1, .int 21), (0, .ref 0)]) (stk' := [.int 30, .int (g 23)]) (mem' := fm g tp bt a b) (by intro _ _ _; eq_refl) ?_
  try rw [eK]
  refine fe_s 1 (pc' := cond (fx_cb .ne (nI K) 30) 109 102) (lc' := [(4, .int 0), (3, .int (nI (3846 + (6 * n)))), (2, .int (nI n)), (1, .int 21), (0, .ref 0)]) (stk' := []) (mem' := fm g tp bt a b) (by intro _ _ _; eq_refl) ?_
  by_cases h1 : K = 30
  · rw [show (fx_cb .ne (nI K) 30) = false from cb_neF (a := K) (b := 30) (by omega) (by omega) (by omega)]
    dsimp only [cond]
    refine fe_s 2 (pc' := 105) (lc' := [(4, .int 0), (3, .int (nI (3846 + (6 * n)))), (2, .int (nI n)), (1, .int 21), (0, .ref 0)]) (stk' := [.int 6, .ref 0]) (mem' := fm g tp bt a b) (by intro _ _ _; eq_refl) ?_
    obtain ⟨gf2, hfrf2, hof2, hzf2⟩ := fr_failsq (x := 6) (g := g) (tp := tp) (bt := bt) (a := a) (b := b) (by omega) (by omega) (fm_gy_rf hxp hfl).2.1 (fm_gy_rf hxp hfl).2.2.1
    have gof2 := fm_gy_tr (fm_gy_rf hxp hfl) hof2
    have d22f2 : gf2 22 = nI D := by rw [hof2.1 22 (by decide) (by decide) (by decide) (by decide) (by decide) (by decide)]; first | exact eD | rfl
    have d23f2 : gf2 23 = nI K := by rw [hof2.1 23 (by decide) (by decide) (by decide) (by decide) (by decide) (by decide)]; first | exact eK | rfl
    refine fe_ivV hfrf2 (by omega) (by rfl) (by rfl) (by rfl) (by rfl) (by rfl) (by rfl) ?_
    exact fe_ret ⟨_, _, _, _, _, n, D, K, gof2, ⟨hT.1, hT.2.1, hT.2.2.1, hT.2.2.2.1, hT.2.2.2.2.1, ⟨d22f2, hD3, d23f2, hK30, hnK⟩, h8, h9⟩, Or.inl ⟨rfl, hzf2⟩, rfl⟩ (by rfl) (by rfl) (by rfl)
  · rw [show (fx_cb .ne (nI K) 30) = true from cb_neT (a := K) (b := 30) (by omega) (by omega) (by omega)]
    dsimp only [cond]
    refine fe_s 1 (pc' := 111) (lc' := [(4, .int 0), (3, .int (nI (3846 + (6 * n)))), (2, .int (nI n)), (1, .int 21), (0, .ref 0)]) (stk' := [.int 0]) (mem' := fm g tp bt a b) (by intro _ _ _; eq_refl) ?_
    refine fe_s 1 (pc' := cond (fx_cb .eq 0 0) 129 114) (lc' := [(4, .int 0), (3, .int (nI (3846 + (6 * n)))), (2, .int (nI n)), (1, .int 21), (0, .ref 0)]) (stk' := []) (mem' := fm g tp bt a b) (by intro _ _ _; eq_refl) ?_
    rw [show (fx_cb .eq 0 0) = true from by decide]
    dsimp only [cond]
    refine fe_s 5 (pc' := 137) (lc' := [(4, .int 0), (3, .int (nI (3846 + (6 * n)))), (2, .int (nI n)), (1, .int 21), (0, .ref 0)]) (stk' := [.int 20, .int 21, .int (g 23), .ref 0]) (mem' := fm g tp bt a b) (by intro _ _ _; eq_refl) ?_
    try rw [eK]
    refine fe_s 1 (pc' := cond (fx_cb .ne 21 20) 144 140) (lc' := [(4, .int 0), (3, .int (nI (3846 + (6 * n)))), (2, .int (nI n)), (1, .int 21), (0, .ref 0)]) (stk' := [.int (nI K), .ref 0]) (mem' := fm g tp bt a b) (by intro _ _ _; eq_refl) ?_
    rw [show (fx_cb .ne 21 20) = true from by decide]
    dsimp only [cond]
    refine fe_s 7 (pc' := 155) (lc' := [(4, .int 0), (3, .int (nI (3846 + (6 * n)))), (2, .int (nI n)), (1, .int 21), (0, .ref 0)]) (stk' := [.int 21, .int (nI (3846 + (6 * n))), .ref 1]) (mem' := fm (upd g 23 ((nI K) + 1)) tp bt a b) (by intro _ _ _; eq_refl) ?_
    rw [show ((nI K) + 1 : Int32) = nI (K + 1) from by simp only [show (1 : Int32) = nI 1 from rfl, nI_add, fm_mul]]
    have hn60 : n < 60 := by omega
    refine fe_stI (mem' := fm (upd g 23 (nI (K + 1))) tp bt (fm_u a 1 (nI (3846 + (6 * n)) : Int32).toNatClampNeg 21) b) (by rfl) (by rfl) (fx_inN (i := 3846 + (6 * n)) (by omega) (by omega)) fm_si1 ?_
    rw [show Int32.toNatClampNeg (nI (3846 + (6 * n))) = 3846 + (6 * n) from nI_clamp (by omega)]
    refine fe_s 4 (pc' := 163) (lc' := [(5, .int 1), (4, .int 0), (3, .int (nI (3846 + (6 * n)))), (2, .int (nI n)), (1, .int 21), (0, .ref 0)]) (stk' := [.int 6, .int 1]) (mem' := fm (upd g 23 (nI (K + 1))) tp bt (fm_u a 1 (3846 + (6 * n)) 21) b) (by intro _ _ _; eq_refl) ?_
    refine fe_s 1 (pc' := cond (fx_cb .ge 1 6) 182 166) (lc' := [(5, .int 1), (4, .int 0), (3, .int (nI (3846 + (6 * n)))), (2, .int (nI n)), (1, .int 21), (0, .ref 0)]) (stk' := []) (mem' := fm (upd g 23 (nI (K + 1))) tp bt (fm_u a 1 (3846 + (6 * n)) 21) b) (by intro _ _ _; eq_refl) ?_
    rw [show (fx_cb .ge 1 6) = false from by decide]
    dsimp only [cond]
    refine fe_s 6 (pc' := 175) (lc' := [(5, .int 1), (4, .int 0), (3, .int (nI (3846 + (6 * n)))), (2, .int (nI n)), (1, .int 21), (0, .ref 0)]) (stk' := [.int 0, .int ((nI (3846 + (6 * n))) + 1), .ref 1]) (mem' := fm (upd g 23 (nI (K + 1))) tp bt (fm_u a 1 (3846 + (6 * n)) 21) b) (by intro _ _ _; eq_refl) ?_
    rw [show ((nI (3846 + (6 * n))) + 1 : Int32) = nI ((3846 + (6 * n)) + 1) from by simp only [show (1 : Int32) = nI 1 from rfl, nI_add, fm_mul]]
    refine fe_stI (mem' := fm (upd g 23 (nI (K + 1))) tp bt (fm_u (fm_u a 1 (3846 + (6 * n)) 21) 1 (nI ((3846 + (6 * n)) + 1) : Int32).toNatClampNeg 0) b) (by rfl) (by rfl) (fx_inN (i := (3846 + (6 * n)) + 1) (by omega) (by omega)) fm_si1 ?_
    rw [show Int32.toNatClampNeg (nI ((3846 + (6 * n)) + 1)) = (3846 + (6 * n)) + 1 from nI_clamp (by omega)]
    refine fe_s 4 (pc' := 163) (lc' := [(5, .int (1 + 1)), (4, .int 0), (3, .int (nI (3846 + (6 * n)))), (2, .int (nI n)), (1, .int 21), (0, .ref 0)]) (stk' := [.int 6, .int (1 + 1)]) (mem' := fm (upd g 23 (nI (K + 1))) tp bt (fm_u (fm_u a 1 (3846 + (6 * n)) 21) 1 ((3846 + (6 * n)) + 1) 0) b) (by intro _ _ _; eq_refl) ?_
    rw [show (1 + 1 : Int32) = 2 from rfl]
    refine fe_s 1 (pc' := cond (fx_cb .ge 2 6) 182 166) (lc' := [(5, .int 2), (4, .int 0), (3, .int (nI (3846 + (6 * n)))), (2, .int (nI n)), (1, .int 21), (0, .ref 0)]) (stk' := []) (mem' := fm (upd g 23 (nI (K + 1))) tp bt (fm_u (fm_u a 1 (3846 + (6 * n)) 21) 1 ((3846 + (6 * n)) + 1) 0) b) (by intro _ _ _; eq_refl) ?_
    rw [show (fx_cb .ge 2 6) = false from by decide]
    dsimp only [cond]
    refine fe_s 6 (pc' := 175) (lc' := [(5, .int 2), (4, .int 0), (3, .int (nI (3846 + (6 * n)))), (2, .int (nI n)), (1, .int 21), (0, .ref 0)]) (stk' := [.int 0, .int ((nI (3846 + (6 * n))) + 2), .ref 1]) (mem' := fm (upd g 23 (nI (K + 1))) tp bt (fm_u (fm_u a 1 (3846 + (6 * n)) 21) 1 ((3846 + (6 * n)) + 1) 0) b) (by intro _ _ _; eq_refl) ?_
    rw [show ((nI (3846 + (6 * n))) + 2 : Int32) = nI ((3846 + (6 * n)) + 2) from by simp only [show (2 : Int32) = nI 2 from rfl, nI_add, fm_mul]]
    refine fe_stI (mem' := fm (upd g 23 (nI (K + 1))) tp bt (fm_u (fm_u (fm_u a 1 (3846 + (6 * n)) 21) 1 ((3846 + (6 * n)) + 1) 0) 1 (nI ((3846 + (6 * n)) + 2) : Int32).toNatClampNeg 0) b) (by rfl) (by rfl) (fx_inN (i := (3846 + (6 * n)) + 2) (by omega) (by omega)) fm_si1 ?_
    rw [show Int32.toNatClampNeg (nI ((3846 + (6 * n)) + 2)) = (3846 + (6 * n)) + 2 from nI_clamp (by omega)]
    refine fe_s 4 (pc' := 163) (lc' := [(5, .int (2 + 1)), (4, .int 0), (3, .int (nI (3846 + (6 * n)))), (2, .int (nI n)), (1, .int 21), (0, .ref 0)]) (stk' := [.int 6, .int (2 + 1)]) (mem' := fm (upd g 23 (nI (K + 1))) tp bt (fm_u (fm_u (fm_u a 1 (3846 + (6 * n)) 21) 1 ((3846 + (6 * n)) + 1) 0) 1 ((3846 + (6 * n)) + 2) 0) b) (by intro _ _ _; eq_refl) ?_
    rw [show (2 + 1 : Int32) = 3 from rfl]
    refine fe_s 1 (pc' := cond (fx_cb .ge 3 6) 182 166) (lc' := [(5, .int 3), (4, .int 0), (3, .int (nI (3846 + (6 * n)))), (2, .int (nI n)), (1, .int 21), (0, .ref 0)]) (stk' := []) (mem' := fm (upd g 23 (nI (K + 1))) tp bt (fm_u (fm_u (fm_u a 1 (3846 + (6 * n)) 21) 1 ((3846 + (6 * n)) + 1) 0) 1 ((3846 + (6 * n)) + 2) 0) b) (by intro _ _ _; eq_refl) ?_
    rw [show (fx_cb .ge 3 6) = false from by decide]
    dsimp only [cond]
    refine fe_s 6 (pc' := 175) (lc' := [(5, .int 3), (4, .int 0), (3, .int (nI (3846 + (6 * n)))), (2, .int (nI n)), (1, .int 21), (0, .ref 0)]) (stk' := [.int 0, .int ((nI (3846 + (6 * n))) + 3), .ref 1]) (mem' := fm (upd g 23 (nI (K + 1))) tp bt (fm_u (fm_u (fm_u a 1 (3846 + (6 * n)) 21) 1 ((3846 + (6 * n)) + 1) 0) 1 ((3846 + (6 * n)) + 2) 0) b) (by intro _ _ _; eq_refl) ?_
    rw [show ((nI (3846 + (6 * n))) + 3 : Int32) = nI ((3846 + (6 * n)) + 3) from by simp only [show (3 : Int32) = nI 3 from rfl, nI_add, fm_mul]]
    refine fe_stI (mem' := fm (upd g 23 (nI (K + 1))) tp bt (fm_u (fm_u (fm_u (fm_u a 1 (3846 + (6 * n)) 21) 1 ((3846 + (6 * n)) + 1) 0) 1 ((3846 + (6 * n)) + 2) 0) 1 (nI ((3846 + (6 * n)) + 3) : Int32).toNatClampNeg 0) b) (by rfl) (by rfl) (fx_inN (i := (3846 + (6 * n)) + 3) (by omega) (by omega)) fm_si1 ?_
    rw [show Int32.toNatClampNeg (nI ((3846 + (6 * n)) + 3)) = (3846 + (6 * n)) + 3 from nI_clamp (by omega)]
    refine fe_s 4 (pc' := 163) (lc' := [(5, .int (3 + 1)), (4, .int 0), (3, .int (nI (3846 + (6 * n)))), (2, .int (nI n)), (1, .int 21), (0, .ref 0)]) (stk' := [.int 6, .int (3 + 1)]) (mem' := fm (upd g 23 (nI (K + 1))) tp bt (fm_u (fm_u (fm_u (fm_u a 1 (3846 + (6 * n)) 21) 1 ((3846 + (6 * n)) + 1) 0) 1 ((3846 + (6 * n)) + 2) 0) 1 ((3846 + (6 * n)) + 3) 0) b) (by intro _ _ _; eq_refl) ?_
    rw [show (3 + 1 : Int32) = 4 from rfl]
    refine fe_s 1 (pc' := cond (fx_cb .ge 4 6) 182 166) (lc' := [(5, .int 4), (4, .int 0), (3, .int (nI (3846 + (6 * n)))), (2, .int (nI n)), (1, .int 21), (0, .ref 0)]) (stk' := []) (mem' := fm (upd g 23 (nI (K + 1))) tp bt (fm_u (fm_u (fm_u (fm_u a 1 (3846 + (6 * n)) 21) 1 ((3846 + (6 * n)) + 1) 0) 1 ((3846 + (6 * n)) + 2) 0) 1 ((3846 + (6 * n)) + 3) 0) b) (by intro _ _ _; eq_refl) ?_
    rw [show (fx_cb .ge 4 6) = false from by decide]
    dsimp only [cond]
    refine fe_s 6 (pc' := 175) (lc' := [(5, .int 4), (4, .int 0), (3, .int (nI (3846 + (6 * n)))), (2, .int (nI n)), (1, .int 21), (0, .ref 0)]) (stk' := [.int 0, .int ((nI (3846 + (6 * n))) + 4), .ref 1]) (mem' := fm (upd g 23 (nI (K + 1))) tp bt (fm_u (fm_u (fm_u (fm_u a 1 (3846 + (6 * n)) 21) 1 ((3846 + (6 * n)) + 1) 0) 1 ((3846 + (6 * n)) + 2) 0) 1 ((3846 + (6 * n)) + 3) 0) b) (by intro _ _ _; eq_refl) ?_
    rw [show ((nI (3846 + (6 * n))) + 4 : Int32) = nI ((3846 + (6 * n)) + 4) from by simp only [show (4 : Int32) = nI 4 from rfl, nI_add, fm_mul]]
    refine fe_stI (mem' := fm (upd g 23 (nI (K + 1))) tp bt (fm_u (fm_u (fm_u (fm_u (fm_u a 1 (3846 + (6 * n)) 21) 1 ((3846 + (6 * n)) + 1) 0) 1 ((3846 + (6 * n)) + 2) 0) 1 ((3846 + (6 * n)) + 3) 0) 1 (nI ((3846 + (6 * n)) + 4) : Int32).toNatClampNeg 0) b) (by rfl) (by rfl) (fx_inN (i := (3846 + (6 * n)) + 4) (by omega) (by omega)) fm_si1 ?_
    rw [show Int32.toNatClampNeg (nI ((3846 + (6 * n)) + 4)) = (3846 + (6 * n)) + 4 from nI_clamp (by omega)]
    refine fe_s 4 (pc' := 163) (lc' := [(5, .int (4 + 1)), (4, .int 0), (3, .int (nI (3846 + (6 * n)))), (2, .int (nI n)), (1, .int 21), (0, .ref 0)]) (stk' := [.int 6, .int (4 + 1)]) (mem' := fm (upd g 23 (nI (K + 1))) tp bt (fm_u (fm_u (fm_u (fm_u (fm_u a 1 (3846 + (6 * n)) 21) 1 ((3846 + (6 * n)) + 1) 0) 1 ((3846 + (6 * n)) + 2) 0) 1 ((3846 + (6 * n)) + 3) 0) 1 ((3846 + (6 * n)) + 4) 0) b) (by intro _ _ _; eq_refl) ?_
    rw [show (4 + 1 : Int32) = 5 from rfl]
    refine fe_s 1 (pc' := cond (fx_cb .ge 5 6) 182 166) (lc' := [(5, .int 5), (4, .int 0), (3, .int (nI (3846 + (6 * n)))), (2, .int (nI n)), (1, .int 21), (0, .ref 0)]) (stk' := []) (mem' := fm (upd g 23 (nI (K + 1))) tp bt (fm_u (fm_u (fm_u (fm_u (fm_u a 1 (3846 + (6 * n)) 21) 1 ((3846 + (6 * n)) + 1) 0) 1 ((3846 + (6 * n)) + 2) 0) 1 ((3846 + (6 * n)) + 3) 0) 1 ((3846 + (6 * n)) + 4) 0) b) (by intro _ _ _; eq_refl) ?_
    rw [show (fx_cb .ge 5 6) = false from by decide]
    dsimp only [cond]
    refine fe_s 6 (pc' := 175) (lc' := [(5, .int 5), (4, .int 0), (3, .int (nI (3846 + (6 * n)))), (2, .int (nI n)), (1, .int 21), (0, .ref 0)]) (stk' := [.int 0, .int ((nI (3846 + (6 * n))) + 5), .ref 1]) (mem' := fm (upd g 23 (nI (K + 1))) tp bt (fm_u (fm_u (fm_u (fm_u (fm_u a 1 (3846 + (6 * n)) 21) 1 ((3846 + (6 * n)) + 1) 0) 1 ((3846 + (6 * n)) + 2) 0) 1 ((3846 + (6 * n)) + 3) 0) 1 ((3846 + (6 * n)) + 4) 0) b) (by intro _ _ _; eq_refl) ?_
    rw [show ((nI (3846 + (6 * n))) + 5 : Int32) = nI ((3846 + (6 * n)) + 5) from by simp only [show (5 : Int32) = nI 5 from rfl, nI_add, fm_mul]]
    refine fe_stI (mem' := fm (upd g 23 (nI (K + 1))) tp bt (fm_u (fm_u (fm_u (fm_u (fm_u (fm_u a 1 (3846 + (6 * n)) 21) 1 ((3846 + (6 * n)) + 1) 0) 1 ((3846 + (6 * n)) + 2) 0) 1 ((3846 + (6 * n)) + 3) 0) 1 ((3846 + (6 * n)) + 4) 0) 1 (nI ((3846 + (6 * n)) + 5) : Int32).toNatClampNeg 0) b) (by rfl) (by rfl) (fx_inN (i := (3846 + (6 * n)) + 5) (by omega) (by omega)) fm_si1 ?_
    rw [show Int32.toNatClampNeg (nI ((3846 + (6 * n)) + 5)) = (3846 + (6 * n)) + 5 from nI_clamp (by omega)]
    refine fe_s 4 (pc' := 163) (lc' := [(5, .int (5 + 1)), (4, .int 0), (3, .int (nI (3846 + (6 * n)))), (2, .int (nI n)), (1, .int 21), (0, .ref 0)]) (stk' := [.int 6, .int (5 + 1)]) (mem' := fm (upd g 23 (nI (K + 1))) tp bt (fm_u (fm_u (fm_u (fm_u (fm_u (fm_u a 1 (3846 + (6 * n)) 21) 1 ((3846 + (6 * n)) + 1) 0) 1 ((3846 + (6 * n)) + 2) 0) 1 ((3846 + (6 * n)) + 3) 0) 1 ((3846 + (6 * n)) + 4) 0) 1 ((3846 + (6 * n)) + 5) 0) b) (by intro _ _ _; eq_refl) ?_
    rw [show (5 + 1 : Int32) = 6 from rfl]
    refine fe_s 1 (pc' := cond (fx_cb .ge 6 6) 182 166) (lc' := [(5, .int 6), (4, .int 0), (3, .int (nI (3846 + (6 * n)))), (2, .int (nI n)), (1, .int 21), (0, .ref 0)]) (stk' := []) (mem' := fm (upd g 23 (nI (K + 1))) tp bt (fm_u (fm_u (fm_u (fm_u (fm_u (fm_u a 1 (3846 + (6 * n)) 21) 1 ((3846 + (6 * n)) + 1) 0) 1 ((3846 + (6 * n)) + 2) 0) 1 ((3846 + (6 * n)) + 3) 0) 1 ((3846 + (6 * n)) + 4) 0) 1 ((3846 + (6 * n)) + 5) 0) b) (by intro _ _ _; eq_refl) ?_
    rw [show (fx_cb .ge 6 6) = true from by decide]
    dsimp only [cond]
    refine fe_s 4 (pc' := 190) (lc' := [(5, .int 6), (4, .int 0), (3, .int (nI (3846 + (6 * n)))), (2, .int (nI n)), (1, .int 21), (0, .ref 0)]) (stk' := [.int 3374, .ref 1, .int 3374, .ref 1]) (mem' := fm (upd g 23 (nI (K + 1))) tp bt (fm_u (fm_u (fm_u (fm_u (fm_u (fm_u a 1 (3846 + (6 * n)) 21) 1 ((3846 + (6 * n)) + 1) 0) 1 ((3846 + (6 * n)) + 2) 0) 1 ((3846 + (6 * n)) + 3) 0) 1 ((3846 + (6 * n)) + 4) 0) 1 ((3846 + (6 * n)) + 5) 0) b) (by intro _ _ _; eq_refl) ?_
    refine fe_ldI (by rfl) (by rfl) (fx_inN (i := 3374) (by omega) (by omega)) ?_
    rw [show Int32.toNatClampNeg (3374) = 3374 from rfl]
    rw [show (fm_u (fm_u (fm_u (fm_u (fm_u (fm_u a 1 (3846 + (6 * n)) 21) 1 ((3846 + (6 * n)) + 1) 0) 1 ((3846 + (6 * n)) + 2) 0) 1 ((3846 + (6 * n)) + 3) 0) 1 ((3846 + (6 * n)) + 4) 0) 1 ((3846 + (6 * n)) + 5) 0) 1 3374 = nI n from by rw [fm_u1, if_neg (by omega), fm_u1, if_neg (by omega), fm_u1, if_neg (by omega), fm_u1, if_neg (by omega), fm_u1, if_neg (by omega), fm_u1, if_neg (by omega)]; exact hT.2.2.2.2.1]
    refine fe_s 2 (pc' := 193) (lc' := [(5, .int 6), (4, .int 0), (3, .int (nI (3846 + (6 * n)))), (2, .int (nI n)), (1, .int 21), (0, .ref 0)]) (stk' := [.int ((nI n) + 1), .int 3374, .ref 1]) (mem' := fm (upd g 23 (nI (K + 1))) tp bt (fm_u (fm_u (fm_u (fm_u (fm_u (fm_u a 1 (3846 + (6 * n)) 21) 1 ((3846 + (6 * n)) + 1) 0) 1 ((3846 + (6 * n)) + 2) 0) 1 ((3846 + (6 * n)) + 3) 0) 1 ((3846 + (6 * n)) + 4) 0) 1 ((3846 + (6 * n)) + 5) 0) b) (by intro _ _ _; eq_refl) ?_
    rw [show ((nI n) + 1 : Int32) = nI (n + 1) from by simp only [show (1 : Int32) = nI 1 from rfl, nI_add, fm_mul]]
    refine fe_stI (mem' := fm (upd g 23 (nI (K + 1))) tp bt (fm_u (fm_u (fm_u (fm_u (fm_u (fm_u (fm_u a 1 (3846 + (6 * n)) 21) 1 ((3846 + (6 * n)) + 1) 0) 1 ((3846 + (6 * n)) + 2) 0) 1 ((3846 + (6 * n)) + 3) 0) 1 ((3846 + (6 * n)) + 4) 0) 1 ((3846 + (6 * n)) + 5) 0) 1 (3374 : Int32).toNatClampNeg (nI (n + 1))) b) (by rfl) (by rfl) (fx_inN (i := 3374) (by omega) (by omega)) fm_si1 ?_
    rw [show Int32.toNatClampNeg (3374) = 3374 from rfl]
    obtain ⟨at9, hat9⟩ : ∃ z, z = fm_row a n (3846 + 6 * n) 21 := ⟨_, rfl⟩
    rw [show (fm_u (fm_u (fm_u (fm_u (fm_u (fm_u (fm_u a 1 (3846 + (6 * n)) 21) 1 ((3846 + (6 * n)) + 1) 0) 1 ((3846 + (6 * n)) + 2) 0) 1 ((3846 + (6 * n)) + 3) 0) 1 ((3846 + (6 * n)) + 4) 0) 1 ((3846 + (6 * n)) + 5) 0) 1 (3374) (nI (n + 1))) = at9 from hat9.symm]
    have hCt9 : fm_TC a0 at9 n 21 0 := by rw [hat9]; exact fm_TC_new hT hR hn60 (by decide) (by decide)
    have h8t9 : at9 8 = a 8 := (congrFun hat9 8).trans (fm_row_t (by decide))
    refine fe_s 1 (pc' := 195) (lc' := [(5, .int 6), (4, .int 0), (3, .int (nI (3846 + (6 * n)))), (2, .int (nI n)), (1, .int 21), (0, .ref 0)]) (stk' := [.ref 0]) (mem' := fm (upd g 23 (nI (K + 1))) tp bt at9 b) (by intro _ _ _; eq_refl) ?_
    obtain ⟨gk10, Ek10, Fk10, hfrk10, hok10, hek10, hpk10⟩ := fr_aheadq (g := (upd g 23 (nI (K + 1)))) (tp := tp) (bt := bt) (a := at9) (b := b) (fm_gy_up (fm_gy_rf hxp hfl) (by decide)).2.1 (fm_gy_up (fm_gy_rf hxp hfl) (by decide)).2.2.1
    have gok10 := fm_gy_tr (fm_gy_up (fm_gy_rf hxp hfl) (by decide)) hok10
    have e18k10 : gk10 18 = g 18 := hek10.trans ((pk_un (by decide)).trans rfl)
    have prk10 : gk10 12 = 0 ∨ E < Ek10 := hpk10.imp id (fun z => by have := (fm_gy_rf hxp hfl).2.2.2; omega)
    have d22k10 : gk10 22 = nI D := by rw [hok10.1 22 (by decide) (by decide) (by decide) (by decide) (by decide) (by decide)]; first | exact eD | rfl
    have d23k10 : gk10 23 = nI (K + 1) := by rw [hok10.1 23 (by decide) (by decide) (by decide) (by decide) (by decide) (by decide)]; first | exact rfl | rfl
    refine fe_ivV hfrk10 (by omega) (by rfl) (by rfl) (by rfl) (by rfl) (by rfl) (by rfl) ?_
    refine fe_s 3 (pc' := 201) (lc' := [(5, .int 6), (4, .int 0), (3, .int (nI (3846 + (6 * n)))), (2, .int (nI n)), (1, .int 21), (0, .ref 0)]) (stk' := [.int (nI (3846 + (6 * n))), .int 21, .ref 0]) (mem' := fm gk10 tp bt at9 b) (by intro _ _ _; eq_refl) ?_
    obtain ⟨vp11, memp11, ⟨xp11, gp11, Ep11, Fp11, ap11, Xp11, Yp11, hop11, hCp11, h8p11, hvp11, hRp11⟩, hfrp11⟩ := fr_taleOrder21 (g := gk10) (tp := tp) (bt := bt) (a := at9) (b := b) (a0 := a0) gok10.2.1 gok10.2.2.1 hH hCt9
    cases hRp11
    have h9p11 : ap11 8 = a 8 := h8p11.trans h8t9
    have gop11 := fm_gy_tr gok10 hop11
    have d22p11 : gp11 22 = nI D := by rw [hop11.1 22 (by decide) (by decide) (by decide) (by decide) (by decide) (by decide)]; first | exact d22k10 | rfl
    have d23p11 : gp11 23 = nI (K + 1) := by rw [hop11.1 23 (by decide) (by decide) (by decide) (by decide) (by decide) (by decide)]; first | exact d23k10 | rfl
    refine fe_ivV hfrp11 (by omega) (by rfl) (by rfl) (by rfl) (by rfl) (by rfl) (by rfl) ?_
    rcases hvp11 with ⟨rfl, hzp11⟩ | ⟨rfl, hep11, hrop11⟩
    · refine fe_s 1 (pc' := cond (fx_cb .ne 0 0) 209 207) (lc' := [(5, .int 6), (4, .int 0), (3, .int (nI (3846 + (6 * n)))), (2, .int (nI n)), (1, .int 21), (0, .ref 0)]) (stk' := []) (mem' := fm gp11 tp bt ap11 b) (by intro _ _ _; eq_refl) ?_
      rw [show (fx_cb .ne 0 0) = false from by decide]
      dsimp only [cond]
      refine fe_s 1 (pc' := 208) (lc' := [(5, .int 6), (4, .int 0), (3, .int (nI (3846 + (6 * n)))), (2, .int (nI n)), (1, .int 21), (0, .ref 0)]) (stk' := [.int 0]) (mem' := fm gp11 tp bt ap11 b) (by intro _ _ _; eq_refl) ?_
      exact fe_ret ⟨_, _, _, _, _, n + 1, D, (K + 1), gop11, fm_TS_of hCp11 ⟨d22p11, by omega, d23p11, by omega, by omega⟩ (fun d hd => by rw [h9p11]; obtain ⟨q, q1, q2⟩ := h8 d (by omega); exact ⟨q, by omega, q2⟩) (fun d hd => by rw [h9p11]; exact h9 d hd), Or.inl ⟨rfl, hzp11⟩, rfl⟩ (by rfl) (by rfl) (by rfl)
    · have e18p11 : gp11 18 = g 18 := hep11.trans e18k10
      refine fe_s 1 (pc' := cond (fx_cb .ne 1 0) 209 207) (lc' := [(5, .int 6), (4, .int 0), (3, .int (nI (3846 + (6 * n)))), (2, .int (nI n)), (1, .int 21), (0, .ref 0)]) (stk' := []) (mem' := fm gp11 tp bt ap11 b) (by intro _ _ _; eq_refl) ?_
      rw [show (fx_cb .ne 1 0) = true from by decide]
      dsimp only [cond]
      refine fe_s 1 (pc' := 211) (lc' := [(5, .int 6), (4, .int 0), (3, .int (nI (3846 + (6 * n)))), (2, .int (nI n)), (1, .int 21), (0, .ref 0)]) (stk' := [.int 0]) (mem' := fm gp11 tp bt ap11 b) (by intro _ _ _; eq_refl) ?_
      refine fe_s 1 (pc' := cond (fx_cb .eq 0 0) 234 214) (lc' := [(5, .int 6), (4, .int 0), (3, .int (nI (3846 + (6 * n)))), (2, .int (nI n)), (1, .int 21), (0, .ref 0)]) (stk' := []) (mem' := fm gp11 tp bt ap11 b) (by intro _ _ _; eq_refl) ?_
      rw [show (fx_cb .eq 0 0) = true from by decide]
      dsimp only [cond]
      refine fe_s 2 (pc' := 237) (lc' := [(5, .int 6), (4, .int 0), (3, .int (nI (3846 + (6 * n)))), (2, .int (nI n)), (1, .int 21), (0, .ref 0)]) (stk' := [.int 20, .int 21]) (mem' := fm gp11 tp bt ap11 b) (by intro _ _ _; eq_refl) ?_
      refine fe_s 1 (pc' := cond (fx_cb .ne 21 20) 291 240) (lc' := [(5, .int 6), (4, .int 0), (3, .int (nI (3846 + (6 * n)))), (2, .int (nI n)), (1, .int 21), (0, .ref 0)]) (stk' := []) (mem' := fm gp11 tp bt ap11 b) (by intro _ _ _; eq_refl) ?_
      rw [show (fx_cb .ne 21 20) = true from by decide]
      dsimp only [cond]
      refine fe_s 2 (pc' := 294) (lc' := [(5, .int 6), (4, .int 0), (3, .int (nI (3846 + (6 * n)))), (2, .int (nI n)), (1, .int 21), (0, .ref 0)]) (stk' := [.int 59, .ref 0]) (mem' := fm gp11 tp bt ap11 b) (by intro _ _ _; eq_refl) ?_
      obtain ⟨xc12, gc12, Ec12, Fc12, hfrc12, hoc12, hvc12⟩ := fr_wantSignq (c := 59) (g := gp11) (tp := tp) (bt := bt) (a := ap11) (b := b) gop11.2.1 gop11.2.2.1
      have goc12 := fm_gy_tr gop11 hoc12
      have d22c12 : gc12 22 = nI D := by rw [hoc12.1 22 (by decide) (by decide) (by decide) (by decide) (by decide) (by decide)]; first | exact d22p11 | rfl
      have d23c12 : gc12 23 = nI (K + 1) := by rw [hoc12.1 23 (by decide) (by decide) (by decide) (by decide) (by decide) (by decide)]; first | exact d23p11 | rfl
      refine fe_ivV hfrc12 (by omega) (by rfl) (by rfl) (by rfl) (by rfl) (by rfl) (by rfl) ?_
      rcases hvc12 with ⟨rfl, hzc12⟩ | ⟨rfl, hec12, hpc12⟩
      · exact fe_ret ⟨_, _, _, _, _, n + 1, D, (K + 1), goc12, fm_TS_of hCp11 ⟨d22c12, by omega, d23c12, by omega, by omega⟩ (fun d hd => by rw [h9p11]; obtain ⟨q, q1, q2⟩ := h8 d (by omega); exact ⟨q, by omega, q2⟩) (fun d hd => by rw [h9p11]; exact h9 d hd), Or.inl ⟨rfl, hzc12⟩, rfl⟩ (by rfl) (by rfl) (by rfl)
      · have e18c12 : gc12 18 = g 18 := hec12.trans e18p11
        have prc12 : gc12 12 = 0 ∨ E < Ec12 := hpc12.imp id (fun z => by have := gop11.2.2.2; omega)
        exact fe_ret ⟨_, _, _, _, _, n + 1, D, (K + 1), goc12, fm_TS_of hCp11 ⟨d22c12, by omega, d23c12, by omega, by omega⟩ (fun d hd => by rw [h9p11]; obtain ⟨q, q1, q2⟩ := h8 d (by omega); exact ⟨q, by omega, q2⟩) (fun d hd => by rw [h9p11]; exact h9 d hd), Or.inr ⟨rfl, e18c12, prc12, fm_TR_of hCp11 hrop11⟩, rfl⟩ (by rfl) (by rfl) (by rfl)
end F4875_step
end MH5_0
section MH5_1
/-! ===== fx: a STEP of the TALES ===== -/
section F4876_step
variable {g : Nat → Int32} {tp bt : Int64} {a0 a : Nat → Nat → Int32} {b : Nat → Nat → Int64}
set_option maxRecDepth 20000 in
set_option maxHeartbeats 8000000 in
theorem ts_22 {S E F C W n D K : Nat} (hxp : fm_xp g S E F) (hfl : fm_flt g) (hH : fm_th a0 C W) (hT : fm_TS a0 g a n D K) (hR : fm_TR a n) : fe_R 10 gk_m251 7 [(1, .int 22), (0, .ref 0)] [] (fm g tp bt a b) (fm_FTS a0 g tp bt b S E) := by
  obtain ⟨⟨eD, hD3, eK, hK30, hnK⟩, h8, h9⟩ := hT.2.2.2.2.2
  refine fe_s 3 (pc' := 14) (lc' := [(1, .int 22), (0, .ref 0)]) (stk' := [.int 3374, .ref 1]) (mem' := fm g tp bt a b) (by intro _ _ _; eq_refl) ?_
  refine fe_ldI (by rfl) (by rfl) (fx_inN (i := 3374) (by omega) (by omega)) ?_
  rw [show Int32.toNatClampNeg (3374) = 3374 from rfl]
  rw [hT.2.2.2.2.1]
  refine fe_s 9 (pc' := 28) (lc' := [(3, .int (3846 + (6 * (nI n)))), (2, .int (nI n)), (1, .int 22), (0, .ref 0)]) (stk' := [.int 18, .int 22]) (mem' := fm g tp bt a b) (by intro _ _ _; eq_refl) ?_
  rw [show (3846 + (6 * (nI n)) : Int32) = nI (3846 + (6 * n)) from by simp only [show (3846 : Int32) = nI 3846 from rfl, show (6 : Int32) = nI 6 from rfl, nI_add, fm_mul]]
  refine fe_s 1 (pc' := cond (fx_cb .eq 22 18) 37 31) (lc' := [(3, .int (nI (3846 + (6 * n)))), (2, .int (nI n)), (1, .int 22), (0, .ref 0)]) (stk' := []) (mem' := fm g tp bt a b) (by intro _ _ _; eq_refl) ?_
  rw [show (fx_cb .eq 22 18) = false from by decide]
  dsimp only [cond]
  refine fe_s 2 (pc' := 34) (lc' := [(3, .int (nI (3846 + (6 * n)))), (2, .int (nI n)), (1, .int 22), (0, .ref 0)]) (stk' := [.int 19, .int 22]) (mem' := fm g tp bt a b) (by intro _ _ _; eq_refl) ?_
  refine fe_s 1 (pc' := cond (fx_cb .ne 22 19) 41 37) (lc' := [(3, .int (nI (3846 + (6 * n)))), (2, .int (nI n)), (1, .int 22), (0, .ref 0)]) (stk' := []) (mem' := fm g tp bt a b) (by intro _ _ _; eq_refl) ?_
  rw [show (fx_cb .ne 22 19) = true from by decide]
  dsimp only [cond]
  refine fe_s 4 (pc' := 47) (lc' := [(4, .int 0), (3, .int (nI (3846 + (6 * n)))), (2, .int (nI n)), (1, .int 22), (0, .ref 0)]) (stk' := [.int 11, .int 22]) (mem' := fm g tp bt a b) (by intro _ _ _; eq_refl) ?_
  refine fe_s 1 (pc' := cond (fx_cb .lt 22 11) 81 50) (lc' := [(4, .int 0), (3, .int (nI (3846 + (6 * n)))), (2, .int (nI n)), (1, .int 22), (0, .ref 0)]) (stk' := []) (mem' := fm g tp bt a b) (by intro _ _ _; eq_refl) ?_
  rw [show (fx_cb .lt 22 11) = false from by decide]
  dsimp only [cond]
  refine fe_s 2 (pc' := 53) (lc' := [(4, .int 0), (3, .int (nI (3846 + (6 * n)))), (2, .int (nI n)), (1, .int 22), (0, .ref 0)]) (stk' := [.int 21, .int 22]) (mem' := fm g tp bt a b) (by intro _ _ _; eq_refl) ?_
  refine fe_s 1 (pc' := cond (fx_cb .gt 22 21) 81 56) (lc' := [(4, .int 0), (3, .int (nI (3846 + (6 * n)))), (2, .int (nI n)), (1, .int 22), (0, .ref 0)]) (stk' := []) (mem' := fm g tp bt a b) (by intro _ _ _; eq_refl) ?_
  rw [show (fx_cb .gt 22 21) = true from by decide]
  dsimp only [cond]
  refine fe_s 2 (pc' := 83) (lc' := [(4, .int 0), (3, .int (nI (3846 + (6 * n)))), (2, .int (nI n)), (1, .int 22), (0, .ref 0)]) (stk' := [.int 2, .ref 0]) (mem' := fm g tp bt a b) (by intro _ _ _; eq_refl) ?_
  obtain ⟨gf1, hfrf1, hof1, hzf1⟩ := fr_failsq (x := 2) (g := g) (tp := tp) (bt := bt) (a := a) (b := b) (by omega) (by omega) (fm_gy_rf hxp hfl).2.1 (fm_gy_rf hxp hfl).2.2.1
  have gof1 := fm_gy_tr (fm_gy_rf hxp hfl) hof1
  have d22f1 : gf1 22 = nI D := by rw [hof1.1 22 (by decide) (by decide) (by decide) (by decide) (by decide) (by decide)]; first | exact eD | rfl
  have d23f1 : gf1 23 = nI K := by rw [hof1.1 23 (by decide) (by decide) (by decide) (by decide) (by decide) (by decide)]; first | exact eK | rfl
  refine fe_ivV hfrf1 (by omega) (by rfl) (by rfl) (by rfl) (by rfl) (by rfl) (by rfl) ?_
  exact fe_ret ⟨_, _, _, _, _, n, D, K, gof1, ⟨hT.1, hT.2.1, hT.2.2.1, hT.2.2.2.1, hT.2.2.2.2.1, ⟨d22f1, hD3, d23f1, hK30, hnK⟩, h8, h9⟩, Or.inl ⟨rfl, hzf1⟩, rfl⟩ (by rfl) (by rfl) (by rfl)
set_option maxRecDepth 20000 in
set_option maxHeartbeats 8000000 in
theorem ts_23 {S E F C W n D K : Nat} (hxp : fm_xp g S E F) (hfl : fm_flt g) (hH : fm_th a0 C W) (hT : fm_TS a0 g a n D K) (hR : fm_TR a n) : fe_R 10 gk_m251 7 [(1, .int 23), (0, .ref 0)] [] (fm g tp bt a b) (fm_FTS a0 g tp bt b S E) := by
  obtain ⟨⟨eD, hD3, eK, hK30, hnK⟩, h8, h9⟩ := hT.2.2.2.2.2
  refine fe_s 3 (pc' := 14) (lc' := [(1, .int 23), (0, .ref 0)]) (stk' := [.int 3374, .ref 1]) (mem' := fm g tp bt a b) (by intro _ _ _; eq_refl) ?_
  refine fe_ldI (by rfl) (by rfl) (fx_inN (i := 3374) (by omega) (by omega)) ?_
  rw [show Int32.toNatClampNeg (3374) = 3374 from rfl]
  rw [hT.2.2.2.2.1]
  refine fe_s 9 (pc' := 28) (lc' := [(3, .int (3846 + (6 * (nI n)))), (2, .int (nI n)), (1, .int 23), (0, .ref 0)]) (stk' := [.int 18, .int 23]) (mem' := fm g tp bt a b) (by intro _ _ _; eq_refl) ?_
  rw [show (3846 + (6 * (nI n)) : Int32) = nI (3846 + (6 * n)) from by simp only [show (3846 : Int32) = nI 3846 from rfl, show (6 : Int32) = nI 6 from rfl, nI_add, fm_mul]]
  refine fe_s 1 (pc' := cond (fx_cb .eq 23 18) 37 31) (lc' := [(3, .int (nI (3846 + (6 * n)))), (2, .int (nI n)), (1, .int 23), (0, .ref 0)]) (stk' := []) (mem' := fm g tp bt a b) (by intro _ _ _; eq_refl) ?_
  rw [show (fx_cb .eq 23 18) = false from by decide]
  dsimp only [cond]
  refine fe_s 2 (pc' := 34) (lc' := [(3, .int (nI (3846 + (6 * n)))), (2, .int (nI n)), (1, .int 23), (0, .ref 0)]) (stk' := [.int 19, .int 23]) (mem' := fm g tp bt a b) (by intro _ _ _; eq_refl) ?_
  refine fe_s 1 (pc' := cond (fx_cb .ne 23 19) 41 37) (lc' := [(3, .int (nI (3846 + (6 * n)))), (2, .int (nI n)), (1, .int 23), (0, .ref 0)]) (stk' := []) (mem' := fm g tp bt a b) (by intro _ _ _; eq_refl) ?_
  rw [show (fx_cb .ne 23 19) = true from by decide]
  dsimp only [cond]
  refine fe_s 4 (pc' := 47) (lc' := [(4, .int 0), (3, .int (nI (3846 + (6 * n)))), (2, .int (nI n)), (1, .int 23), (0, .ref 0)]) (stk' := [.int 11, .int 23]) (mem' := fm g tp bt a b) (by intro _ _ _; eq_refl) ?_
  refine fe_s 1 (pc' := cond (fx_cb .lt 23 11) 81 50) (lc' := [(4, .int 0), (3, .int (nI (3846 + (6 * n)))), (2, .int (nI n)), (1, .int 23), (0, .ref 0)]) (stk' := []) (mem' := fm g tp bt a b) (by intro _ _ _; eq_refl) ?_
  rw [show (fx_cb .lt 23 11) = false from by decide]
  dsimp only [cond]
  refine fe_s 2 (pc' := 53) (lc' := [(4, .int 0), (3, .int (nI (3846 + (6 * n)))), (2, .int (nI n)), (1, .int 23), (0, .ref 0)]) (stk' := [.int 21, .int 23]) (mem' := fm g tp bt a b) (by intro _ _ _; eq_refl) ?_
  refine fe_s 1 (pc' := cond (fx_cb .gt 23 21) 81 56) (lc' := [(4, .int 0), (3, .int (nI (3846 + (6 * n)))), (2, .int (nI n)), (1, .int 23), (0, .ref 0)]) (stk' := []) (mem' := fm g tp bt a b) (by intro _ _ _; eq_refl) ?_
  rw [show (fx_cb .gt 23 21) = true from by decide]
  dsimp only [cond]
  refine fe_s 2 (pc' := 83) (lc' := [(4, .int 0), (3, .int (nI (3846 + (6 * n)))), (2, .int (nI n)), (1, .int 23), (0, .ref 0)]) (stk' := [.int 2, .ref 0]) (mem' := fm g tp bt a b) (by intro _ _ _; eq_refl) ?_
  obtain ⟨gf1, hfrf1, hof1, hzf1⟩ := fr_failsq (x := 2) (g := g) (tp := tp) (bt := bt) (a := a) (b := b) (by omega) (by omega) (fm_gy_rf hxp hfl).2.1 (fm_gy_rf hxp hfl).2.2.1
  have gof1 := fm_gy_tr (fm_gy_rf hxp hfl) hof1
  have d22f1 : gf1 22 = nI D := by rw [hof1.1 22 (by decide) (by decide) (by decide) (by decide) (by decide) (by decide)]; first | exact eD | rfl
  have d23f1 : gf1 23 = nI K := by rw [hof1.1 23 (by decide) (by decide) (by decide) (by decide) (by decide) (by decide)]; first | exact eK | rfl
  refine fe_ivV hfrf1 (by omega) (by rfl) (by rfl) (by rfl) (by rfl) (by rfl) (by rfl) ?_
  exact fe_ret ⟨_, _, _, _, _, n, D, K, gof1, ⟨hT.1, hT.2.1, hT.2.2.1, hT.2.2.2.1, hT.2.2.2.2.1, ⟨d22f1, hD3, d23f1, hK30, hnK⟩, h8, h9⟩, Or.inl ⟨rfl, hzf1⟩, rfl⟩ (by rfl) (by rfl) (by rfl)
theorem fr_taleStep {S E F C W n D K : Nat} (hxp : fm_xp g S E F) (hfl : fm_flt g) (hH : fm_th a0 C W) (hT : fm_TS a0 g a n D K) (hR : fm_TR a n) : ∃ (v : Option Value) (mem' : fx_M), (fm_FTS a0 g tp bt b S E) (v, mem') ∧ fr_T 11 251 [.ref 0] (fm g tp bt a b) v mem' := by
  refine fe_meth (F := fm_FTS a0 g tp bt b S E) (M := gk_m251) (by rfl) (by rfl) ?_
  refine fe_s 2 (pc' := 3) (lc' := [(0, .ref 0)]) (stk' := [.ref 22, .ref 0]) (mem' := fm g tp bt a b) (by intro _ _ _; eq_refl) ?_
  obtain ⟨vw2, memw2, ⟨xw2, hxw2, hRw2⟩, hfrw2⟩ := fr_inWords (g := g) (tp := tp) (bt := bt) (a := a) (b := b) (fm_gy_rf hxp hfl).2.1
  cases hRw2
  refine fe_ivV hfrw2 (by omega) (by rfl) (by rfl) (by rfl) (by rfl) (by rfl) (by rfl) ?_
  rcases fm_24 hxw2 with rfl | rfl | rfl | rfl | rfl | rfl | rfl | rfl | rfl | rfl | rfl | rfl | rfl | rfl | rfl | rfl | rfl | rfl | rfl | rfl | rfl | rfl | rfl | rfl | rfl
  · refine fe_s 1 (pc' := 7) (lc' := [(1, .int (-1)), (0, .ref 0)]) (stk' := []) (mem' := fm g tp bt a b) (by intro _ _ _; eq_refl) ?_
    refine fe_w (lc' := [(1, .int (-1)), (0, .ref 0)]) ⟨rfl, rfl, trivial⟩ (by show List.Nodup [1, 0]; decide) (by show List.Nodup [1, 0]; decide) ?_
    exact ts_m hxp hfl hH hT hR
  · refine fe_s 1 (pc' := 7) (lc' := [(1, .int 0), (0, .ref 0)]) (stk' := []) (mem' := fm g tp bt a b) (by intro _ _ _; eq_refl) ?_
    refine fe_w (lc' := [(1, .int 0), (0, .ref 0)]) ⟨rfl, rfl, trivial⟩ (by show List.Nodup [1, 0]; decide) (by show List.Nodup [1, 0]; decide) ?_
    exact ts_0 hxp hfl hH hT hR
  · refine fe_s 1 (pc' := 7) (lc' := [(1, .int 1), (0, .ref 0)]) (stk' := []) (mem' := fm g tp bt a b) (by intro _ _ _; eq_refl) ?_
    refine fe_w (lc' := [(1, .int 1), (0, .ref 0)]) ⟨rfl, rfl, trivial⟩ (by show List.Nodup [1, 0]; decide) (by show List.Nodup [1, 0]; decide) ?_
    exact ts_1 hxp hfl hH hT hR
  · refine fe_s 1 (pc' := 7) (lc' := [(1, .int 2), (0, .ref 0)]) (stk' := []) (mem' := fm g tp bt a b) (by intro _ _ _; eq_refl) ?_
    refine fe_w (lc' := [(1, .int 2), (0, .ref 0)]) ⟨rfl, rfl, trivial⟩ (by show List.Nodup [1, 0]; decide) (by show List.Nodup [1, 0]; decide) ?_
    exact ts_2 hxp hfl hH hT hR
  · refine fe_s 1 (pc' := 7) (lc' := [(1, .int 3), (0, .ref 0)]) (stk' := []) (mem' := fm g tp bt a b) (by intro _ _ _; eq_refl) ?_
    refine fe_w (lc' := [(1, .int 3), (0, .ref 0)]) ⟨rfl, rfl, trivial⟩ (by show List.Nodup [1, 0]; decide) (by show List.Nodup [1, 0]; decide) ?_
    exact ts_3 hxp hfl hH hT hR
  · refine fe_s 1 (pc' := 7) (lc' := [(1, .int 4), (0, .ref 0)]) (stk' := []) (mem' := fm g tp bt a b) (by intro _ _ _; eq_refl) ?_
    refine fe_w (lc' := [(1, .int 4), (0, .ref 0)]) ⟨rfl, rfl, trivial⟩ (by show List.Nodup [1, 0]; decide) (by show List.Nodup [1, 0]; decide) ?_
    exact ts_4 hxp hfl hH hT hR
  · refine fe_s 1 (pc' := 7) (lc' := [(1, .int 5), (0, .ref 0)]) (stk' := []) (mem' := fm g tp bt a b) (by intro _ _ _; eq_refl) ?_
    refine fe_w (lc' := [(1, .int 5), (0, .ref 0)]) ⟨rfl, rfl, trivial⟩ (by show List.Nodup [1, 0]; decide) (by show List.Nodup [1, 0]; decide) ?_
    exact ts_5 hxp hfl hH hT hR
  · refine fe_s 1 (pc' := 7) (lc' := [(1, .int 6), (0, .ref 0)]) (stk' := []) (mem' := fm g tp bt a b) (by intro _ _ _; eq_refl) ?_
    refine fe_w (lc' := [(1, .int 6), (0, .ref 0)]) ⟨rfl, rfl, trivial⟩ (by show List.Nodup [1, 0]; decide) (by show List.Nodup [1, 0]; decide) ?_
    exact ts_6 hxp hfl hH hT hR
  · refine fe_s 1 (pc' := 7) (lc' := [(1, .int 7), (0, .ref 0)]) (stk' := []) (mem' := fm g tp bt a b) (by intro _ _ _; eq_refl) ?_
    refine fe_w (lc' := [(1, .int 7), (0, .ref 0)]) ⟨rfl, rfl, trivial⟩ (by show List.Nodup [1, 0]; decide) (by show List.Nodup [1, 0]; decide) ?_
    exact ts_7 hxp hfl hH hT hR
  · refine fe_s 1 (pc' := 7) (lc' := [(1, .int 8), (0, .ref 0)]) (stk' := []) (mem' := fm g tp bt a b) (by intro _ _ _; eq_refl) ?_
    refine fe_w (lc' := [(1, .int 8), (0, .ref 0)]) ⟨rfl, rfl, trivial⟩ (by show List.Nodup [1, 0]; decide) (by show List.Nodup [1, 0]; decide) ?_
    exact ts_8 hxp hfl hH hT hR
  · refine fe_s 1 (pc' := 7) (lc' := [(1, .int 9), (0, .ref 0)]) (stk' := []) (mem' := fm g tp bt a b) (by intro _ _ _; eq_refl) ?_
    refine fe_w (lc' := [(1, .int 9), (0, .ref 0)]) ⟨rfl, rfl, trivial⟩ (by show List.Nodup [1, 0]; decide) (by show List.Nodup [1, 0]; decide) ?_
    exact ts_9 hxp hfl hH hT hR
  · refine fe_s 1 (pc' := 7) (lc' := [(1, .int 10), (0, .ref 0)]) (stk' := []) (mem' := fm g tp bt a b) (by intro _ _ _; eq_refl) ?_
    refine fe_w (lc' := [(1, .int 10), (0, .ref 0)]) ⟨rfl, rfl, trivial⟩ (by show List.Nodup [1, 0]; decide) (by show List.Nodup [1, 0]; decide) ?_
    exact ts_10 hxp hfl hH hT hR
  · refine fe_s 1 (pc' := 7) (lc' := [(1, .int 11), (0, .ref 0)]) (stk' := []) (mem' := fm g tp bt a b) (by intro _ _ _; eq_refl) ?_
    refine fe_w (lc' := [(1, .int 11), (0, .ref 0)]) ⟨rfl, rfl, trivial⟩ (by show List.Nodup [1, 0]; decide) (by show List.Nodup [1, 0]; decide) ?_
    exact ts_11 hxp hfl hH hT hR
  · refine fe_s 1 (pc' := 7) (lc' := [(1, .int 12), (0, .ref 0)]) (stk' := []) (mem' := fm g tp bt a b) (by intro _ _ _; eq_refl) ?_
    refine fe_w (lc' := [(1, .int 12), (0, .ref 0)]) ⟨rfl, rfl, trivial⟩ (by show List.Nodup [1, 0]; decide) (by show List.Nodup [1, 0]; decide) ?_
    exact ts_12 hxp hfl hH hT hR
  · refine fe_s 1 (pc' := 7) (lc' := [(1, .int 13), (0, .ref 0)]) (stk' := []) (mem' := fm g tp bt a b) (by intro _ _ _; eq_refl) ?_
    refine fe_w (lc' := [(1, .int 13), (0, .ref 0)]) ⟨rfl, rfl, trivial⟩ (by show List.Nodup [1, 0]; decide) (by show List.Nodup [1, 0]; decide) ?_
    exact ts_13 hxp hfl hH hT hR
  · refine fe_s 1 (pc' := 7) (lc' := [(1, .int 14), (0, .ref 0)]) (stk' := []) (mem' := fm g tp bt a b) (by intro _ _ _; eq_refl) ?_
    refine fe_w (lc' := [(1, .int 14), (0, .ref 0)]) ⟨rfl, rfl, trivial⟩ (by show List.Nodup [1, 0]; decide) (by show List.Nodup [1, 0]; decide) ?_
    exact ts_14 hxp hfl hH hT hR
  · refine fe_s 1 (pc' := 7) (lc' := [(1, .int 15), (0, .ref 0)]) (stk' := []) (mem' := fm g tp bt a b) (by intro _ _ _; eq_refl) ?_
    refine fe_w (lc' := [(1, .int 15), (0, .ref 0)]) ⟨rfl, rfl, trivial⟩ (by show List.Nodup [1, 0]; decide) (by show List.Nodup [1, 0]; decide) ?_
    exact ts_15 hxp hfl hH hT hR
  · refine fe_s 1 (pc' := 7) (lc' := [(1, .int 16), (0, .ref 0)]) (stk' := []) (mem' := fm g tp bt a b) (by intro _ _ _; eq_refl) ?_
    refine fe_w (lc' := [(1, .int 16), (0, .ref 0)]) ⟨rfl, rfl, trivial⟩ (by show List.Nodup [1, 0]; decide) (by show List.Nodup [1, 0]; decide) ?_
    exact ts_16 hxp hfl hH hT hR
  · refine fe_s 1 (pc' := 7) (lc' := [(1, .int 17), (0, .ref 0)]) (stk' := []) (mem' := fm g tp bt a b) (by intro _ _ _; eq_refl) ?_
    refine fe_w (lc' := [(1, .int 17), (0, .ref 0)]) ⟨rfl, rfl, trivial⟩ (by show List.Nodup [1, 0]; decide) (by show List.Nodup [1, 0]; decide) ?_
    exact ts_17 hxp hfl hH hT hR
  · refine fe_s 1 (pc' := 7) (lc' := [(1, .int 18), (0, .ref 0)]) (stk' := []) (mem' := fm g tp bt a b) (by intro _ _ _; eq_refl) ?_
    refine fe_w (lc' := [(1, .int 18), (0, .ref 0)]) ⟨rfl, rfl, trivial⟩ (by show List.Nodup [1, 0]; decide) (by show List.Nodup [1, 0]; decide) ?_
    exact ts_18 hxp hfl hH hT hR
  · refine fe_s 1 (pc' := 7) (lc' := [(1, .int 19), (0, .ref 0)]) (stk' := []) (mem' := fm g tp bt a b) (by intro _ _ _; eq_refl) ?_
    refine fe_w (lc' := [(1, .int 19), (0, .ref 0)]) ⟨rfl, rfl, trivial⟩ (by show List.Nodup [1, 0]; decide) (by show List.Nodup [1, 0]; decide) ?_
    exact ts_19 hxp hfl hH hT hR
  · refine fe_s 1 (pc' := 7) (lc' := [(1, .int 20), (0, .ref 0)]) (stk' := []) (mem' := fm g tp bt a b) (by intro _ _ _; eq_refl) ?_
    refine fe_w (lc' := [(1, .int 20), (0, .ref 0)]) ⟨rfl, rfl, trivial⟩ (by show List.Nodup [1, 0]; decide) (by show List.Nodup [1, 0]; decide) ?_
    exact ts_20 hxp hfl hH hT hR
  · refine fe_s 1 (pc' := 7) (lc' := [(1, .int 21), (0, .ref 0)]) (stk' := []) (mem' := fm g tp bt a b) (by intro _ _ _; eq_refl) ?_
    refine fe_w (lc' := [(1, .int 21), (0, .ref 0)]) ⟨rfl, rfl, trivial⟩ (by show List.Nodup [1, 0]; decide) (by show List.Nodup [1, 0]; decide) ?_
    exact ts_21 hxp hfl hH hT hR
  · refine fe_s 1 (pc' := 7) (lc' := [(1, .int 22), (0, .ref 0)]) (stk' := []) (mem' := fm g tp bt a b) (by intro _ _ _; eq_refl) ?_
    refine fe_w (lc' := [(1, .int 22), (0, .ref 0)]) ⟨rfl, rfl, trivial⟩ (by show List.Nodup [1, 0]; decide) (by show List.Nodup [1, 0]; decide) ?_
    exact ts_22 hxp hfl hH hT hR
  · refine fe_s 1 (pc' := 7) (lc' := [(1, .int 23), (0, .ref 0)]) (stk' := []) (mem' := fm g tp bt a b) (by intro _ _ _; eq_refl) ?_
    refine fe_w (lc' := [(1, .int 23), (0, .ref 0)]) ⟨rfl, rfl, trivial⟩ (by show List.Nodup [1, 0]; decide) (by show List.Nodup [1, 0]; decide) ?_
    exact ts_23 hxp hfl hH hT hR
end F4876_step
end MH5_1
section MH5_2
/-! ===== fx: TALES are read ===== -/
section FTQ
variable {g : Nat → Int32} {tp bt : Int64} {a : Nat → Nat → Int32} {b : Nat → Nat → Int64}
/-- what is left by TALES that were read, good or not -/
def fm_TK1 (g0 : Nat → Int32) (a0 : Nat → Nat → Int32) (g' : Nat → Int32) (a' : Nat → Nat → Int32) : Prop := (∀ j, j ≠ 2 → ¬ (10 ≤ j ∧ j ≤ 19) → j ≠ 22 → j ≠ 23 → g' j = g0 j) ∧ g' 10 = 0 ∧ (g' 2 = 0 ∨ g' 2 = 9) ∧ (∃ S E F, fm_xp g' S E F) ∧ fm_flt g' ∧ g' 16 = g' 18 ∧ g' 19 = 0 ∧ (∃ D, D ≤ 3 ∧ g' 22 = nI D) ∧ (∃ K, K ≤ 30 ∧ g' 23 = nI K) ∧ (∀ t, t ≠ 1 → t ≠ 7 → t ≠ 8 → a' t = a0 t) ∧ (∀ i, a' 7 i = a0 7 i ∨ ∃ x : Int32, a' 7 i = x.toInt8.toInt32) ∧ (∀ d, d < 3 → ∃ o, o ≤ 59 ∧ a' 8 d = nI o) ∧ (∀ i, i ≠ 6 → ¬ (478 ≤ i ∧ i < 838) → ¬ (3368 ≤ i ∧ i < 4210) → a' 1 i = a0 1 i) ∧ (∀ i, 3368 ≤ i → i < 4210 → (gm_at i).1 ≤ (a' 1 i).toInt ∧ (a' 1 i).toInt ≤ (gm_at i).2) ∧ fm_sy a' 3368 ∧ ((∀ i, i = 6 ∨ 478 ≤ i ∧ i < 838 → a' 1 i = a0 1 i) ∨ (∀ i, i = 6 ∨ 478 ≤ i ∧ i < 838 → (gm_at i).1 ≤ (a' 1 i).toInt ∧ (a' 1 i).toInt ≤ (gm_at i).2) ∧ ∃ n, n ≤ 60 ∧ a' 1 6 = nI n ∧ ∀ m, m < n → fm_ro (a' 1 (478 + 6 * m)) (a' 1 (479 + 6 * m)))
def fm_FTA (g0 : Nat → Int32) (tp bt : Int64) (a0 : Nat → Nat → Int32) (b0 : Nat → Nat → Int64) (n : Int32) (R : Option Value × fx_M) : Prop := ∃ (v : Int32) (g' : Nat → Int32) (a' : Nat → Nat → Int32), R = (some (.int v), fm g' tp bt a' b0) ∧ (¬ (0 ≤ n ∧ n ≤ g0 10 ∧ n ≤ 300) ∧ v = -1 ∧ g' = upd g0 2 1 ∧ a' = a0 ∨ (0 ≤ n ∧ n ≤ g0 10 ∧ n ≤ 300) ∧ fm_TK1 g0 a0 g' a')
theorem fm_TS_n {a0 a : Nat → Nat → Int32} {g : Nat → Int32} {n D K : Nat} (h : fm_TS a0 g a n D K) : n ≤ 60 := by have := h.2.2.2.2.2.1; omega
theorem fm_TK1_0 {g0 : Nat → Int32} {a0 : Nat → Nat → Int32} {g1 g2 g3 : Nat → Int32} {a1 a2 : Nat → Nat → Int32} {S E E2 F2 n D K : Nat} {s : Int32} (h1 : fm_begun g0 g1) (h2 : fm_tx7 a0 a1) (h9 : ∀ d, d < 3 → ∃ o, o ≤ 59 ∧ a2 8 d = nI o) (h3 : fm_gy g1 g2 S E E2 F2) (h4 : fm_TS a1 g2 a2 n D K) (hs : s = 0 ∨ s = 9) (e3 : g3 = upd (upd g2 16 (g2 18)) 2 s) : fm_TK1 g0 a0 g3 a2 := by
  subst e3
  obtain ⟨p1, p2, p3, p4, p5, p6⟩ := h1
  obtain ⟨q1, q2, q3, q4⟩ := h3
  obtain ⟨n1, n2, n3, n4, n5, ⟨c1, c2, c3, c4, c5⟩, n7, n8⟩ := h4
  have hg : ∀ j, j ≠ 2 → j ≠ 16 → upd (upd g2 16 (g2 18)) 2 s j = g2 j := fun j k1 k2 => by rw [pk_un k1, pk_un k2]
  refine ⟨fun j k1 k2 k3 k4 => ?_, ?_, ?_, ⟨S, E2, F2, ?_⟩, ?_, ?_, ?_, ⟨D, c2, ?_⟩, ⟨K, c4, ?_⟩, fun t t1 t7 t8 => ?_, fun i => ?_, h9, fun i k1 k2 k3 => ?_, n3, n4, Or.inl (fun i hi => ?_)⟩
  · rw [hg j k1 (by omega), q1 j (by omega) (by omega) (by omega) (by omega) (by omega) (by omega) k3 k4]
    exact p1 j (by omega) (by omega) (by omega) (by omega) (by omega) (by omega) (by omega) (by omega) (by omega)
  · rw [hg 10 (by decide) (by decide), q1 10 (by decide) (by decide) (by decide) (by decide) (by decide) (by decide) (by decide) (by decide)]; exact p2
  · rw [pk_us]; exact hs
  · unfold fm_xp at q2 ⊢
    rw [hg 11 (by decide) (by decide), hg 12 (by decide) (by decide), hg 13 (by decide) (by decide), hg 14 (by decide) (by decide), hg 15 (by decide) (by decide)]
    exact q2
  · unfold fm_flt at q3 ⊢
    rw [hg 17 (by decide) (by decide), hg 18 (by decide) (by decide)]
    exact q3
  · rw [pk_un (by decide), pk_us, hg 18 (by decide) (by decide)]
  · rw [hg 19 (by decide) (by decide), q1 19 (by decide) (by decide) (by decide) (by decide) (by decide) (by decide) (by decide) (by decide)]; exact p4
  · rw [hg 22 (by decide) (by decide)]; exact c1
  · rw [hg 23 (by decide) (by decide)]; exact c3
  · rw [n1 t t1 t8]; exact h2.1 t t7
  · rw [n1 7 (by decide) (by decide)]; exact h2.2 i
  · rw [n2 i k3, h2.1 1 (by decide)]
  · rw [n2 i (by omega), h2.1 1 (by decide)]
theorem gm_at_0s : ∀ i, i < 842 → 478 ≤ i → gm_at i = gm_at (3368 + i) := by decide +kernel
theorem fm_TK1_1 {g0 : Nat → Int32} {a0 : Nat → Nat → Int32} {g3 : Nat → Int32} {a2 a3 : Nat → Nat → Int32} {n : Nat} (h : fm_TK1 g0 a0 g3 a2) (hn : n ≤ 60) (en : a2 1 3374 = nI n) (hR : fm_TR a2 n) (k1 : ∀ t, t ≠ 1 → a3 t = a2 t) (k2 : ∀ i, i ≠ 6 → ¬ (478 ≤ i ∧ i < 838) → a3 1 i = a2 1 i) (k3 : ∀ i, 478 ≤ i → i < 838 → a3 1 i = a2 1 (3368 + i)) (k4 : a3 1 6 = nI n) : fm_TK1 g0 a0 g3 a3 := by
  obtain ⟨p1, p2, p3, p4, p5, p6, p7, p8, p9, p10, p11, p12, p13, p14, p15, -⟩ := h
  refine ⟨p1, p2, p3, p4, p5, p6, p7, p8, p9, fun t t1 t7 t8 => by rw [k1 t t1]; exact p10 t t1 t7 t8, fun i => by rw [k1 7 (by decide)]; exact p11 i, fun d hd => by rw [k1 8 (by decide)]; exact p12 d hd, fun i j1 j2 j3 => by rw [k2 i j1 j2]; exact p13 i j1 j2 j3, fun i j1 j2 => by rw [k2 i (by omega) (by omega)]; exact p14 i j1 j2, fun c d hc hd => ?_, Or.inr ⟨fun i hi => ?_, n, hn, k4, fun m hm => ?_⟩⟩
  · rw [k2 _ (by omega) (by omega), k2 _ (by omega) (by omega)]; exact p15 c d hc hd
  · rcases hi with rfl | ⟨i1, i2⟩
    · rw [k4, nI_i32 (by omega), show gm_at 6 = (-1, 60) from rfl]
      exact ⟨by show (-1 : Int) ≤ _; omega, by show _ ≤ (60 : Int); omega⟩
    · rw [k3 i i1 i2, gm_at_0s i (by omega) i1]
      exact p14 (3368 + i) (by omega) (by omega)
  · rw [k3 _ (by omega) (by omega), k3 _ (by omega) (by omega), show 3368 + (478 + 6 * m) = 3846 + 6 * m by omega, show 3368 + (479 + 6 * m) = 3847 + 6 * m by omega]
    exact hR m hm
theorem ta_77 {g0 g1 : Nat → Int32} {a0 a1 : Nat → Nat → Int32} {n : Int32} {S E E2 F2 N D K : Nat} {z : Int32} (hB : fm_begun g0 g1) (hX : fm_tx7 a0 a1) (hr : 0 ≤ n ∧ n ≤ g0 10 ∧ n ≤ 300) (hG : fm_gy g1 g S E E2 F2) (hT : fm_TS a1 g a N D K) (hR : g 18 = 0 → fm_TR a N) : fe_R 12 gk_m252 77 [(2, .int z), (0, .ref 0), (1, .int n)] [] (fm g tp bt a b) (fm_FTA g0 tp bt a0 b n) := by
  by_cases hz : g 18 = 0
  · refine fe_s 2 (pc' := 81) (lc' := [(2, .int z), (0, .ref 0), (1, .int n)]) (stk' := [.int (g 18)]) (mem' := fm g tp bt a b) (by intro _ _ _; eq_refl) ?_
    refine fe_s 1 (pc' := cond (fx_cb .ne (g 18) 0) 132 84) (lc' := [(2, .int z), (0, .ref 0), (1, .int n)]) (stk' := []) (mem' := fm g tp bt a b) (by intro _ _ _; eq_refl) ?_
    rw [show (fx_cb .ne (g 18) 0) = false from by rw [hz]; rfl]
    dsimp only [cond]
    have l103 : ∀ (r k : Nat), k + r = 838 → 478 ≤ k → ∀ a3 : Nat → Nat → Int32, (∀ t, t ≠ 1 → a3 t = a t) → (∀ i, i ≠ 6 → ¬ (478 ≤ i ∧ i < k) → a3 1 i = a 1 i) → (∀ i, 478 ≤ i → i < k → a3 1 i = a 1 (3368 + i)) → a3 1 6 = nI N → fe_R 12 gk_m252 103 [(3, .int (nI k)), (2, .int z), (0, .ref 0), (1, .int n)] [] (fm g tp bt a3 b) (fm_FTA g0 tp bt a0 b n) := by
      intro r
      induction r with
      | zero =>
        intro k hk h478 a3 k1 k2 k3 k4
        obtain rfl : k = 838 := by omega
        refine fe_s 2 (pc' := 107) (lc' := [(3, .int (nI 838)), (2, .int z), (0, .ref 0), (1, .int n)]) (stk' := [.int 838, .int (nI 838)]) (mem' := fm g tp bt a3 b) (by intro _ _ _; eq_refl) ?_
        refine fe_s 1 (pc' := cond (fx_cb .ge (nI 838) 838) 132 110) (lc' := [(3, .int (nI 838)), (2, .int z), (0, .ref 0), (1, .int n)]) (stk' := []) (mem' := fm g tp bt a3 b) (by intro _ _ _; eq_refl) ?_
        rw [show (fx_cb .ge (nI 838) 838) = true from cb_geT (a := 838) (b := 838) (by omega) (by omega) (by omega)]
        dsimp only [cond]
        refine fe_s 3 (pc' := 137) (lc' := [(3, .int (nI 838)), (2, .int z), (0, .ref 0), (1, .int n)]) (stk' := [.int (g 23), .ref 0]) (mem' := fm g tp bt a3 b) (by intro _ _ _; eq_refl) ?_
        obtain ⟨v7, mem7, ⟨x7, hx7⟩, hfr7⟩ := fr_taken (x := g 23) (g := g) (tp := tp) (bt := bt) (a := a3) (b := b) hG.2.2.1
        obtain ⟨hn7, rfl, hR7⟩ : g 18 = 0 ∧ x7 = _ ∧ _ := by rcases hx7 with q | q; exact absurd hz q.1; exact q
        cases hR7
        refine fe_ivV hfr7 (by omega) (by rfl) (by rfl) (by rfl) (by rfl) (by rfl) (by rfl) ?_
        exact fe_ret ⟨_, _, _, rfl, Or.inr ⟨hr, fm_TK1_1 (fm_TK1_0 hB hX hT.2.2.2.2.2.2.2 hG hT (Or.inl rfl) rfl) (fm_TS_n hT) hT.2.2.2.2.1 (hR hz) k1 k2 k3 k4⟩⟩ (by rfl) (by rfl) (by rfl)
      | succ r ih =>
        intro k hk h478 a3 k1 k2 k3 k4
        refine fe_s 2 (pc' := 107) (lc' := [(3, .int (nI k)), (2, .int z), (0, .ref 0), (1, .int n)]) (stk' := [.int 838, .int (nI k)]) (mem' := fm g tp bt a3 b) (by intro _ _ _; eq_refl) ?_
        refine fe_s 1 (pc' := cond (fx_cb .ge (nI k) 838) 132 110) (lc' := [(3, .int (nI k)), (2, .int z), (0, .ref 0), (1, .int n)]) (stk' := []) (mem' := fm g tp bt a3 b) (by intro _ _ _; eq_refl) ?_
        rw [show (fx_cb .ge (nI k) 838) = false from cb_geF (a := k) (b := 838) (by omega) (by omega) (by omega)]
        dsimp only [cond]
        refine fe_s 8 (pc' := 124) (lc' := [(3, .int (nI k)), (2, .int z), (0, .ref 0), (1, .int n)]) (stk' := [.int (3368 + (nI k)), .ref 1, .int (nI k), .ref 1]) (mem' := fm g tp bt a3 b) (by intro _ _ _; eq_refl) ?_
        rw [show (3368 + (nI k) : Int32) = nI (3368 + k) from by simp only [show (3368 : Int32) = nI 3368 from rfl, nI_add, fm_mul]]
        refine fe_ldI (by rfl) (by rfl) (fx_inN (i := 3368 + k) (by omega) (by omega)) ?_
        rw [show Int32.toNatClampNeg (nI (3368 + k)) = 3368 + k from nI_clamp (by omega)]
        refine fe_stI (mem' := fm g tp bt (fm_u a3 1 (nI k : Int32).toNatClampNeg (a3 1 (3368 + k))) b) (by rfl) (by rfl) (fx_inN (i := k) (by omega) (by omega)) fm_si1 ?_
        rw [show Int32.toNatClampNeg (nI k) = k from nI_clamp (by omega)]
        refine fe_s 2 (pc' := 103) (lc' := [(3, .int ((nI k) + 1)), (2, .int z), (0, .ref 0), (1, .int n)]) (stk' := []) (mem' := fm g tp bt (fm_u a3 1 k (a3 1 (3368 + k))) b) (by intro _ _ _; eq_refl) ?_
        rw [show ((nI k) + 1 : Int32) = nI (k + 1) from by simp only [show (1 : Int32) = nI 1 from rfl, nI_add, fm_mul]]
        refine ih (k + 1) (by omega) (by omega) _ (fun t ht => by rw [fm_ut ht]; exact k1 t ht) (fun i h6 hi => by rw [fm_u1, if_neg (by omega)]; exact k2 i h6 (by omega)) (fun i i1 i2 => ?_) (by rw [fm_u1, if_neg (by omega)]; exact k4)
        rw [fm_u1]
        split
        · next e => rw [e, k2 (3368 + k) (by omega) (by omega)]
        · exact k3 i i1 (by omega)
    refine fe_s 6 (pc' := 97) (lc' := [(2, .int z), (0, .ref 0), (1, .int n)]) (stk' := [.int 3374, .ref 1, .int 6, .ref 1]) (mem' := fm g tp bt a b) (by intro _ _ _; eq_refl) ?_
    refine fe_ldI (by rfl) (by rfl) (fx_inN (i := 3374) (by omega) (by omega)) ?_
    rw [show Int32.toNatClampNeg (3374) = 3374 from rfl]
    refine fe_stI (mem' := fm g tp bt (fm_u a 1 (6 : Int32).toNatClampNeg (a 1 3374)) b) (by rfl) (by rfl) (fx_inN (i := 6) (by omega) (by omega)) fm_si1 ?_
    rw [show Int32.toNatClampNeg (6) = 6 from rfl]
    refine fe_s 2 (pc' := 103) (lc' := [(3, .int 478), (2, .int z), (0, .ref 0), (1, .int n)]) (stk' := []) (mem' := fm g tp bt (fm_u a 1 6 (a 1 3374)) b) (by intro _ _ _; eq_refl) ?_
    refine fe_w (lc' := [(3, .int (nI 478)), (2, .int z), (0, .ref 0), (1, .int n)]) ⟨rfl, rfl, rfl, rfl, trivial⟩ (by show List.Nodup [3, 2, 0, 1]; decide) (by show List.Nodup [3, 2, 0, 1]; decide) ?_
    exact l103 360 478 (by omega) (by omega) _ (fun t ht => fm_ut ht) (fun i h6 hi => by rw [fm_u1, if_neg h6]) (fun i i1 i2 => by omega) (by rw [fm_u1, if_pos rfl, hT.2.2.2.2.1])
  · refine fe_s 2 (pc' := 81) (lc' := [(2, .int z), (0, .ref 0), (1, .int n)]) (stk' := [.int (g 18)]) (mem' := fm g tp bt a b) (by intro _ _ _; eq_refl) ?_
    refine fe_s 1 (pc' := cond (fx_cb .ne (g 18) 0) 132 84) (lc' := [(2, .int z), (0, .ref 0), (1, .int n)]) (stk' := []) (mem' := fm g tp bt a b) (by intro _ _ _; eq_refl) ?_
    rw [show (fx_cb .ne (g 18) 0) = true from by show (!decide (g 18 = 0)) = true; rw [decide_eq_false hz]; rfl]
    dsimp only [cond]
    refine fe_s 3 (pc' := 137) (lc' := [(2, .int z), (0, .ref 0), (1, .int n)]) (stk' := [.int (g 23), .ref 0]) (mem' := fm g tp bt a b) (by intro _ _ _; eq_refl) ?_
    obtain ⟨v7, mem7, ⟨x7, hx7⟩, hfr7⟩ := fr_taken (x := g 23) (g := g) (tp := tp) (bt := bt) (a := a) (b := b) hG.2.2.1
    obtain ⟨hn7, rfl, hR7⟩ : ¬ g 18 = 0 ∧ x7 = -1 ∧ _ := by rcases hx7 with q | q; exact q; exact absurd q.1 hz
    cases hR7
    refine fe_ivV hfr7 (by omega) (by rfl) (by rfl) (by rfl) (by rfl) (by rfl) (by rfl) ?_
    exact fe_ret ⟨_, _, _, rfl, Or.inr ⟨hr, fm_TK1_0 hB hX hT.2.2.2.2.2.2.2 hG hT (Or.inr rfl) rfl⟩⟩ (by rfl) (by rfl) (by rfl)
theorem ta_57 {g0 g1 : Nat → Int32} {a0 a1 : Nat → Nat → Int32} {n : Int32} {S E E2 F2 N D K : Nat} {z : Int32} (hB : fm_begun g0 g1) (hX : fm_tx7 a0 a1) (hr : 0 ≤ n ∧ n ≤ g0 10 ∧ n ≤ 300) (hG : fm_gy g1 g S E E2 F2) (hT : fm_TS a1 g a N D K) (hR : g 18 = 0 → fm_TR a N) : fe_R 12 gk_m252 57 [(2, .int z), (0, .ref 0), (1, .int n)] [] (fm g tp bt a b) (fm_FTA g0 tp bt a0 b n) := by
  by_cases hz : g 18 = 0
  · refine fe_s 2 (pc' := 61) (lc' := [(2, .int z), (0, .ref 0), (1, .int n)]) (stk' := [.int (g 18)]) (mem' := fm g tp bt a b) (by intro _ _ _; eq_refl) ?_
    refine fe_s 1 (pc' := cond (fx_cb .ne (g 18) 0) 77 64) (lc' := [(2, .int z), (0, .ref 0), (1, .int n)]) (stk' := []) (mem' := fm g tp bt a b) (by intro _ _ _; eq_refl) ?_
    rw [show (fx_cb .ne (g 18) 0) = false from by rw [hz]; rfl]
    dsimp only [cond]
    obtain ⟨eD, hD3, eK, hK30, hnK⟩ := hT.2.2.2.2.2.1
    refine fe_s 2 (pc' := 68) (lc' := [(2, .int z), (0, .ref 0), (1, .int n)]) (stk' := [.int (g 22)]) (mem' := fm g tp bt a b) (by intro _ _ _; eq_refl) ?_
    try rw [eD]
    refine fe_s 1 (pc' := cond (fx_cb .le (nI D) 0) 77 71) (lc' := [(2, .int z), (0, .ref 0), (1, .int n)]) (stk' := []) (mem' := fm g tp bt a b) (by intro _ _ _; eq_refl) ?_
    by_cases h1 : D ≤ 0
    · rw [show (fx_cb .le (nI D) 0) = true from cb_leT (a := D) (b := 0) (by omega) (by omega) (by omega)]
      dsimp only [cond]
      refine fe_w (lc' := [(2, .int z), (0, .ref 0), (1, .int n)]) ⟨rfl, rfl, rfl, trivial⟩ (by show List.Nodup [2, 0, 1]; decide) (by show List.Nodup [2, 0, 1]; decide) ?_
      exact ta_77 hB hX hr hG hT hR
    · rw [show (fx_cb .le (nI D) 0) = false from cb_leF (a := D) (b := 0) (by omega) (by omega) (by omega)]
      dsimp only [cond]
      refine fe_s 2 (pc' := 73) (lc' := [(2, .int z), (0, .ref 0), (1, .int n)]) (stk' := [.int 2, .ref 0]) (mem' := fm g tp bt a b) (by intro _ _ _; eq_refl) ?_
      obtain ⟨gf, hfrf, hof, hzf⟩ := fr_failsq (x := 2) (g := g) (tp := tp) (bt := bt) (a := a) (b := b) (by omega) (by omega) hG.2.1 hG.2.2.1
      have gof := fm_gy_tr hG hof
      have hT2 : fm_TS a1 gf a N D K := ⟨hT.1, hT.2.1, hT.2.2.1, hT.2.2.2.1, hT.2.2.2.2.1, ⟨by rw [hof.1 22 (by decide) (by decide) (by decide) (by decide) (by decide) (by decide)]; exact eD, hD3, by rw [hof.1 23 (by decide) (by decide) (by decide) (by decide) (by decide) (by decide)]; exact eK, hK30, hnK⟩, hT.2.2.2.2.2.2.1, hT.2.2.2.2.2.2.2⟩
      refine fe_ivV hfrf (by omega) (by rfl) (by rfl) (by rfl) (by rfl) (by rfl) (by rfl) ?_
      refine fe_s 1 (pc' := 77) (lc' := [(2, .int z), (0, .ref 0), (1, .int n)]) (stk' := []) (mem' := fm gf tp bt a b) (by intro _ _ _; eq_refl) ?_
      refine fe_w (lc' := [(2, .int z), (0, .ref 0), (1, .int n)]) ⟨rfl, rfl, rfl, trivial⟩ (by show List.Nodup [2, 0, 1]; decide) (by show List.Nodup [2, 0, 1]; decide) ?_
      exact ta_77 hB hX hr gof hT2 (fun z => absurd z hzf)
  · refine fe_s 2 (pc' := 61) (lc' := [(2, .int z), (0, .ref 0), (1, .int n)]) (stk' := [.int (g 18)]) (mem' := fm g tp bt a b) (by intro _ _ _; eq_refl) ?_
    refine fe_s 1 (pc' := cond (fx_cb .ne (g 18) 0) 77 64) (lc' := [(2, .int z), (0, .ref 0), (1, .int n)]) (stk' := []) (mem' := fm g tp bt a b) (by intro _ _ _; eq_refl) ?_
    rw [show (fx_cb .ne (g 18) 0) = true from by show (!decide (g 18 = 0)) = true; rw [decide_eq_false hz]; rfl]
    dsimp only [cond]
    exact ta_77 hB hX hr hG hT hR
theorem ta_t0 {g0 g1 : Nat → Int32} {a0 a1 : Nat → Nat → Int32} {n : Int32} {S E E2 F2 N D K : Nat} (hB : fm_begun g0 g1) (hX : fm_tx7 a0 a1) (hr : 0 ≤ n ∧ n ≤ g0 10 ∧ n ≤ 300) (hG : fm_gy g1 g S E E2 F2) (hT : fm_TS a1 g a N D K) (hR : fm_TR a N) (h0 : g 12 = 0) : fe_R 12 gk_m252 38 [(2, .int 1), (0, .ref 0), (1, .int n)] [] (fm g tp bt a b) (fm_FTA g0 tp bt a0 b n) := by
  refine fe_s 1 (pc' := 39) (lc' := [(2, .int 1), (0, .ref 0), (1, .int n)]) (stk' := [.int 1]) (mem' := fm g tp bt a b) (by intro _ _ _; eq_refl) ?_
  refine fe_s 1 (pc' := 42) (lc' := [(2, .int 1), (0, .ref 0), (1, .int n)]) (stk' := []) (mem' := fm g tp bt a b) (by intro _ _ _; eq_refl) ?_
  refine fe_s 2 (pc' := 46) (lc' := [(2, .int 1), (0, .ref 0), (1, .int n)]) (stk' := [.int (g 12)]) (mem' := fm g tp bt a b) (by intro _ _ _; eq_refl) ?_
  refine fe_s 1 (pc' := cond (fx_cb .eq (g 12) 0) 57 49) (lc' := [(2, .int 1), (0, .ref 0), (1, .int n)]) (stk' := []) (mem' := fm g tp bt a b) (by intro _ _ _; eq_refl) ?_
  rw [show (fx_cb .eq (g 12) 0) = true from decide_eq_true h0]
  dsimp only [cond]
  exact ta_57 hB hX hr hG hT (fun _ => hR)
theorem ta_38 {g0 g1 : Nat → Int32} {a0 a1 : Nat → Nat → Int32} {n : Int32} (hB : fm_begun g0 g1) (hX : fm_tx7 a0 a1) (hr : 0 ≤ n ∧ n ≤ g0 10 ∧ n ≤ 300) {C W E0 : Nat} (hH : fm_th a1 C W) : ∀ (r : Nat) {S E F N D K : Nat} {g : Nat → Int32} {a : Nat → Nat → Int32}, S - E < r → fm_gy g1 g S E0 E F → fm_TS a1 g a N D K → fm_TR a N → g 18 = 0 → fe_R 12 gk_m252 38 [(2, .int 1), (0, .ref 0), (1, .int n)] [] (fm g tp bt a b) (fm_FTA g0 tp bt a0 b n) := by
  intro r
  induction r with
  | zero => intro S E F N D K g a h; exact absurd h (Nat.not_lt_zero _)
  | succ r ih =>
    intro S E F N D K g a hr9 hG hT hR hz
    by_cases h0 : g 12 = 0
    · exact ta_t0 hB hX hr hG hT hR h0
    · refine fe_s 1 (pc' := 39) (lc' := [(2, .int 1), (0, .ref 0), (1, .int n)]) (stk' := [.int 1]) (mem' := fm g tp bt a b) (by intro _ _ _; eq_refl) ?_
      refine fe_s 1 (pc' := cond (fx_cb .eq 1 0) 57 42) (lc' := [(2, .int 1), (0, .ref 0), (1, .int n)]) (stk' := []) (mem' := fm g tp bt a b) (by intro _ _ _; eq_refl) ?_
      rw [show (fx_cb .eq 1 0) = false from by decide]
      dsimp only [cond]
      refine fe_s 2 (pc' := 46) (lc' := [(2, .int 1), (0, .ref 0), (1, .int n)]) (stk' := [.int (g 12)]) (mem' := fm g tp bt a b) (by intro _ _ _; eq_refl) ?_
      refine fe_s 1 (pc' := cond (fx_cb .eq (g 12) 0) 57 49) (lc' := [(2, .int 1), (0, .ref 0), (1, .int n)]) (stk' := []) (mem' := fm g tp bt a b) (by intro _ _ _; eq_refl) ?_
      rw [show (fx_cb .eq (g 12) 0) = false from decide_eq_false h0]
      dsimp only [cond]
      refine fe_s 1 (pc' := 50) (lc' := [(2, .int 1), (0, .ref 0), (1, .int n)]) (stk' := [.ref 0]) (mem' := fm g tp bt a b) (by intro _ _ _; eq_refl) ?_
      obtain ⟨v5, mem5, ⟨x5, g5, E5, F5, a5, N5, D5, K5, ho5, hT5, hv5, hR5⟩, hfr5⟩ := fr_taleStep (g := g) (tp := tp) (bt := bt) (a := a) (b := b) (a0 := a1) hG.2.1 hG.2.2.1 hH hT hR
      cases hR5
      have hG5 := fm_gy_tx hG ho5
      refine fe_ivV hfr5 (by omega) (by rfl) (by rfl) (by rfl) (by rfl) (by rfl) (by rfl) ?_
      rcases hv5 with ⟨rfl, hz5⟩ | ⟨rfl, he5, hp5, hW5⟩
      · refine fe_s 2 (pc' := 38) (lc' := [(2, .int 0), (0, .ref 0), (1, .int n)]) (stk' := []) (mem' := fm g5 tp bt a5 b) (by intro _ _ _; eq_refl) ?_
        refine fe_w (lc' := [(2, .int 0), (0, .ref 0), (1, .int n)]) ⟨rfl, rfl, rfl, trivial⟩ (by show List.Nodup [2, 0, 1]; decide) (by show List.Nodup [2, 0, 1]; decide) ?_
        refine fe_s 1 (pc' := 39) (lc' := [(2, .int 0), (0, .ref 0), (1, .int n)]) (stk' := [.int 0]) (mem' := fm g5 tp bt a5 b) (by intro _ _ _; eq_refl) ?_
        refine fe_s 1 (pc' := 57) (lc' := [(2, .int 0), (0, .ref 0), (1, .int n)]) (stk' := []) (mem' := fm g5 tp bt a5 b) (by intro _ _ _; eq_refl) ?_
        exact ta_57 hB hX hr hG5 hT5 (fun q => absurd q hz5)
      · refine fe_s 2 (pc' := 38) (lc' := [(2, .int 1), (0, .ref 0), (1, .int n)]) (stk' := []) (mem' := fm g5 tp bt a5 b) (by intro _ _ _; eq_refl) ?_
        refine fe_w (lc' := [(2, .int 1), (0, .ref 0), (1, .int n)]) ⟨rfl, rfl, rfl, trivial⟩ (by show List.Nodup [2, 0, 1]; decide) (by show List.Nodup [2, 0, 1]; decide) ?_
        rcases hp5 with hq5 | hq5
        · exact ta_t0 hB hX hr hG5 hT5 hW5 hq5
        · exact ih (by have := ho5.2.1.2.2.2.1; omega) hG5 hT5 hW5 (he5.trans hz)
/-- what must be so ahead: the tape's length, the heads of the LAKE, the NEW table -/
def fm_TH (g : Nat → Int32) (a : Nat → Nat → Int32) : Prop := (∃ T, T ≤ 900 ∧ g 10 = nI T) ∧ (∃ C W, fm_th a C W) ∧ (∀ i, 3368 ≤ i → i < 4210 → (gm_at i).1 ≤ (a 1 i).toInt ∧ (a 1 i).toInt ≤ (gm_at i).2) ∧ fm_sy a 3368 ∧ ∀ d, d < 3 → ∃ o, o ≤ 59 ∧ a 8 d = nI o
theorem fm_TS_0 {g0 g5 : Nat → Int32} {a0 a5 : Nat → Nat → Int32} (h : fm_TH g0 a0) (hX : fm_tx7 a0 a5) : fm_TS a5 (upd (upd g5 22 0) 23 0) (fm_u a5 1 3374 0) 0 0 0 := by
  obtain ⟨-, -, h3, h4, h5⟩ := h
  have e1 : a5 1 = a0 1 := hX.1 1 (by decide)
  refine ⟨fun t t1 _ => fm_ut t1, fun i hi => by rw [fm_u1, if_neg (by omega)], fun i j1 j2 => ?_, fun c d hc hd => ?_, by rw [fm_u1, if_pos rfl]; rfl, ⟨rfl, by omega, rfl, by omega, by omega⟩, fun d hd => absurd hd (Nat.not_lt_zero d), fun d hd => ?_⟩
  · rw [fm_u1]
    split
    · next e => rw [e]; decide
    · rw [e1]; exact h3 i j1 j2
  · rw [fm_u1, fm_u1, if_neg (by omega), if_neg (by omega), e1]; exact h4 c d hc hd
  · rw [fm_ut (by decide), hX.1 8 (by decide)]; exact h5 d hd
theorem fr_tales {n : Int32} (hH : fm_TH g a) : ∃ (v : Option Value) (mem' : fx_M), (fm_FTA g tp bt a b n) (v, mem') ∧ fr_T 13 252 [.ref 0, .int n] (fm g tp bt a b) v mem' := by
  refine fe_meth (F := fm_FTA g tp bt a b n) (M := gk_m252) (by rfl) (by rfl) ?_
  refine fe_s 3 (pc' := 5) (lc' := [(0, .ref 0), (1, .int n)]) (stk' := [.int 300, .int n, .ref 0]) (mem' := fm g tp bt a b) (by intro _ _ _; eq_refl) ?_
  obtain ⟨v5, mem5, ⟨x5, g5, a5, hR5, hv5⟩, hfr5⟩ := fr_begins (n := n) (most := 300) (g := g) (tp := tp) (bt := bt) (a := a) (b := b) hH.1
  cases hR5
  refine fe_ivV hfr5 (by omega) (by rfl) (by rfl) (by rfl) (by rfl) (by rfl) (by rfl) ?_
  rcases hv5 with ⟨rfl, rfl, rfl, hn5⟩ | ⟨rfl, hr5, hB5, hX5⟩
  · refine fe_s 1 (pc' := cond (fx_cb .ne 0 0) 17 11) (lc' := [(0, .ref 0), (1, .int n)]) (stk' := []) (mem' := fm g5 tp bt a5 b) (by intro _ _ _; eq_refl) ?_
    rw [show (fx_cb .ne 0 0) = false from by decide]
    dsimp only [cond]
    refine fe_s 2 (pc' := 13) (lc' := [(0, .ref 0), (1, .int n)]) (stk' := [.int 1, .ref 0]) (mem' := fm g5 tp bt a5 b) (by intro _ _ _; eq_refl) ?_
    refine fe_ivV (fr_refuse (x := 1)) (by omega) (by rfl) (by rfl) (by rfl) (by rfl) (by rfl) (by rfl) ?_
    exact fe_ret ⟨_, _, _, rfl, Or.inl ⟨hn5, rfl, rfl, rfl⟩⟩ (by rfl) (by rfl) (by rfl)
  · refine fe_s 1 (pc' := cond (fx_cb .ne 1 0) 17 11) (lc' := [(0, .ref 0), (1, .int n)]) (stk' := []) (mem' := fm g5 tp bt a5 b) (by intro _ _ _; eq_refl) ?_
    rw [show (fx_cb .ne 1 0) = true from by decide]
    dsimp only [cond]
    refine fe_s 4 (pc' := 25) (lc' := [(0, .ref 0), (1, .int n)]) (stk' := [.int 0, .int 3374, .ref 1]) (mem' := fm g5 tp bt a5 b) (by intro _ _ _; eq_refl) ?_
    refine fe_stI (mem' := fm g5 tp bt (fm_u a5 1 (3374 : Int32).toNatClampNeg 0) b) (by rfl) (by rfl) (fx_inN (i := 3374) (by omega) (by omega)) fm_si1 ?_
    rw [show Int32.toNatClampNeg (3374) = 3374 from rfl]
    refine fe_s 8 (pc' := 38) (lc' := [(2, .int 1), (0, .ref 0), (1, .int n)]) (stk' := []) (mem' := fm (upd (upd g5 22 0) 23 0) tp bt (fm_u a5 1 3374 0) b) (by intro _ _ _; eq_refl) ?_
    refine fe_w (lc' := [(2, .int 1), (0, .ref 0), (1, .int n)]) ⟨rfl, rfl, rfl, trivial⟩ (by show List.Nodup [2, 0, 1]; decide) (by show List.Nodup [2, 0, 1]; decide) ?_
    obtain ⟨S, E, F, hx5⟩ := hB5.2.2.2.2.1
    obtain ⟨C, W, hth⟩ := hH.2.1
    have e1 : a5 1 = a 1 := hX5.1 1 (by decide)
    exact ta_38 hB5 hX5 hr5 (C := C) (W := W) ⟨by rw [e1]; exact hth.1, hth.2.1, by rw [e1]; exact hth.2.2.1, hth.2.2.2⟩ (S - E + 1) (by omega) (fm_gy_up (fm_gy_up (fm_gy_rf hx5 hB5.2.2.2.2.2) (by decide)) (by decide)) (fm_TS_0 hH hX5) (fun m hm => absurd hm (Nat.not_lt_zero m)) (((pk_un (by decide)).trans (pk_un (by decide))).trans hB5.2.2.1)
end FTQ
end MH5_2
section MH5_3
/-! ===== fx: what walking changes of the LAKE ===== -/
/-- the places of the LAKE that walking changes, but for the STEP -/
def fm_dyn (i : Nat) : Bool := decide (8 ≤ i ∧ i < 68 ∧ ((i - 8) % 6 = 1 ∨ (i - 8) % 6 = 4 ∨ (i - 8) % 6 = 5) ∨ 68 ≤ i ∧ i < 278 ∨ 278 ≤ i ∧ i < 318 ∧ ¬ (i - 278) % 5 = 0 ∨ 318 ≤ i ∧ i < 478)
/-- arrays that may be anything of their kind behind a call -/
def fm_okt (t : Nat) : Bool := decide (t = 1 ∨ t = 9 ∨ t = 16 ∨ 19 ≤ t ∧ t ≤ 21)
def fm_XA (a : Nat → Nat → Int32) : Prop := (∀ s, s < 7 → fm_sy a (842 * s)) ∧ ∀ s, s < 4 → ∀ n : Nat, (n : Int) < (a 1 (842 * s + 6)).toInt → fm_ro (a 1 (842 * s + 478 + 6 * n)) (a 1 (842 * s + 479 + 6 * n))
def fm_bd (a : Nat → Nat → Int32) (i : Nat) : Prop := (gm_at i).1 ≤ (a 1 i).toInt ∧ (a 1 i).toInt ≤ (gm_at i).2
/-- the memory is as it must be between two calls -/
def fm_B (a : Nat → Nat → Int32) : Prop := (∀ i, i < 5894 → fm_bd a i) ∧ fm_XA a ∧ ∀ i, i < 10 → 0 ≤ (a 9 i).toInt ∧ (a 9 i).toInt ≤ 1000000
/-- the LAKE has been walked on -/
def fm_D (a0 a : Nat → Nat → Int32) (T : Nat) : Prop := (∀ t, fm_okt t = false → a t = a0 t) ∧ (∀ i, i ≠ 5 → fm_dyn i = false → a 1 i = a0 1 i) ∧ (∀ i, fm_dyn i = true → fm_bd a i) ∧ a 1 5 = nI T ∧ T ≤ 10030 ∧ ∀ i, i < 10 → 0 ≤ (a 9 i).toInt ∧ (a 9 i).toInt ≤ 1000000
section FD
variable {a0 a : Nat → Nat → Int32} {T : Nat}
theorem fm_dyn_lt {i : Nat} (h : fm_dyn i = true) : 8 ≤ i ∧ i < 478 := by
  have := of_decide_eq_true h
  omega
theorem fm_D_rf (hB : fm_B a) (hT : a 1 5 = nI T) (hT9 : T ≤ 10030) : fm_D a a T := ⟨fun _ _ => rfl, fun _ _ _ => rfl, fun i hi => hB.1 i (by have := fm_dyn_lt hi; omega), hT, hT9, hB.2.2⟩
theorem fm_D_h (hD : fm_D a0 a T) {i : Nat} (h5 : i ≠ 5) (hd : fm_dyn i = false) : a 1 i = a0 1 i := hD.2.1 i h5 hd
theorem fm_bd_n {i n : Nat} (h : fm_bd a i) (hg : gm_at i = (0, (n : Int))) : ∃ m, m ≤ n ∧ a 1 i = nI m := by
  unfold fm_bd at h
  rw [hg] at h
  exact nI_bd h.1 h.2
theorem gm_at_0w1 : ∀ w, w < 8 → gm_at (279 + 5 * w) = (0, 9) ∧ fm_dyn (279 + 5 * w) = true := by decide
theorem gm_at_0w2 : ∀ w, w < 8 → gm_at (280 + 5 * w) = (0, 1) ∧ fm_dyn (280 + 5 * w) = true := by decide
theorem gm_at_0w3 : ∀ w, w < 8 → gm_at (281 + 5 * w) = (0, 20) ∧ fm_dyn (281 + 5 * w) = true := by decide
theorem gm_at_0w4 : ∀ w, w < 8 → gm_at (282 + 5 * w) = (-2147483648, 2147483647) ∧ fm_dyn (282 + 5 * w) = true := by decide
theorem gm_at_0rt : ∀ i, i < 478 → 318 ≤ i → gm_at i = (0, 9) ∧ fm_dyn i = true := by decide +kernel
theorem gm_at_0cm : ∀ i, i < 278 → 68 ≤ i → gm_at i = (-2147483648, 2147483647) ∧ fm_dyn i = true := by decide +kernel
theorem gm_at_0c1 : ∀ c, c < 10 → gm_at (9 + 6 * c) = (-2147483648, 2147483647) ∧ fm_dyn (9 + 6 * c) = true := by decide
theorem gm_at_0c4 : ∀ c, c < 10 → gm_at (12 + 6 * c) = (0, 1) ∧ fm_dyn (12 + 6 * c) = true := by decide
theorem gm_at_0c5 : ∀ c, c < 10 → gm_at (13 + 6 * c) = (-2147483648, 2147483647) ∧ fm_dyn (13 + 6 * c) = true := by decide
theorem fm_D_w1 (hD : fm_D a0 a T) {W : Nat} (hW : W < 8) : ∃ X, X < 10 ∧ a 1 (279 + 5 * W) = nI X := by
  obtain ⟨h1, h2⟩ := gm_at_0w1 W hW
  obtain ⟨m, hm, e⟩ := fm_bd_n (n := 9) (hD.2.2.1 _ h2) h1
  exact ⟨m, by omega, e⟩
theorem fm_D_w3 (hD : fm_D a0 a T) {W : Nat} (hW : W < 8) : ∃ X, X ≤ 20 ∧ a 1 (281 + 5 * W) = nI X := by
  obtain ⟨h1, h2⟩ := gm_at_0w3 W hW
  exact fm_bd_n (n := 20) (hD.2.2.1 _ h2) h1
theorem fm_D_rt (hD : fm_D a0 a T) {i : Nat} (h1 : 318 ≤ i) (h2 : i < 478) : ∃ X, X < 10 ∧ a 1 i = nI X := by
  obtain ⟨g1, g2⟩ := gm_at_0rt i h2 h1
  obtain ⟨m, hm, e⟩ := fm_bd_n (n := 9) (hD.2.2.1 _ g2) g1
  exact ⟨m, by omega, e⟩
theorem fm_B_0 (hB : fm_B a0) {i n : Nat} (hi : i < 5894) (hg : gm_at i = (0, (n : Int))) : ∃ m, m ≤ n ∧ a0 1 i = nI m := fm_bd_n (hB.1 i hi) hg
theorem fm_D_t (hB : fm_B a0) (hD : fm_D a0 a T) : fm_t a := by
  refine ⟨?_, ?_, ?_, ⟨T, hD.2.2.2.2.1, hD.2.2.2.1⟩, fun w hw => fm_D_w1 hD hw⟩
  · rw [fm_D_h hD (by decide) (by decide)]; exact fm_B_0 hB (by decide) rfl
  · rw [fm_D_h hD (by decide) (by decide)]; exact fm_B_0 hB (by decide) rfl
  · rw [fm_D_h hD (by decide) (by decide)]; exact fm_B_0 hB (by decide) rfl
theorem fm_dyn_c2 : ∀ c, c < 10 → fm_dyn (10 + 6 * c) = false := by decide
theorem fm_D_sym (hB : fm_B a0) (hD : fm_D a0 a T) : fm_sym a := fun A B hA hB2 => by
  rw [fm_D_h hD (by omega) (fm_dyn_c2 A hA), fm_D_h hD (by omega) (fm_dyn_c2 B hB2)]
  have := hB.2.1.1 0 (by omega) A B hA hB2
  rw [show 842 * 0 + 10 + 6 * A = 10 + 6 * A by omega, show 842 * 0 + 10 + 6 * B = 10 + 6 * B by omega] at this
  exact this
theorem fm_D_u (hD : fm_D a0 a T) {i : Nat} {v : Int32} (hd : fm_dyn i = true) (hb : (gm_at i).1 ≤ v.toInt ∧ v.toInt ≤ (gm_at i).2) : fm_D a0 (fm_u a 1 i v) T := by
  obtain ⟨d1, d2, d3, d4, d5, d6⟩ := hD
  have hi := fm_dyn_lt hd
  have ht : ∀ t, fm_okt t = false → t ≠ 1 := fun t h e => by subst e; exact absurd h (by decide)
  refine ⟨fun t h => by rw [fm_ut (ht t h)]; exact d1 t h, fun j h5 hj => ?_, fun j hj => ?_, ?_, d5, fun j hj => by rw [fm_ut (by decide)]; exact d6 j hj⟩
  · rw [fm_u1, if_neg (fun e => by rw [e, hd] at hj; cases hj)]; exact d2 j h5 hj
  · unfold fm_bd
    rw [fm_u1]
    split
    · next e => rw [e]; exact hb
    · exact d3 j hj
  · rw [fm_u1, if_neg (by omega)]; exact d4
theorem fm_D_T (hD : fm_D a0 a T) {T' : Nat} (hT : T' ≤ 10030) : fm_D a0 (fm_u a 1 5 (nI T')) T' := by
  obtain ⟨d1, d2, d3, d4, d5, d6⟩ := hD
  have ht : ∀ t, fm_okt t = false → t ≠ 1 := fun t h e => by subst e; exact absurd h (by decide)
  refine ⟨fun t h => by rw [fm_ut (ht t h)]; exact d1 t h, fun j h5 hj => ?_, fun j hj => ?_, ?_, hT, fun j hj => by rw [fm_ut (by decide)]; exact d6 j hj⟩
  · rw [fm_u1, if_neg h5]; exact d2 j h5 hj
  · unfold fm_bd
    rw [fm_u1, if_neg (by have := fm_dyn_lt hj; omega)]
    exact d3 j hj
  · rw [fm_u1, if_pos rfl]
theorem fm_D_ot (hD : fm_D a0 a T) {t i : Nat} {v : Int32} (h1 : t ≠ 1) (h9 : t ≠ 9) (ht : fm_okt t = true) : fm_D a0 (fm_u a t i v) T := by
  obtain ⟨d1, d2, d3, d4, d5, d6⟩ := hD
  have e1 : (fm_u a t i v) 1 = a 1 := fm_utt (fun e => h1 e.symm)
  have e9 : (fm_u a t i v) 9 = a 9 := fm_utt (fun e => h9 e.symm)
  refine ⟨fun s h => by rw [fm_utt (fun e => by subst e; rw [h] at ht; cases ht)]; exact d1 s h, fun j h5 hj => by rw [e1]; exact d2 j h5 hj, fun j hj => ?_, by rw [e1]; exact d4, d5, fun j hj => by rw [e9]; exact d6 j hj⟩
  unfold fm_bd
  rw [e1]
  exact d3 j hj
theorem fm_in_full (v : Int32) : (-2147483648 : Int) ≤ v.toInt ∧ v.toInt ≤ 2147483647 := by
  have h1 := v.le_toInt
  have h2 := v.toInt_lt
  omega
theorem fm_Dw1 (hD : fm_D a0 a T) {W X : Nat} (hW : W < 8) (hX : X < 10) : fm_D a0 (fm_u a 1 (279 + 5 * W) (nI X)) T := fm_D_u hD (gm_at_0w1 W hW).2 (by rw [(gm_at_0w1 W hW).1, nI_i32 (by omega)]; exact ⟨by show (0 : Int) ≤ _; omega, by show _ ≤ (9 : Int); omega⟩)
theorem fm_Dw2 (hD : fm_D a0 a T) {W X : Nat} (hW : W < 8) (hX : X < 2) : fm_D a0 (fm_u a 1 (280 + 5 * W) (nI X)) T := fm_D_u hD (gm_at_0w2 W hW).2 (by rw [(gm_at_0w2 W hW).1, nI_i32 (by omega)]; exact ⟨by show (0 : Int) ≤ _; omega, by show _ ≤ (1 : Int); omega⟩)
theorem fm_Dw3 (hD : fm_D a0 a T) {W X : Nat} (hW : W < 8) (hX : X ≤ 20) : fm_D a0 (fm_u a 1 (281 + 5 * W) (nI X)) T := fm_D_u hD (gm_at_0w3 W hW).2 (by rw [(gm_at_0w3 W hW).1, nI_i32 (by omega)]; exact ⟨by show (0 : Int) ≤ _; omega, by show _ ≤ (20 : Int); omega⟩)
theorem fm_Dw4 (hD : fm_D a0 a T) {W : Nat} {v : Int32} (hW : W < 8) : fm_D a0 (fm_u a 1 (282 + 5 * W) v) T := fm_D_u hD (gm_at_0w4 W hW).2 (by rw [(gm_at_0w4 W hW).1]; exact fm_in_full v)
theorem fm_Drt (hD : fm_D a0 a T) {i X : Nat} (h1 : 318 ≤ i) (h2 : i < 478) (hX : X < 10) : fm_D a0 (fm_u a 1 i (nI X)) T := fm_D_u hD (gm_at_0rt i h2 h1).2 (by rw [(gm_at_0rt i h2 h1).1, nI_i32 (by omega)]; exact ⟨by show (0 : Int) ≤ _; omega, by show _ ≤ (9 : Int); omega⟩)
theorem fm_Dcm (hD : fm_D a0 a T) {i : Nat} {v : Int32} (h1 : 68 ≤ i) (h2 : i < 278) : fm_D a0 (fm_u a 1 i v) T := fm_D_u hD (gm_at_0cm i h2 h1).2 (by rw [(gm_at_0cm i h2 h1).1]; exact fm_in_full v)
theorem fm_Dc1 (hD : fm_D a0 a T) {C : Nat} {v : Int32} (hC : C < 10) : fm_D a0 (fm_u a 1 (9 + 6 * C) v) T := fm_D_u hD (gm_at_0c1 C hC).2 (by rw [(gm_at_0c1 C hC).1]; exact fm_in_full v)
theorem fm_Dc4 (hD : fm_D a0 a T) {C X : Nat} (hC : C < 10) (hX : X < 2) : fm_D a0 (fm_u a 1 (12 + 6 * C) (nI X)) T := fm_D_u hD (gm_at_0c4 C hC).2 (by rw [(gm_at_0c4 C hC).1, nI_i32 (by omega)]; exact ⟨by show (0 : Int) ≤ _; omega, by show _ ≤ (1 : Int); omega⟩)
theorem fm_Dc5 (hD : fm_D a0 a T) {C : Nat} {v : Int32} (hC : C < 10) : fm_D a0 (fm_u a 1 (13 + 6 * C) v) T := fm_D_u hD (gm_at_0c5 C hC).2 (by rw [(gm_at_0c5 C hC).1]; exact fm_in_full v)
theorem fm_bd_eq {i : Nat} {b : Nat → Nat → Int32} (h : fm_bd a i) (e : b 1 i = a 1 i) : fm_bd b i := by
  unfold fm_bd at h ⊢
  rw [e]; exact h
/-- between two calls again -/
theorem fm_D_B (hB : fm_B a0) (hD : fm_D a0 a T) (hT : T ≤ 9999) : fm_B a := by
  have hh : ∀ i, 478 ≤ i → a 1 i = a0 1 i := fun i hi => fm_D_h hD (by omega) (by
    cases h : fm_dyn i
    · rfl
    · have := fm_dyn_lt h; omega)
  refine ⟨fun i hi => ?_, ⟨fun s hs c d hc hd => ?_, fun s hs n hn => ?_⟩, hD.2.2.2.2.2⟩
  · by_cases h5 : i = 5
    · subst h5
      unfold fm_bd
      rw [hD.2.2.2.1, nI_i32 (by omega), show gm_at 5 = (0, 9999) from rfl]
      exact ⟨by show (0 : Int) ≤ _; omega, by show _ ≤ (9999 : Int); omega⟩
    · cases h : fm_dyn i
      · exact fm_bd_eq (hB.1 i hi) (fm_D_h hD h5 h)
      · exact hD.2.2.1 i h
  · have h := hB.2.1.1 s hs c d hc hd
    rcases Nat.eq_zero_or_pos s with rfl | h0
    · rw [show 842 * 0 + 10 + 6 * c = 10 + 6 * c by omega, show 842 * 0 + 10 + 6 * d = 10 + 6 * d by omega] at h ⊢
      rw [fm_D_h hD (by omega) (fm_dyn_c2 c hc), fm_D_h hD (by omega) (fm_dyn_c2 d hd)]
      exact h
    · rw [hh _ (by omega), hh _ (by omega)]; exact h
  · have e6 : a 1 (842 * s + 6) = a0 1 (842 * s + 6) := by
      rcases Nat.eq_zero_or_pos s with rfl | h0
      · exact fm_D_h hD (by omega) rfl
      · exact hh _ (by omega)
    rw [e6] at hn
    rw [hh _ (by omega), hh _ (by omega)]
    exact hB.2.1.2 s hs n hn
end FD
end MH5_3
section MH5_4
/-! ===== fx: walking: a step of all ===== -/
section F4900_walk
variable {g : Nat → Int32} {tp bt : Int64} {a0 a : Nat → Nat → Int32} {b : Nat → Nat → Int64}
theorem fr_leftOfX {V : Nat} (hV : V < 8) : fr_T 2 267 [.ref 0, .int (nI V)] (fm g tp bt a b) (some (.int (a 1 (281 + 5 * V)))) (fm g tp bt a b) := by
  refine fr_meth (by rfl) (by rfl) ?_
  refine fr_s 3 (pc' := 5) (lc' := [(0, .ref 0), (1, .int (nI V))]) (stk' := [.int (nI V), .ref 1]) (mem' := fm g tp bt a b) (by intro _ _ _; eq_refl) ?_
  refine fr_ivS fr_walkerRow (by omega) (by rfl) (by rfl) (by rfl) (by rfl) (by rfl) ?_
  rw [show (278 + 5 * (nI V) : Int32) = nI (278 + (5 * V)) from by simp only [show (278 : Int32) = nI 278 from rfl, show (5 : Int32) = nI 5 from rfl, nI_add, fm_mul]]
  refine fr_s 2 (pc' := 10) (lc' := [(0, .ref 0), (1, .int (nI V))]) (stk' := [.int ((nI (278 + (5 * V))) + 3), .ref 1]) (mem' := fm g tp bt a b) (by intro _ _ _; eq_refl) ?_
  rw [show ((nI (278 + (5 * V))) + 3 : Int32) = nI ((278 + (5 * V)) + 3) from by simp only [show (3 : Int32) = nI 3 from rfl, nI_add, fm_mul]]
  refine fr_ldI (by rfl) (by rfl) (fx_inN (i := (278 + (5 * V)) + 3) (by omega) (by omega)) ?_
  rw [show Int32.toNatClampNeg (nI ((278 + (5 * V)) + 3)) = (278 + (5 * V)) + 3 from nI_clamp (by omega)]
  rw [show (278 + (5 * V)) + 3 = 281 + 5 * V by omega]
  exact fr_ret (by rfl) (by rfl) (by rfl)
theorem fr_routeOfX {W K : Nat} (hW : W < 8) (hK : K < 20) : fr_T 2 268 [.ref 0, .int (nI W), .int (nI K)] (fm g tp bt a b) (some (.int (a 1 (318 + 20 * W + K)))) (fm g tp bt a b) := by
  refine fr_meth (by rfl) (by rfl) ?_
  refine fr_s 9 (pc' := 14) (lc' := [(0, .ref 0), (1, .int (nI W)), (2, .int (nI K))]) (stk' := [.int ((318 + (20 * (nI W))) + (nI K)), .ref 1]) (mem' := fm g tp bt a b) (by intro _ _ _; eq_refl) ?_
  rw [show ((318 + (20 * (nI W))) + (nI K) : Int32) = nI ((318 + (20 * W)) + K) from by simp only [show (318 : Int32) = nI 318 from rfl, show (20 : Int32) = nI 20 from rfl, nI_add, fm_mul]]
  refine fr_ldI (by rfl) (by rfl) (fx_inN (i := (318 + (20 * W)) + K) (by omega) (by omega)) ?_
  rw [show Int32.toNatClampNeg (nI ((318 + (20 * W)) + K)) = (318 + (20 * W)) + K from nI_clamp (by omega)]
  rw [show (318 + (20 * W)) + K = 318 + 20 * W + K by omega]
  exact fr_ret (by rfl) (by rfl) (by rfl)
theorem fq_isIce {C : Nat} (ht : fm_t a) (hC : C < 10) : fm_Pz 3 257 [.ref 0, .int (nI C)] (fm g tp bt a b) := by
  refine fm_Pz_of (by rfl) (by rfl) ?_
  refine fe_s 3 (pc' := 3) (lc' := [(0, .ref 0), (1, .int (nI C))]) (stk' := [.long ((nI C).toInt64), .ref 0]) (mem' := fm g tp bt a b) (by intro _ _ _; eq_refl) ?_
  obtain ⟨v8, mem8, ⟨x8, hx8, hR8⟩, hfr8⟩ := fr_isCell (c := (nI C).toInt64) (g := g) (tp := tp) (bt := bt) (b := b) ht
  cases hR8
  refine fe_ivV hfr8 (by omega) (by rfl) (by rfl) (by rfl) (by rfl) (by rfl) (by rfl) ?_
  rcases hx8 with rfl | rfl
  · refine fe_s 1 (pc' := cond (fx_cb .eq 0 0) 21 9) (lc' := [(0, .ref 0), (1, .int (nI C))]) (stk' := []) (mem' := fm g tp bt a b) (by intro _ _ _; eq_refl) ?_
    rw [show (fx_cb .eq 0 0) = true from by decide]
    dsimp only [cond]
    refine fe_s 1 (pc' := 22) (lc' := [(0, .ref 0), (1, .int (nI C))]) (stk' := [.int 0]) (mem' := fm g tp bt a b) (by intro _ _ _; eq_refl) ?_
    exact fe_ret ⟨_, Or.inl rfl, rfl⟩ (by rfl) (by rfl) (by rfl)
  · refine fe_s 1 (pc' := cond (fx_cb .eq 1 0) 21 9) (lc' := [(0, .ref 0), (1, .int (nI C))]) (stk' := []) (mem' := fm g tp bt a b) (by intro _ _ _; eq_refl) ?_
    rw [show (fx_cb .eq 1 0) = false from by decide]
    dsimp only [cond]
    refine fe_s 2 (pc' := 11) (lc' := [(0, .ref 0), (1, .int (nI C))]) (stk' := [.int (nI C), .ref 0]) (mem' := fm g tp bt a b) (by intro _ _ _; eq_refl) ?_
    obtain ⟨v1, z2, hv1⟩ := fq_isShore (C := C) (g := g) (tp := tp) (bt := bt) (a := a) (b := b) (by omega)
    refine fe_ivV hv1 (by omega) (by rfl) (by rfl) (by rfl) (by rfl) (by rfl) (by rfl) ?_
    rcases z2 with rfl | rfl
    · refine fe_s 1 (pc' := cond (fx_cb .ne 0 0) 21 17) (lc' := [(0, .ref 0), (1, .int (nI C))]) (stk' := []) (mem' := fm g tp bt a b) (by intro _ _ _; eq_refl) ?_
      rw [show (fx_cb .ne 0 0) = false from by decide]
      dsimp only [cond]
      refine fe_s 2 (pc' := 22) (lc' := [(0, .ref 0), (1, .int (nI C))]) (stk' := [.int 1]) (mem' := fm g tp bt a b) (by intro _ _ _; eq_refl) ?_
      exact fe_ret ⟨_, Or.inr rfl, rfl⟩ (by rfl) (by rfl) (by rfl)
    · refine fe_s 1 (pc' := cond (fx_cb .ne 1 0) 21 17) (lc' := [(0, .ref 0), (1, .int (nI C))]) (stk' := []) (mem' := fm g tp bt a b) (by intro _ _ _; eq_refl) ?_
      rw [show (fx_cb .ne 1 0) = true from by decide]
      dsimp only [cond]
      refine fe_s 1 (pc' := 22) (lc' := [(0, .ref 0), (1, .int (nI C))]) (stk' := [.int 0]) (mem' := fm g tp bt a b) (by intro _ _ _; eq_refl) ?_
      exact fe_ret ⟨_, Or.inl rfl, rfl⟩ (by rfl) (by rfl) (by rfl)
theorem fq_strengthOf {C : Nat} (ht : fm_t a) (hC : C < 10) : fm_P 5 271 [.ref 0, .int (nI C)] (fm g tp bt a b) := by
  refine fm_P_of (by rfl) (by rfl) ?_
  refine fe_s 2 (pc' := 2) (lc' := [(0, .ref 0), (1, .int (nI C))]) (stk' := [.int (nI C), .ref 0]) (mem' := fm g tp bt a b) (by intro _ _ _; eq_refl) ?_
  obtain ⟨v1, z2, hv1⟩ := fq_isShore (C := C) (g := g) (tp := tp) (bt := bt) (a := a) (b := b) (by omega)
  refine fe_ivV hv1 (by omega) (by rfl) (by rfl) (by rfl) (by rfl) (by rfl) (by rfl) ?_
  rcases z2 with rfl | rfl
  · refine fe_s 1 (pc' := cond (fx_cb .eq 0 0) 14 8) (lc' := [(0, .ref 0), (1, .int (nI C))]) (stk' := []) (mem' := fm g tp bt a b) (by intro _ _ _; eq_refl) ?_
    rw [show (fx_cb .eq 0 0) = true from by decide]
    dsimp only [cond]
    refine fe_s 2 (pc' := 16) (lc' := [(0, .ref 0), (1, .int (nI C))]) (stk' := [.int (nI C), .ref 0]) (mem' := fm g tp bt a b) (by intro _ _ _; eq_refl) ?_
    obtain ⟨v3, z4, hv3⟩ := fq_isBroken (C := C) (g := g) (tp := tp) (bt := bt) (a := a) (b := b) (by omega)
    refine fe_ivV hv3 (by omega) (by rfl) (by rfl) (by rfl) (by rfl) (by rfl) (by rfl) ?_
    rcases z4 with rfl | rfl
    · refine fe_s 1 (pc' := cond (fx_cb .eq 0 0) 26 22) (lc' := [(0, .ref 0), (1, .int (nI C))]) (stk' := []) (mem' := fm g tp bt a b) (by intro _ _ _; eq_refl) ?_
      rw [show (fx_cb .eq 0 0) = true from by decide]
      dsimp only [cond]
      refine fe_s 4 (pc' := 32) (lc' := [(0, .ref 0), (1, .int (nI C))]) (stk' := [.int (nI C), .ref 1, .int 0]) (mem' := fm g tp bt a b) (by intro _ _ _; eq_refl) ?_
      refine fe_ivS fr_cellRow (by omega) (by rfl) (by rfl) (by rfl) (by rfl) (by rfl) ?_
      rw [show (8 + 6 * (nI C) : Int32) = nI (8 + (6 * C)) from by simp only [show (8 : Int32) = nI 8 from rfl, show (6 : Int32) = nI 6 from rfl, nI_add, fm_mul]]
      refine fe_s 2 (pc' := 37) (lc' := [(0, .ref 0), (1, .int (nI C))]) (stk' := [.int ((nI (8 + (6 * C))) + 1), .ref 1, .int 0]) (mem' := fm g tp bt a b) (by intro _ _ _; eq_refl) ?_
      rw [show ((nI (8 + (6 * C))) + 1 : Int32) = nI ((8 + (6 * C)) + 1) from by simp only [show (1 : Int32) = nI 1 from rfl, nI_add, fm_mul]]
      refine fe_ldI (by rfl) (by rfl) (fx_inN (i := (8 + (6 * C)) + 1) (by omega) (by omega)) ?_
      rw [show Int32.toNatClampNeg (nI ((8 + (6 * C)) + 1)) = (8 + (6 * C)) + 1 from nI_clamp (by omega)]
      refine fe_s 3 (pc' := 43) (lc' := [(0, .ref 0), (1, .int (nI C))]) (stk' := [.int 2, .ref 1, .int (a 1 ((8 + (6 * C)) + 1)), .int 0]) (mem' := fm g tp bt a b) (by intro _ _ _; eq_refl) ?_
      refine fe_ldI (by rfl) (by rfl) (fx_inN (i := 2) (by omega) (by omega)) ?_
      rw [show Int32.toNatClampNeg (2) = 2 from rfl]
      refine fe_s 2 (pc' := 46) (lc' := [(0, .ref 0), (1, .int (nI C))]) (stk' := [.int (nI C), .ref 0, .int (a 1 2), .int (a 1 ((8 + (6 * C)) + 1)), .int 0]) (mem' := fm g tp bt a b) (by intro _ _ _; eq_refl) ?_
      obtain ⟨v5, hv5⟩ := fq_cameLately (C := C) (g := g) (tp := tp) (bt := bt) (a := a) (b := b) ht (by omega)
      refine fe_ivV hv5 (by omega) (by rfl) (by rfl) (by rfl) (by rfl) (by rfl) (by rfl) ?_
      refine fe_s 2 (pc' := 51) (lc' := [(0, .ref 0), (1, .int (nI C))]) (stk' := [.int ((a 1 ((8 + (6 * C)) + 1)) - ((a 1 2) * v5)), .int 0]) (mem' := fm g tp bt a b) (by intro _ _ _; eq_refl) ?_
      refine fe_s 1 (pc' := 54) (lc' := [(0, .ref 0), (1, .int (nI C))]) (stk' := [.int (if 0 < ((a 1 ((8 + (6 * C)) + 1)) - ((a 1 2) * v5)) then ((a 1 ((8 + (6 * C)) + 1)) - ((a 1 2) * v5)) else 0)]) (mem' := fm g tp bt a b) (by intro _ _ _; eq_refl) ?_
      exact fe_ret ⟨_, rfl⟩ (by rfl) (by rfl) (by rfl)
    · refine fe_s 1 (pc' := cond (fx_cb .eq 1 0) 26 22) (lc' := [(0, .ref 0), (1, .int (nI C))]) (stk' := []) (mem' := fm g tp bt a b) (by intro _ _ _; eq_refl) ?_
      rw [show (fx_cb .eq 1 0) = false from by decide]
      dsimp only [cond]
      refine fe_s 2 (pc' := 54) (lc' := [(0, .ref 0), (1, .int (nI C))]) (stk' := [.int 0]) (mem' := fm g tp bt a b) (by intro _ _ _; eq_refl) ?_
      exact fe_ret ⟨_, rfl⟩ (by rfl) (by rfl) (by rfl)
  · refine fe_s 1 (pc' := cond (fx_cb .eq 1 0) 14 8) (lc' := [(0, .ref 0), (1, .int (nI C))]) (stk' := []) (mem' := fm g tp bt a b) (by intro _ _ _; eq_refl) ?_
    rw [show (fx_cb .eq 1 0) = false from by decide]
    dsimp only [cond]
    refine fe_s 2 (pc' := 54) (lc' := [(0, .ref 0), (1, .int (nI C))]) (stk' := [.int 999]) (mem' := fm g tp bt a b) (by intro _ _ _; eq_refl) ?_
    exact fe_ret ⟨_, rfl⟩ (by rfl) (by rfl) (by rfl)
theorem fr_soaks {T : Nat} {V : Nat} (hB : fm_B a0) (hD : fm_D a0 a T) (hV : V < 8) : ∃ (v : Option Value) (mem' : fx_M), (fun R => ∃ a' : Nat → Nat → Int32, fm_D a0 a' T ∧ R = (none, fm g tp bt a' b)) (v, mem') ∧ fr_T 2 283 [.ref 0, .int (nI V)] (fm g tp bt a b) v mem' := by
  obtain ⟨NC, hNC, eNC⟩ := fm_B_0 hB (i := 0) (n := 10) (by decide) rfl
  obtain ⟨NW, hNW, eNW⟩ := fm_B_0 hB (i := 1) (n := 8) (by decide) rfl
  have hT9 := hD.2.2.2.2.1
  refine fe_meth (F := fun R => ∃ a' : Nat → Nat → Int32, fm_D a0 a' T ∧ R = (none, fm g tp bt a' b)) (M := gk_m283) (by rfl) (by rfl) ?_
  refine fe_s 3 (pc' := 5) (lc' := [(0, .ref 0), (1, .int (nI V))]) (stk' := [.int (nI V), .ref 1]) (mem' := fm g tp bt a b) (by intro _ _ _; eq_refl) ?_
  refine fe_ivS fr_walkerRow (by omega) (by rfl) (by rfl) (by rfl) (by rfl) (by rfl) ?_
  rw [show (278 + 5 * (nI V) : Int32) = nI (278 + (5 * V)) from by simp only [show (278 : Int32) = nI 278 from rfl, show (5 : Int32) = nI 5 from rfl, nI_add, fm_mul]]
  refine fe_s 3 (pc' := 11) (lc' := [(0, .ref 0), (1, .int (nI V))]) (stk' := [.int 1, .int ((nI (278 + (5 * V))) + 2), .ref 1]) (mem' := fm g tp bt a b) (by intro _ _ _; eq_refl) ?_
  rw [show ((nI (278 + (5 * V))) + 2 : Int32) = nI ((278 + (5 * V)) + 2) from by simp only [show (2 : Int32) = nI 2 from rfl, nI_add, fm_mul]]
  refine fe_stI (mem' := fm g tp bt (fm_u a 1 (nI ((278 + (5 * V)) + 2) : Int32).toNatClampNeg 1) b) (by rfl) (by rfl) (fx_inN (i := (278 + (5 * V)) + 2) (by omega) (by omega)) fm_si1 ?_
  rw [show Int32.toNatClampNeg (nI ((278 + (5 * V)) + 2)) = (278 + (5 * V)) + 2 from nI_clamp (by omega)]
  obtain ⟨at1, hat1⟩ : ∃ z, z = fm_u a 1 ((278 + (5 * V)) + 2) 1 := ⟨_, rfl⟩
  rw [← hat1]
  have hDt1 : fm_D a0 at1 T := by rw [hat1, show (278 + (5 * V)) + 2 = 280 + 5 * V by omega]; exact fm_Dw2 (X := 1) hD (by omega) (by omega)
  refine fe_s 3 (pc' := 17) (lc' := [(0, .ref 0), (1, .int (nI V))]) (stk' := [.int (nI V), .ref 1]) (mem' := fm g tp bt at1 b) (by intro _ _ _; eq_refl) ?_
  refine fe_ivS fr_walkerRow (by omega) (by rfl) (by rfl) (by rfl) (by rfl) (by rfl) ?_
  rw [show (278 + 5 * (nI V) : Int32) = nI (278 + (5 * V)) from by simp only [show (278 : Int32) = nI 278 from rfl, show (5 : Int32) = nI 5 from rfl, nI_add, fm_mul]]
  refine fe_s 3 (pc' := 23) (lc' := [(0, .ref 0), (1, .int (nI V))]) (stk' := [.int 0, .int ((nI (278 + (5 * V))) + 3), .ref 1]) (mem' := fm g tp bt at1 b) (by intro _ _ _; eq_refl) ?_
  rw [show ((nI (278 + (5 * V))) + 3 : Int32) = nI ((278 + (5 * V)) + 3) from by simp only [show (3 : Int32) = nI 3 from rfl, nI_add, fm_mul]]
  refine fe_stI (mem' := fm g tp bt (fm_u at1 1 (nI ((278 + (5 * V)) + 3) : Int32).toNatClampNeg 0) b) (by rfl) (by rfl) (fx_inN (i := (278 + (5 * V)) + 3) (by omega) (by omega)) fm_si1 ?_
  rw [show Int32.toNatClampNeg (nI ((278 + (5 * V)) + 3)) = (278 + (5 * V)) + 3 from nI_clamp (by omega)]
  obtain ⟨at2, hat2⟩ : ∃ z, z = fm_u at1 1 ((278 + (5 * V)) + 3) 0 := ⟨_, rfl⟩
  rw [← hat2]
  have hDt2 : fm_D a0 at2 T := by rw [hat2, show (278 + (5 * V)) + 3 = 281 + 5 * V by omega]; exact fm_Dw3 (X := 0) hDt1 (by omega) (by omega)
  exact fe_ret ⟨_, hDt2, rfl⟩ (by rfl) (by rfl) (by rfl)
theorem fr_breaks {T : Nat} {C : Nat} (hB : fm_B a0) (hD : fm_D a0 a T) (hC : C < 10) : ∃ (v : Option Value) (mem' : fx_M), (fun R => ∃ a' : Nat → Nat → Int32, fm_D a0 a' T ∧ R = (none, fm g tp bt a' b)) (v, mem') ∧ fr_T 4 282 [.ref 0, .int (nI C)] (fm g tp bt a b) v mem' := by
  obtain ⟨NC, hNC, eNC⟩ := fm_B_0 hB (i := 0) (n := 10) (by decide) rfl
  obtain ⟨NW, hNW, eNW⟩ := fm_B_0 hB (i := 1) (n := 8) (by decide) rfl
  have hT9 := hD.2.2.2.2.1
  refine fe_meth (F := fun R => ∃ a' : Nat → Nat → Int32, fm_D a0 a' T ∧ R = (none, fm g tp bt a' b)) (M := gk_m282) (by rfl) (by rfl) ?_
  refine fe_s 3 (pc' := 5) (lc' := [(0, .ref 0), (1, .int (nI C))]) (stk' := [.int (nI C), .ref 1]) (mem' := fm g tp bt a b) (by intro _ _ _; eq_refl) ?_
  refine fe_ivS fr_cellRow (by omega) (by rfl) (by rfl) (by rfl) (by rfl) (by rfl) ?_
  rw [show (8 + 6 * (nI C) : Int32) = nI (8 + (6 * C)) from by simp only [show (8 : Int32) = nI 8 from rfl, show (6 : Int32) = nI 6 from rfl, nI_add, fm_mul]]
  refine fe_s 3 (pc' := 11) (lc' := [(0, .ref 0), (1, .int (nI C))]) (stk' := [.int 1, .int ((nI (8 + (6 * C))) + 4), .ref 1]) (mem' := fm g tp bt a b) (by intro _ _ _; eq_refl) ?_
  rw [show ((nI (8 + (6 * C))) + 4 : Int32) = nI ((8 + (6 * C)) + 4) from by simp only [show (4 : Int32) = nI 4 from rfl, nI_add, fm_mul]]
  refine fe_stI (mem' := fm g tp bt (fm_u a 1 (nI ((8 + (6 * C)) + 4) : Int32).toNatClampNeg 1) b) (by rfl) (by rfl) (fx_inN (i := (8 + (6 * C)) + 4) (by omega) (by omega)) fm_si1 ?_
  rw [show Int32.toNatClampNeg (nI ((8 + (6 * C)) + 4)) = (8 + (6 * C)) + 4 from nI_clamp (by omega)]
  obtain ⟨at1, hat1⟩ : ∃ z, z = fm_u a 1 ((8 + (6 * C)) + 4) 1 := ⟨_, rfl⟩
  rw [← hat1]
  have hDt1 : fm_D a0 at1 T := by rw [hat1, show (8 + (6 * C)) + 4 = 12 + 6 * C by omega]; exact fm_Dc4 (X := 1) hD (by omega) (by omega)
  refine fe_s 3 (pc' := 17) (lc' := [(0, .ref 0), (1, .int (nI C))]) (stk' := [.int (nI C), .ref 1]) (mem' := fm g tp bt at1 b) (by intro _ _ _; eq_refl) ?_
  refine fe_ivS fr_cellRow (by omega) (by rfl) (by rfl) (by rfl) (by rfl) (by rfl) ?_
  rw [show (8 + 6 * (nI C) : Int32) = nI (8 + (6 * C)) from by simp only [show (8 : Int32) = nI 8 from rfl, show (6 : Int32) = nI 6 from rfl, nI_add, fm_mul]]
  refine fe_s 3 (pc' := 23) (lc' := [(0, .ref 0), (1, .int (nI C))]) (stk' := [.int 0, .int ((nI (8 + (6 * C))) + 1), .ref 1]) (mem' := fm g tp bt at1 b) (by intro _ _ _; eq_refl) ?_
  rw [show ((nI (8 + (6 * C))) + 1 : Int32) = nI ((8 + (6 * C)) + 1) from by simp only [show (1 : Int32) = nI 1 from rfl, nI_add, fm_mul]]
  refine fe_stI (mem' := fm g tp bt (fm_u at1 1 (nI ((8 + (6 * C)) + 1) : Int32).toNatClampNeg 0) b) (by rfl) (by rfl) (fx_inN (i := (8 + (6 * C)) + 1) (by omega) (by omega)) fm_si1 ?_
  rw [show Int32.toNatClampNeg (nI ((8 + (6 * C)) + 1)) = (8 + (6 * C)) + 1 from nI_clamp (by omega)]
  obtain ⟨at2, hat2⟩ : ∃ z, z = fm_u at1 1 ((8 + (6 * C)) + 1) 0 := ⟨_, rfl⟩
  rw [← hat2]
  have hDt2 : fm_D a0 at2 T := by rw [hat2, show (8 + (6 * C)) + 1 = 9 + 6 * C by omega]; exact fm_Dc1 hDt1 (by omega)
  refine fe_s 2 (pc' := 26) (lc' := [(2, .int 0), (0, .ref 0), (1, .int (nI C))]) (stk' := []) (mem' := fm g tp bt at2 b) (by intro _ _ _; eq_refl) ?_
  have loop3 : ∀ (r i3 : Nat), i3 + r = 21 → ∀ a_3 : Nat → Nat → Int32, fm_D a0 a_3 T → fe_R 3 gk_m282 26 [(2, .int (nI i3)), (0, .ref 0), (1, .int (nI C))] [] (fm g tp bt a_3 b) (fun R => ∃ a' : Nat → Nat → Int32, fm_D a0 a' T ∧ R = (none, fm g tp bt a' b)) := by
    intro r
    induction r with
    | zero =>
      intro i3 hi3 a_3 hD_3
      obtain rfl : i3 = 21 := by omega
      refine fe_s 2 (pc' := 29) (lc' := [(2, .int (nI 21)), (0, .ref 0), (1, .int (nI C))]) (stk' := [.int 21, .int (nI 21)]) (mem' := fm g tp bt a_3 b) (by intro _ _ _; eq_refl) ?_
      refine fe_s 1 (pc' := cond (fx_cb .ge (nI 21) 21) 53 32) (lc' := [(2, .int (nI 21)), (0, .ref 0), (1, .int (nI C))]) (stk' := []) (mem' := fm g tp bt a_3 b) (by intro _ _ _; eq_refl) ?_
      rw [show (fx_cb .ge (nI 21) 21) = true from cb_geT (a := 21) (b := 21) (by omega) (by omega) (by omega)]
      dsimp only [cond]
      refine fe_s 2 (pc' := 55) (lc' := [(2, .int 0), (0, .ref 0), (1, .int (nI C))]) (stk' := []) (mem' := fm g tp bt a_3 b) (by intro _ _ _; eq_refl) ?_
      have loop4 : ∀ (r i4 : Nat), i4 + r = NW → ∀ a_4 : Nat → Nat → Int32, fm_D a0 a_4 T → fe_R 3 gk_m282 55 [(2, .int (nI i4)), (0, .ref 0), (1, .int (nI C))] [] (fm g tp bt a_4 b) (fun R => ∃ a' : Nat → Nat → Int32, fm_D a0 a' T ∧ R = (none, fm g tp bt a' b)) := by
        intro r
        induction r with
        | zero =>
          intro i4 hi4 a_4 hD_4
          obtain rfl : NW = i4 := by omega
          refine fe_s 4 (pc' := 61) (lc' := [(2, .int (nI NW)), (0, .ref 0), (1, .int (nI C))]) (stk' := [.int 1, .ref 1, .int (nI NW)]) (mem' := fm g tp bt a_4 b) (by intro _ _ _; eq_refl) ?_
          refine fe_ldI (by rfl) (by rfl) (fx_inN (i := 1) (by omega) (by omega)) ?_
          rw [show Int32.toNatClampNeg (1) = 1 from rfl]
          rw [show a_4 1 1 = nI NW from (fm_D_h hD_4 (by decide) rfl).trans eNW]
          refine fe_s 1 (pc' := cond (fx_cb .ge (nI NW) (nI NW)) 93 65) (lc' := [(2, .int (nI NW)), (0, .ref 0), (1, .int (nI C))]) (stk' := []) (mem' := fm g tp bt a_4 b) (by intro _ _ _; eq_refl) ?_
          rw [show (fx_cb .ge (nI NW) (nI NW)) = true from cb_geT (a := NW) (b := NW) (by omega) (by omega) (by omega)]
          dsimp only [cond]
          exact fe_ret ⟨_, hD_4, rfl⟩ (by rfl) (by rfl) (by rfl)
        | succ r ih4 =>
          intro i4 hi4 a_4 hD_4
          have hl4 : i4 < NW := by omega
          refine fe_s 4 (pc' := 61) (lc' := [(2, .int (nI i4)), (0, .ref 0), (1, .int (nI C))]) (stk' := [.int 1, .ref 1, .int (nI i4)]) (mem' := fm g tp bt a_4 b) (by intro _ _ _; eq_refl) ?_
          refine fe_ldI (by rfl) (by rfl) (fx_inN (i := 1) (by omega) (by omega)) ?_
          rw [show Int32.toNatClampNeg (1) = 1 from rfl]
          rw [show a_4 1 1 = nI NW from (fm_D_h hD_4 (by decide) rfl).trans eNW]
          refine fe_s 1 (pc' := cond (fx_cb .ge (nI i4) (nI NW)) 93 65) (lc' := [(2, .int (nI i4)), (0, .ref 0), (1, .int (nI C))]) (stk' := []) (mem' := fm g tp bt a_4 b) (by intro _ _ _; eq_refl) ?_
          rw [show (fx_cb .ge (nI i4) (nI NW)) = false from cb_geF (a := i4) (b := NW) (by omega) (by omega) (by omega)]
          dsimp only [cond]
          refine fe_s 2 (pc' := 67) (lc' := [(2, .int (nI i4)), (0, .ref 0), (1, .int (nI C))]) (stk' := [.int (nI i4), .ref 0]) (mem' := fm g tp bt a_4 b) (by intro _ _ _; eq_refl) ?_
          refine fe_ivV (fr_whereOf (W := i4) (g := g) (tp := tp) (bt := bt) (a := a_4) (b := b) (by omega)) (by omega) (by rfl) (by rfl) (by rfl) (by rfl) (by rfl) (by rfl) ?_
          obtain ⟨l5, hl5, el5⟩ := fm_D_w1 hD_4 (W := i4) (by omega)
          rw [el5]
          refine fe_s 1 (pc' := 71) (lc' := [(2, .int (nI i4)), (0, .ref 0), (1, .int (nI C))]) (stk' := [.int (nI C), .int (nI l5)]) (mem' := fm g tp bt a_4 b) (by intro _ _ _; eq_refl) ?_
          refine fe_s 1 (pc' := cond (fx_cb .ne (nI l5) (nI C)) 87 74) (lc' := [(2, .int (nI i4)), (0, .ref 0), (1, .int (nI C))]) (stk' := []) (mem' := fm g tp bt a_4 b) (by intro _ _ _; eq_refl) ?_
          by_cases h6 : l5 = C
          · rw [show (fx_cb .ne (nI l5) (nI C)) = false from cb_neF (a := l5) (b := C) (by omega) (by omega) (by omega)]
            dsimp only [cond]
            refine fe_s 2 (pc' := 76) (lc' := [(2, .int (nI i4)), (0, .ref 0), (1, .int (nI C))]) (stk' := [.int (nI i4), .ref 0]) (mem' := fm g tp bt a_4 b) (by intro _ _ _; eq_refl) ?_
            obtain ⟨v7, z8, hv7⟩ := fq_isWet (V := i4) (g := g) (tp := tp) (bt := bt) (a := a_4) (b := b) (by omega)
            refine fe_ivV hv7 (by omega) (by rfl) (by rfl) (by rfl) (by rfl) (by rfl) (by rfl) ?_
            rcases z8 with rfl | rfl
            · refine fe_s 1 (pc' := cond (fx_cb .ne 0 0) 87 82) (lc' := [(2, .int (nI i4)), (0, .ref 0), (1, .int (nI C))]) (stk' := []) (mem' := fm g tp bt a_4 b) (by intro _ _ _; eq_refl) ?_
              rw [show (fx_cb .ne 0 0) = false from by decide]
              dsimp only [cond]
              refine fe_s 2 (pc' := 84) (lc' := [(2, .int (nI i4)), (0, .ref 0), (1, .int (nI C))]) (stk' := [.int (nI i4), .ref 0]) (mem' := fm g tp bt a_4 b) (by intro _ _ _; eq_refl) ?_
              obtain ⟨vd9, memd9, ⟨ad9, hDd9, hRd9⟩, hfrd9⟩ := fr_soaks (V := i4) (g := g) (tp := tp) (bt := bt) (a := a_4) (b := b) hB hD_4 (by omega)
              cases hRd9
              refine fe_ivV hfrd9 (by omega) (by rfl) (by rfl) (by rfl) (by rfl) (by rfl) (by rfl) ?_
              refine fe_s 2 (pc' := 55) (lc' := [(2, .int ((nI i4) + 1)), (0, .ref 0), (1, .int (nI C))]) (stk' := []) (mem' := fm g tp bt ad9 b) (by intro _ _ _; eq_refl) ?_
              rw [show ((nI i4) + 1 : Int32) = nI (i4 + 1) from by simp only [show (1 : Int32) = nI 1 from rfl, nI_add, fm_mul]]
              exact ih4 (i4 + 1) (by omega) ad9 hDd9
            · refine fe_s 1 (pc' := cond (fx_cb .ne 1 0) 87 82) (lc' := [(2, .int (nI i4)), (0, .ref 0), (1, .int (nI C))]) (stk' := []) (mem' := fm g tp bt a_4 b) (by intro _ _ _; eq_refl) ?_
              rw [show (fx_cb .ne 1 0) = true from by decide]
              dsimp only [cond]
              refine fe_s 2 (pc' := 55) (lc' := [(2, .int ((nI i4) + 1)), (0, .ref 0), (1, .int (nI C))]) (stk' := []) (mem' := fm g tp bt a_4 b) (by intro _ _ _; eq_refl) ?_
              rw [show ((nI i4) + 1 : Int32) = nI (i4 + 1) from by simp only [show (1 : Int32) = nI 1 from rfl, nI_add, fm_mul]]
              exact ih4 (i4 + 1) (by omega) a_4 hD_4
          · rw [show (fx_cb .ne (nI l5) (nI C)) = true from cb_neT (a := l5) (b := C) (by omega) (by omega) (by omega)]
            dsimp only [cond]
            refine fe_s 2 (pc' := 55) (lc' := [(2, .int ((nI i4) + 1)), (0, .ref 0), (1, .int (nI C))]) (stk' := []) (mem' := fm g tp bt a_4 b) (by intro _ _ _; eq_refl) ?_
            rw [show ((nI i4) + 1 : Int32) = nI (i4 + 1) from by simp only [show (1 : Int32) = nI 1 from rfl, nI_add, fm_mul]]
            exact ih4 (i4 + 1) (by omega) a_4 hD_4
      exact loop4 (NW) 0 (by omega) a_3 hD_3
    | succ r ih3 =>
      intro i3 hi3 a_3 hD_3
      have hl3 : i3 < 21 := by omega
      refine fe_s 2 (pc' := 29) (lc' := [(2, .int (nI i3)), (0, .ref 0), (1, .int (nI C))]) (stk' := [.int 21, .int (nI i3)]) (mem' := fm g tp bt a_3 b) (by intro _ _ _; eq_refl) ?_
      refine fe_s 1 (pc' := cond (fx_cb .ge (nI i3) 21) 53 32) (lc' := [(2, .int (nI i3)), (0, .ref 0), (1, .int (nI C))]) (stk' := []) (mem' := fm g tp bt a_3 b) (by intro _ _ _; eq_refl) ?_
      rw [show (fx_cb .ge (nI i3) 21) = false from cb_geF (a := i3) (b := 21) (by omega) (by omega) (by omega)]
      dsimp only [cond]
      refine fe_s 10 (pc' := 46) (lc' := [(2, .int (nI i3)), (0, .ref 0), (1, .int (nI C))]) (stk' := [.int 0, .int ((68 + (21 * (nI C))) + (nI i3)), .ref 1]) (mem' := fm g tp bt a_3 b) (by intro _ _ _; eq_refl) ?_
      rw [show ((68 + (21 * (nI C))) + (nI i3) : Int32) = nI ((68 + (21 * C)) + i3) from by simp only [show (68 : Int32) = nI 68 from rfl, show (21 : Int32) = nI 21 from rfl, nI_add, fm_mul]]
      refine fe_stI (mem' := fm g tp bt (fm_u a_3 1 (nI ((68 + (21 * C)) + i3) : Int32).toNatClampNeg 0) b) (by rfl) (by rfl) (fx_inN (i := (68 + (21 * C)) + i3) (by omega) (by omega)) fm_si1 ?_
      rw [show Int32.toNatClampNeg (nI ((68 + (21 * C)) + i3)) = (68 + (21 * C)) + i3 from nI_clamp (by omega)]
      obtain ⟨at10, hat10⟩ : ∃ z, z = fm_u a_3 1 ((68 + (21 * C)) + i3) 0 := ⟨_, rfl⟩
      rw [← hat10]
      have hDt10 : fm_D a0 at10 T := by rw [hat10]; exact fm_Dcm hD_3 (by omega) (by omega)
      refine fe_s 2 (pc' := 26) (lc' := [(2, .int ((nI i3) + 1)), (0, .ref 0), (1, .int (nI C))]) (stk' := []) (mem' := fm g tp bt at10 b) (by intro _ _ _; eq_refl) ?_
      rw [show ((nI i3) + 1 : Int32) = nI (i3 + 1) from by simp only [show (1 : Int32) = nI 1 from rfl, nI_add, fm_mul]]
      exact ih3 (i3 + 1) (by omega) at10 hDt10
  exact loop3 (21) 0 (by omega) at2 hDt2
theorem fr_walks {T : Nat} {W m : Nat} (hB : fm_B a0) (hD : fm_D a0 a T) (hW : W < 8) (el : a 1 (281 + 5 * W) = nI (m + 1)) (hm : m < 20) : ∃ (v : Option Value) (mem' : fx_M), (fun R => ∃ a' : Nat → Nat → Int32, fm_D a0 a' T ∧ R = (none, fm g tp bt a' b)) (v, mem') ∧ fr_T 4 284 [.ref 0, .int (nI W)] (fm g tp bt a b) v mem' := by
  obtain ⟨NC, hNC, eNC⟩ := fm_B_0 hB (i := 0) (n := 10) (by decide) rfl
  obtain ⟨NW, hNW, eNW⟩ := fm_B_0 hB (i := 1) (n := 8) (by decide) rfl
  have hT9 := hD.2.2.2.2.1
  refine fe_meth (F := fun R => ∃ a' : Nat → Nat → Int32, fm_D a0 a' T ∧ R = (none, fm g tp bt a' b)) (M := gk_m284) (by rfl) (by rfl) ?_
  refine fe_s 3 (pc' := 3) (lc' := [(0, .ref 0), (1, .int (nI W))]) (stk' := [.int 0, .int (nI W), .ref 0]) (mem' := fm g tp bt a b) (by intro _ _ _; eq_refl) ?_
  refine fe_ivV (fr_routeOfX (W := W) (K := 0) (g := g) (tp := tp) (bt := bt) (a := a) (b := b) (by omega) (by omega)) (by omega) (by rfl) (by rfl) (by rfl) (by rfl) (by rfl) (by rfl) ?_
  obtain ⟨l1, hl1, el1⟩ := fm_D_rt hD (i := 318 + 20 * W + 0) (by omega) (by omega)
  rw [el1]
  refine fe_s 4 (pc' := 12) (lc' := [(2, .int (nI l1)), (0, .ref 0), (1, .int (nI W))]) (stk' := [.int (nI W), .ref 1]) (mem' := fm g tp bt a b) (by intro _ _ _; eq_refl) ?_
  refine fe_ivS fr_walkerRow (by omega) (by rfl) (by rfl) (by rfl) (by rfl) (by rfl) ?_
  rw [show (278 + 5 * (nI W) : Int32) = nI (278 + (5 * W)) from by simp only [show (278 : Int32) = nI 278 from rfl, show (5 : Int32) = nI 5 from rfl, nI_add, fm_mul]]
  refine fe_s 3 (pc' := 18) (lc' := [(2, .int (nI l1)), (0, .ref 0), (1, .int (nI W))]) (stk' := [.int (nI l1), .int ((nI (278 + (5 * W))) + 1), .ref 1]) (mem' := fm g tp bt a b) (by intro _ _ _; eq_refl) ?_
  rw [show ((nI (278 + (5 * W))) + 1 : Int32) = nI ((278 + (5 * W)) + 1) from by simp only [show (1 : Int32) = nI 1 from rfl, nI_add, fm_mul]]
  refine fe_stI (mem' := fm g tp bt (fm_u a 1 (nI ((278 + (5 * W)) + 1) : Int32).toNatClampNeg (nI l1)) b) (by rfl) (by rfl) (fx_inN (i := (278 + (5 * W)) + 1) (by omega) (by omega)) fm_si1 ?_
  rw [show Int32.toNatClampNeg (nI ((278 + (5 * W)) + 1)) = (278 + (5 * W)) + 1 from nI_clamp (by omega)]
  obtain ⟨at2, hat2⟩ : ∃ z, z = fm_u a 1 ((278 + (5 * W)) + 1) (nI l1) := ⟨_, rfl⟩
  rw [← hat2]
  have kl_t2 : at2 1 (281 + (5 * W)) = nI (m + 1) := by rw [hat2, fm_u1, if_neg (by omega)]; exact el
  have hDt2 : fm_D a0 at2 T := by rw [hat2, show (278 + (5 * W)) + 1 = 279 + 5 * W by omega]; exact fm_Dw1 (X := l1) hD (by omega) (by omega)
  refine fe_s 3 (pc' := 24) (lc' := [(2, .int (nI l1)), (0, .ref 0), (1, .int (nI W))]) (stk' := [.int (nI W), .ref 1]) (mem' := fm g tp bt at2 b) (by intro _ _ _; eq_refl) ?_
  refine fe_ivS fr_walkerRow (by omega) (by rfl) (by rfl) (by rfl) (by rfl) (by rfl) ?_
  rw [show (278 + 5 * (nI W) : Int32) = nI (278 + (5 * W)) from by simp only [show (278 : Int32) = nI 278 from rfl, show (5 : Int32) = nI 5 from rfl, nI_add, fm_mul]]
  refine fe_s 3 (pc' := 30) (lc' := [(2, .int (nI l1)), (0, .ref 0), (1, .int (nI W))]) (stk' := [.int ((nI (278 + (5 * W))) + 4), .ref 1, .int ((nI (278 + (5 * W))) + 4), .ref 1]) (mem' := fm g tp bt at2 b) (by intro _ _ _; eq_refl) ?_
  rw [show ((nI (278 + (5 * W))) + 4 : Int32) = nI ((278 + (5 * W)) + 4) from by simp only [show (4 : Int32) = nI 4 from rfl, nI_add, fm_mul]]
  refine fe_ldI (by rfl) (by rfl) (fx_inN (i := (278 + (5 * W)) + 4) (by omega) (by omega)) ?_
  rw [show Int32.toNatClampNeg (nI ((278 + (5 * W)) + 4)) = (278 + (5 * W)) + 4 from nI_clamp (by omega)]
  refine fe_s 2 (pc' := 33) (lc' := [(2, .int (nI l1)), (0, .ref 0), (1, .int (nI W))]) (stk' := [.int ((at2 1 ((278 + (5 * W)) + 4)) + 1), .int (nI ((278 + (5 * W)) + 4)), .ref 1]) (mem' := fm g tp bt at2 b) (by intro _ _ _; eq_refl) ?_
  refine fe_stI (mem' := fm g tp bt (fm_u at2 1 (nI ((278 + (5 * W)) + 4) : Int32).toNatClampNeg ((at2 1 ((278 + (5 * W)) + 4)) + 1)) b) (by rfl) (by rfl) (fx_inN (i := (278 + (5 * W)) + 4) (by omega) (by omega)) fm_si1 ?_
  rw [show Int32.toNatClampNeg (nI ((278 + (5 * W)) + 4)) = (278 + (5 * W)) + 4 from nI_clamp (by omega)]
  obtain ⟨at3, hat3⟩ : ∃ z, z = fm_u at2 1 ((278 + (5 * W)) + 4) ((at2 1 ((278 + (5 * W)) + 4)) + 1) := ⟨_, rfl⟩
  rw [← hat3]
  have kl_t3 : at3 1 (281 + (5 * W)) = nI (m + 1) := by rw [hat3, fm_u1, if_neg (by omega)]; exact kl_t2
  have hDt3 : fm_D a0 at3 T := by rw [hat3, show (278 + (5 * W)) + 4 = 282 + 5 * W by omega]; exact fm_Dw4 hDt2 (by omega)
  refine fe_s 3 (pc' := 39) (lc' := [(2, .int (nI l1)), (0, .ref 0), (1, .int (nI W))]) (stk' := [.int (nI W), .ref 1]) (mem' := fm g tp bt at3 b) (by intro _ _ _; eq_refl) ?_
  refine fe_ivS fr_walkerRow (by omega) (by rfl) (by rfl) (by rfl) (by rfl) (by rfl) ?_
  rw [show (278 + 5 * (nI W) : Int32) = nI (278 + (5 * W)) from by simp only [show (278 : Int32) = nI 278 from rfl, show (5 : Int32) = nI 5 from rfl, nI_add, fm_mul]]
  refine fe_s 3 (pc' := 45) (lc' := [(2, .int (nI l1)), (0, .ref 0), (1, .int (nI W))]) (stk' := [.int ((nI (278 + (5 * W))) + 3), .ref 1, .int ((nI (278 + (5 * W))) + 3), .ref 1]) (mem' := fm g tp bt at3 b) (by intro _ _ _; eq_refl) ?_
  rw [show ((nI (278 + (5 * W))) + 3 : Int32) = nI ((278 + (5 * W)) + 3) from by simp only [show (3 : Int32) = nI 3 from rfl, nI_add, fm_mul]]
  refine fe_ldI (by rfl) (by rfl) (fx_inN (i := (278 + (5 * W)) + 3) (by omega) (by omega)) ?_
  rw [show Int32.toNatClampNeg (nI ((278 + (5 * W)) + 3)) = (278 + (5 * W)) + 3 from nI_clamp (by omega)]
  rw [show at3 1 ((278 + (5 * W)) + 3) = nI (m + 1) from by rw [show (278 + (5 * W)) + 3 = 281 + (5 * W) by omega]; exact kl_t3]
  refine fe_s 2 (pc' := 48) (lc' := [(2, .int (nI l1)), (0, .ref 0), (1, .int (nI W))]) (stk' := [.int ((nI (m + 1)) - 1), .int (nI ((278 + (5 * W)) + 3)), .ref 1]) (mem' := fm g tp bt at3 b) (by intro _ _ _; eq_refl) ?_
  rw [show ((nI (m + 1)) - 1 : Int32) = nI m from by simp only [show (1 : Int32) = nI 1 from rfl, tg_sub2 (x := m + 1) (y := 1) (by omega), Nat.add_sub_cancel, nI_add, fm_mul]]
  refine fe_stI (mem' := fm g tp bt (fm_u at3 1 (nI ((278 + (5 * W)) + 3) : Int32).toNatClampNeg (nI m)) b) (by rfl) (by rfl) (fx_inN (i := (278 + (5 * W)) + 3) (by omega) (by omega)) fm_si1 ?_
  rw [show Int32.toNatClampNeg (nI ((278 + (5 * W)) + 3)) = (278 + (5 * W)) + 3 from nI_clamp (by omega)]
  obtain ⟨at4, hat4⟩ : ∃ z, z = fm_u at3 1 ((278 + (5 * W)) + 3) (nI m) := ⟨_, rfl⟩
  rw [← hat4]
  have kl_t4 : at4 1 (281 + (5 * W)) = nI m := by rw [hat4, fm_u1, if_pos (by omega)]
  have hDt4 : fm_D a0 at4 T := by rw [hat4, show (278 + (5 * W)) + 3 = 281 + 5 * W by omega]; exact fm_Dw3 (X := m) hDt3 (by omega) (by omega)
  refine fe_s 2 (pc' := 51) (lc' := [(3, .int 0), (2, .int (nI l1)), (0, .ref 0), (1, .int (nI W))]) (stk' := []) (mem' := fm g tp bt at4 b) (by intro _ _ _; eq_refl) ?_
  have loop5 : ∀ (r i5 : Nat), i5 + r = m → ∀ a_5 : Nat → Nat → Int32, fm_D a0 a_5 T → a_5 1 (281 + (5 * W)) = nI m → fe_R 3 gk_m284 51 [(3, .int (nI i5)), (2, .int (nI l1)), (0, .ref 0), (1, .int (nI W))] [] (fm g tp bt a_5 b) (fun R => ∃ a' : Nat → Nat → Int32, fm_D a0 a' T ∧ R = (none, fm g tp bt a' b)) := by
    intro r
    induction r with
    | zero =>
      intro i5 hi5 a_5 hD_5 knl_5
      obtain rfl : m = i5 := by omega
      refine fe_s 3 (pc' := 54) (lc' := [(3, .int (nI m)), (2, .int (nI l1)), (0, .ref 0), (1, .int (nI W))]) (stk' := [.int (nI W), .ref 0, .int (nI m)]) (mem' := fm g tp bt a_5 b) (by intro _ _ _; eq_refl) ?_
      refine fe_ivV (fr_leftOfX (V := W) (g := g) (tp := tp) (bt := bt) (a := a_5) (b := b) (by omega)) (by omega) (by rfl) (by rfl) (by rfl) (by rfl) (by rfl) (by rfl) ?_
      rw [knl_5]
      refine fe_s 1 (pc' := cond (fx_cb .ge (nI m) (nI m)) 89 60) (lc' := [(3, .int (nI m)), (2, .int (nI l1)), (0, .ref 0), (1, .int (nI W))]) (stk' := []) (mem' := fm g tp bt a_5 b) (by intro _ _ _; eq_refl) ?_
      rw [show (fx_cb .ge (nI m) (nI m)) = true from cb_geT (a := m) (b := m) (by omega) (by omega) (by omega)]
      dsimp only [cond]
      refine fe_s 2 (pc' := 91) (lc' := [(3, .int (nI m)), (2, .int (nI l1)), (0, .ref 0), (1, .int (nI W))]) (stk' := [.int (nI l1), .ref 0]) (mem' := fm g tp bt a_5 b) (by intro _ _ _; eq_refl) ?_
      obtain ⟨v7, z8, hv7⟩ := fq_isIce (C := l1) (g := g) (tp := tp) (bt := bt) (a := a_5) (b := b) (fm_D_t hB hD_5) (by omega)
      refine fe_ivV hv7 (by omega) (by rfl) (by rfl) (by rfl) (by rfl) (by rfl) (by rfl) ?_
      rcases z8 with rfl | rfl
      · refine fe_s 1 (pc' := cond (fx_cb .eq 0 0) 131 97) (lc' := [(3, .int (nI m)), (2, .int (nI l1)), (0, .ref 0), (1, .int (nI W))]) (stk' := []) (mem' := fm g tp bt a_5 b) (by intro _ _ _; eq_refl) ?_
        rw [show (fx_cb .eq 0 0) = true from by decide]
        dsimp only [cond]
        exact fe_ret ⟨_, hD_5, rfl⟩ (by rfl) (by rfl) (by rfl)
      · refine fe_s 1 (pc' := cond (fx_cb .eq 1 0) 131 97) (lc' := [(3, .int (nI m)), (2, .int (nI l1)), (0, .ref 0), (1, .int (nI W))]) (stk' := []) (mem' := fm g tp bt a_5 b) (by intro _ _ _; eq_refl) ?_
        rw [show (fx_cb .eq 1 0) = false from by decide]
        dsimp only [cond]
        refine fe_s 2 (pc' := 99) (lc' := [(3, .int (nI m)), (2, .int (nI l1)), (0, .ref 0), (1, .int (nI W))]) (stk' := [.int (nI l1), .ref 0]) (mem' := fm g tp bt a_5 b) (by intro _ _ _; eq_refl) ?_
        obtain ⟨v9, z10, hv9⟩ := fq_isBroken (C := l1) (g := g) (tp := tp) (bt := bt) (a := a_5) (b := b) (by omega)
        refine fe_ivV hv9 (by omega) (by rfl) (by rfl) (by rfl) (by rfl) (by rfl) (by rfl) ?_
        rcases z10 with rfl | rfl
        · refine fe_s 1 (pc' := cond (fx_cb .ne 0 0) 131 105) (lc' := [(3, .int (nI m)), (2, .int (nI l1)), (0, .ref 0), (1, .int (nI W))]) (stk' := []) (mem' := fm g tp bt a_5 b) (by intro _ _ _; eq_refl) ?_
          rw [show (fx_cb .ne 0 0) = false from by decide]
          dsimp only [cond]
          refine fe_s 10 (pc' := 121) (lc' := [(3, .int (nI m)), (2, .int (nI l1)), (0, .ref 0), (1, .int (nI W))]) (stk' := [.int 5, .ref 1, .int (68 + (21 * (nI l1))), .ref 1]) (mem' := fm g tp bt a_5 b) (by intro _ _ _; eq_refl) ?_
          rw [show (68 + (21 * (nI l1)) : Int32) = nI (68 + (21 * l1)) from by simp only [show (68 : Int32) = nI 68 from rfl, show (21 : Int32) = nI 21 from rfl, nI_add, fm_mul]]
          refine fe_ldI (by rfl) (by rfl) (fx_inN (i := 5) (by omega) (by omega)) ?_
          rw [show Int32.toNatClampNeg (5) = 5 from rfl]
          rw [show a_5 1 5 = nI T from hD_5.2.2.2.1]
          refine fe_s 4 (pc' := 127) (lc' := [(3, .int (nI m)), (2, .int (nI l1)), (0, .ref 0), (1, .int (nI W))]) (stk' := [.int ((nI (68 + (21 * l1))) + ((nI T) - (nI T) / 21 * 21)), .ref 1, .int ((nI (68 + (21 * l1))) + ((nI T) - (nI T) / 21 * 21)), .ref 1]) (mem' := fm g tp bt a_5 b) (by intro _ _ _; eq_refl) ?_
          rw [show ((nI (68 + (21 * l1))) + ((nI T) - (nI T) / 21 * 21) : Int32) = nI ((68 + (21 * l1)) + (T % 21)) from by simp only [(show ((nI T) - (nI T) / 21 * 21 : Int32) = nI (T % 21) from pk_rem (a := T) (d := 21) (by omega) (by decide) (by decide)), nI_add, fm_mul]]
          refine fe_ldI (by rfl) (by rfl) (fx_inN (i := (68 + (21 * l1)) + (T % 21)) (by omega) (by omega)) ?_
          rw [show Int32.toNatClampNeg (nI ((68 + (21 * l1)) + (T % 21))) = (68 + (21 * l1)) + (T % 21) from nI_clamp (by omega)]
          refine fe_s 2 (pc' := 130) (lc' := [(3, .int (nI m)), (2, .int (nI l1)), (0, .ref 0), (1, .int (nI W))]) (stk' := [.int ((a_5 1 ((68 + (21 * l1)) + (T % 21))) + 1), .int (nI ((68 + (21 * l1)) + (T % 21))), .ref 1]) (mem' := fm g tp bt a_5 b) (by intro _ _ _; eq_refl) ?_
          refine fe_stI (mem' := fm g tp bt (fm_u a_5 1 (nI ((68 + (21 * l1)) + (T % 21)) : Int32).toNatClampNeg ((a_5 1 ((68 + (21 * l1)) + (T % 21))) + 1)) b) (by rfl) (by rfl) (fx_inN (i := (68 + (21 * l1)) + (T % 21)) (by omega) (by omega)) fm_si1 ?_
          rw [show Int32.toNatClampNeg (nI ((68 + (21 * l1)) + (T % 21))) = (68 + (21 * l1)) + (T % 21) from nI_clamp (by omega)]
          obtain ⟨at11, hat11⟩ : ∃ z, z = fm_u a_5 1 ((68 + (21 * l1)) + (T % 21)) ((a_5 1 ((68 + (21 * l1)) + (T % 21))) + 1) := ⟨_, rfl⟩
          rw [← hat11]
          have kl_t11 : at11 1 (281 + (5 * W)) = nI m := by rw [hat11, fm_u1, if_neg (by omega)]; exact knl_5
          have hDt11 : fm_D a0 at11 T := by rw [hat11]; exact fm_Dcm hD_5 (by omega) (by omega)
          exact fe_ret ⟨_, hDt11, rfl⟩ (by rfl) (by rfl) (by rfl)
        · refine fe_s 1 (pc' := cond (fx_cb .ne 1 0) 131 105) (lc' := [(3, .int (nI m)), (2, .int (nI l1)), (0, .ref 0), (1, .int (nI W))]) (stk' := []) (mem' := fm g tp bt a_5 b) (by intro _ _ _; eq_refl) ?_
          rw [show (fx_cb .ne 1 0) = true from by decide]
          dsimp only [cond]
          exact fe_ret ⟨_, hD_5, rfl⟩ (by rfl) (by rfl) (by rfl)
    | succ r ih5 =>
      intro i5 hi5 a_5 hD_5 knl_5
      have hl5 : i5 < m := by omega
      refine fe_s 3 (pc' := 54) (lc' := [(3, .int (nI i5)), (2, .int (nI l1)), (0, .ref 0), (1, .int (nI W))]) (stk' := [.int (nI W), .ref 0, .int (nI i5)]) (mem' := fm g tp bt a_5 b) (by intro _ _ _; eq_refl) ?_
      refine fe_ivV (fr_leftOfX (V := W) (g := g) (tp := tp) (bt := bt) (a := a_5) (b := b) (by omega)) (by omega) (by rfl) (by rfl) (by rfl) (by rfl) (by rfl) (by rfl) ?_
      rw [knl_5]
      refine fe_s 1 (pc' := cond (fx_cb .ge (nI i5) (nI m)) 89 60) (lc' := [(3, .int (nI i5)), (2, .int (nI l1)), (0, .ref 0), (1, .int (nI W))]) (stk' := []) (mem' := fm g tp bt a_5 b) (by intro _ _ _; eq_refl) ?_
      rw [show (fx_cb .ge (nI i5) (nI m)) = false from cb_geF (a := i5) (b := m) (by omega) (by omega) (by omega)]
      dsimp only [cond]
      refine fe_s 14 (pc' := 79) (lc' := [(3, .int (nI i5)), (2, .int (nI l1)), (0, .ref 0), (1, .int (nI W))]) (stk' := [.int ((nI i5) + 1), .int (nI W), .ref 0, .int ((318 + (20 * (nI W))) + (nI i5)), .ref 1]) (mem' := fm g tp bt a_5 b) (by intro _ _ _; eq_refl) ?_
      rw [show ((nI i5) + 1 : Int32) = nI (i5 + 1) from by simp only [show (1 : Int32) = nI 1 from rfl, nI_add, fm_mul]]
      rw [show ((318 + (20 * (nI W))) + (nI i5) : Int32) = nI ((318 + (20 * W)) + i5) from by simp only [show (318 : Int32) = nI 318 from rfl, show (20 : Int32) = nI 20 from rfl, nI_add, fm_mul]]
      refine fe_ivV (fr_routeOfX (W := W) (K := i5 + 1) (g := g) (tp := tp) (bt := bt) (a := a_5) (b := b) (by omega) (by omega)) (by omega) (by rfl) (by rfl) (by rfl) (by rfl) (by rfl) (by rfl) ?_
      obtain ⟨l13, hl13, el13⟩ := fm_D_rt hD_5 (i := 318 + 20 * W + (i5 + 1)) (by omega) (by omega)
      rw [el13]
      refine fe_stI (mem' := fm g tp bt (fm_u a_5 1 (nI ((318 + (20 * W)) + i5) : Int32).toNatClampNeg (nI l13)) b) (by rfl) (by rfl) (fx_inN (i := (318 + (20 * W)) + i5) (by omega) (by omega)) fm_si1 ?_
      rw [show Int32.toNatClampNeg (nI ((318 + (20 * W)) + i5)) = (318 + (20 * W)) + i5 from nI_clamp (by omega)]
      obtain ⟨at14, hat14⟩ : ∃ z, z = fm_u a_5 1 ((318 + (20 * W)) + i5) (nI l13) := ⟨_, rfl⟩
      rw [← hat14]
      have kl_t14 : at14 1 (281 + (5 * W)) = nI m := by rw [hat14, fm_u1, if_neg (by omega)]; exact knl_5
      have hDt14 : fm_D a0 at14 T := by rw [hat14]; exact fm_Drt (X := l13) hD_5 (by omega) (by omega) (by omega)
      refine fe_s 2 (pc' := 51) (lc' := [(3, .int ((nI i5) + 1)), (2, .int (nI l1)), (0, .ref 0), (1, .int (nI W))]) (stk' := []) (mem' := fm g tp bt at14 b) (by intro _ _ _; eq_refl) ?_
      rw [show ((nI i5) + 1 : Int32) = nI (i5 + 1) from by simp only [show (1 : Int32) = nI 1 from rfl, nI_add, fm_mul]]
      exact ih5 (i5 + 1) (by omega) at14 hDt14 kl_t14
  exact loop5 (m) 0 (by omega) at4 hDt4 kl_t4
end F4900_walk
end MH5_4
section MH5_5
/-! ===== fx: walking: a step of all ===== -/
section F4901_sets
variable {g : Nat → Int32} {tp bt : Int64} {a0 a : Nat → Nat → Int32} {b : Nat → Nat → Int64}
theorem fr_setOf0 {T : Nat} (hB : fm_B a0) (hD : fm_D a0 a T) : ∃ (v : Option Value) (mem' : fx_M), (fun R => ∃ (v : Int32) (a' : Nat → Nat → Int32), fm_D a0 a' T ∧ R = (some (.int v), fm g tp bt a' b)) (v, mem') ∧ fr_T 4 273 [.ref 0, .int 0] (fm g tp bt a b) v mem' := by
  obtain ⟨NC, hNC, eNC⟩ := fm_B_0 hB (i := 0) (n := 10) (by decide) rfl
  obtain ⟨NW, hNW, eNW⟩ := fm_B_0 hB (i := 1) (n := 8) (by decide) rfl
  have hT9 := hD.2.2.2.2.1
  refine fe_meth (F := fun R => ∃ (v : Int32) (a' : Nat → Nat → Int32), fm_D a0 a' T ∧ R = (some (.int v), fm g tp bt a' b)) (M := gk_m273) (by rfl) (by rfl) ?_
  refine fe_s 4 (pc' := 4) (lc' := [(3, .int 0), (2, .int 0), (0, .ref 0), (1, .int 0)]) (stk' := []) (mem' := fm g tp bt a b) (by intro _ _ _; eq_refl) ?_
  have loop1 : ∀ (r i1 : Nat), i1 + r = NC → ∀ (x2_1 : Int32), ∀ a_1 : Nat → Nat → Int32, fm_D a0 a_1 T → fe_R 3 gk_m273 4 [(3, .int (nI i1)), (2, .int x2_1), (0, .ref 0), (1, .int 0)] [] (fm g tp bt a_1 b) (fun R => ∃ (v : Int32) (a' : Nat → Nat → Int32), fm_D a0 a' T ∧ R = (some (.int v), fm g tp bt a' b)) := by
    intro r
    induction r with
    | zero =>
      intro i1 hi1 x2_1 a_1 hD_1
      obtain rfl : NC = i1 := by omega
      refine fe_s 4 (pc' := 10) (lc' := [(3, .int (nI NC)), (2, .int x2_1), (0, .ref 0), (1, .int 0)]) (stk' := [.int 0, .ref 1, .int (nI NC)]) (mem' := fm g tp bt a_1 b) (by intro _ _ _; eq_refl) ?_
      refine fe_ldI (by rfl) (by rfl) (fx_inN (i := 0) (by omega) (by omega)) ?_
      rw [show Int32.toNatClampNeg (0) = 0 from rfl]
      rw [show a_1 1 0 = nI NC from (fm_D_h hD_1 (by decide) rfl).trans eNC]
      refine fe_s 1 (pc' := cond (fx_cb .ge (nI NC) (nI NC)) 58 14) (lc' := [(3, .int (nI NC)), (2, .int x2_1), (0, .ref 0), (1, .int 0)]) (stk' := []) (mem' := fm g tp bt a_1 b) (by intro _ _ _; eq_refl) ?_
      rw [show (fx_cb .ge (nI NC) (nI NC)) = true from cb_geT (a := NC) (b := NC) (by omega) (by omega) (by omega)]
      dsimp only [cond]
      refine fe_s 2 (pc' := 60) (lc' := [(3, .int 0), (2, .int x2_1), (0, .ref 0), (1, .int 0)]) (stk' := []) (mem' := fm g tp bt a_1 b) (by intro _ _ _; eq_refl) ?_
      have loop2 : ∀ (r i2 : Nat), i2 + r = NW → ∀ (x2_2 : Int32), ∀ a_2 : Nat → Nat → Int32, fm_D a0 a_2 T → fe_R 3 gk_m273 60 [(3, .int (nI i2)), (2, .int x2_2), (0, .ref 0), (1, .int 0)] [] (fm g tp bt a_2 b) (fun R => ∃ (v : Int32) (a' : Nat → Nat → Int32), fm_D a0 a' T ∧ R = (some (.int v), fm g tp bt a' b)) := by
        intro r
        induction r with
        | zero =>
          intro i2 hi2 x2_2 a_2 hD_2
          obtain rfl : NW = i2 := by omega
          refine fe_s 4 (pc' := 66) (lc' := [(3, .int (nI NW)), (2, .int x2_2), (0, .ref 0), (1, .int 0)]) (stk' := [.int 1, .ref 1, .int (nI NW)]) (mem' := fm g tp bt a_2 b) (by intro _ _ _; eq_refl) ?_
          refine fe_ldI (by rfl) (by rfl) (fx_inN (i := 1) (by omega) (by omega)) ?_
          rw [show Int32.toNatClampNeg (1) = 1 from rfl]
          rw [show a_2 1 1 = nI NW from (fm_D_h hD_2 (by decide) rfl).trans eNW]
          refine fe_s 1 (pc' := cond (fx_cb .ge (nI NW) (nI NW)) 115 70) (lc' := [(3, .int (nI NW)), (2, .int x2_2), (0, .ref 0), (1, .int 0)]) (stk' := []) (mem' := fm g tp bt a_2 b) (by intro _ _ _; eq_refl) ?_
          rw [show (fx_cb .ge (nI NW) (nI NW)) = true from cb_geT (a := NW) (b := NW) (by omega) (by omega) (by omega)]
          dsimp only [cond]
          refine fe_s 1 (pc' := 116) (lc' := [(3, .int (nI NW)), (2, .int x2_2), (0, .ref 0), (1, .int 0)]) (stk' := [.int x2_2]) (mem' := fm g tp bt a_2 b) (by intro _ _ _; eq_refl) ?_
          exact fe_ret ⟨_, _, hD_2, rfl⟩ (by rfl) (by rfl) (by rfl)
        | succ r ih2 =>
          intro i2 hi2 x2_2 a_2 hD_2
          have hl2 : i2 < NW := by omega
          refine fe_s 4 (pc' := 66) (lc' := [(3, .int (nI i2)), (2, .int x2_2), (0, .ref 0), (1, .int 0)]) (stk' := [.int 1, .ref 1, .int (nI i2)]) (mem' := fm g tp bt a_2 b) (by intro _ _ _; eq_refl) ?_
          refine fe_ldI (by rfl) (by rfl) (fx_inN (i := 1) (by omega) (by omega)) ?_
          rw [show Int32.toNatClampNeg (1) = 1 from rfl]
          rw [show a_2 1 1 = nI NW from (fm_D_h hD_2 (by decide) rfl).trans eNW]
          refine fe_s 1 (pc' := cond (fx_cb .ge (nI i2) (nI NW)) 115 70) (lc' := [(3, .int (nI i2)), (2, .int x2_2), (0, .ref 0), (1, .int 0)]) (stk' := []) (mem' := fm g tp bt a_2 b) (by intro _ _ _; eq_refl) ?_
          rw [show (fx_cb .ge (nI i2) (nI NW)) = false from cb_geF (a := i2) (b := NW) (by omega) (by omega) (by omega)]
          dsimp only [cond]
          refine fe_s 2 (pc' := 72) (lc' := [(3, .int (nI i2)), (2, .int x2_2), (0, .ref 0), (1, .int 0)]) (stk' := [.int 1, .int 0]) (mem' := fm g tp bt a_2 b) (by intro _ _ _; eq_refl) ?_
          refine fe_s 1 (pc' := cond (fx_cb .le 0 1) 115 75) (lc' := [(3, .int (nI i2)), (2, .int x2_2), (0, .ref 0), (1, .int 0)]) (stk' := []) (mem' := fm g tp bt a_2 b) (by intro _ _ _; eq_refl) ?_
          rw [show (fx_cb .le 0 1) = true from by decide]
          dsimp only [cond]
          refine fe_s 1 (pc' := 116) (lc' := [(3, .int (nI i2)), (2, .int x2_2), (0, .ref 0), (1, .int 0)]) (stk' := [.int x2_2]) (mem' := fm g tp bt a_2 b) (by intro _ _ _; eq_refl) ?_
          exact fe_ret ⟨_, _, hD_2, rfl⟩ (by rfl) (by rfl) (by rfl)
      exact loop2 (NW) 0 (by omega) _ a_1 hD_1
    | succ r ih1 =>
      intro i1 hi1 x2_1 a_1 hD_1
      have hl1 : i1 < NC := by omega
      refine fe_s 4 (pc' := 10) (lc' := [(3, .int (nI i1)), (2, .int x2_1), (0, .ref 0), (1, .int 0)]) (stk' := [.int 0, .ref 1, .int (nI i1)]) (mem' := fm g tp bt a_1 b) (by intro _ _ _; eq_refl) ?_
      refine fe_ldI (by rfl) (by rfl) (fx_inN (i := 0) (by omega) (by omega)) ?_
      rw [show Int32.toNatClampNeg (0) = 0 from rfl]
      rw [show a_1 1 0 = nI NC from (fm_D_h hD_1 (by decide) rfl).trans eNC]
      refine fe_s 1 (pc' := cond (fx_cb .ge (nI i1) (nI NC)) 58 14) (lc' := [(3, .int (nI i1)), (2, .int x2_1), (0, .ref 0), (1, .int 0)]) (stk' := []) (mem' := fm g tp bt a_1 b) (by intro _ _ _; eq_refl) ?_
      rw [show (fx_cb .ge (nI i1) (nI NC)) = false from cb_geF (a := i1) (b := NC) (by omega) (by omega) (by omega)]
      dsimp only [cond]
      refine fe_s 2 (pc' := 16) (lc' := [(3, .int (nI i1)), (2, .int x2_1), (0, .ref 0), (1, .int 0)]) (stk' := [.int 2, .int 0]) (mem' := fm g tp bt a_1 b) (by intro _ _ _; eq_refl) ?_
      refine fe_s 1 (pc' := cond (fx_cb .ge 0 2) 58 19) (lc' := [(3, .int (nI i1)), (2, .int x2_1), (0, .ref 0), (1, .int 0)]) (stk' := []) (mem' := fm g tp bt a_1 b) (by intro _ _ _; eq_refl) ?_
      rw [show (fx_cb .ge 0 2) = false from by decide]
      dsimp only [cond]
      refine fe_s 2 (pc' := 21) (lc' := [(3, .int (nI i1)), (2, .int x2_1), (0, .ref 0), (1, .int 0)]) (stk' := [.int 0, .int x2_1]) (mem' := fm g tp bt a_1 b) (by intro _ _ _; eq_refl) ?_
      refine fe_s 1 (pc' := cond (fx_cb .ne 0 0) 35 24) (lc' := [(3, .int (nI i1)), (2, .int x2_1), (0, .ref 0), (1, .int 0)]) (stk' := [.int x2_1]) (mem' := fm g tp bt a_1 b) (by intro _ _ _; eq_refl) ?_
      rw [show (fx_cb .ne 0 0) = false from by decide]
      dsimp only [cond]
      refine fe_s 2 (pc' := 26) (lc' := [(3, .int (nI i1)), (2, .int x2_1), (0, .ref 0), (1, .int 0)]) (stk' := [.int (nI i1), .ref 0, .int x2_1]) (mem' := fm g tp bt a_1 b) (by intro _ _ _; eq_refl) ?_
      obtain ⟨v3, z4, hv3⟩ := fq_isShore (C := i1) (g := g) (tp := tp) (bt := bt) (a := a_1) (b := b) (by omega)
      refine fe_ivV hv3 (by omega) (by rfl) (by rfl) (by rfl) (by rfl) (by rfl) (by rfl) ?_
      rcases z4 with rfl | rfl
      · refine fe_s 1 (pc' := cond (fx_cb .eq 0 0) 49 32) (lc' := [(3, .int (nI i1)), (2, .int x2_1), (0, .ref 0), (1, .int 0)]) (stk' := [.int x2_1]) (mem' := fm g tp bt a_1 b) (by intro _ _ _; eq_refl) ?_
        rw [show (fx_cb .eq 0 0) = true from by decide]
        dsimp only [cond]
        refine fe_s 5 (pc' := 4) (lc' := [(3, .int ((nI i1) + 1)), (2, .int (x2_1 ||| 0)), (0, .ref 0), (1, .int 0)]) (stk' := []) (mem' := fm g tp bt a_1 b) (by intro _ _ _; eq_refl) ?_
        rw [show ((nI i1) + 1 : Int32) = nI (i1 + 1) from by simp only [show (1 : Int32) = nI 1 from rfl, nI_add, fm_mul]]
        exact ih1 (i1 + 1) (by omega) _ a_1 hD_1
      · refine fe_s 1 (pc' := cond (fx_cb .eq 1 0) 49 32) (lc' := [(3, .int (nI i1)), (2, .int x2_1), (0, .ref 0), (1, .int 0)]) (stk' := [.int x2_1]) (mem' := fm g tp bt a_1 b) (by intro _ _ _; eq_refl) ?_
        rw [show (fx_cb .eq 1 0) = false from by decide]
        dsimp only [cond]
        refine fe_s 9 (pc' := 4) (lc' := [(3, .int ((nI i1) + 1)), (2, .int (x2_1 ||| ((1 : Int32) <<< ((nI i1) &&& 31)))), (0, .ref 0), (1, .int 0)]) (stk' := []) (mem' := fm g tp bt a_1 b) (by intro _ _ _; eq_refl) ?_
        rw [show ((nI i1) + 1 : Int32) = nI (i1 + 1) from by simp only [show (1 : Int32) = nI 1 from rfl, nI_add, fm_mul]]
        exact ih1 (i1 + 1) (by omega) _ a_1 hD_1
  exact loop1 (NC) 0 (by omega) _ a hD
theorem fr_setOf1 {T : Nat} (hB : fm_B a0) (hD : fm_D a0 a T) : ∃ (v : Option Value) (mem' : fx_M), (fun R => ∃ (v : Int32) (a' : Nat → Nat → Int32), fm_D a0 a' T ∧ R = (some (.int v), fm g tp bt a' b)) (v, mem') ∧ fr_T 4 273 [.ref 0, .int 1] (fm g tp bt a b) v mem' := by
  obtain ⟨NC, hNC, eNC⟩ := fm_B_0 hB (i := 0) (n := 10) (by decide) rfl
  obtain ⟨NW, hNW, eNW⟩ := fm_B_0 hB (i := 1) (n := 8) (by decide) rfl
  have hT9 := hD.2.2.2.2.1
  refine fe_meth (F := fun R => ∃ (v : Int32) (a' : Nat → Nat → Int32), fm_D a0 a' T ∧ R = (some (.int v), fm g tp bt a' b)) (M := gk_m273) (by rfl) (by rfl) ?_
  refine fe_s 4 (pc' := 4) (lc' := [(3, .int 0), (2, .int 0), (0, .ref 0), (1, .int 1)]) (stk' := []) (mem' := fm g tp bt a b) (by intro _ _ _; eq_refl) ?_
  have loop1 : ∀ (r i1 : Nat), i1 + r = NC → ∀ (x2_1 : Int32), ∀ a_1 : Nat → Nat → Int32, fm_D a0 a_1 T → fe_R 3 gk_m273 4 [(3, .int (nI i1)), (2, .int x2_1), (0, .ref 0), (1, .int 1)] [] (fm g tp bt a_1 b) (fun R => ∃ (v : Int32) (a' : Nat → Nat → Int32), fm_D a0 a' T ∧ R = (some (.int v), fm g tp bt a' b)) := by
    intro r
    induction r with
    | zero =>
      intro i1 hi1 x2_1 a_1 hD_1
      obtain rfl : NC = i1 := by omega
      refine fe_s 4 (pc' := 10) (lc' := [(3, .int (nI NC)), (2, .int x2_1), (0, .ref 0), (1, .int 1)]) (stk' := [.int 0, .ref 1, .int (nI NC)]) (mem' := fm g tp bt a_1 b) (by intro _ _ _; eq_refl) ?_
      refine fe_ldI (by rfl) (by rfl) (fx_inN (i := 0) (by omega) (by omega)) ?_
      rw [show Int32.toNatClampNeg (0) = 0 from rfl]
      rw [show a_1 1 0 = nI NC from (fm_D_h hD_1 (by decide) rfl).trans eNC]
      refine fe_s 1 (pc' := cond (fx_cb .ge (nI NC) (nI NC)) 58 14) (lc' := [(3, .int (nI NC)), (2, .int x2_1), (0, .ref 0), (1, .int 1)]) (stk' := []) (mem' := fm g tp bt a_1 b) (by intro _ _ _; eq_refl) ?_
      rw [show (fx_cb .ge (nI NC) (nI NC)) = true from cb_geT (a := NC) (b := NC) (by omega) (by omega) (by omega)]
      dsimp only [cond]
      refine fe_s 2 (pc' := 60) (lc' := [(3, .int 0), (2, .int x2_1), (0, .ref 0), (1, .int 1)]) (stk' := []) (mem' := fm g tp bt a_1 b) (by intro _ _ _; eq_refl) ?_
      have loop2 : ∀ (r i2 : Nat), i2 + r = NW → ∀ (x2_2 : Int32), ∀ a_2 : Nat → Nat → Int32, fm_D a0 a_2 T → fe_R 3 gk_m273 60 [(3, .int (nI i2)), (2, .int x2_2), (0, .ref 0), (1, .int 1)] [] (fm g tp bt a_2 b) (fun R => ∃ (v : Int32) (a' : Nat → Nat → Int32), fm_D a0 a' T ∧ R = (some (.int v), fm g tp bt a' b)) := by
        intro r
        induction r with
        | zero =>
          intro i2 hi2 x2_2 a_2 hD_2
          obtain rfl : NW = i2 := by omega
          refine fe_s 4 (pc' := 66) (lc' := [(3, .int (nI NW)), (2, .int x2_2), (0, .ref 0), (1, .int 1)]) (stk' := [.int 1, .ref 1, .int (nI NW)]) (mem' := fm g tp bt a_2 b) (by intro _ _ _; eq_refl) ?_
          refine fe_ldI (by rfl) (by rfl) (fx_inN (i := 1) (by omega) (by omega)) ?_
          rw [show Int32.toNatClampNeg (1) = 1 from rfl]
          rw [show a_2 1 1 = nI NW from (fm_D_h hD_2 (by decide) rfl).trans eNW]
          refine fe_s 1 (pc' := cond (fx_cb .ge (nI NW) (nI NW)) 115 70) (lc' := [(3, .int (nI NW)), (2, .int x2_2), (0, .ref 0), (1, .int 1)]) (stk' := []) (mem' := fm g tp bt a_2 b) (by intro _ _ _; eq_refl) ?_
          rw [show (fx_cb .ge (nI NW) (nI NW)) = true from cb_geT (a := NW) (b := NW) (by omega) (by omega) (by omega)]
          dsimp only [cond]
          refine fe_s 1 (pc' := 116) (lc' := [(3, .int (nI NW)), (2, .int x2_2), (0, .ref 0), (1, .int 1)]) (stk' := [.int x2_2]) (mem' := fm g tp bt a_2 b) (by intro _ _ _; eq_refl) ?_
          exact fe_ret ⟨_, _, hD_2, rfl⟩ (by rfl) (by rfl) (by rfl)
        | succ r ih2 =>
          intro i2 hi2 x2_2 a_2 hD_2
          have hl2 : i2 < NW := by omega
          refine fe_s 4 (pc' := 66) (lc' := [(3, .int (nI i2)), (2, .int x2_2), (0, .ref 0), (1, .int 1)]) (stk' := [.int 1, .ref 1, .int (nI i2)]) (mem' := fm g tp bt a_2 b) (by intro _ _ _; eq_refl) ?_
          refine fe_ldI (by rfl) (by rfl) (fx_inN (i := 1) (by omega) (by omega)) ?_
          rw [show Int32.toNatClampNeg (1) = 1 from rfl]
          rw [show a_2 1 1 = nI NW from (fm_D_h hD_2 (by decide) rfl).trans eNW]
          refine fe_s 1 (pc' := cond (fx_cb .ge (nI i2) (nI NW)) 115 70) (lc' := [(3, .int (nI i2)), (2, .int x2_2), (0, .ref 0), (1, .int 1)]) (stk' := []) (mem' := fm g tp bt a_2 b) (by intro _ _ _; eq_refl) ?_
          rw [show (fx_cb .ge (nI i2) (nI NW)) = false from cb_geF (a := i2) (b := NW) (by omega) (by omega) (by omega)]
          dsimp only [cond]
          refine fe_s 2 (pc' := 72) (lc' := [(3, .int (nI i2)), (2, .int x2_2), (0, .ref 0), (1, .int 1)]) (stk' := [.int 1, .int 1]) (mem' := fm g tp bt a_2 b) (by intro _ _ _; eq_refl) ?_
          refine fe_s 1 (pc' := cond (fx_cb .le 1 1) 115 75) (lc' := [(3, .int (nI i2)), (2, .int x2_2), (0, .ref 0), (1, .int 1)]) (stk' := []) (mem' := fm g tp bt a_2 b) (by intro _ _ _; eq_refl) ?_
          rw [show (fx_cb .le 1 1) = true from by decide]
          dsimp only [cond]
          refine fe_s 1 (pc' := 116) (lc' := [(3, .int (nI i2)), (2, .int x2_2), (0, .ref 0), (1, .int 1)]) (stk' := [.int x2_2]) (mem' := fm g tp bt a_2 b) (by intro _ _ _; eq_refl) ?_
          exact fe_ret ⟨_, _, hD_2, rfl⟩ (by rfl) (by rfl) (by rfl)
      exact loop2 (NW) 0 (by omega) _ a_1 hD_1
    | succ r ih1 =>
      intro i1 hi1 x2_1 a_1 hD_1
      have hl1 : i1 < NC := by omega
      refine fe_s 4 (pc' := 10) (lc' := [(3, .int (nI i1)), (2, .int x2_1), (0, .ref 0), (1, .int 1)]) (stk' := [.int 0, .ref 1, .int (nI i1)]) (mem' := fm g tp bt a_1 b) (by intro _ _ _; eq_refl) ?_
      refine fe_ldI (by rfl) (by rfl) (fx_inN (i := 0) (by omega) (by omega)) ?_
      rw [show Int32.toNatClampNeg (0) = 0 from rfl]
      rw [show a_1 1 0 = nI NC from (fm_D_h hD_1 (by decide) rfl).trans eNC]
      refine fe_s 1 (pc' := cond (fx_cb .ge (nI i1) (nI NC)) 58 14) (lc' := [(3, .int (nI i1)), (2, .int x2_1), (0, .ref 0), (1, .int 1)]) (stk' := []) (mem' := fm g tp bt a_1 b) (by intro _ _ _; eq_refl) ?_
      rw [show (fx_cb .ge (nI i1) (nI NC)) = false from cb_geF (a := i1) (b := NC) (by omega) (by omega) (by omega)]
      dsimp only [cond]
      refine fe_s 2 (pc' := 16) (lc' := [(3, .int (nI i1)), (2, .int x2_1), (0, .ref 0), (1, .int 1)]) (stk' := [.int 2, .int 1]) (mem' := fm g tp bt a_1 b) (by intro _ _ _; eq_refl) ?_
      refine fe_s 1 (pc' := cond (fx_cb .ge 1 2) 58 19) (lc' := [(3, .int (nI i1)), (2, .int x2_1), (0, .ref 0), (1, .int 1)]) (stk' := []) (mem' := fm g tp bt a_1 b) (by intro _ _ _; eq_refl) ?_
      rw [show (fx_cb .ge 1 2) = false from by decide]
      dsimp only [cond]
      refine fe_s 2 (pc' := 21) (lc' := [(3, .int (nI i1)), (2, .int x2_1), (0, .ref 0), (1, .int 1)]) (stk' := [.int 1, .int x2_1]) (mem' := fm g tp bt a_1 b) (by intro _ _ _; eq_refl) ?_
      refine fe_s 1 (pc' := cond (fx_cb .ne 1 0) 35 24) (lc' := [(3, .int (nI i1)), (2, .int x2_1), (0, .ref 0), (1, .int 1)]) (stk' := [.int x2_1]) (mem' := fm g tp bt a_1 b) (by intro _ _ _; eq_refl) ?_
      rw [show (fx_cb .ne 1 0) = true from by decide]
      dsimp only [cond]
      refine fe_s 2 (pc' := 37) (lc' := [(3, .int (nI i1)), (2, .int x2_1), (0, .ref 0), (1, .int 1)]) (stk' := [.int (nI i1), .ref 0, .int x2_1]) (mem' := fm g tp bt a_1 b) (by intro _ _ _; eq_refl) ?_
      obtain ⟨v3, z4, hv3⟩ := fq_isBroken (C := i1) (g := g) (tp := tp) (bt := bt) (a := a_1) (b := b) (by omega)
      refine fe_ivV hv3 (by omega) (by rfl) (by rfl) (by rfl) (by rfl) (by rfl) (by rfl) ?_
      rcases z4 with rfl | rfl
      · refine fe_s 1 (pc' := cond (fx_cb .eq 0 0) 49 43) (lc' := [(3, .int (nI i1)), (2, .int x2_1), (0, .ref 0), (1, .int 1)]) (stk' := [.int x2_1]) (mem' := fm g tp bt a_1 b) (by intro _ _ _; eq_refl) ?_
        rw [show (fx_cb .eq 0 0) = true from by decide]
        dsimp only [cond]
        refine fe_s 5 (pc' := 4) (lc' := [(3, .int ((nI i1) + 1)), (2, .int (x2_1 ||| 0)), (0, .ref 0), (1, .int 1)]) (stk' := []) (mem' := fm g tp bt a_1 b) (by intro _ _ _; eq_refl) ?_
        rw [show ((nI i1) + 1 : Int32) = nI (i1 + 1) from by simp only [show (1 : Int32) = nI 1 from rfl, nI_add, fm_mul]]
        exact ih1 (i1 + 1) (by omega) _ a_1 hD_1
      · refine fe_s 1 (pc' := cond (fx_cb .eq 1 0) 49 43) (lc' := [(3, .int (nI i1)), (2, .int x2_1), (0, .ref 0), (1, .int 1)]) (stk' := [.int x2_1]) (mem' := fm g tp bt a_1 b) (by intro _ _ _; eq_refl) ?_
        rw [show (fx_cb .eq 1 0) = false from by decide]
        dsimp only [cond]
        refine fe_s 8 (pc' := 4) (lc' := [(3, .int ((nI i1) + 1)), (2, .int (x2_1 ||| ((1 : Int32) <<< ((nI i1) &&& 31)))), (0, .ref 0), (1, .int 1)]) (stk' := []) (mem' := fm g tp bt a_1 b) (by intro _ _ _; eq_refl) ?_
        rw [show ((nI i1) + 1 : Int32) = nI (i1 + 1) from by simp only [show (1 : Int32) = nI 1 from rfl, nI_add, fm_mul]]
        exact ih1 (i1 + 1) (by omega) _ a_1 hD_1
  exact loop1 (NC) 0 (by omega) _ a hD
end F4901_sets
end MH5_5
section MH5_6
/-! ===== fx: walking: a step of all ===== -/
section F4902_sets
variable {g : Nat → Int32} {tp bt : Int64} {a0 a : Nat → Nat → Int32} {b : Nat → Nat → Int64}
theorem fr_setOf2 {T : Nat} (hB : fm_B a0) (hD : fm_D a0 a T) : ∃ (v : Option Value) (mem' : fx_M), (fun R => ∃ (v : Int32) (a' : Nat → Nat → Int32), fm_D a0 a' T ∧ R = (some (.int v), fm g tp bt a' b)) (v, mem') ∧ fr_T 4 273 [.ref 0, .int 2] (fm g tp bt a b) v mem' := by
  obtain ⟨NC, hNC, eNC⟩ := fm_B_0 hB (i := 0) (n := 10) (by decide) rfl
  obtain ⟨NW, hNW, eNW⟩ := fm_B_0 hB (i := 1) (n := 8) (by decide) rfl
  have hT9 := hD.2.2.2.2.1
  refine fe_meth (F := fun R => ∃ (v : Int32) (a' : Nat → Nat → Int32), fm_D a0 a' T ∧ R = (some (.int v), fm g tp bt a' b)) (M := gk_m273) (by rfl) (by rfl) ?_
  refine fe_s 4 (pc' := 4) (lc' := [(3, .int 0), (2, .int 0), (0, .ref 0), (1, .int 2)]) (stk' := []) (mem' := fm g tp bt a b) (by intro _ _ _; eq_refl) ?_
  have loop1 : ∀ (r i1 : Nat), i1 + r = NC → ∀ (x2_1 : Int32), ∀ a_1 : Nat → Nat → Int32, fm_D a0 a_1 T → fe_R 3 gk_m273 4 [(3, .int (nI i1)), (2, .int x2_1), (0, .ref 0), (1, .int 2)] [] (fm g tp bt a_1 b) (fun R => ∃ (v : Int32) (a' : Nat → Nat → Int32), fm_D a0 a' T ∧ R = (some (.int v), fm g tp bt a' b)) := by
    intro r
    induction r with
    | zero =>
      intro i1 hi1 x2_1 a_1 hD_1
      obtain rfl : NC = i1 := by omega
      refine fe_s 4 (pc' := 10) (lc' := [(3, .int (nI NC)), (2, .int x2_1), (0, .ref 0), (1, .int 2)]) (stk' := [.int 0, .ref 1, .int (nI NC)]) (mem' := fm g tp bt a_1 b) (by intro _ _ _; eq_refl) ?_
      refine fe_ldI (by rfl) (by rfl) (fx_inN (i := 0) (by omega) (by omega)) ?_
      rw [show Int32.toNatClampNeg (0) = 0 from rfl]
      rw [show a_1 1 0 = nI NC from (fm_D_h hD_1 (by decide) rfl).trans eNC]
      refine fe_s 1 (pc' := cond (fx_cb .ge (nI NC) (nI NC)) 58 14) (lc' := [(3, .int (nI NC)), (2, .int x2_1), (0, .ref 0), (1, .int 2)]) (stk' := []) (mem' := fm g tp bt a_1 b) (by intro _ _ _; eq_refl) ?_
      rw [show (fx_cb .ge (nI NC) (nI NC)) = true from cb_geT (a := NC) (b := NC) (by omega) (by omega) (by omega)]
      dsimp only [cond]
      refine fe_s 2 (pc' := 60) (lc' := [(3, .int 0), (2, .int x2_1), (0, .ref 0), (1, .int 2)]) (stk' := []) (mem' := fm g tp bt a_1 b) (by intro _ _ _; eq_refl) ?_
      have loop2 : ∀ (r i2 : Nat), i2 + r = NW → ∀ (x2_2 : Int32), ∀ a_2 : Nat → Nat → Int32, fm_D a0 a_2 T → fe_R 3 gk_m273 60 [(3, .int (nI i2)), (2, .int x2_2), (0, .ref 0), (1, .int 2)] [] (fm g tp bt a_2 b) (fun R => ∃ (v : Int32) (a' : Nat → Nat → Int32), fm_D a0 a' T ∧ R = (some (.int v), fm g tp bt a' b)) := by
        intro r
        induction r with
        | zero =>
          intro i2 hi2 x2_2 a_2 hD_2
          obtain rfl : NW = i2 := by omega
          refine fe_s 4 (pc' := 66) (lc' := [(3, .int (nI NW)), (2, .int x2_2), (0, .ref 0), (1, .int 2)]) (stk' := [.int 1, .ref 1, .int (nI NW)]) (mem' := fm g tp bt a_2 b) (by intro _ _ _; eq_refl) ?_
          refine fe_ldI (by rfl) (by rfl) (fx_inN (i := 1) (by omega) (by omega)) ?_
          rw [show Int32.toNatClampNeg (1) = 1 from rfl]
          rw [show a_2 1 1 = nI NW from (fm_D_h hD_2 (by decide) rfl).trans eNW]
          refine fe_s 1 (pc' := cond (fx_cb .ge (nI NW) (nI NW)) 115 70) (lc' := [(3, .int (nI NW)), (2, .int x2_2), (0, .ref 0), (1, .int 2)]) (stk' := []) (mem' := fm g tp bt a_2 b) (by intro _ _ _; eq_refl) ?_
          rw [show (fx_cb .ge (nI NW) (nI NW)) = true from cb_geT (a := NW) (b := NW) (by omega) (by omega) (by omega)]
          dsimp only [cond]
          refine fe_s 1 (pc' := 116) (lc' := [(3, .int (nI NW)), (2, .int x2_2), (0, .ref 0), (1, .int 2)]) (stk' := [.int x2_2]) (mem' := fm g tp bt a_2 b) (by intro _ _ _; eq_refl) ?_
          exact fe_ret ⟨_, _, hD_2, rfl⟩ (by rfl) (by rfl) (by rfl)
        | succ r ih2 =>
          intro i2 hi2 x2_2 a_2 hD_2
          have hl2 : i2 < NW := by omega
          refine fe_s 4 (pc' := 66) (lc' := [(3, .int (nI i2)), (2, .int x2_2), (0, .ref 0), (1, .int 2)]) (stk' := [.int 1, .ref 1, .int (nI i2)]) (mem' := fm g tp bt a_2 b) (by intro _ _ _; eq_refl) ?_
          refine fe_ldI (by rfl) (by rfl) (fx_inN (i := 1) (by omega) (by omega)) ?_
          rw [show Int32.toNatClampNeg (1) = 1 from rfl]
          rw [show a_2 1 1 = nI NW from (fm_D_h hD_2 (by decide) rfl).trans eNW]
          refine fe_s 1 (pc' := cond (fx_cb .ge (nI i2) (nI NW)) 115 70) (lc' := [(3, .int (nI i2)), (2, .int x2_2), (0, .ref 0), (1, .int 2)]) (stk' := []) (mem' := fm g tp bt a_2 b) (by intro _ _ _; eq_refl) ?_
          rw [show (fx_cb .ge (nI i2) (nI NW)) = false from cb_geF (a := i2) (b := NW) (by omega) (by omega) (by omega)]
          dsimp only [cond]
          refine fe_s 2 (pc' := 72) (lc' := [(3, .int (nI i2)), (2, .int x2_2), (0, .ref 0), (1, .int 2)]) (stk' := [.int 1, .int 2]) (mem' := fm g tp bt a_2 b) (by intro _ _ _; eq_refl) ?_
          refine fe_s 1 (pc' := cond (fx_cb .le 2 1) 115 75) (lc' := [(3, .int (nI i2)), (2, .int x2_2), (0, .ref 0), (1, .int 2)]) (stk' := []) (mem' := fm g tp bt a_2 b) (by intro _ _ _; eq_refl) ?_
          rw [show (fx_cb .le 2 1) = false from by decide]
          dsimp only [cond]
          refine fe_s 3 (pc' := 78) (lc' := [(3, .int (nI i2)), (2, .int x2_2), (0, .ref 0), (1, .int 2)]) (stk' := [.int 2, .int 2, .int x2_2]) (mem' := fm g tp bt a_2 b) (by intro _ _ _; eq_refl) ?_
          refine fe_s 1 (pc' := cond (fx_cb .ne 2 2) 92 81) (lc' := [(3, .int (nI i2)), (2, .int x2_2), (0, .ref 0), (1, .int 2)]) (stk' := [.int x2_2]) (mem' := fm g tp bt a_2 b) (by intro _ _ _; eq_refl) ?_
          rw [show (fx_cb .ne 2 2) = false from by decide]
          dsimp only [cond]
          refine fe_s 2 (pc' := 83) (lc' := [(3, .int (nI i2)), (2, .int x2_2), (0, .ref 0), (1, .int 2)]) (stk' := [.int (nI i2), .ref 0, .int x2_2]) (mem' := fm g tp bt a_2 b) (by intro _ _ _; eq_refl) ?_
          obtain ⟨v3, z4, hv3⟩ := fq_isWet (V := i2) (g := g) (tp := tp) (bt := bt) (a := a_2) (b := b) (by omega)
          refine fe_ivV hv3 (by omega) (by rfl) (by rfl) (by rfl) (by rfl) (by rfl) (by rfl) ?_
          rcases z4 with rfl | rfl
          · refine fe_s 1 (pc' := cond (fx_cb .eq 0 0) 106 89) (lc' := [(3, .int (nI i2)), (2, .int x2_2), (0, .ref 0), (1, .int 2)]) (stk' := [.int x2_2]) (mem' := fm g tp bt a_2 b) (by intro _ _ _; eq_refl) ?_
            rw [show (fx_cb .eq 0 0) = true from by decide]
            dsimp only [cond]
            refine fe_s 5 (pc' := 60) (lc' := [(3, .int ((nI i2) + 1)), (2, .int (x2_2 ||| 0)), (0, .ref 0), (1, .int 2)]) (stk' := []) (mem' := fm g tp bt a_2 b) (by intro _ _ _; eq_refl) ?_
            rw [show ((nI i2) + 1 : Int32) = nI (i2 + 1) from by simp only [show (1 : Int32) = nI 1 from rfl, nI_add, fm_mul]]
            exact ih2 (i2 + 1) (by omega) _ a_2 hD_2
          · refine fe_s 1 (pc' := cond (fx_cb .eq 1 0) 106 89) (lc' := [(3, .int (nI i2)), (2, .int x2_2), (0, .ref 0), (1, .int 2)]) (stk' := [.int x2_2]) (mem' := fm g tp bt a_2 b) (by intro _ _ _; eq_refl) ?_
            rw [show (fx_cb .eq 1 0) = false from by decide]
            dsimp only [cond]
            refine fe_s 9 (pc' := 60) (lc' := [(3, .int ((nI i2) + 1)), (2, .int (x2_2 ||| ((1 : Int32) <<< ((nI i2) &&& 31)))), (0, .ref 0), (1, .int 2)]) (stk' := []) (mem' := fm g tp bt a_2 b) (by intro _ _ _; eq_refl) ?_
            rw [show ((nI i2) + 1 : Int32) = nI (i2 + 1) from by simp only [show (1 : Int32) = nI 1 from rfl, nI_add, fm_mul]]
            exact ih2 (i2 + 1) (by omega) _ a_2 hD_2
      exact loop2 (NW) 0 (by omega) _ a_1 hD_1
    | succ r ih1 =>
      intro i1 hi1 x2_1 a_1 hD_1
      have hl1 : i1 < NC := by omega
      refine fe_s 4 (pc' := 10) (lc' := [(3, .int (nI i1)), (2, .int x2_1), (0, .ref 0), (1, .int 2)]) (stk' := [.int 0, .ref 1, .int (nI i1)]) (mem' := fm g tp bt a_1 b) (by intro _ _ _; eq_refl) ?_
      refine fe_ldI (by rfl) (by rfl) (fx_inN (i := 0) (by omega) (by omega)) ?_
      rw [show Int32.toNatClampNeg (0) = 0 from rfl]
      rw [show a_1 1 0 = nI NC from (fm_D_h hD_1 (by decide) rfl).trans eNC]
      refine fe_s 1 (pc' := cond (fx_cb .ge (nI i1) (nI NC)) 58 14) (lc' := [(3, .int (nI i1)), (2, .int x2_1), (0, .ref 0), (1, .int 2)]) (stk' := []) (mem' := fm g tp bt a_1 b) (by intro _ _ _; eq_refl) ?_
      rw [show (fx_cb .ge (nI i1) (nI NC)) = false from cb_geF (a := i1) (b := NC) (by omega) (by omega) (by omega)]
      dsimp only [cond]
      refine fe_s 2 (pc' := 16) (lc' := [(3, .int (nI i1)), (2, .int x2_1), (0, .ref 0), (1, .int 2)]) (stk' := [.int 2, .int 2]) (mem' := fm g tp bt a_1 b) (by intro _ _ _; eq_refl) ?_
      refine fe_s 1 (pc' := cond (fx_cb .ge 2 2) 58 19) (lc' := [(3, .int (nI i1)), (2, .int x2_1), (0, .ref 0), (1, .int 2)]) (stk' := []) (mem' := fm g tp bt a_1 b) (by intro _ _ _; eq_refl) ?_
      rw [show (fx_cb .ge 2 2) = true from by decide]
      dsimp only [cond]
      refine fe_s 2 (pc' := 60) (lc' := [(3, .int 0), (2, .int x2_1), (0, .ref 0), (1, .int 2)]) (stk' := []) (mem' := fm g tp bt a_1 b) (by intro _ _ _; eq_refl) ?_
      have loop5 : ∀ (r i5 : Nat), i5 + r = NW → ∀ (x2_5 : Int32), ∀ a_5 : Nat → Nat → Int32, fm_D a0 a_5 T → fe_R 3 gk_m273 60 [(3, .int (nI i5)), (2, .int x2_5), (0, .ref 0), (1, .int 2)] [] (fm g tp bt a_5 b) (fun R => ∃ (v : Int32) (a' : Nat → Nat → Int32), fm_D a0 a' T ∧ R = (some (.int v), fm g tp bt a' b)) := by
        intro r
        induction r with
        | zero =>
          intro i5 hi5 x2_5 a_5 hD_5
          obtain rfl : NW = i5 := by omega
          refine fe_s 4 (pc' := 66) (lc' := [(3, .int (nI NW)), (2, .int x2_5), (0, .ref 0), (1, .int 2)]) (stk' := [.int 1, .ref 1, .int (nI NW)]) (mem' := fm g tp bt a_5 b) (by intro _ _ _; eq_refl) ?_
          refine fe_ldI (by rfl) (by rfl) (fx_inN (i := 1) (by omega) (by omega)) ?_
          rw [show Int32.toNatClampNeg (1) = 1 from rfl]
          rw [show a_5 1 1 = nI NW from (fm_D_h hD_5 (by decide) rfl).trans eNW]
          refine fe_s 1 (pc' := cond (fx_cb .ge (nI NW) (nI NW)) 115 70) (lc' := [(3, .int (nI NW)), (2, .int x2_5), (0, .ref 0), (1, .int 2)]) (stk' := []) (mem' := fm g tp bt a_5 b) (by intro _ _ _; eq_refl) ?_
          rw [show (fx_cb .ge (nI NW) (nI NW)) = true from cb_geT (a := NW) (b := NW) (by omega) (by omega) (by omega)]
          dsimp only [cond]
          refine fe_s 1 (pc' := 116) (lc' := [(3, .int (nI NW)), (2, .int x2_5), (0, .ref 0), (1, .int 2)]) (stk' := [.int x2_5]) (mem' := fm g tp bt a_5 b) (by intro _ _ _; eq_refl) ?_
          exact fe_ret ⟨_, _, hD_5, rfl⟩ (by rfl) (by rfl) (by rfl)
        | succ r ih5 =>
          intro i5 hi5 x2_5 a_5 hD_5
          have hl5 : i5 < NW := by omega
          refine fe_s 4 (pc' := 66) (lc' := [(3, .int (nI i5)), (2, .int x2_5), (0, .ref 0), (1, .int 2)]) (stk' := [.int 1, .ref 1, .int (nI i5)]) (mem' := fm g tp bt a_5 b) (by intro _ _ _; eq_refl) ?_
          refine fe_ldI (by rfl) (by rfl) (fx_inN (i := 1) (by omega) (by omega)) ?_
          rw [show Int32.toNatClampNeg (1) = 1 from rfl]
          rw [show a_5 1 1 = nI NW from (fm_D_h hD_5 (by decide) rfl).trans eNW]
          refine fe_s 1 (pc' := cond (fx_cb .ge (nI i5) (nI NW)) 115 70) (lc' := [(3, .int (nI i5)), (2, .int x2_5), (0, .ref 0), (1, .int 2)]) (stk' := []) (mem' := fm g tp bt a_5 b) (by intro _ _ _; eq_refl) ?_
          rw [show (fx_cb .ge (nI i5) (nI NW)) = false from cb_geF (a := i5) (b := NW) (by omega) (by omega) (by omega)]
          dsimp only [cond]
          refine fe_s 2 (pc' := 72) (lc' := [(3, .int (nI i5)), (2, .int x2_5), (0, .ref 0), (1, .int 2)]) (stk' := [.int 1, .int 2]) (mem' := fm g tp bt a_5 b) (by intro _ _ _; eq_refl) ?_
          refine fe_s 1 (pc' := cond (fx_cb .le 2 1) 115 75) (lc' := [(3, .int (nI i5)), (2, .int x2_5), (0, .ref 0), (1, .int 2)]) (stk' := []) (mem' := fm g tp bt a_5 b) (by intro _ _ _; eq_refl) ?_
          rw [show (fx_cb .le 2 1) = false from by decide]
          dsimp only [cond]
          refine fe_s 3 (pc' := 78) (lc' := [(3, .int (nI i5)), (2, .int x2_5), (0, .ref 0), (1, .int 2)]) (stk' := [.int 2, .int 2, .int x2_5]) (mem' := fm g tp bt a_5 b) (by intro _ _ _; eq_refl) ?_
          refine fe_s 1 (pc' := cond (fx_cb .ne 2 2) 92 81) (lc' := [(3, .int (nI i5)), (2, .int x2_5), (0, .ref 0), (1, .int 2)]) (stk' := [.int x2_5]) (mem' := fm g tp bt a_5 b) (by intro _ _ _; eq_refl) ?_
          rw [show (fx_cb .ne 2 2) = false from by decide]
          dsimp only [cond]
          refine fe_s 2 (pc' := 83) (lc' := [(3, .int (nI i5)), (2, .int x2_5), (0, .ref 0), (1, .int 2)]) (stk' := [.int (nI i5), .ref 0, .int x2_5]) (mem' := fm g tp bt a_5 b) (by intro _ _ _; eq_refl) ?_
          obtain ⟨v6, z7, hv6⟩ := fq_isWet (V := i5) (g := g) (tp := tp) (bt := bt) (a := a_5) (b := b) (by omega)
          refine fe_ivV hv6 (by omega) (by rfl) (by rfl) (by rfl) (by rfl) (by rfl) (by rfl) ?_
          rcases z7 with rfl | rfl
          · refine fe_s 1 (pc' := cond (fx_cb .eq 0 0) 106 89) (lc' := [(3, .int (nI i5)), (2, .int x2_5), (0, .ref 0), (1, .int 2)]) (stk' := [.int x2_5]) (mem' := fm g tp bt a_5 b) (by intro _ _ _; eq_refl) ?_
            rw [show (fx_cb .eq 0 0) = true from by decide]
            dsimp only [cond]
            refine fe_s 5 (pc' := 60) (lc' := [(3, .int ((nI i5) + 1)), (2, .int (x2_5 ||| 0)), (0, .ref 0), (1, .int 2)]) (stk' := []) (mem' := fm g tp bt a_5 b) (by intro _ _ _; eq_refl) ?_
            rw [show ((nI i5) + 1 : Int32) = nI (i5 + 1) from by simp only [show (1 : Int32) = nI 1 from rfl, nI_add, fm_mul]]
            exact ih5 (i5 + 1) (by omega) _ a_5 hD_5
          · refine fe_s 1 (pc' := cond (fx_cb .eq 1 0) 106 89) (lc' := [(3, .int (nI i5)), (2, .int x2_5), (0, .ref 0), (1, .int 2)]) (stk' := [.int x2_5]) (mem' := fm g tp bt a_5 b) (by intro _ _ _; eq_refl) ?_
            rw [show (fx_cb .eq 1 0) = false from by decide]
            dsimp only [cond]
            refine fe_s 9 (pc' := 60) (lc' := [(3, .int ((nI i5) + 1)), (2, .int (x2_5 ||| ((1 : Int32) <<< ((nI i5) &&& 31)))), (0, .ref 0), (1, .int 2)]) (stk' := []) (mem' := fm g tp bt a_5 b) (by intro _ _ _; eq_refl) ?_
            rw [show ((nI i5) + 1 : Int32) = nI (i5 + 1) from by simp only [show (1 : Int32) = nI 1 from rfl, nI_add, fm_mul]]
            exact ih5 (i5 + 1) (by omega) _ a_5 hD_5
      exact loop5 (NW) 0 (by omega) _ a_1 hD_1
  exact loop1 (NC) 0 (by omega) _ a hD
theorem fr_setOf3 {T : Nat} (hB : fm_B a0) (hD : fm_D a0 a T) : ∃ (v : Option Value) (mem' : fx_M), (fun R => ∃ (v : Int32) (a' : Nat → Nat → Int32), fm_D a0 a' T ∧ R = (some (.int v), fm g tp bt a' b)) (v, mem') ∧ fr_T 4 273 [.ref 0, .int 3] (fm g tp bt a b) v mem' := by
  obtain ⟨NC, hNC, eNC⟩ := fm_B_0 hB (i := 0) (n := 10) (by decide) rfl
  obtain ⟨NW, hNW, eNW⟩ := fm_B_0 hB (i := 1) (n := 8) (by decide) rfl
  have hT9 := hD.2.2.2.2.1
  refine fe_meth (F := fun R => ∃ (v : Int32) (a' : Nat → Nat → Int32), fm_D a0 a' T ∧ R = (some (.int v), fm g tp bt a' b)) (M := gk_m273) (by rfl) (by rfl) ?_
  refine fe_s 4 (pc' := 4) (lc' := [(3, .int 0), (2, .int 0), (0, .ref 0), (1, .int 3)]) (stk' := []) (mem' := fm g tp bt a b) (by intro _ _ _; eq_refl) ?_
  have loop1 : ∀ (r i1 : Nat), i1 + r = NC → ∀ (x2_1 : Int32), ∀ a_1 : Nat → Nat → Int32, fm_D a0 a_1 T → fe_R 3 gk_m273 4 [(3, .int (nI i1)), (2, .int x2_1), (0, .ref 0), (1, .int 3)] [] (fm g tp bt a_1 b) (fun R => ∃ (v : Int32) (a' : Nat → Nat → Int32), fm_D a0 a' T ∧ R = (some (.int v), fm g tp bt a' b)) := by
    intro r
    induction r with
    | zero =>
      intro i1 hi1 x2_1 a_1 hD_1
      obtain rfl : NC = i1 := by omega
      refine fe_s 4 (pc' := 10) (lc' := [(3, .int (nI NC)), (2, .int x2_1), (0, .ref 0), (1, .int 3)]) (stk' := [.int 0, .ref 1, .int (nI NC)]) (mem' := fm g tp bt a_1 b) (by intro _ _ _; eq_refl) ?_
      refine fe_ldI (by rfl) (by rfl) (fx_inN (i := 0) (by omega) (by omega)) ?_
      rw [show Int32.toNatClampNeg (0) = 0 from rfl]
      rw [show a_1 1 0 = nI NC from (fm_D_h hD_1 (by decide) rfl).trans eNC]
      refine fe_s 1 (pc' := cond (fx_cb .ge (nI NC) (nI NC)) 58 14) (lc' := [(3, .int (nI NC)), (2, .int x2_1), (0, .ref 0), (1, .int 3)]) (stk' := []) (mem' := fm g tp bt a_1 b) (by intro _ _ _; eq_refl) ?_
      rw [show (fx_cb .ge (nI NC) (nI NC)) = true from cb_geT (a := NC) (b := NC) (by omega) (by omega) (by omega)]
      dsimp only [cond]
      refine fe_s 2 (pc' := 60) (lc' := [(3, .int 0), (2, .int x2_1), (0, .ref 0), (1, .int 3)]) (stk' := []) (mem' := fm g tp bt a_1 b) (by intro _ _ _; eq_refl) ?_
      have loop2 : ∀ (r i2 : Nat), i2 + r = NW → ∀ (x2_2 : Int32), ∀ a_2 : Nat → Nat → Int32, fm_D a0 a_2 T → fe_R 3 gk_m273 60 [(3, .int (nI i2)), (2, .int x2_2), (0, .ref 0), (1, .int 3)] [] (fm g tp bt a_2 b) (fun R => ∃ (v : Int32) (a' : Nat → Nat → Int32), fm_D a0 a' T ∧ R = (some (.int v), fm g tp bt a' b)) := by
        intro r
        induction r with
        | zero =>
          intro i2 hi2 x2_2 a_2 hD_2
          obtain rfl : NW = i2 := by omega
          refine fe_s 4 (pc' := 66) (lc' := [(3, .int (nI NW)), (2, .int x2_2), (0, .ref 0), (1, .int 3)]) (stk' := [.int 1, .ref 1, .int (nI NW)]) (mem' := fm g tp bt a_2 b) (by intro _ _ _; eq_refl) ?_
          refine fe_ldI (by rfl) (by rfl) (fx_inN (i := 1) (by omega) (by omega)) ?_
          rw [show Int32.toNatClampNeg (1) = 1 from rfl]
          rw [show a_2 1 1 = nI NW from (fm_D_h hD_2 (by decide) rfl).trans eNW]
          refine fe_s 1 (pc' := cond (fx_cb .ge (nI NW) (nI NW)) 115 70) (lc' := [(3, .int (nI NW)), (2, .int x2_2), (0, .ref 0), (1, .int 3)]) (stk' := []) (mem' := fm g tp bt a_2 b) (by intro _ _ _; eq_refl) ?_
          rw [show (fx_cb .ge (nI NW) (nI NW)) = true from cb_geT (a := NW) (b := NW) (by omega) (by omega) (by omega)]
          dsimp only [cond]
          refine fe_s 1 (pc' := 116) (lc' := [(3, .int (nI NW)), (2, .int x2_2), (0, .ref 0), (1, .int 3)]) (stk' := [.int x2_2]) (mem' := fm g tp bt a_2 b) (by intro _ _ _; eq_refl) ?_
          exact fe_ret ⟨_, _, hD_2, rfl⟩ (by rfl) (by rfl) (by rfl)
        | succ r ih2 =>
          intro i2 hi2 x2_2 a_2 hD_2
          have hl2 : i2 < NW := by omega
          refine fe_s 4 (pc' := 66) (lc' := [(3, .int (nI i2)), (2, .int x2_2), (0, .ref 0), (1, .int 3)]) (stk' := [.int 1, .ref 1, .int (nI i2)]) (mem' := fm g tp bt a_2 b) (by intro _ _ _; eq_refl) ?_
          refine fe_ldI (by rfl) (by rfl) (fx_inN (i := 1) (by omega) (by omega)) ?_
          rw [show Int32.toNatClampNeg (1) = 1 from rfl]
          rw [show a_2 1 1 = nI NW from (fm_D_h hD_2 (by decide) rfl).trans eNW]
          refine fe_s 1 (pc' := cond (fx_cb .ge (nI i2) (nI NW)) 115 70) (lc' := [(3, .int (nI i2)), (2, .int x2_2), (0, .ref 0), (1, .int 3)]) (stk' := []) (mem' := fm g tp bt a_2 b) (by intro _ _ _; eq_refl) ?_
          rw [show (fx_cb .ge (nI i2) (nI NW)) = false from cb_geF (a := i2) (b := NW) (by omega) (by omega) (by omega)]
          dsimp only [cond]
          refine fe_s 2 (pc' := 72) (lc' := [(3, .int (nI i2)), (2, .int x2_2), (0, .ref 0), (1, .int 3)]) (stk' := [.int 1, .int 3]) (mem' := fm g tp bt a_2 b) (by intro _ _ _; eq_refl) ?_
          refine fe_s 1 (pc' := cond (fx_cb .le 3 1) 115 75) (lc' := [(3, .int (nI i2)), (2, .int x2_2), (0, .ref 0), (1, .int 3)]) (stk' := []) (mem' := fm g tp bt a_2 b) (by intro _ _ _; eq_refl) ?_
          rw [show (fx_cb .le 3 1) = false from by decide]
          dsimp only [cond]
          refine fe_s 3 (pc' := 78) (lc' := [(3, .int (nI i2)), (2, .int x2_2), (0, .ref 0), (1, .int 3)]) (stk' := [.int 2, .int 3, .int x2_2]) (mem' := fm g tp bt a_2 b) (by intro _ _ _; eq_refl) ?_
          refine fe_s 1 (pc' := cond (fx_cb .ne 3 2) 92 81) (lc' := [(3, .int (nI i2)), (2, .int x2_2), (0, .ref 0), (1, .int 3)]) (stk' := [.int x2_2]) (mem' := fm g tp bt a_2 b) (by intro _ _ _; eq_refl) ?_
          rw [show (fx_cb .ne 3 2) = true from by decide]
          dsimp only [cond]
          refine fe_s 2 (pc' := 94) (lc' := [(3, .int (nI i2)), (2, .int x2_2), (0, .ref 0), (1, .int 3)]) (stk' := [.int (nI i2), .ref 0, .int x2_2]) (mem' := fm g tp bt a_2 b) (by intro _ _ _; eq_refl) ?_
          refine fe_ivV (fr_leftOfX (V := i2) (g := g) (tp := tp) (bt := bt) (a := a_2) (b := b) (by omega)) (by omega) (by rfl) (by rfl) (by rfl) (by rfl) (by rfl) (by rfl) ?_
          obtain ⟨l3, hl3, el3⟩ := fm_D_w3 hD_2 (W := i2) (by omega)
          rw [el3]
          refine fe_s 1 (pc' := cond (fx_cb .le (nI l3) 0) 106 100) (lc' := [(3, .int (nI i2)), (2, .int x2_2), (0, .ref 0), (1, .int 3)]) (stk' := [.int x2_2]) (mem' := fm g tp bt a_2 b) (by intro _ _ _; eq_refl) ?_
          by_cases h4 : l3 ≤ 0
          · rw [show (fx_cb .le (nI l3) 0) = true from cb_leT (a := l3) (b := 0) (by omega) (by omega) (by omega)]
            dsimp only [cond]
            refine fe_s 5 (pc' := 60) (lc' := [(3, .int ((nI i2) + 1)), (2, .int (x2_2 ||| 0)), (0, .ref 0), (1, .int 3)]) (stk' := []) (mem' := fm g tp bt a_2 b) (by intro _ _ _; eq_refl) ?_
            rw [show ((nI i2) + 1 : Int32) = nI (i2 + 1) from by simp only [show (1 : Int32) = nI 1 from rfl, nI_add, fm_mul]]
            exact ih2 (i2 + 1) (by omega) _ a_2 hD_2
          · rw [show (fx_cb .le (nI l3) 0) = false from cb_leF (a := l3) (b := 0) (by omega) (by omega) (by omega)]
            dsimp only [cond]
            refine fe_s 8 (pc' := 60) (lc' := [(3, .int ((nI i2) + 1)), (2, .int (x2_2 ||| ((1 : Int32) <<< ((nI i2) &&& 31)))), (0, .ref 0), (1, .int 3)]) (stk' := []) (mem' := fm g tp bt a_2 b) (by intro _ _ _; eq_refl) ?_
            rw [show ((nI i2) + 1 : Int32) = nI (i2 + 1) from by simp only [show (1 : Int32) = nI 1 from rfl, nI_add, fm_mul]]
            exact ih2 (i2 + 1) (by omega) _ a_2 hD_2
      exact loop2 (NW) 0 (by omega) _ a_1 hD_1
    | succ r ih1 =>
      intro i1 hi1 x2_1 a_1 hD_1
      have hl1 : i1 < NC := by omega
      refine fe_s 4 (pc' := 10) (lc' := [(3, .int (nI i1)), (2, .int x2_1), (0, .ref 0), (1, .int 3)]) (stk' := [.int 0, .ref 1, .int (nI i1)]) (mem' := fm g tp bt a_1 b) (by intro _ _ _; eq_refl) ?_
      refine fe_ldI (by rfl) (by rfl) (fx_inN (i := 0) (by omega) (by omega)) ?_
      rw [show Int32.toNatClampNeg (0) = 0 from rfl]
      rw [show a_1 1 0 = nI NC from (fm_D_h hD_1 (by decide) rfl).trans eNC]
      refine fe_s 1 (pc' := cond (fx_cb .ge (nI i1) (nI NC)) 58 14) (lc' := [(3, .int (nI i1)), (2, .int x2_1), (0, .ref 0), (1, .int 3)]) (stk' := []) (mem' := fm g tp bt a_1 b) (by intro _ _ _; eq_refl) ?_
      rw [show (fx_cb .ge (nI i1) (nI NC)) = false from cb_geF (a := i1) (b := NC) (by omega) (by omega) (by omega)]
      dsimp only [cond]
      refine fe_s 2 (pc' := 16) (lc' := [(3, .int (nI i1)), (2, .int x2_1), (0, .ref 0), (1, .int 3)]) (stk' := [.int 2, .int 3]) (mem' := fm g tp bt a_1 b) (by intro _ _ _; eq_refl) ?_
      refine fe_s 1 (pc' := cond (fx_cb .ge 3 2) 58 19) (lc' := [(3, .int (nI i1)), (2, .int x2_1), (0, .ref 0), (1, .int 3)]) (stk' := []) (mem' := fm g tp bt a_1 b) (by intro _ _ _; eq_refl) ?_
      rw [show (fx_cb .ge 3 2) = true from by decide]
      dsimp only [cond]
      refine fe_s 2 (pc' := 60) (lc' := [(3, .int 0), (2, .int x2_1), (0, .ref 0), (1, .int 3)]) (stk' := []) (mem' := fm g tp bt a_1 b) (by intro _ _ _; eq_refl) ?_
      have loop5 : ∀ (r i5 : Nat), i5 + r = NW → ∀ (x2_5 : Int32), ∀ a_5 : Nat → Nat → Int32, fm_D a0 a_5 T → fe_R 3 gk_m273 60 [(3, .int (nI i5)), (2, .int x2_5), (0, .ref 0), (1, .int 3)] [] (fm g tp bt a_5 b) (fun R => ∃ (v : Int32) (a' : Nat → Nat → Int32), fm_D a0 a' T ∧ R = (some (.int v), fm g tp bt a' b)) := by
        intro r
        induction r with
        | zero =>
          intro i5 hi5 x2_5 a_5 hD_5
          obtain rfl : NW = i5 := by omega
          refine fe_s 4 (pc' := 66) (lc' := [(3, .int (nI NW)), (2, .int x2_5), (0, .ref 0), (1, .int 3)]) (stk' := [.int 1, .ref 1, .int (nI NW)]) (mem' := fm g tp bt a_5 b) (by intro _ _ _; eq_refl) ?_
          refine fe_ldI (by rfl) (by rfl) (fx_inN (i := 1) (by omega) (by omega)) ?_
          rw [show Int32.toNatClampNeg (1) = 1 from rfl]
          rw [show a_5 1 1 = nI NW from (fm_D_h hD_5 (by decide) rfl).trans eNW]
          refine fe_s 1 (pc' := cond (fx_cb .ge (nI NW) (nI NW)) 115 70) (lc' := [(3, .int (nI NW)), (2, .int x2_5), (0, .ref 0), (1, .int 3)]) (stk' := []) (mem' := fm g tp bt a_5 b) (by intro _ _ _; eq_refl) ?_
          rw [show (fx_cb .ge (nI NW) (nI NW)) = true from cb_geT (a := NW) (b := NW) (by omega) (by omega) (by omega)]
          dsimp only [cond]
          refine fe_s 1 (pc' := 116) (lc' := [(3, .int (nI NW)), (2, .int x2_5), (0, .ref 0), (1, .int 3)]) (stk' := [.int x2_5]) (mem' := fm g tp bt a_5 b) (by intro _ _ _; eq_refl) ?_
          exact fe_ret ⟨_, _, hD_5, rfl⟩ (by rfl) (by rfl) (by rfl)
        | succ r ih5 =>
          intro i5 hi5 x2_5 a_5 hD_5
          have hl5 : i5 < NW := by omega
          refine fe_s 4 (pc' := 66) (lc' := [(3, .int (nI i5)), (2, .int x2_5), (0, .ref 0), (1, .int 3)]) (stk' := [.int 1, .ref 1, .int (nI i5)]) (mem' := fm g tp bt a_5 b) (by intro _ _ _; eq_refl) ?_
          refine fe_ldI (by rfl) (by rfl) (fx_inN (i := 1) (by omega) (by omega)) ?_
          rw [show Int32.toNatClampNeg (1) = 1 from rfl]
          rw [show a_5 1 1 = nI NW from (fm_D_h hD_5 (by decide) rfl).trans eNW]
          refine fe_s 1 (pc' := cond (fx_cb .ge (nI i5) (nI NW)) 115 70) (lc' := [(3, .int (nI i5)), (2, .int x2_5), (0, .ref 0), (1, .int 3)]) (stk' := []) (mem' := fm g tp bt a_5 b) (by intro _ _ _; eq_refl) ?_
          rw [show (fx_cb .ge (nI i5) (nI NW)) = false from cb_geF (a := i5) (b := NW) (by omega) (by omega) (by omega)]
          dsimp only [cond]
          refine fe_s 2 (pc' := 72) (lc' := [(3, .int (nI i5)), (2, .int x2_5), (0, .ref 0), (1, .int 3)]) (stk' := [.int 1, .int 3]) (mem' := fm g tp bt a_5 b) (by intro _ _ _; eq_refl) ?_
          refine fe_s 1 (pc' := cond (fx_cb .le 3 1) 115 75) (lc' := [(3, .int (nI i5)), (2, .int x2_5), (0, .ref 0), (1, .int 3)]) (stk' := []) (mem' := fm g tp bt a_5 b) (by intro _ _ _; eq_refl) ?_
          rw [show (fx_cb .le 3 1) = false from by decide]
          dsimp only [cond]
          refine fe_s 3 (pc' := 78) (lc' := [(3, .int (nI i5)), (2, .int x2_5), (0, .ref 0), (1, .int 3)]) (stk' := [.int 2, .int 3, .int x2_5]) (mem' := fm g tp bt a_5 b) (by intro _ _ _; eq_refl) ?_
          refine fe_s 1 (pc' := cond (fx_cb .ne 3 2) 92 81) (lc' := [(3, .int (nI i5)), (2, .int x2_5), (0, .ref 0), (1, .int 3)]) (stk' := [.int x2_5]) (mem' := fm g tp bt a_5 b) (by intro _ _ _; eq_refl) ?_
          rw [show (fx_cb .ne 3 2) = true from by decide]
          dsimp only [cond]
          refine fe_s 2 (pc' := 94) (lc' := [(3, .int (nI i5)), (2, .int x2_5), (0, .ref 0), (1, .int 3)]) (stk' := [.int (nI i5), .ref 0, .int x2_5]) (mem' := fm g tp bt a_5 b) (by intro _ _ _; eq_refl) ?_
          refine fe_ivV (fr_leftOfX (V := i5) (g := g) (tp := tp) (bt := bt) (a := a_5) (b := b) (by omega)) (by omega) (by rfl) (by rfl) (by rfl) (by rfl) (by rfl) (by rfl) ?_
          obtain ⟨l6, hl6, el6⟩ := fm_D_w3 hD_5 (W := i5) (by omega)
          rw [el6]
          refine fe_s 1 (pc' := cond (fx_cb .le (nI l6) 0) 106 100) (lc' := [(3, .int (nI i5)), (2, .int x2_5), (0, .ref 0), (1, .int 3)]) (stk' := [.int x2_5]) (mem' := fm g tp bt a_5 b) (by intro _ _ _; eq_refl) ?_
          by_cases h7 : l6 ≤ 0
          · rw [show (fx_cb .le (nI l6) 0) = true from cb_leT (a := l6) (b := 0) (by omega) (by omega) (by omega)]
            dsimp only [cond]
            refine fe_s 5 (pc' := 60) (lc' := [(3, .int ((nI i5) + 1)), (2, .int (x2_5 ||| 0)), (0, .ref 0), (1, .int 3)]) (stk' := []) (mem' := fm g tp bt a_5 b) (by intro _ _ _; eq_refl) ?_
            rw [show ((nI i5) + 1 : Int32) = nI (i5 + 1) from by simp only [show (1 : Int32) = nI 1 from rfl, nI_add, fm_mul]]
            exact ih5 (i5 + 1) (by omega) _ a_5 hD_5
          · rw [show (fx_cb .le (nI l6) 0) = false from cb_leF (a := l6) (b := 0) (by omega) (by omega) (by omega)]
            dsimp only [cond]
            refine fe_s 8 (pc' := 60) (lc' := [(3, .int ((nI i5) + 1)), (2, .int (x2_5 ||| ((1 : Int32) <<< ((nI i5) &&& 31)))), (0, .ref 0), (1, .int 3)]) (stk' := []) (mem' := fm g tp bt a_5 b) (by intro _ _ _; eq_refl) ?_
            rw [show ((nI i5) + 1 : Int32) = nI (i5 + 1) from by simp only [show (1 : Int32) = nI 1 from rfl, nI_add, fm_mul]]
            exact ih5 (i5 + 1) (by omega) _ a_5 hD_5
      exact loop5 (NW) 0 (by omega) _ a_1 hD_1
  exact loop1 (NC) 0 (by omega) _ a hD
end F4902_sets
end MH5_6
