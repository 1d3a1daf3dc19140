/-! ===== fx: a STEP of the TALES ===== -/
section F4875_step
variable {g : Nat → Int32} {tp bt : Int64} {a0 a : Nat → Nat → Int32} {b : Nat → Nat → Int64}
set_option maxRecDepth 20000 in
set_option maxHeartbeats 8000000 in
theorem ts_20 {S E F C W n D K : Nat} (hxp : fm_xp g S E F) (hfl : fm_flt g) (hH : fm_th a0 C W) (hT : fm_TS a0 g a n D K) (hR : fm_TR a n) : fe_R 10 gk_m251 7 [(1, .int 20), (0, .ref 0)] [] (fm g tp bt a b) (fm_FTS a0 g tp bt b S E) := by
  obtain ⟨⟨eD, hD3, eK, hK30, hnK⟩, h8, h9⟩ := hT.2.2.2.2.2
  refine fe_s 3 (pc' := 14) (lc' := [(1, .int 20), (0, .ref 0)]) (stk' := [.int 3374, .ref 1]) (mem' := fm g tp bt a b) (fun _ _ _ => rfl) ?_
  refine fe_ldI (by rfl) (by rfl) (fx_inN (i := 3374) (by omega) (by omega)) ?_
  rw [show Int32.toNatClampNeg (3374) = 3374 from rfl]
  rw [hT.2.2.2.2.1]
  refine fe_s 9 (pc' := 28) (lc' := [(3, .int (3846 + (6 * (nI n)))), (2, .int (nI n)), (1, .int 20), (0, .ref 0)]) (stk' := [.int 18, .int 20]) (mem' := fm g tp bt a b) (fun _ _ _ => rfl) ?_
  rw [show (3846 + (6 * (nI n)) : Int32) = nI (3846 + (6 * n)) from by simp only [show (3846 : Int32) = nI 3846 from rfl, show (6 : Int32) = nI 6 from rfl, nI_add, fm_mul]]
  refine fe_s 1 (pc' := cond (fx_cb .eq 20 18) 37 31) (lc' := [(3, .int (nI (3846 + (6 * n)))), (2, .int (nI n)), (1, .int 20), (0, .ref 0)]) (stk' := []) (mem' := fm g tp bt a b) (fun _ _ _ => rfl) ?_
  rw [show (fx_cb .eq 20 18) = false from by decide]
  dsimp only [cond]
  refine fe_s 2 (pc' := 34) (lc' := [(3, .int (nI (3846 + (6 * n)))), (2, .int (nI n)), (1, .int 20), (0, .ref 0)]) (stk' := [.int 19, .int 20]) (mem' := fm g tp bt a b) (fun _ _ _ => rfl) ?_
  refine fe_s 1 (pc' := cond (fx_cb .ne 20 19) 41 37) (lc' := [(3, .int (nI (3846 + (6 * n)))), (2, .int (nI n)), (1, .int 20), (0, .ref 0)]) (stk' := []) (mem' := fm g tp bt a b) (fun _ _ _ => rfl) ?_
  rw [show (fx_cb .ne 20 19) = true from by decide]
  dsimp only [cond]
  refine fe_s 4 (pc' := 47) (lc' := [(4, .int 0), (3, .int (nI (3846 + (6 * n)))), (2, .int (nI n)), (1, .int 20), (0, .ref 0)]) (stk' := [.int 11, .int 20]) (mem' := fm g tp bt a b) (fun _ _ _ => rfl) ?_
  refine fe_s 1 (pc' := cond (fx_cb .lt 20 11) 81 50) (lc' := [(4, .int 0), (3, .int (nI (3846 + (6 * n)))), (2, .int (nI n)), (1, .int 20), (0, .ref 0)]) (stk' := []) (mem' := fm g tp bt a b) (fun _ _ _ => rfl) ?_
  rw [show (fx_cb .lt 20 11) = false from by decide]
  dsimp only [cond]
  refine fe_s 2 (pc' := 53) (lc' := [(4, .int 0), (3, .int (nI (3846 + (6 * n)))), (2, .int (nI n)), (1, .int 20), (0, .ref 0)]) (stk' := [.int 21, .int 20]) (mem' := fm g tp bt a b) (fun _ _ _ => rfl) ?_
  refine fe_s 1 (pc' := cond (fx_cb .gt 20 21) 81 56) (lc' := [(4, .int 0), (3, .int (nI (3846 + (6 * n)))), (2, .int (nI n)), (1, .int 20), (0, .ref 0)]) (stk' := []) (mem' := fm g tp bt a b) (fun _ _ _ => rfl) ?_
  rw [show (fx_cb .gt 20 21) = false from by decide]
  dsimp only [cond]
  refine fe_s 2 (pc' := 59) (lc' := [(4, .int 0), (3, .int (nI (3846 + (6 * n)))), (2, .int (nI n)), (1, .int 20), (0, .ref 0)]) (stk' := [.int 16, .int 20]) (mem' := fm g tp bt a b) (fun _ _ _ => rfl) ?_
  refine fe_s 1 (pc' := cond (fx_cb .eq 20 16) 81 62) (lc' := [(4, .int 0), (3, .int (nI (3846 + (6 * n)))), (2, .int (nI n)), (1, .int 20), (0, .ref 0)]) (stk' := []) (mem' := fm g tp bt a b) (fun _ _ _ => rfl) ?_
  rw [show (fx_cb .eq 20 16) = false from by decide]
  dsimp only [cond]
  refine fe_s 2 (pc' := 65) (lc' := [(4, .int 0), (3, .int (nI (3846 + (6 * n)))), (2, .int (nI n)), (1, .int 20), (0, .ref 0)]) (stk' := [.int 17, .int 20]) (mem' := fm g tp bt a b) (fun _ _ _ => rfl) ?_
  refine fe_s 1 (pc' := cond (fx_cb .eq 20 17) 81 68) (lc' := [(4, .int 0), (3, .int (nI (3846 + (6 * n)))), (2, .int (nI n)), (1, .int 20), (0, .ref 0)]) (stk' := []) (mem' := fm g tp bt a b) (fun _ _ _ => rfl) ?_
  rw [show (fx_cb .eq 20 17) = false from by decide]
  dsimp only [cond]
  refine fe_s 2 (pc' := 71) (lc' := [(4, .int 0), (3, .int (nI (3846 + (6 * n)))), (2, .int (nI n)), (1, .int 20), (0, .ref 0)]) (stk' := [.int 20, .int 20]) (mem' := fm g tp bt a b) (fun _ _ _ => rfl) ?_
  refine fe_s 1 (pc' := cond (fx_cb .ne 20 20) 87 74) (lc' := [(4, .int 0), (3, .int (nI (3846 + (6 * n)))), (2, .int (nI n)), (1, .int 20), (0, .ref 0)]) (stk' := []) (mem' := fm g tp bt a b) (fun _ _ _ => rfl) ?_
  rw [show (fx_cb .ne 20 20) = false from by decide]
  dsimp only [cond]
  refine fe_s 2 (pc' := 78) (lc' := [(4, .int 0), (3, .int (nI (3846 + (6 * n)))), (2, .int (nI n)), (1, .int 20), (0, .ref 0)]) (stk' := [.int (g 22)]) (mem' := fm g tp bt a b) (fun _ _ _ => rfl) ?_
  try rw [eD]
  refine fe_s 1 (pc' := cond (fx_cb .ne (nI D) 0) 87 81) (lc' := [(4, .int 0), (3, .int (nI (3846 + (6 * n)))), (2, .int (nI n)), (1, .int 20), (0, .ref 0)]) (stk' := []) (mem' := fm g tp bt a b) (fun _ _ _ => rfl) ?_
  by_cases h1 : D = 0
  · rw [show (fx_cb .ne (nI D) 0) = false from cb_neF (a := D) (b := 0) (by omega) (by omega) (by omega)]
    dsimp only [cond]
    refine fe_s 2 (pc' := 83) (lc' := [(4, .int 0), (3, .int (nI (3846 + (6 * n)))), (2, .int (nI n)), (1, .int 20), (0, .ref 0)]) (stk' := [.int 2, .ref 0]) (mem' := fm g tp bt a b) (fun _ _ _ => rfl) ?_
    obtain ⟨gf2, hfrf2, hof2, hzf2⟩ := fr_failsq (x := 2) (g := g) (tp := tp) (bt := bt) (a := a) (b := b) (by omega) (by omega) (fm_gy_rf hxp hfl).2.1 (fm_gy_rf hxp hfl).2.2.1
    have gof2 := fm_gy_tr (fm_gy_rf hxp hfl) hof2
    have d22f2 : gf2 22 = nI D := by rw [hof2.1 22 (by decide) (by decide) (by decide) (by decide) (by decide) (by decide)]; first | exact eD | rfl
    have d23f2 : gf2 23 = nI K := by rw [hof2.1 23 (by decide) (by decide) (by decide) (by decide) (by decide) (by decide)]; first | exact eK | rfl
    refine fe_ivV hfrf2 (by omega) (by rfl) (by rfl) (by rfl) (by rfl) (by rfl) (by rfl) ?_
    exact fe_ret ⟨_, _, _, _, _, n, D, K, gof2, ⟨hT.1, hT.2.1, hT.2.2.1, hT.2.2.2.1, hT.2.2.2.2.1, ⟨d22f2, hD3, d23f2, hK30, hnK⟩, h8, h9⟩, Or.inl ⟨rfl, hzf2⟩, rfl⟩ (by rfl) (by rfl) (by rfl)
  · rw [show (fx_cb .ne (nI D) 0) = true from cb_neT (a := D) (b := 0) (by omega) (by omega) (by omega)]
    dsimp only [cond]
    refine fe_s 2 (pc' := 90) (lc' := [(4, .int 0), (3, .int (nI (3846 + (6 * n)))), (2, .int (nI n)), (1, .int 20), (0, .ref 0)]) (stk' := [.int 20, .int 20]) (mem' := fm g tp bt a b) (fun _ _ _ => rfl) ?_
    refine fe_s 1 (pc' := cond (fx_cb .eq 20 20) 109 93) (lc' := [(4, .int 0), (3, .int (nI (3846 + (6 * n)))), (2, .int (nI n)), (1, .int 20), (0, .ref 0)]) (stk' := []) (mem' := fm g tp bt a b) (fun _ _ _ => rfl) ?_
    rw [show (fx_cb .eq 20 20) = true from by decide]
    dsimp only [cond]
    refine fe_s 1 (pc' := 111) (lc' := [(4, .int 0), (3, .int (nI (3846 + (6 * n)))), (2, .int (nI n)), (1, .int 20), (0, .ref 0)]) (stk' := [.int 0]) (mem' := fm g tp bt a b) (fun _ _ _ => rfl) ?_
    refine fe_s 1 (pc' := cond (fx_cb .eq 0 0) 129 114) (lc' := [(4, .int 0), (3, .int (nI (3846 + (6 * n)))), (2, .int (nI n)), (1, .int 20), (0, .ref 0)]) (stk' := []) (mem' := fm g tp bt a b) (fun _ _ _ => rfl) ?_
    rw [show (fx_cb .eq 0 0) = true from by decide]
    dsimp only [cond]
    refine fe_s 5 (pc' := 137) (lc' := [(4, .int 0), (3, .int (nI (3846 + (6 * n)))), (2, .int (nI n)), (1, .int 20), (0, .ref 0)]) (stk' := [.int 20, .int 20, .int (g 23), .ref 0]) (mem' := fm g tp bt a b) (fun _ _ _ => rfl) ?_
    try rw [eK]
    refine fe_s 1 (pc' := cond (fx_cb .ne 20 20) 144 140) (lc' := [(4, .int 0), (3, .int (nI (3846 + (6 * n)))), (2, .int (nI n)), (1, .int 20), (0, .ref 0)]) (stk' := [.int (nI K), .ref 0]) (mem' := fm g tp bt a b) (fun _ _ _ => rfl) ?_
    rw [show (fx_cb .ne 20 20) = false from by decide]
    dsimp only [cond]
    refine fe_s 8 (pc' := 155) (lc' := [(4, .int 0), (3, .int (nI (3846 + (6 * n)))), (2, .int (nI n)), (1, .int 20), (0, .ref 0)]) (stk' := [.int 20, .int (nI (3846 + (6 * n))), .ref 1]) (mem' := fm (upd g 23 ((nI K) + 0)) tp bt a b) (fun _ _ _ => rfl) ?_
    rw [show ((nI K) + 0 : Int32) = nI (K + 0) from by simp only [show (0 : Int32) = nI 0 from rfl, nI_add, fm_mul]]
    have hn60 : n < 60 := by omega
    refine fe_stI (mem' := fm (upd g 23 (nI (K + 0))) tp bt (fm_u a 1 (nI (3846 + (6 * n)) : Int32).toNatClampNeg 20) b) (by rfl) (by rfl) (fx_inN (i := 3846 + (6 * n)) (by omega) (by omega)) fm_si1 ?_
    rw [show Int32.toNatClampNeg (nI (3846 + (6 * n))) = 3846 + (6 * n) from nI_clamp (by omega)]
    refine fe_s 4 (pc' := 163) (lc' := [(5, .int 1), (4, .int 0), (3, .int (nI (3846 + (6 * n)))), (2, .int (nI n)), (1, .int 20), (0, .ref 0)]) (stk' := [.int 6, .int 1]) (mem' := fm (upd g 23 (nI (K + 0))) tp bt (fm_u a 1 (3846 + (6 * n)) 20) b) (fun _ _ _ => rfl) ?_
    refine fe_s 1 (pc' := cond (fx_cb .ge 1 6) 182 166) (lc' := [(5, .int 1), (4, .int 0), (3, .int (nI (3846 + (6 * n)))), (2, .int (nI n)), (1, .int 20), (0, .ref 0)]) (stk' := []) (mem' := fm (upd g 23 (nI (K + 0))) tp bt (fm_u a 1 (3846 + (6 * n)) 20) b) (fun _ _ _ => rfl) ?_
    rw [show (fx_cb .ge 1 6) = false from by decide]
    dsimp only [cond]
    refine fe_s 6 (pc' := 175) (lc' := [(5, .int 1), (4, .int 0), (3, .int (nI (3846 + (6 * n)))), (2, .int (nI n)), (1, .int 20), (0, .ref 0)]) (stk' := [.int 0, .int ((nI (3846 + (6 * n))) + 1), .ref 1]) (mem' := fm (upd g 23 (nI (K + 0))) tp bt (fm_u a 1 (3846 + (6 * n)) 20) b) (fun _ _ _ => rfl) ?_
    rw [show ((nI (3846 + (6 * n))) + 1 : Int32) = nI ((3846 + (6 * n)) + 1) from by simp only [show (1 : Int32) = nI 1 from rfl, nI_add, fm_mul]]
    refine fe_stI (mem' := fm (upd g 23 (nI (K + 0))) tp bt (fm_u (fm_u a 1 (3846 + (6 * n)) 20) 1 (nI ((3846 + (6 * n)) + 1) : Int32).toNatClampNeg 0) b) (by rfl) (by rfl) (fx_inN (i := (3846 + (6 * n)) + 1) (by omega) (by omega)) fm_si1 ?_
    rw [show Int32.toNatClampNeg (nI ((3846 + (6 * n)) + 1)) = (3846 + (6 * n)) + 1 from nI_clamp (by omega)]
    refine fe_s 4 (pc' := 163) (lc' := [(5, .int (1 + 1)), (4, .int 0), (3, .int (nI (3846 + (6 * n)))), (2, .int (nI n)), (1, .int 20), (0, .ref 0)]) (stk' := [.int 6, .int (1 + 1)]) (mem' := fm (upd g 23 (nI (K + 0))) tp bt (fm_u (fm_u a 1 (3846 + (6 * n)) 20) 1 ((3846 + (6 * n)) + 1) 0) b) (fun _ _ _ => rfl) ?_
    rw [show (1 + 1 : Int32) = 2 from rfl]
    refine fe_s 1 (pc' := cond (fx_cb .ge 2 6) 182 166) (lc' := [(5, .int 2), (4, .int 0), (3, .int (nI (3846 + (6 * n)))), (2, .int (nI n)), (1, .int 20), (0, .ref 0)]) (stk' := []) (mem' := fm (upd g 23 (nI (K + 0))) tp bt (fm_u (fm_u a 1 (3846 + (6 * n)) 20) 1 ((3846 + (6 * n)) + 1) 0) b) (fun _ _ _ => rfl) ?_
    rw [show (fx_cb .ge 2 6) = false from by decide]
    dsimp only [cond]
    refine fe_s 6 (pc' := 175) (lc' := [(5, .int 2), (4, .int 0), (3, .int (nI (3846 + (6 * n)))), (2, .int (nI n)), (1, .int 20), (0, .ref 0)]) (stk' := [.int 0, .int ((nI (3846 + (6 * n))) + 2), .ref 1]) (mem' := fm (upd g 23 (nI (K + 0))) tp bt (fm_u (fm_u a 1 (3846 + (6 * n)) 20) 1 ((3846 + (6 * n)) + 1) 0) b) (fun _ _ _ => rfl) ?_
    rw [show ((nI (3846 + (6 * n))) + 2 : Int32) = nI ((3846 + (6 * n)) + 2) from by simp only [show (2 : Int32) = nI 2 from rfl, nI_add, fm_mul]]
    refine fe_stI (mem' := fm (upd g 23 (nI (K + 0))) tp bt (fm_u (fm_u (fm_u a 1 (3846 + (6 * n)) 20) 1 ((3846 + (6 * n)) + 1) 0) 1 (nI ((3846 + (6 * n)) + 2) : Int32).toNatClampNeg 0) b) (by rfl) (by rfl) (fx_inN (i := (3846 + (6 * n)) + 2) (by omega) (by omega)) fm_si1 ?_
    rw [show Int32.toNatClampNeg (nI ((3846 + (6 * n)) + 2)) = (3846 + (6 * n)) + 2 from nI_clamp (by omega)]
    refine fe_s 4 (pc' := 163) (lc' := [(5, .int (2 + 1)), (4, .int 0), (3, .int (nI (3846 + (6 * n)))), (2, .int (nI n)), (1, .int 20), (0, .ref 0)]) (stk' := [.int 6, .int (2 + 1)]) (mem' := fm (upd g 23 (nI (K + 0))) tp bt (fm_u (fm_u (fm_u a 1 (3846 + (6 * n)) 20) 1 ((3846 + (6 * n)) + 1) 0) 1 ((3846 + (6 * n)) + 2) 0) b) (fun _ _ _ => rfl) ?_
    rw [show (2 + 1 : Int32) = 3 from rfl]
    refine fe_s 1 (pc' := cond (fx_cb .ge 3 6) 182 166) (lc' := [(5, .int 3), (4, .int 0), (3, .int (nI (3846 + (6 * n)))), (2, .int (nI n)), (1, .int 20), (0, .ref 0)]) (stk' := []) (mem' := fm (upd g 23 (nI (K + 0))) tp bt (fm_u (fm_u (fm_u a 1 (3846 + (6 * n)) 20) 1 ((3846 + (6 * n)) + 1) 0) 1 ((3846 + (6 * n)) + 2) 0) b) (fun _ _ _ => rfl) ?_
    rw [show (fx_cb .ge 3 6) = false from by decide]
    dsimp only [cond]
    refine fe_s 6 (pc' := 175) (lc' := [(5, .int 3), (4, .int 0), (3, .int (nI (3846 + (6 * n)))), (2, .int (nI n)), (1, .int 20), (0, .ref 0)]) (stk' := [.int 0, .int ((nI (3846 + (6 * n))) + 3), .ref 1]) (mem' := fm (upd g 23 (nI (K + 0))) tp bt (fm_u (fm_u (fm_u a 1 (3846 + (6 * n)) 20) 1 ((3846 + (6 * n)) + 1) 0) 1 ((3846 + (6 * n)) + 2) 0) b) (fun _ _ _ => rfl) ?_
    rw [show ((nI (3846 + (6 * n))) + 3 : Int32) = nI ((3846 + (6 * n)) + 3) from by simp only [show (3 : Int32) = nI 3 from rfl, nI_add, fm_mul]]
    refine fe_stI (mem' := fm (upd g 23 (nI (K + 0))) tp bt (fm_u (fm_u (fm_u (fm_u a 1 (3846 + (6 * n)) 20) 1 ((3846 + (6 * n)) + 1) 0) 1 ((3846 + (6 * n)) + 2) 0) 1 (nI ((3846 + (6 * n)) + 3) : Int32).toNatClampNeg 0) b) (by rfl) (by rfl) (fx_inN (i := (3846 + (6 * n)) + 3) (by omega) (by omega)) fm_si1 ?_
    rw [show Int32.toNatClampNeg (nI ((3846 + (6 * n)) + 3)) = (3846 + (6 * n)) + 3 from nI_clamp (by omega)]
    refine fe_s 4 (pc' := 163) (lc' := [(5, .int (3 + 1)), (4, .int 0), (3, .int (nI (3846 + (6 * n)))), (2, .int (nI n)), (1, .int 20), (0, .ref 0)]) (stk' := [.int 6, .int (3 + 1)]) (mem' := fm (upd g 23 (nI (K + 0))) tp bt (fm_u (fm_u (fm_u (fm_u a 1 (3846 + (6 * n)) 20) 1 ((3846 + (6 * n)) + 1) 0) 1 ((3846 + (6 * n)) + 2) 0) 1 ((3846 + (6 * n)) + 3) 0) b) (fun _ _ _ => rfl) ?_
    rw [show (3 + 1 : Int32) = 4 from rfl]
    refine fe_s 1 (pc' := cond (fx_cb .ge 4 6) 182 166) (lc' := [(5, .int 4), (4, .int 0), (3, .int (nI (3846 + (6 * n)))), (2, .int (nI n)), (1, .int 20), (0, .ref 0)]) (stk' := []) (mem' := fm (upd g 23 (nI (K + 0))) tp bt (fm_u (fm_u (fm_u (fm_u a 1 (3846 + (6 * n)) 20) 1 ((3846 + (6 * n)) + 1) 0) 1 ((3846 + (6 * n)) + 2) 0) 1 ((3846 + (6 * n)) + 3) 0) b) (fun _ _ _ => rfl) ?_
    rw [show (fx_cb .ge 4 6) = false from by decide]
    dsimp only [cond]
    refine fe_s 6 (pc' := 175) (lc' := [(5, .int 4), (4, .int 0), (3, .int (nI (3846 + (6 * n)))), (2, .int (nI n)), (1, .int 20), (0, .ref 0)]) (stk' := [.int 0, .int ((nI (3846 + (6 * n))) + 4), .ref 1]) (mem' := fm (upd g 23 (nI (K + 0))) tp bt (fm_u (fm_u (fm_u (fm_u a 1 (3846 + (6 * n)) 20) 1 ((3846 + (6 * n)) + 1) 0) 1 ((3846 + (6 * n)) + 2) 0) 1 ((3846 + (6 * n)) + 3) 0) b) (fun _ _ _ => rfl) ?_
    rw [show ((nI (3846 + (6 * n))) + 4 : Int32) = nI ((3846 + (6 * n)) + 4) from by simp only [show (4 : Int32) = nI 4 from rfl, nI_add, fm_mul]]
    refine fe_stI (mem' := fm (upd g 23 (nI (K + 0))) tp bt (fm_u (fm_u (fm_u (fm_u (fm_u a 1 (3846 + (6 * n)) 20) 1 ((3846 + (6 * n)) + 1) 0) 1 ((3846 + (6 * n)) + 2) 0) 1 ((3846 + (6 * n)) + 3) 0) 1 (nI ((3846 + (6 * n)) + 4) : Int32).toNatClampNeg 0) b) (by rfl) (by rfl) (fx_inN (i := (3846 + (6 * n)) + 4) (by omega) (by omega)) fm_si1 ?_
    rw [show Int32.toNatClampNeg (nI ((3846 + (6 * n)) + 4)) = (3846 + (6 * n)) + 4 from nI_clamp (by omega)]
    refine fe_s 4 (pc' := 163) (lc' := [(5, .int (4 + 1)), (4, .int 0), (3, .int (nI (3846 + (6 * n)))), (2, .int (nI n)), (1, .int 20), (0, .ref 0)]) (stk' := [.int 6, .int (4 + 1)]) (mem' := fm (upd g 23 (nI (K + 0))) tp bt (fm_u (fm_u (fm_u (fm_u (fm_u a 1 (3846 + (6 * n)) 20) 1 ((3846 + (6 * n)) + 1) 0) 1 ((3846 + (6 * n)) + 2) 0) 1 ((3846 + (6 * n)) + 3) 0) 1 ((3846 + (6 * n)) + 4) 0) b) (fun _ _ _ => rfl) ?_
    rw [show (4 + 1 : Int32) = 5 from rfl]
    refine fe_s 1 (pc' := cond (fx_cb .ge 5 6) 182 166) (lc' := [(5, .int 5), (4, .int 0), (3, .int (nI (3846 + (6 * n)))), (2, .int (nI n)), (1, .int 20), (0, .ref 0)]) (stk' := []) (mem' := fm (upd g 23 (nI (K + 0))) tp bt (fm_u (fm_u (fm_u (fm_u (fm_u a 1 (3846 + (6 * n)) 20) 1 ((3846 + (6 * n)) + 1) 0) 1 ((3846 + (6 * n)) + 2) 0) 1 ((3846 + (6 * n)) + 3) 0) 1 ((3846 + (6 * n)) + 4) 0) b) (fun _ _ _ => rfl) ?_
    rw [show (fx_cb .ge 5 6) = false from by decide]
    dsimp only [cond]
    refine fe_s 6 (pc' := 175) (lc' := [(5, .int 5), (4, .int 0), (3, .int (nI (3846 + (6 * n)))), (2, .int (nI n)), (1, .int 20), (0, .ref 0)]) (stk' := [.int 0, .int ((nI (3846 + (6 * n))) + 5), .ref 1]) (mem' := fm (upd g 23 (nI (K + 0))) tp bt (fm_u (fm_u (fm_u (fm_u (fm_u a 1 (3846 + (6 * n)) 20) 1 ((3846 + (6 * n)) + 1) 0) 1 ((3846 + (6 * n)) + 2) 0) 1 ((3846 + (6 * n)) + 3) 0) 1 ((3846 + (6 * n)) + 4) 0) b) (fun _ _ _ => rfl) ?_
    rw [show ((nI (3846 + (6 * n))) + 5 : Int32) = nI ((3846 + (6 * n)) + 5) from by simp only [show (5 : Int32) = nI 5 from rfl, nI_add, fm_mul]]
    refine fe_stI (mem' := fm (upd g 23 (nI (K + 0))) tp bt (fm_u (fm_u (fm_u (fm_u (fm_u (fm_u a 1 (3846 + (6 * n)) 20) 1 ((3846 + (6 * n)) + 1) 0) 1 ((3846 + (6 * n)) + 2) 0) 1 ((3846 + (6 * n)) + 3) 0) 1 ((3846 + (6 * n)) + 4) 0) 1 (nI ((3846 + (6 * n)) + 5) : Int32).toNatClampNeg 0) b) (by rfl) (by rfl) (fx_inN (i := (3846 + (6 * n)) + 5) (by omega) (by omega)) fm_si1 ?_
    rw [show Int32.toNatClampNeg (nI ((3846 + (6 * n)) + 5)) = (3846 + (6 * n)) + 5 from nI_clamp (by omega)]
    refine fe_s 4 (pc' := 163) (lc' := [(5, .int (5 + 1)), (4, .int 0), (3, .int (nI (3846 + (6 * n)))), (2, .int (nI n)), (1, .int 20), (0, .ref 0)]) (stk' := [.int 6, .int (5 + 1)]) (mem' := fm (upd g 23 (nI (K + 0))) tp bt (fm_u (fm_u (fm_u (fm_u (fm_u (fm_u a 1 (3846 + (6 * n)) 20) 1 ((3846 + (6 * n)) + 1) 0) 1 ((3846 + (6 * n)) + 2) 0) 1 ((3846 + (6 * n)) + 3) 0) 1 ((3846 + (6 * n)) + 4) 0) 1 ((3846 + (6 * n)) + 5) 0) b) (fun _ _ _ => rfl) ?_
    rw [show (5 + 1 : Int32) = 6 from rfl]
    refine fe_s 1 (pc' := cond (fx_cb .ge 6 6) 182 166) (lc' := [(5, .int 6), (4, .int 0), (3, .int (nI (3846 + (6 * n)))), (2, .int (nI n)), (1, .int 20), (0, .ref 0)]) (stk' := []) (mem' := fm (upd g 23 (nI (K + 0))) tp bt (fm_u (fm_u (fm_u (fm_u (fm_u (fm_u a 1 (3846 + (6 * n)) 20) 1 ((3846 + (6 * n)) + 1) 0) 1 ((3846 + (6 * n)) + 2) 0) 1 ((3846 + (6 * n)) + 3) 0) 1 ((3846 + (6 * n)) + 4) 0) 1 ((3846 + (6 * n)) + 5) 0) b) (fun _ _ _ => rfl) ?_
    rw [show (fx_cb .ge 6 6) = true from by decide]
    dsimp only [cond]
    refine fe_s 4 (pc' := 190) (lc' := [(5, .int 6), (4, .int 0), (3, .int (nI (3846 + (6 * n)))), (2, .int (nI n)), (1, .int 20), (0, .ref 0)]) (stk' := [.int 3374, .ref 1, .int 3374, .ref 1]) (mem' := fm (upd g 23 (nI (K + 0))) tp bt (fm_u (fm_u (fm_u (fm_u (fm_u (fm_u a 1 (3846 + (6 * n)) 20) 1 ((3846 + (6 * n)) + 1) 0) 1 ((3846 + (6 * n)) + 2) 0) 1 ((3846 + (6 * n)) + 3) 0) 1 ((3846 + (6 * n)) + 4) 0) 1 ((3846 + (6 * n)) + 5) 0) b) (fun _ _ _ => rfl) ?_
    refine fe_ldI (by rfl) (by rfl) (fx_inN (i := 3374) (by omega) (by omega)) ?_
    rw [show Int32.toNatClampNeg (3374) = 3374 from rfl]
    rw [show (fm_u (fm_u (fm_u (fm_u (fm_u (fm_u a 1 (3846 + (6 * n)) 20) 1 ((3846 + (6 * n)) + 1) 0) 1 ((3846 + (6 * n)) + 2) 0) 1 ((3846 + (6 * n)) + 3) 0) 1 ((3846 + (6 * n)) + 4) 0) 1 ((3846 + (6 * n)) + 5) 0) 1 3374 = nI n from by rw [fm_u1, if_neg (by omega), fm_u1, if_neg (by omega), fm_u1, if_neg (by omega), fm_u1, if_neg (by omega), fm_u1, if_neg (by omega), fm_u1, if_neg (by omega)]; exact hT.2.2.2.2.1]
    refine fe_s 2 (pc' := 193) (lc' := [(5, .int 6), (4, .int 0), (3, .int (nI (3846 + (6 * n)))), (2, .int (nI n)), (1, .int 20), (0, .ref 0)]) (stk' := [.int ((nI n) + 1), .int 3374, .ref 1]) (mem' := fm (upd g 23 (nI (K + 0))) tp bt (fm_u (fm_u (fm_u (fm_u (fm_u (fm_u a 1 (3846 + (6 * n)) 20) 1 ((3846 + (6 * n)) + 1) 0) 1 ((3846 + (6 * n)) + 2) 0) 1 ((3846 + (6 * n)) + 3) 0) 1 ((3846 + (6 * n)) + 4) 0) 1 ((3846 + (6 * n)) + 5) 0) b) (fun _ _ _ => rfl) ?_
    rw [show ((nI n) + 1 : Int32) = nI (n + 1) from by simp only [show (1 : Int32) = nI 1 from rfl, nI_add, fm_mul]]
    refine fe_stI (mem' := fm (upd g 23 (nI (K + 0))) tp bt (fm_u (fm_u (fm_u (fm_u (fm_u (fm_u (fm_u a 1 (3846 + (6 * n)) 20) 1 ((3846 + (6 * n)) + 1) 0) 1 ((3846 + (6 * n)) + 2) 0) 1 ((3846 + (6 * n)) + 3) 0) 1 ((3846 + (6 * n)) + 4) 0) 1 ((3846 + (6 * n)) + 5) 0) 1 (3374 : Int32).toNatClampNeg (nI (n + 1))) b) (by rfl) (by rfl) (fx_inN (i := 3374) (by omega) (by omega)) fm_si1 ?_
    rw [show Int32.toNatClampNeg (3374) = 3374 from rfl]
    obtain ⟨at9, hat9⟩ : ∃ z, z = fm_row a n (3846 + 6 * n) 20 := ⟨_, rfl⟩
    rw [show (fm_u (fm_u (fm_u (fm_u (fm_u (fm_u (fm_u a 1 (3846 + (6 * n)) 20) 1 ((3846 + (6 * n)) + 1) 0) 1 ((3846 + (6 * n)) + 2) 0) 1 ((3846 + (6 * n)) + 3) 0) 1 ((3846 + (6 * n)) + 4) 0) 1 ((3846 + (6 * n)) + 5) 0) 1 (3374) (nI (n + 1))) = at9 from hat9.symm]
    have hCt9 : fm_TC a0 at9 n 20 0 := by rw [hat9]; exact fm_TC_new hT hR hn60 (by decide) (by decide)
    have h8t9 : at9 8 = a 8 := (congrFun hat9 8).trans (fm_row_t (by decide))
    refine fe_s 1 (pc' := 195) (lc' := [(5, .int 6), (4, .int 0), (3, .int (nI (3846 + (6 * n)))), (2, .int (nI n)), (1, .int 20), (0, .ref 0)]) (stk' := [.ref 0]) (mem' := fm (upd g 23 (nI (K + 0))) tp bt at9 b) (fun _ _ _ => rfl) ?_
    obtain ⟨gk10, Ek10, Fk10, hfrk10, hok10, hek10, hpk10⟩ := fr_aheadq (g := (upd g 23 (nI (K + 0)))) (tp := tp) (bt := bt) (a := at9) (b := b) (fm_gy_up (fm_gy_rf hxp hfl) (by decide)).2.1 (fm_gy_up (fm_gy_rf hxp hfl) (by decide)).2.2.1
    have gok10 := fm_gy_tr (fm_gy_up (fm_gy_rf hxp hfl) (by decide)) hok10
    have e18k10 : gk10 18 = g 18 := hek10.trans ((pk_un (by decide)).trans rfl)
    have prk10 : gk10 12 = 0 ∨ E < Ek10 := hpk10.imp id (fun z => by have := (fm_gy_rf hxp hfl).2.2.2; omega)
    have d22k10 : gk10 22 = nI D := by rw [hok10.1 22 (by decide) (by decide) (by decide) (by decide) (by decide) (by decide)]; first | exact eD | rfl
    have d23k10 : gk10 23 = nI (K + 0) := by rw [hok10.1 23 (by decide) (by decide) (by decide) (by decide) (by decide) (by decide)]; first | exact rfl | rfl
    refine fe_ivV hfrk10 (by omega) (by rfl) (by rfl) (by rfl) (by rfl) (by rfl) (by rfl) ?_
    refine fe_s 3 (pc' := 201) (lc' := [(5, .int 6), (4, .int 0), (3, .int (nI (3846 + (6 * n)))), (2, .int (nI n)), (1, .int 20), (0, .ref 0)]) (stk' := [.int (nI (3846 + (6 * n))), .int 20, .ref 0]) (mem' := fm gk10 tp bt at9 b) (fun _ _ _ => rfl) ?_
    refine fe_ivV (fr_taleOrder20x (r := nI (3846 + (6 * n))) (mem := fm gk10 tp bt at9 b)) (by omega) (by rfl) (by rfl) (by rfl) (by rfl) (by rfl) (by rfl) ?_
    refine fe_s 1 (pc' := cond (fx_cb .ne 1 0) 209 207) (lc' := [(5, .int 6), (4, .int 0), (3, .int (nI (3846 + (6 * n)))), (2, .int (nI n)), (1, .int 20), (0, .ref 0)]) (stk' := []) (mem' := fm gk10 tp bt at9 b) (fun _ _ _ => rfl) ?_
    rw [show (fx_cb .ne 1 0) = true from by decide]
    dsimp only [cond]
    refine fe_s 1 (pc' := 211) (lc' := [(5, .int 6), (4, .int 0), (3, .int (nI (3846 + (6 * n)))), (2, .int (nI n)), (1, .int 20), (0, .ref 0)]) (stk' := [.int 0]) (mem' := fm gk10 tp bt at9 b) (fun _ _ _ => rfl) ?_
    refine fe_s 1 (pc' := cond (fx_cb .eq 0 0) 234 214) (lc' := [(5, .int 6), (4, .int 0), (3, .int (nI (3846 + (6 * n)))), (2, .int (nI n)), (1, .int 20), (0, .ref 0)]) (stk' := []) (mem' := fm gk10 tp bt at9 b) (fun _ _ _ => rfl) ?_
    rw [show (fx_cb .eq 0 0) = true from by decide]
    dsimp only [cond]
    refine fe_s 2 (pc' := 237) (lc' := [(5, .int 6), (4, .int 0), (3, .int (nI (3846 + (6 * n)))), (2, .int (nI n)), (1, .int 20), (0, .ref 0)]) (stk' := [.int 20, .int 20]) (mem' := fm gk10 tp bt at9 b) (fun _ _ _ => rfl) ?_
    refine fe_s 1 (pc' := cond (fx_cb .ne 20 20) 291 240) (lc' := [(5, .int 6), (4, .int 0), (3, .int (nI (3846 + (6 * n)))), (2, .int (nI n)), (1, .int 20), (0, .ref 0)]) (stk' := []) (mem' := fm gk10 tp bt at9 b) (fun _ _ _ => rfl) ?_
    rw [show (fx_cb .ne 20 20) = false from by decide]
    dsimp only [cond]
    refine fe_s 15 (pc' := 265) (lc' := [(5, .int 6), (4, .int 0), (3, .int (nI (3846 + (6 * n)))), (2, .int (nI n)), (1, .int 20), (0, .ref 0)]) (stk' := [.int ((gk10 22) - 1), .ref 8, .int ((nI (3846 + (6 * n))) + 4), .ref 1]) (mem' := fm (upd gk10 22 ((gk10 22) - 1)) tp bt at9 b) (fun _ _ _ => rfl) ?_
    try rw [d22k10]
    rw [show ((nI D) - 1 : Int32) = nI (D - 1) from by simp only [show (1 : Int32) = nI 1 from rfl, tg_sub2 (x := D) (y := 1) (by omega), nI_add, fm_mul]]
    rw [show ((nI (3846 + (6 * n))) + 4 : Int32) = nI ((3846 + (6 * n)) + 4) from by simp only [show (4 : Int32) = nI 4 from rfl, nI_add, fm_mul]]
    refine fe_ldI (by rfl) (by rfl) (fx_inN (i := D - 1) (by omega) (by omega)) ?_
    rw [show Int32.toNatClampNeg (nI (D - 1)) = D - 1 from nI_clamp (by omega)]
    obtain ⟨w, hw, ew⟩ := h8 (D - 1) (by omega)
    rw [show at9 8 (D - 1) = nI w from by rw [h8t9]; exact ew]
    refine fe_stI (mem' := fm (upd gk10 22 (nI (D - 1))) tp bt (fm_u at9 1 (nI ((3846 + (6 * n)) + 4) : Int32).toNatClampNeg (nI w)) b) (by rfl) (by rfl) (fx_inN (i := (3846 + (6 * n)) + 4) (by omega) (by omega)) fm_si1 ?_
    rw [show Int32.toNatClampNeg (nI ((3846 + (6 * n)) + 4)) = (3846 + (6 * n)) + 4 from nI_clamp (by omega)]
    obtain ⟨at11, hat11⟩ : ∃ z, z = fm_u at9 1 ((3846 + (6 * n)) + 4) (nI w) := ⟨_, rfl⟩
    rw [← hat11]
    have hCt11 : fm_TC a0 at11 n 20 0 := by rw [hat11, show (3846 + (6 * n)) + 4 = 3850 + 6 * n by omega]; exact fm_TC_4 hCt9 (by omega) (by rw [nI_i32 (by omega)]; omega) (by rw [nI_i32 (by omega)]; omega)
    have h8t11 : at11 8 = a 8 := (congrFun hat11 8).trans ((fm_ut (by decide)).trans h8t9)
    refine fe_s 8 (pc' := 284) (lc' := [(5, .int 6), (4, .int 0), (3, .int (nI (3846 + (6 * n)))), (2, .int (nI n)), (1, .int 20), (0, .ref 0)]) (stk' := [.int (nI (D - 1)), .ref 8, .int 6, .int 3846, .ref 1]) (mem' := fm (upd gk10 22 (nI (D - 1))) tp bt at11 b) (fun _ _ _ => rfl) ?_
    refine fe_ldI (by rfl) (by rfl) (fx_inN (i := D - 1) (by omega) (by omega)) ?_
    rw [show Int32.toNatClampNeg (nI (D - 1)) = D - 1 from nI_clamp (by omega)]
    rw [show at11 8 (D - 1) = nI w from by rw [h8t11]; exact ew]
    refine fe_s 5 (pc' := 290) (lc' := [(5, .int 6), (4, .int 0), (3, .int (nI (3846 + (6 * n)))), (2, .int (nI n)), (1, .int 20), (0, .ref 0)]) (stk' := [.int (nI n), .int ((3846 + (6 * (nI w))) + 4), .ref 1]) (mem' := fm (upd gk10 22 (nI (D - 1))) tp bt at11 b) (fun _ _ _ => rfl) ?_
    rw [show ((3846 + (6 * (nI w))) + 4 : Int32) = nI ((3846 + (6 * w)) + 4) from by simp only [show (3846 : Int32) = nI 3846 from rfl, show (6 : Int32) = nI 6 from rfl, show (4 : Int32) = nI 4 from rfl, nI_add, fm_mul]]
    refine fe_stI (mem' := fm (upd gk10 22 (nI (D - 1))) tp bt (fm_u at11 1 (nI ((3846 + (6 * w)) + 4) : Int32).toNatClampNeg (nI n)) b) (by rfl) (by rfl) (fx_inN (i := (3846 + (6 * w)) + 4) (by omega) (by omega)) fm_si1 ?_
    rw [show Int32.toNatClampNeg (nI ((3846 + (6 * w)) + 4)) = (3846 + (6 * w)) + 4 from nI_clamp (by omega)]
    obtain ⟨at12, hat12⟩ : ∃ z, z = fm_u at11 1 ((3846 + (6 * w)) + 4) (nI n) := ⟨_, rfl⟩
    rw [← hat12]
    have hCt12 : fm_TC a0 at12 n 20 0 := by rw [hat12, show (3846 + (6 * w)) + 4 = 3850 + 6 * w by omega]; exact fm_TC_4 hCt11 (by omega) (by rw [nI_i32 (by omega)]; omega) (by rw [nI_i32 (by omega)]; omega)
    have h8t12 : at12 8 = a 8 := (congrFun hat12 8).trans ((fm_ut (by decide)).trans h8t11)
    refine fe_s 2 (pc' := 294) (lc' := [(5, .int 6), (4, .int 0), (3, .int (nI (3846 + (6 * n)))), (2, .int (nI n)), (1, .int 20), (0, .ref 0)]) (stk' := [.int 59, .ref 0]) (mem' := fm (upd gk10 22 (nI (D - 1))) tp bt at12 b) (fun _ _ _ => rfl) ?_
    obtain ⟨xc13, gc13, Ec13, Fc13, hfrc13, hoc13, hvc13⟩ := fr_wantSignq (c := 59) (g := (upd gk10 22 (nI (D - 1)))) (tp := tp) (bt := bt) (a := at12) (b := b) (fm_gy_up gok10 (by decide)).2.1 (fm_gy_up gok10 (by decide)).2.2.1
    have goc13 := fm_gy_tr (fm_gy_up gok10 (by decide)) hoc13
    have d22c13 : gc13 22 = nI (D - 1) := by rw [hoc13.1 22 (by decide) (by decide) (by decide) (by decide) (by decide) (by decide)]; first | exact rfl | rfl
    have d23c13 : gc13 23 = nI (K + 0) := by rw [hoc13.1 23 (by decide) (by decide) (by decide) (by decide) (by decide) (by decide)]; first | exact d23k10 | rfl
    refine fe_ivV hfrc13 (by omega) (by rfl) (by rfl) (by rfl) (by rfl) (by rfl) (by rfl) ?_
    rcases hvc13 with ⟨rfl, hzc13⟩ | ⟨rfl, hec13, hpc13⟩
    · exact fe_ret ⟨_, _, _, _, _, n + 1, (D - 1), (K + 0), goc13, fm_TS_of hCt12 ⟨d22c13, by omega, d23c13, by omega, by omega⟩ (fun d hd => by rw [h8t12]; obtain ⟨q, q1, q2⟩ := h8 d (by omega); exact ⟨q, by omega, q2⟩) (fun d hd => by rw [h8t12]; exact h9 d hd), Or.inl ⟨rfl, hzc13⟩, rfl⟩ (by rfl) (by rfl) (by rfl)
    · have e18c13 : gc13 18 = g 18 := hec13.trans ((pk_un (by decide)).trans e18k10)
      have prc13 : gc13 12 = 0 ∨ E < Ec13 := hpc13.imp id (fun z => by have := gok10.2.2.2; omega)
      exact fe_ret ⟨_, _, _, _, _, n + 1, (D - 1), (K + 0), goc13, fm_TS_of hCt12 ⟨d22c13, by omega, d23c13, by omega, by omega⟩ (fun d hd => by rw [h8t12]; obtain ⟨q, q1, q2⟩ := h8 d (by omega); exact ⟨q, by omega, q2⟩) (fun d hd => by rw [h8t12]; exact h9 d hd), Or.inr ⟨rfl, e18c13, prc13, fm_TR_of hCt12 (fm_ro_n (by decide) (by decide) (by decide) (by decide) (by decide))⟩, rfl⟩ (by rfl) (by rfl) (by rfl)
set_option maxRecDepth 20000 in
set_option maxHeartbeats 8000000 in
theorem ts_21 {S E F C W n D K : Nat} (hxp : fm_xp g S E F) (hfl : fm_flt g) (hH : fm_th a0 C W) (hT : fm_TS a0 g a n D K) (hR : fm_TR a n) : fe_R 10 gk_m251 7 [(1, .int 21), (0, .ref 0)] [] (fm g tp bt a b) (fm_FTS a0 g tp bt b S E) := by
  obtain ⟨⟨eD, hD3, eK, hK30, hnK⟩, h8, h9⟩ := hT.2.2.2.2.2
  refine fe_s 3 (pc' := 14) (lc' := [(1, .int 21), (0, .ref 0)]) (stk' := [.int 3374, .ref 1]) (mem' := fm g tp bt a b) (fun _ _ _ => rfl) ?_
  refine fe_ldI (by rfl) (by rfl) (fx_inN (i := 3374) (by omega) (by omega)) ?_
  rw [show Int32.toNatClampNeg (3374) = 3374 from rfl]
  rw [hT.2.2.2.2.1]
  refine fe_s 9 (pc' := 28) (lc' := [(3, .int (3846 + (6 * (nI n)))), (2, .int (nI n)), (1, .int 21), (0, .ref 0)]) (stk' := [.int 18, .int 21]) (mem' := fm g tp bt a b) (fun _ _ _ => rfl) ?_
  rw [show (3846 + (6 * (nI n)) : Int32) = nI (3846 + (6 * n)) from by simp only [show (3846 : Int32) = nI 3846 from rfl, show (6 : Int32) = nI 6 from rfl, nI_add, fm_mul]]
  refine fe_s 1 (pc' := cond (fx_cb .eq 21 18) 37 31) (lc' := [(3, .int (nI (3846 + (6 * n)))), (2, .int (nI n)), (1, .int 21), (0, .ref 0)]) (stk' := []) (mem' := fm g tp bt a b) (fun _ _ _ => rfl) ?_
  rw [show (fx_cb .eq 21 18) = false from by decide]
  dsimp only [cond]
  refine fe_s 2 (pc' := 34) (lc' := [(3, .int (nI (3846 + (6 * n)))), (2, .int (nI n)), (1, .int 21), (0, .ref 0)]) (stk' := [.int 19, .int 21]) (mem' := fm g tp bt a b) (fun _ _ _ => rfl) ?_
  refine fe_s 1 (pc' := cond (fx_cb .ne 21 19) 41 37) (lc' := [(3, .int (nI (3846 + (6 * n)))), (2, .int (nI n)), (1, .int 21), (0, .ref 0)]) (stk' := []) (mem' := fm g tp bt a b) (fun _ _ _ => rfl) ?_
  rw [show (fx_cb .ne 21 19) = true from by decide]
  dsimp only [cond]
  refine fe_s 4 (pc' := 47) (lc' := [(4, .int 0), (3, .int (nI (3846 + (6 * n)))), (2, .int (nI n)), (1, .int 21), (0, .ref 0)]) (stk' := [.int 11, .int 21]) (mem' := fm g tp bt a b) (fun _ _ _ => rfl) ?_
  refine fe_s 1 (pc' := cond (fx_cb .lt 21 11) 81 50) (lc' := [(4, .int 0), (3, .int (nI (3846 + (6 * n)))), (2, .int (nI n)), (1, .int 21), (0, .ref 0)]) (stk' := []) (mem' := fm g tp bt a b) (fun _ _ _ => rfl) ?_
  rw [show (fx_cb .lt 21 11) = false from by decide]
  dsimp only [cond]
  refine fe_s 2 (pc' := 53) (lc' := [(4, .int 0), (3, .int (nI (3846 + (6 * n)))), (2, .int (nI n)), (1, .int 21), (0, .ref 0)]) (stk' := [.int 21, .int 21]) (mem' := fm g tp bt a b) (fun _ _ _ => rfl) ?_
  refine fe_s 1 (pc' := cond (fx_cb .gt 21 21) 81 56) (lc' := [(4, .int 0), (3, .int (nI (3846 + (6 * n)))), (2, .int (nI n)), (1, .int 21), (0, .ref 0)]) (stk' := []) (mem' := fm g tp bt a b) (fun _ _ _ => rfl) ?_
  rw [show (fx_cb .gt 21 21) = false from by decide]
  dsimp only [cond]
  refine fe_s 2 (pc' := 59) (lc' := [(4, .int 0), (3, .int (nI (3846 + (6 * n)))), (2, .int (nI n)), (1, .int 21), (0, .ref 0)]) (stk' := [.int 16, .int 21]) (mem' := fm g tp bt a b) (fun _ _ _ => rfl) ?_
  refine fe_s 1 (pc' := cond (fx_cb .eq 21 16) 81 62) (lc' := [(4, .int 0), (3, .int (nI (3846 + (6 * n)))), (2, .int (nI n)), (1, .int 21), (0, .ref 0)]) (stk' := []) (mem' := fm g tp bt a b) (fun _ _ _ => rfl) ?_
  rw [show (fx_cb .eq 21 16) = false from by decide]
  dsimp only [cond]
  refine fe_s 2 (pc' := 65) (lc' := [(4, .int 0), (3, .int (nI (3846 + (6 * n)))), (2, .int (nI n)), (1, .int 21), (0, .ref 0)]) (stk' := [.int 17, .int 21]) (mem' := fm g tp bt a b) (fun _ _ _ => rfl) ?_
  refine fe_s 1 (pc' := cond (fx_cb .eq 21 17) 81 68) (lc' := [(4, .int 0), (3, .int (nI (3846 + (6 * n)))), (2, .int (nI n)), (1, .int 21), (0, .ref 0)]) (stk' := []) (mem' := fm g tp bt a b) (fun _ _ _ => rfl) ?_
  rw [show (fx_cb .eq 21 17) = false from by decide]
  dsimp only [cond]
  refine fe_s 2 (pc' := 71) (lc' := [(4, .int 0), (3, .int (nI (3846 + (6 * n)))), (2, .int (nI n)), (1, .int 21), (0, .ref 0)]) (stk' := [.int 20, .int 21]) (mem' := fm g tp bt a b) (fun _ _ _ => rfl) ?_
  refine fe_s 1 (pc' := cond (fx_cb .ne 21 20) 87 74) (lc' := [(4, .int 0), (3, .int (nI (3846 + (6 * n)))), (2, .int (nI n)), (1, .int 21), (0, .ref 0)]) (stk' := []) (mem' := fm g tp bt a b) (fun _ _ _ => rfl) ?_
  rw [show (fx_cb .ne 21 20) = true from by decide]
  dsimp only [cond]
  refine fe_s 2 (pc' := 90) (lc' := [(4, .int 0), (3, .int (nI (3846 + (6 * n)))), (2, .int (nI n)), (1, .int 21), (0, .ref 0)]) (stk' := [.int 20, .int 21]) (mem' := fm g tp bt a b) (fun _ _ _ => rfl) ?_
  refine fe_s 1 (pc' := cond (fx_cb .eq 21 20) 109 93) (lc' := [(4, .int 0), (3, .int (nI (3846 + (6 * n)))), (2, .int (nI n)), (1, .int 21), (0, .ref 0)]) (stk' := []) (mem' := fm g tp bt a b) (fun _ _ _ => rfl) ?_
  rw [show (fx_cb .eq 21 20) = false from by decide]
  dsimp only [cond]
  refine fe_s 3 (pc' := 99) (lc' := [(4, .int 0), (3, .int (nI (3846 + (6 * n)))), (2, .int (nI n)), (1, .int 21), (0, .ref 0)]) (stk' := [.int 30, .int (g 23)]) (mem' := fm g tp bt a b) (fun _ _ _ => rfl) ?_
  try rw [eK]
  refine fe_s 1 (pc' := cond (fx_cb .ne (nI K) 30) 109 102) (lc' := [(4, .int 0), (3, .int (nI (3846 + (6 * n)))), (2, .int (nI n)), (1, .int 21), (0, .ref 0)]) (stk' := []) (mem' := fm g tp bt a b) (fun _ _ _ => rfl) ?_
  by_cases h1 : K = 30
  · rw [show (fx_cb .ne (nI K) 30) = false from cb_neF (a := K) (b := 30) (by omega) (by omega) (by omega)]
    dsimp only [cond]
    refine fe_s 2 (pc' := 105) (lc' := [(4, .int 0), (3, .int (nI (3846 + (6 * n)))), (2, .int (nI n)), (1, .int 21), (0, .ref 0)]) (stk' := [.int 6, .ref 0]) (mem' := fm g tp bt a b) (fun _ _ _ => rfl) ?_
    obtain ⟨gf2, hfrf2, hof2, hzf2⟩ := fr_failsq (x := 6) (g := g) (tp := tp) (bt := bt) (a := a) (b := b) (by omega) (by omega) (fm_gy_rf hxp hfl).2.1 (fm_gy_rf hxp hfl).2.2.1
    have gof2 := fm_gy_tr (fm_gy_rf hxp hfl) hof2
    have d22f2 : gf2 22 = nI D := by rw [hof2.1 22 (by decide) (by decide) (by decide) (by decide) (by decide) (by decide)]; first | exact eD | rfl
    have d23f2 : gf2 23 = nI K := by rw [hof2.1 23 (by decide) (by decide) (by decide) (by decide) (by decide) (by decide)]; first | exact eK | rfl
    refine fe_ivV hfrf2 (by omega) (by rfl) (by rfl) (by rfl) (by rfl) (by rfl) (by rfl) ?_
    exact fe_ret ⟨_, _, _, _, _, n, D, K, gof2, ⟨hT.1, hT.2.1, hT.2.2.1, hT.2.2.2.1, hT.2.2.2.2.1, ⟨d22f2, hD3, d23f2, hK30, hnK⟩, h8, h9⟩, Or.inl ⟨rfl, hzf2⟩, rfl⟩ (by rfl) (by rfl) (by rfl)
  · rw [show (fx_cb .ne (nI K) 30) = true from cb_neT (a := K) (b := 30) (by omega) (by omega) (by omega)]
    dsimp only [cond]
    refine fe_s 1 (pc' := 111) (lc' := [(4, .int 0), (3, .int (nI (3846 + (6 * n)))), (2, .int (nI n)), (1, .int 21), (0, .ref 0)]) (stk' := [.int 0]) (mem' := fm g tp bt a b) (fun _ _ _ => rfl) ?_
    refine fe_s 1 (pc' := cond (fx_cb .eq 0 0) 129 114) (lc' := [(4, .int 0), (3, .int (nI (3846 + (6 * n)))), (2, .int (nI n)), (1, .int 21), (0, .ref 0)]) (stk' := []) (mem' := fm g tp bt a b) (fun _ _ _ => rfl) ?_
    rw [show (fx_cb .eq 0 0) = true from by decide]
    dsimp only [cond]
    refine fe_s 5 (pc' := 137) (lc' := [(4, .int 0), (3, .int (nI (3846 + (6 * n)))), (2, .int (nI n)), (1, .int 21), (0, .ref 0)]) (stk' := [.int 20, .int 21, .int (g 23), .ref 0]) (mem' := fm g tp bt a b) (fun _ _ _ => rfl) ?_
    try rw [eK]
    refine fe_s 1 (pc' := cond (fx_cb .ne 21 20) 144 140) (lc' := [(4, .int 0), (3, .int (nI (3846 + (6 * n)))), (2, .int (nI n)), (1, .int 21), (0, .ref 0)]) (stk' := [.int (nI K), .ref 0]) (mem' := fm g tp bt a b) (fun _ _ _ => rfl) ?_
    rw [show (fx_cb .ne 21 20) = true from by decide]
    dsimp only [cond]
    refine fe_s 7 (pc' := 155) (lc' := [(4, .int 0), (3, .int (nI (3846 + (6 * n)))), (2, .int (nI n)), (1, .int 21), (0, .ref 0)]) (stk' := [.int 21, .int (nI (3846 + (6 * n))), .ref 1]) (mem' := fm (upd g 23 ((nI K) + 1)) tp bt a b) (fun _ _ _ => rfl) ?_
    rw [show ((nI K) + 1 : Int32) = nI (K + 1) from by simp only [show (1 : Int32) = nI 1 from rfl, nI_add, fm_mul]]
    have hn60 : n < 60 := by omega
    refine fe_stI (mem' := fm (upd g 23 (nI (K + 1))) tp bt (fm_u a 1 (nI (3846 + (6 * n)) : Int32).toNatClampNeg 21) b) (by rfl) (by rfl) (fx_inN (i := 3846 + (6 * n)) (by omega) (by omega)) fm_si1 ?_
    rw [show Int32.toNatClampNeg (nI (3846 + (6 * n))) = 3846 + (6 * n) from nI_clamp (by omega)]
    refine fe_s 4 (pc' := 163) (lc' := [(5, .int 1), (4, .int 0), (3, .int (nI (3846 + (6 * n)))), (2, .int (nI n)), (1, .int 21), (0, .ref 0)]) (stk' := [.int 6, .int 1]) (mem' := fm (upd g 23 (nI (K + 1))) tp bt (fm_u a 1 (3846 + (6 * n)) 21) b) (fun _ _ _ => rfl) ?_
    refine fe_s 1 (pc' := cond (fx_cb .ge 1 6) 182 166) (lc' := [(5, .int 1), (4, .int 0), (3, .int (nI (3846 + (6 * n)))), (2, .int (nI n)), (1, .int 21), (0, .ref 0)]) (stk' := []) (mem' := fm (upd g 23 (nI (K + 1))) tp bt (fm_u a 1 (3846 + (6 * n)) 21) b) (fun _ _ _ => rfl) ?_
    rw [show (fx_cb .ge 1 6) = false from by decide]
    dsimp only [cond]
    refine fe_s 6 (pc' := 175) (lc' := [(5, .int 1), (4, .int 0), (3, .int (nI (3846 + (6 * n)))), (2, .int (nI n)), (1, .int 21), (0, .ref 0)]) (stk' := [.int 0, .int ((nI (3846 + (6 * n))) + 1), .ref 1]) (mem' := fm (upd g 23 (nI (K + 1))) tp bt (fm_u a 1 (3846 + (6 * n)) 21) b) (fun _ _ _ => rfl) ?_
    rw [show ((nI (3846 + (6 * n))) + 1 : Int32) = nI ((3846 + (6 * n)) + 1) from by simp only [show (1 : Int32) = nI 1 from rfl, nI_add, fm_mul]]
    refine fe_stI (mem' := fm (upd g 23 (nI (K + 1))) tp bt (fm_u (fm_u a 1 (3846 + (6 * n)) 21) 1 (nI ((3846 + (6 * n)) + 1) : Int32).toNatClampNeg 0) b) (by rfl) (by rfl) (fx_inN (i := (3846 + (6 * n)) + 1) (by omega) (by omega)) fm_si1 ?_
    rw [show Int32.toNatClampNeg (nI ((3846 + (6 * n)) + 1)) = (3846 + (6 * n)) + 1 from nI_clamp (by omega)]
    refine fe_s 4 (pc' := 163) (lc' := [(5, .int (1 + 1)), (4, .int 0), (3, .int (nI (3846 + (6 * n)))), (2, .int (nI n)), (1, .int 21), (0, .ref 0)]) (stk' := [.int 6, .int (1 + 1)]) (mem' := fm (upd g 23 (nI (K + 1))) tp bt (fm_u (fm_u a 1 (3846 + (6 * n)) 21) 1 ((3846 + (6 * n)) + 1) 0) b) (fun _ _ _ => rfl) ?_
    rw [show (1 + 1 : Int32) = 2 from rfl]
    refine fe_s 1 (pc' := cond (fx_cb .ge 2 6) 182 166) (lc' := [(5, .int 2), (4, .int 0), (3, .int (nI (3846 + (6 * n)))), (2, .int (nI n)), (1, .int 21), (0, .ref 0)]) (stk' := []) (mem' := fm (upd g 23 (nI (K + 1))) tp bt (fm_u (fm_u a 1 (3846 + (6 * n)) 21) 1 ((3846 + (6 * n)) + 1) 0) b) (fun _ _ _ => rfl) ?_
    rw [show (fx_cb .ge 2 6) = false from by decide]
    dsimp only [cond]
    refine fe_s 6 (pc' := 175) (lc' := [(5, .int 2), (4, .int 0), (3, .int (nI (3846 + (6 * n)))), (2, .int (nI n)), (1, .int 21), (0, .ref 0)]) (stk' := [.int 0, .int ((nI (3846 + (6 * n))) + 2), .ref 1]) (mem' := fm (upd g 23 (nI (K + 1))) tp bt (fm_u (fm_u a 1 (3846 + (6 * n)) 21) 1 ((3846 + (6 * n)) + 1) 0) b) (fun _ _ _ => rfl) ?_
    rw [show ((nI (3846 + (6 * n))) + 2 : Int32) = nI ((3846 + (6 * n)) + 2) from by simp only [show (2 : Int32) = nI 2 from rfl, nI_add, fm_mul]]
    refine fe_stI (mem' := fm (upd g 23 (nI (K + 1))) tp bt (fm_u (fm_u (fm_u a 1 (3846 + (6 * n)) 21) 1 ((3846 + (6 * n)) + 1) 0) 1 (nI ((3846 + (6 * n)) + 2) : Int32).toNatClampNeg 0) b) (by rfl) (by rfl) (fx_inN (i := (3846 + (6 * n)) + 2) (by omega) (by omega)) fm_si1 ?_
    rw [show Int32.toNatClampNeg (nI ((3846 + (6 * n)) + 2)) = (3846 + (6 * n)) + 2 from nI_clamp (by omega)]
    refine fe_s 4 (pc' := 163) (lc' := [(5, .int (2 + 1)), (4, .int 0), (3, .int (nI (3846 + (6 * n)))), (2, .int (nI n)), (1, .int 21), (0, .ref 0)]) (stk' := [.int 6, .int (2 + 1)]) (mem' := fm (upd g 23 (nI (K + 1))) tp bt (fm_u (fm_u (fm_u a 1 (3846 + (6 * n)) 21) 1 ((3846 + (6 * n)) + 1) 0) 1 ((3846 + (6 * n)) + 2) 0) b) (fun _ _ _ => rfl) ?_
    rw [show (2 + 1 : Int32) = 3 from rfl]
    refine fe_s 1 (pc' := cond (fx_cb .ge 3 6) 182 166) (lc' := [(5, .int 3), (4, .int 0), (3, .int (nI (3846 + (6 * n)))), (2, .int (nI n)), (1, .int 21), (0, .ref 0)]) (stk' := []) (mem' := fm (upd g 23 (nI (K + 1))) tp bt (fm_u (fm_u (fm_u a 1 (3846 + (6 * n)) 21) 1 ((3846 + (6 * n)) + 1) 0) 1 ((3846 + (6 * n)) + 2) 0) b) (fun _ _ _ => rfl) ?_
    rw [show (fx_cb .ge 3 6) = false from by decide]
    dsimp only [cond]
    refine fe_s 6 (pc' := 175) (lc' := [(5, .int 3), (4, .int 0), (3, .int (nI (3846 + (6 * n)))), (2, .int (nI n)), (1, .int 21), (0, .ref 0)]) (stk' := [.int 0, .int ((nI (3846 + (6 * n))) + 3), .ref 1]) (mem' := fm (upd g 23 (nI (K + 1))) tp bt (fm_u (fm_u (fm_u a 1 (3846 + (6 * n)) 21) 1 ((3846 + (6 * n)) + 1) 0) 1 ((3846 + (6 * n)) + 2) 0) b) (fun _ _ _ => rfl) ?_
    rw [show ((nI (3846 + (6 * n))) + 3 : Int32) = nI ((3846 + (6 * n)) + 3) from by simp only [show (3 : Int32) = nI 3 from rfl, nI_add, fm_mul]]
    refine fe_stI (mem' := fm (upd g 23 (nI (K + 1))) tp bt (fm_u (fm_u (fm_u (fm_u a 1 (3846 + (6 * n)) 21) 1 ((3846 + (6 * n)) + 1) 0) 1 ((3846 + (6 * n)) + 2) 0) 1 (nI ((3846 + (6 * n)) + 3) : Int32).toNatClampNeg 0) b) (by rfl) (by rfl) (fx_inN (i := (3846 + (6 * n)) + 3) (by omega) (by omega)) fm_si1 ?_
    rw [show Int32.toNatClampNeg (nI ((3846 + (6 * n)) + 3)) = (3846 + (6 * n)) + 3 from nI_clamp (by omega)]
    refine fe_s 4 (pc' := 163) (lc' := [(5, .int (3 + 1)), (4, .int 0), (3, .int (nI (3846 + (6 * n)))), (2, .int (nI n)), (1, .int 21), (0, .ref 0)]) (stk' := [.int 6, .int (3 + 1)]) (mem' := fm (upd g 23 (nI (K + 1))) tp bt (fm_u (fm_u (fm_u (fm_u a 1 (3846 + (6 * n)) 21) 1 ((3846 + (6 * n)) + 1) 0) 1 ((3846 + (6 * n)) + 2) 0) 1 ((3846 + (6 * n)) + 3) 0) b) (fun _ _ _ => rfl) ?_
    rw [show (3 + 1 : Int32) = 4 from rfl]
    refine fe_s 1 (pc' := cond (fx_cb .ge 4 6) 182 166) (lc' := [(5, .int 4), (4, .int 0), (3, .int (nI (3846 + (6 * n)))), (2, .int (nI n)), (1, .int 21), (0, .ref 0)]) (stk' := []) (mem' := fm (upd g 23 (nI (K + 1))) tp bt (fm_u (fm_u (fm_u (fm_u a 1 (3846 + (6 * n)) 21) 1 ((3846 + (6 * n)) + 1) 0) 1 ((3846 + (6 * n)) + 2) 0) 1 ((3846 + (6 * n)) + 3) 0) b) (fun _ _ _ => rfl) ?_
    rw [show (fx_cb .ge 4 6) = false from by decide]
    dsimp only [cond]
    refine fe_s 6 (pc' := 175) (lc' := [(5, .int 4), (4, .int 0), (3, .int (nI (3846 + (6 * n)))), (2, .int (nI n)), (1, .int 21), (0, .ref 0)]) (stk' := [.int 0, .int ((nI (3846 + (6 * n))) + 4), .ref 1]) (mem' := fm (upd g 23 (nI (K + 1))) tp bt (fm_u (fm_u (fm_u (fm_u a 1 (3846 + (6 * n)) 21) 1 ((3846 + (6 * n)) + 1) 0) 1 ((3846 + (6 * n)) + 2) 0) 1 ((3846 + (6 * n)) + 3) 0) b) (fun _ _ _ => rfl) ?_
    rw [show ((nI (3846 + (6 * n))) + 4 : Int32) = nI ((3846 + (6 * n)) + 4) from by simp only [show (4 : Int32) = nI 4 from rfl, nI_add, fm_mul]]
    refine fe_stI (mem' := fm (upd g 23 (nI (K + 1))) tp bt (fm_u (fm_u (fm_u (fm_u (fm_u a 1 (3846 + (6 * n)) 21) 1 ((3846 + (6 * n)) + 1) 0) 1 ((3846 + (6 * n)) + 2) 0) 1 ((3846 + (6 * n)) + 3) 0) 1 (nI ((3846 + (6 * n)) + 4) : Int32).toNatClampNeg 0) b) (by rfl) (by rfl) (fx_inN (i := (3846 + (6 * n)) + 4) (by omega) (by omega)) fm_si1 ?_
    rw [show Int32.toNatClampNeg (nI ((3846 + (6 * n)) + 4)) = (3846 + (6 * n)) + 4 from nI_clamp (by omega)]
    refine fe_s 4 (pc' := 163) (lc' := [(5, .int (4 + 1)), (4, .int 0), (3, .int (nI (3846 + (6 * n)))), (2, .int (nI n)), (1, .int 21), (0, .ref 0)]) (stk' := [.int 6, .int (4 + 1)]) (mem' := fm (upd g 23 (nI (K + 1))) tp bt (fm_u (fm_u (fm_u (fm_u (fm_u a 1 (3846 + (6 * n)) 21) 1 ((3846 + (6 * n)) + 1) 0) 1 ((3846 + (6 * n)) + 2) 0) 1 ((3846 + (6 * n)) + 3) 0) 1 ((3846 + (6 * n)) + 4) 0) b) (fun _ _ _ => rfl) ?_
    rw [show (4 + 1 : Int32) = 5 from rfl]
    refine fe_s 1 (pc' := cond (fx_cb .ge 5 6) 182 166) (lc' := [(5, .int 5), (4, .int 0), (3, .int (nI (3846 + (6 * n)))), (2, .int (nI n)), (1, .int 21), (0, .ref 0)]) (stk' := []) (mem' := fm (upd g 23 (nI (K + 1))) tp bt (fm_u (fm_u (fm_u (fm_u (fm_u a 1 (3846 + (6 * n)) 21) 1 ((3846 + (6 * n)) + 1) 0) 1 ((3846 + (6 * n)) + 2) 0) 1 ((3846 + (6 * n)) + 3) 0) 1 ((3846 + (6 * n)) + 4) 0) b) (fun _ _ _ => rfl) ?_
    rw [show (fx_cb .ge 5 6) = false from by decide]
    dsimp only [cond]
    refine fe_s 6 (pc' := 175) (lc' := [(5, .int 5), (4, .int 0), (3, .int (nI (3846 + (6 * n)))), (2, .int (nI n)), (1, .int 21), (0, .ref 0)]) (stk' := [.int 0, .int ((nI (3846 + (6 * n))) + 5), .ref 1]) (mem' := fm (upd g 23 (nI (K + 1))) tp bt (fm_u (fm_u (fm_u (fm_u (fm_u a 1 (3846 + (6 * n)) 21) 1 ((3846 + (6 * n)) + 1) 0) 1 ((3846 + (6 * n)) + 2) 0) 1 ((3846 + (6 * n)) + 3) 0) 1 ((3846 + (6 * n)) + 4) 0) b) (fun _ _ _ => rfl) ?_
    rw [show ((nI (3846 + (6 * n))) + 5 : Int32) = nI ((3846 + (6 * n)) + 5) from by simp only [show (5 : Int32) = nI 5 from rfl, nI_add, fm_mul]]
    refine fe_stI (mem' := fm (upd g 23 (nI (K + 1))) tp bt (fm_u (fm_u (fm_u (fm_u (fm_u (fm_u a 1 (3846 + (6 * n)) 21) 1 ((3846 + (6 * n)) + 1) 0) 1 ((3846 + (6 * n)) + 2) 0) 1 ((3846 + (6 * n)) + 3) 0) 1 ((3846 + (6 * n)) + 4) 0) 1 (nI ((3846 + (6 * n)) + 5) : Int32).toNatClampNeg 0) b) (by rfl) (by rfl) (fx_inN (i := (3846 + (6 * n)) + 5) (by omega) (by omega)) fm_si1 ?_
    rw [show Int32.toNatClampNeg (nI ((3846 + (6 * n)) + 5)) = (3846 + (6 * n)) + 5 from nI_clamp (by omega)]
    refine fe_s 4 (pc' := 163) (lc' := [(5, .int (5 + 1)), (4, .int 0), (3, .int (nI (3846 + (6 * n)))), (2, .int (nI n)), (1, .int 21), (0, .ref 0)]) (stk' := [.int 6, .int (5 + 1)]) (mem' := fm (upd g 23 (nI (K + 1))) tp bt (fm_u (fm_u (fm_u (fm_u (fm_u (fm_u a 1 (3846 + (6 * n)) 21) 1 ((3846 + (6 * n)) + 1) 0) 1 ((3846 + (6 * n)) + 2) 0) 1 ((3846 + (6 * n)) + 3) 0) 1 ((3846 + (6 * n)) + 4) 0) 1 ((3846 + (6 * n)) + 5) 0) b) (fun _ _ _ => rfl) ?_
    rw [show (5 + 1 : Int32) = 6 from rfl]
    refine fe_s 1 (pc' := cond (fx_cb .ge 6 6) 182 166) (lc' := [(5, .int 6), (4, .int 0), (3, .int (nI (3846 + (6 * n)))), (2, .int (nI n)), (1, .int 21), (0, .ref 0)]) (stk' := []) (mem' := fm (upd g 23 (nI (K + 1))) tp bt (fm_u (fm_u (fm_u (fm_u (fm_u (fm_u a 1 (3846 + (6 * n)) 21) 1 ((3846 + (6 * n)) + 1) 0) 1 ((3846 + (6 * n)) + 2) 0) 1 ((3846 + (6 * n)) + 3) 0) 1 ((3846 + (6 * n)) + 4) 0) 1 ((3846 + (6 * n)) + 5) 0) b) (fun _ _ _ => rfl) ?_
    rw [show (fx_cb .ge 6 6) = true from by decide]
    dsimp only [cond]
    refine fe_s 4 (pc' := 190) (lc' := [(5, .int 6), (4, .int 0), (3, .int (nI (3846 + (6 * n)))), (2, .int (nI n)), (1, .int 21), (0, .ref 0)]) (stk' := [.int 3374, .ref 1, .int 3374, .ref 1]) (mem' := fm (upd g 23 (nI (K + 1))) tp bt (fm_u (fm_u (fm_u (fm_u (fm_u (fm_u a 1 (3846 + (6 * n)) 21) 1 ((3846 + (6 * n)) + 1) 0) 1 ((3846 + (6 * n)) + 2) 0) 1 ((3846 + (6 * n)) + 3) 0) 1 ((3846 + (6 * n)) + 4) 0) 1 ((3846 + (6 * n)) + 5) 0) b) (fun _ _ _ => rfl) ?_
    refine fe_ldI (by rfl) (by rfl) (fx_inN (i := 3374) (by omega) (by omega)) ?_
    rw [show Int32.toNatClampNeg (3374) = 3374 from rfl]
    rw [show (fm_u (fm_u (fm_u (fm_u (fm_u (fm_u a 1 (3846 + (6 * n)) 21) 1 ((3846 + (6 * n)) + 1) 0) 1 ((3846 + (6 * n)) + 2) 0) 1 ((3846 + (6 * n)) + 3) 0) 1 ((3846 + (6 * n)) + 4) 0) 1 ((3846 + (6 * n)) + 5) 0) 1 3374 = nI n from by rw [fm_u1, if_neg (by omega), fm_u1, if_neg (by omega), fm_u1, if_neg (by omega), fm_u1, if_neg (by omega), fm_u1, if_neg (by omega), fm_u1, if_neg (by omega)]; exact hT.2.2.2.2.1]
    refine fe_s 2 (pc' := 193) (lc' := [(5, .int 6), (4, .int 0), (3, .int (nI (3846 + (6 * n)))), (2, .int (nI n)), (1, .int 21), (0, .ref 0)]) (stk' := [.int ((nI n) + 1), .int 3374, .ref 1]) (mem' := fm (upd g 23 (nI (K + 1))) tp bt (fm_u (fm_u (fm_u (fm_u (fm_u (fm_u a 1 (3846 + (6 * n)) 21) 1 ((3846 + (6 * n)) + 1) 0) 1 ((3846 + (6 * n)) + 2) 0) 1 ((3846 + (6 * n)) + 3) 0) 1 ((3846 + (6 * n)) + 4) 0) 1 ((3846 + (6 * n)) + 5) 0) b) (fun _ _ _ => rfl) ?_
    rw [show ((nI n) + 1 : Int32) = nI (n + 1) from by simp only [show (1 : Int32) = nI 1 from rfl, nI_add, fm_mul]]
    refine fe_stI (mem' := fm (upd g 23 (nI (K + 1))) tp bt (fm_u (fm_u (fm_u (fm_u (fm_u (fm_u (fm_u a 1 (3846 + (6 * n)) 21) 1 ((3846 + (6 * n)) + 1) 0) 1 ((3846 + (6 * n)) + 2) 0) 1 ((3846 + (6 * n)) + 3) 0) 1 ((3846 + (6 * n)) + 4) 0) 1 ((3846 + (6 * n)) + 5) 0) 1 (3374 : Int32).toNatClampNeg (nI (n + 1))) b) (by rfl) (by rfl) (fx_inN (i := 3374) (by omega) (by omega)) fm_si1 ?_
    rw [show Int32.toNatClampNeg (3374) = 3374 from rfl]
    obtain ⟨at9, hat9⟩ : ∃ z, z = fm_row a n (3846 + 6 * n) 21 := ⟨_, rfl⟩
    rw [show (fm_u (fm_u (fm_u (fm_u (fm_u (fm_u (fm_u a 1 (3846 + (6 * n)) 21) 1 ((3846 + (6 * n)) + 1) 0) 1 ((3846 + (6 * n)) + 2) 0) 1 ((3846 + (6 * n)) + 3) 0) 1 ((3846 + (6 * n)) + 4) 0) 1 ((3846 + (6 * n)) + 5) 0) 1 (3374) (nI (n + 1))) = at9 from hat9.symm]
    have hCt9 : fm_TC a0 at9 n 21 0 := by rw [hat9]; exact fm_TC_new hT hR hn60 (by decide) (by decide)
    have h8t9 : at9 8 = a 8 := (congrFun hat9 8).trans (fm_row_t (by decide))
    refine fe_s 1 (pc' := 195) (lc' := [(5, .int 6), (4, .int 0), (3, .int (nI (3846 + (6 * n)))), (2, .int (nI n)), (1, .int 21), (0, .ref 0)]) (stk' := [.ref 0]) (mem' := fm (upd g 23 (nI (K + 1))) tp bt at9 b) (fun _ _ _ => rfl) ?_
    obtain ⟨gk10, Ek10, Fk10, hfrk10, hok10, hek10, hpk10⟩ := fr_aheadq (g := (upd g 23 (nI (K + 1)))) (tp := tp) (bt := bt) (a := at9) (b := b) (fm_gy_up (fm_gy_rf hxp hfl) (by decide)).2.1 (fm_gy_up (fm_gy_rf hxp hfl) (by decide)).2.2.1
    have gok10 := fm_gy_tr (fm_gy_up (fm_gy_rf hxp hfl) (by decide)) hok10
    have e18k10 : gk10 18 = g 18 := hek10.trans ((pk_un (by decide)).trans rfl)
    have prk10 : gk10 12 = 0 ∨ E < Ek10 := hpk10.imp id (fun z => by have := (fm_gy_rf hxp hfl).2.2.2; omega)
    have d22k10 : gk10 22 = nI D := by rw [hok10.1 22 (by decide) (by decide) (by decide) (by decide) (by decide) (by decide)]; first | exact eD | rfl
    have d23k10 : gk10 23 = nI (K + 1) := by rw [hok10.1 23 (by decide) (by decide) (by decide) (by decide) (by decide) (by decide)]; first | exact rfl | rfl
    refine fe_ivV hfrk10 (by omega) (by rfl) (by rfl) (by rfl) (by rfl) (by rfl) (by rfl) ?_
    refine fe_s 3 (pc' := 201) (lc' := [(5, .int 6), (4, .int 0), (3, .int (nI (3846 + (6 * n)))), (2, .int (nI n)), (1, .int 21), (0, .ref 0)]) (stk' := [.int (nI (3846 + (6 * n))), .int 21, .ref 0]) (mem' := fm gk10 tp bt at9 b) (fun _ _ _ => rfl) ?_
    obtain ⟨vp11, memp11, ⟨xp11, gp11, Ep11, Fp11, ap11, Xp11, Yp11, hop11, hCp11, h8p11, hvp11, hRp11⟩, hfrp11⟩ := fr_taleOrder21 (g := gk10) (tp := tp) (bt := bt) (a := at9) (b := b) (a0 := a0) gok10.2.1 gok10.2.2.1 hH hCt9
    cases hRp11
    have h9p11 : ap11 8 = a 8 := h8p11.trans h8t9
    have gop11 := fm_gy_tr gok10 hop11
    have d22p11 : gp11 22 = nI D := by rw [hop11.1 22 (by decide) (by decide) (by decide) (by decide) (by decide) (by decide)]; first | exact d22k10 | rfl
    have d23p11 : gp11 23 = nI (K + 1) := by rw [hop11.1 23 (by decide) (by decide) (by decide) (by decide) (by decide) (by decide)]; first | exact d23k10 | rfl
    refine fe_ivV hfrp11 (by omega) (by rfl) (by rfl) (by rfl) (by rfl) (by rfl) (by rfl) ?_
    rcases hvp11 with ⟨rfl, hzp11⟩ | ⟨rfl, hep11, hrop11⟩
    · refine fe_s 1 (pc' := cond (fx_cb .ne 0 0) 209 207) (lc' := [(5, .int 6), (4, .int 0), (3, .int (nI (3846 + (6 * n)))), (2, .int (nI n)), (1, .int 21), (0, .ref 0)]) (stk' := []) (mem' := fm gp11 tp bt ap11 b) (fun _ _ _ => rfl) ?_
      rw [show (fx_cb .ne 0 0) = false from by decide]
      dsimp only [cond]
      refine fe_s 1 (pc' := 208) (lc' := [(5, .int 6), (4, .int 0), (3, .int (nI (3846 + (6 * n)))), (2, .int (nI n)), (1, .int 21), (0, .ref 0)]) (stk' := [.int 0]) (mem' := fm gp11 tp bt ap11 b) (fun _ _ _ => rfl) ?_
      exact fe_ret ⟨_, _, _, _, _, n + 1, D, (K + 1), gop11, fm_TS_of hCp11 ⟨d22p11, by omega, d23p11, by omega, by omega⟩ (fun d hd => by rw [h9p11]; obtain ⟨q, q1, q2⟩ := h8 d (by omega); exact ⟨q, by omega, q2⟩) (fun d hd => by rw [h9p11]; exact h9 d hd), Or.inl ⟨rfl, hzp11⟩, rfl⟩ (by rfl) (by rfl) (by rfl)
    · have e18p11 : gp11 18 = g 18 := hep11.trans e18k10
      refine fe_s 1 (pc' := cond (fx_cb .ne 1 0) 209 207) (lc' := [(5, .int 6), (4, .int 0), (3, .int (nI (3846 + (6 * n)))), (2, .int (nI n)), (1, .int 21), (0, .ref 0)]) (stk' := []) (mem' := fm gp11 tp bt ap11 b) (fun _ _ _ => rfl) ?_
      rw [show (fx_cb .ne 1 0) = true from by decide]
      dsimp only [cond]
      refine fe_s 1 (pc' := 211) (lc' := [(5, .int 6), (4, .int 0), (3, .int (nI (3846 + (6 * n)))), (2, .int (nI n)), (1, .int 21), (0, .ref 0)]) (stk' := [.int 0]) (mem' := fm gp11 tp bt ap11 b) (fun _ _ _ => rfl) ?_
      refine fe_s 1 (pc' := cond (fx_cb .eq 0 0) 234 214) (lc' := [(5, .int 6), (4, .int 0), (3, .int (nI (3846 + (6 * n)))), (2, .int (nI n)), (1, .int 21), (0, .ref 0)]) (stk' := []) (mem' := fm gp11 tp bt ap11 b) (fun _ _ _ => rfl) ?_
      rw [show (fx_cb .eq 0 0) = true from by decide]
      dsimp only [cond]
      refine fe_s 2 (pc' := 237) (lc' := [(5, .int 6), (4, .int 0), (3, .int (nI (3846 + (6 * n)))), (2, .int (nI n)), (1, .int 21), (0, .ref 0)]) (stk' := [.int 20, .int 21]) (mem' := fm gp11 tp bt ap11 b) (fun _ _ _ => rfl) ?_
      refine fe_s 1 (pc' := cond (fx_cb .ne 21 20) 291 240) (lc' := [(5, .int 6), (4, .int 0), (3, .int (nI (3846 + (6 * n)))), (2, .int (nI n)), (1, .int 21), (0, .ref 0)]) (stk' := []) (mem' := fm gp11 tp bt ap11 b) (fun _ _ _ => rfl) ?_
      rw [show (fx_cb .ne 21 20) = true from by decide]
      dsimp only [cond]
      refine fe_s 2 (pc' := 294) (lc' := [(5, .int 6), (4, .int 0), (3, .int (nI (3846 + (6 * n)))), (2, .int (nI n)), (1, .int 21), (0, .ref 0)]) (stk' := [.int 59, .ref 0]) (mem' := fm gp11 tp bt ap11 b) (fun _ _ _ => rfl) ?_
      obtain ⟨xc12, gc12, Ec12, Fc12, hfrc12, hoc12, hvc12⟩ := fr_wantSignq (c := 59) (g := gp11) (tp := tp) (bt := bt) (a := ap11) (b := b) gop11.2.1 gop11.2.2.1
      have goc12 := fm_gy_tr gop11 hoc12
      have d22c12 : gc12 22 = nI D := by rw [hoc12.1 22 (by decide) (by decide) (by decide) (by decide) (by decide) (by decide)]; first | exact d22p11 | rfl
      have d23c12 : gc12 23 = nI (K + 1) := by rw [hoc12.1 23 (by decide) (by decide) (by decide) (by decide) (by decide) (by decide)]; first | exact d23p11 | rfl
      refine fe_ivV hfrc12 (by omega) (by rfl) (by rfl) (by rfl) (by rfl) (by rfl) (by rfl) ?_
      rcases hvc12 with ⟨rfl, hzc12⟩ | ⟨rfl, hec12, hpc12⟩
      · exact fe_ret ⟨_, _, _, _, _, n + 1, D, (K + 1), goc12, fm_TS_of hCp11 ⟨d22c12, by omega, d23c12, by omega, by omega⟩ (fun d hd => by rw [h9p11]; obtain ⟨q, q1, q2⟩ := h8 d (by omega); exact ⟨q, by omega, q2⟩) (fun d hd => by rw [h9p11]; exact h9 d hd), Or.inl ⟨rfl, hzc12⟩, rfl⟩ (by rfl) (by rfl) (by rfl)
      · have e18c12 : gc12 18 = g 18 := hec12.trans e18p11
        have prc12 : gc12 12 = 0 ∨ E < Ec12 := hpc12.imp id (fun z => by have := gop11.2.2.2; omega)
        exact fe_ret ⟨_, _, _, _, _, n + 1, D, (K + 1), goc12, fm_TS_of hCp11 ⟨d22c12, by omega, d23c12, by omega, by omega⟩ (fun d hd => by rw [h9p11]; obtain ⟨q, q1, q2⟩ := h8 d (by omega); exact ⟨q, by omega, q2⟩) (fun d hd => by rw [h9p11]; exact h9 d hd), Or.inr ⟨rfl, e18c12, prc12, fm_TR_of hCp11 hrop11⟩, rfl⟩ (by rfl) (by rfl) (by rfl)
end F4875_step
