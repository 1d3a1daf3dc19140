/-! ===== fx: a STEP of the TALES ===== -/
section F4870_step
variable {g : Nat → Int32} {tp bt : Int64} {a0 a : Nat → Nat → Int32} {b : Nat → Nat → Int64}
set_option maxRecDepth 20000 in
set_option maxHeartbeats 8000000 in
theorem ts_m {S E F C W n D K : Nat} (hxp : fm_xp g S E F) (hfl : fm_flt g) (hH : fm_th a0 C W) (hT : fm_TS a0 g a n D K) (hR : fm_TR a n) : fe_R 10 gk_m251 7 [(1, .int (-1)), (0, .ref 0)] [] (fm g tp bt a b) (fm_FTS a0 g tp bt b S E) := by
  obtain ⟨⟨eD, hD3, eK, hK30, hnK⟩, h8, h9⟩ := hT.2.2.2.2.2
  refine fe_s 3 (pc' := 14) (lc' := [(1, .int (-1)), (0, .ref 0)]) (stk' := [.int 3374, .ref 1]) (mem' := fm g tp bt a b) (fun _ _ _ => rfl) ?_
  refine fe_ldI (by rfl) (by rfl) (fx_inN (i := 3374) (by omega) (by omega)) ?_
  rw [show Int32.toNatClampNeg (3374) = 3374 from rfl]
  rw [hT.2.2.2.2.1]
  refine fe_s 9 (pc' := 28) (lc' := [(3, .int (3846 + (6 * (nI n)))), (2, .int (nI n)), (1, .int (-1)), (0, .ref 0)]) (stk' := [.int 18, .int (-1)]) (mem' := fm g tp bt a b) (fun _ _ _ => rfl) ?_
  rw [show (3846 + (6 * (nI n)) : Int32) = nI (3846 + (6 * n)) from by simp only [show (3846 : Int32) = nI 3846 from rfl, show (6 : Int32) = nI 6 from rfl, nI_add, fm_mul]]
  refine fe_s 1 (pc' := cond (fx_cb .eq (-1) 18) 37 31) (lc' := [(3, .int (nI (3846 + (6 * n)))), (2, .int (nI n)), (1, .int (-1)), (0, .ref 0)]) (stk' := []) (mem' := fm g tp bt a b) (fun _ _ _ => rfl) ?_
  rw [show (fx_cb .eq (-1) 18) = false from by decide]
  dsimp only [cond]
  refine fe_s 2 (pc' := 34) (lc' := [(3, .int (nI (3846 + (6 * n)))), (2, .int (nI n)), (1, .int (-1)), (0, .ref 0)]) (stk' := [.int 19, .int (-1)]) (mem' := fm g tp bt a b) (fun _ _ _ => rfl) ?_
  refine fe_s 1 (pc' := cond (fx_cb .ne (-1) 19) 41 37) (lc' := [(3, .int (nI (3846 + (6 * n)))), (2, .int (nI n)), (1, .int (-1)), (0, .ref 0)]) (stk' := []) (mem' := fm g tp bt a b) (fun _ _ _ => rfl) ?_
  rw [show (fx_cb .ne (-1) 19) = true from by decide]
  dsimp only [cond]
  refine fe_s 4 (pc' := 47) (lc' := [(4, .int 0), (3, .int (nI (3846 + (6 * n)))), (2, .int (nI n)), (1, .int (-1)), (0, .ref 0)]) (stk' := [.int 11, .int (-1)]) (mem' := fm g tp bt a b) (fun _ _ _ => rfl) ?_
  refine fe_s 1 (pc' := cond (fx_cb .lt (-1) 11) 81 50) (lc' := [(4, .int 0), (3, .int (nI (3846 + (6 * n)))), (2, .int (nI n)), (1, .int (-1)), (0, .ref 0)]) (stk' := []) (mem' := fm g tp bt a b) (fun _ _ _ => rfl) ?_
  rw [show (fx_cb .lt (-1) 11) = true from by decide]
  dsimp only [cond]
  refine fe_s 2 (pc' := 83) (lc' := [(4, .int 0), (3, .int (nI (3846 + (6 * n)))), (2, .int (nI n)), (1, .int (-1)), (0, .ref 0)]) (stk' := [.int 2, .ref 0]) (mem' := fm g tp bt a b) (fun _ _ _ => rfl) ?_
  obtain ⟨gf1, hfrf1, hof1, hzf1⟩ := fr_failsq (x := 2) (g := g) (tp := tp) (bt := bt) (a := a) (b := b) (by omega) (by omega) (fm_gy_rf hxp hfl).2.1 (fm_gy_rf hxp hfl).2.2.1
  have gof1 := fm_gy_tr (fm_gy_rf hxp hfl) hof1
  have d22f1 : gf1 22 = nI D := by rw [hof1.1 22 (by decide) (by decide) (by decide) (by decide) (by decide) (by decide)]; first | exact eD | rfl
  have d23f1 : gf1 23 = nI K := by rw [hof1.1 23 (by decide) (by decide) (by decide) (by decide) (by decide) (by decide)]; first | exact eK | rfl
  refine fe_ivV hfrf1 (by omega) (by rfl) (by rfl) (by rfl) (by rfl) (by rfl) (by rfl) ?_
  exact fe_ret ⟨_, _, _, _, _, n, D, K, gof1, ⟨hT.1, hT.2.1, hT.2.2.1, hT.2.2.2.1, hT.2.2.2.2.1, ⟨d22f1, hD3, d23f1, hK30, hnK⟩, h8, h9⟩, Or.inl ⟨rfl, hzf1⟩, rfl⟩ (by rfl) (by rfl) (by rfl)
set_option maxRecDepth 20000 in
set_option maxHeartbeats 8000000 in
theorem ts_0 {S E F C W n D K : Nat} (hxp : fm_xp g S E F) (hfl : fm_flt g) (hH : fm_th a0 C W) (hT : fm_TS a0 g a n D K) (hR : fm_TR a n) : fe_R 10 gk_m251 7 [(1, .int 0), (0, .ref 0)] [] (fm g tp bt a b) (fm_FTS a0 g tp bt b S E) := by
  obtain ⟨⟨eD, hD3, eK, hK30, hnK⟩, h8, h9⟩ := hT.2.2.2.2.2
  refine fe_s 3 (pc' := 14) (lc' := [(1, .int 0), (0, .ref 0)]) (stk' := [.int 3374, .ref 1]) (mem' := fm g tp bt a b) (fun _ _ _ => rfl) ?_
  refine fe_ldI (by rfl) (by rfl) (fx_inN (i := 3374) (by omega) (by omega)) ?_
  rw [show Int32.toNatClampNeg (3374) = 3374 from rfl]
  rw [hT.2.2.2.2.1]
  refine fe_s 9 (pc' := 28) (lc' := [(3, .int (3846 + (6 * (nI n)))), (2, .int (nI n)), (1, .int 0), (0, .ref 0)]) (stk' := [.int 18, .int 0]) (mem' := fm g tp bt a b) (fun _ _ _ => rfl) ?_
  rw [show (3846 + (6 * (nI n)) : Int32) = nI (3846 + (6 * n)) from by simp only [show (3846 : Int32) = nI 3846 from rfl, show (6 : Int32) = nI 6 from rfl, nI_add, fm_mul]]
  refine fe_s 1 (pc' := cond (fx_cb .eq 0 18) 37 31) (lc' := [(3, .int (nI (3846 + (6 * n)))), (2, .int (nI n)), (1, .int 0), (0, .ref 0)]) (stk' := []) (mem' := fm g tp bt a b) (fun _ _ _ => rfl) ?_
  rw [show (fx_cb .eq 0 18) = false from by decide]
  dsimp only [cond]
  refine fe_s 2 (pc' := 34) (lc' := [(3, .int (nI (3846 + (6 * n)))), (2, .int (nI n)), (1, .int 0), (0, .ref 0)]) (stk' := [.int 19, .int 0]) (mem' := fm g tp bt a b) (fun _ _ _ => rfl) ?_
  refine fe_s 1 (pc' := cond (fx_cb .ne 0 19) 41 37) (lc' := [(3, .int (nI (3846 + (6 * n)))), (2, .int (nI n)), (1, .int 0), (0, .ref 0)]) (stk' := []) (mem' := fm g tp bt a b) (fun _ _ _ => rfl) ?_
  rw [show (fx_cb .ne 0 19) = true from by decide]
  dsimp only [cond]
  refine fe_s 4 (pc' := 47) (lc' := [(4, .int 0), (3, .int (nI (3846 + (6 * n)))), (2, .int (nI n)), (1, .int 0), (0, .ref 0)]) (stk' := [.int 11, .int 0]) (mem' := fm g tp bt a b) (fun _ _ _ => rfl) ?_
  refine fe_s 1 (pc' := cond (fx_cb .lt 0 11) 81 50) (lc' := [(4, .int 0), (3, .int (nI (3846 + (6 * n)))), (2, .int (nI n)), (1, .int 0), (0, .ref 0)]) (stk' := []) (mem' := fm g tp bt a b) (fun _ _ _ => rfl) ?_
  rw [show (fx_cb .lt 0 11) = true from by decide]
  dsimp only [cond]
  refine fe_s 2 (pc' := 83) (lc' := [(4, .int 0), (3, .int (nI (3846 + (6 * n)))), (2, .int (nI n)), (1, .int 0), (0, .ref 0)]) (stk' := [.int 2, .ref 0]) (mem' := fm g tp bt a b) (fun _ _ _ => rfl) ?_
  obtain ⟨gf1, hfrf1, hof1, hzf1⟩ := fr_failsq (x := 2) (g := g) (tp := tp) (bt := bt) (a := a) (b := b) (by omega) (by omega) (fm_gy_rf hxp hfl).2.1 (fm_gy_rf hxp hfl).2.2.1
  have gof1 := fm_gy_tr (fm_gy_rf hxp hfl) hof1
  have d22f1 : gf1 22 = nI D := by rw [hof1.1 22 (by decide) (by decide) (by decide) (by decide) (by decide) (by decide)]; first | exact eD | rfl
  have d23f1 : gf1 23 = nI K := by rw [hof1.1 23 (by decide) (by decide) (by decide) (by decide) (by decide) (by decide)]; first | exact eK | rfl
  refine fe_ivV hfrf1 (by omega) (by rfl) (by rfl) (by rfl) (by rfl) (by rfl) (by rfl) ?_
  exact fe_ret ⟨_, _, _, _, _, n, D, K, gof1, ⟨hT.1, hT.2.1, hT.2.2.1, hT.2.2.2.1, hT.2.2.2.2.1, ⟨d22f1, hD3, d23f1, hK30, hnK⟩, h8, h9⟩, Or.inl ⟨rfl, hzf1⟩, rfl⟩ (by rfl) (by rfl) (by rfl)
set_option maxRecDepth 20000 in
set_option maxHeartbeats 8000000 in
theorem ts_1 {S E F C W n D K : Nat} (hxp : fm_xp g S E F) (hfl : fm_flt g) (hH : fm_th a0 C W) (hT : fm_TS a0 g a n D K) (hR : fm_TR a n) : fe_R 10 gk_m251 7 [(1, .int 1), (0, .ref 0)] [] (fm g tp bt a b) (fm_FTS a0 g tp bt b S E) := by
  obtain ⟨⟨eD, hD3, eK, hK30, hnK⟩, h8, h9⟩ := hT.2.2.2.2.2
  refine fe_s 3 (pc' := 14) (lc' := [(1, .int 1), (0, .ref 0)]) (stk' := [.int 3374, .ref 1]) (mem' := fm g tp bt a b) (fun _ _ _ => rfl) ?_
  refine fe_ldI (by rfl) (by rfl) (fx_inN (i := 3374) (by omega) (by omega)) ?_
  rw [show Int32.toNatClampNeg (3374) = 3374 from rfl]
  rw [hT.2.2.2.2.1]
  refine fe_s 9 (pc' := 28) (lc' := [(3, .int (3846 + (6 * (nI n)))), (2, .int (nI n)), (1, .int 1), (0, .ref 0)]) (stk' := [.int 18, .int 1]) (mem' := fm g tp bt a b) (fun _ _ _ => rfl) ?_
  rw [show (3846 + (6 * (nI n)) : Int32) = nI (3846 + (6 * n)) from by simp only [show (3846 : Int32) = nI 3846 from rfl, show (6 : Int32) = nI 6 from rfl, nI_add, fm_mul]]
  refine fe_s 1 (pc' := cond (fx_cb .eq 1 18) 37 31) (lc' := [(3, .int (nI (3846 + (6 * n)))), (2, .int (nI n)), (1, .int 1), (0, .ref 0)]) (stk' := []) (mem' := fm g tp bt a b) (fun _ _ _ => rfl) ?_
  rw [show (fx_cb .eq 1 18) = false from by decide]
  dsimp only [cond]
  refine fe_s 2 (pc' := 34) (lc' := [(3, .int (nI (3846 + (6 * n)))), (2, .int (nI n)), (1, .int 1), (0, .ref 0)]) (stk' := [.int 19, .int 1]) (mem' := fm g tp bt a b) (fun _ _ _ => rfl) ?_
  refine fe_s 1 (pc' := cond (fx_cb .ne 1 19) 41 37) (lc' := [(3, .int (nI (3846 + (6 * n)))), (2, .int (nI n)), (1, .int 1), (0, .ref 0)]) (stk' := []) (mem' := fm g tp bt a b) (fun _ _ _ => rfl) ?_
  rw [show (fx_cb .ne 1 19) = true from by decide]
  dsimp only [cond]
  refine fe_s 4 (pc' := 47) (lc' := [(4, .int 0), (3, .int (nI (3846 + (6 * n)))), (2, .int (nI n)), (1, .int 1), (0, .ref 0)]) (stk' := [.int 11, .int 1]) (mem' := fm g tp bt a b) (fun _ _ _ => rfl) ?_
  refine fe_s 1 (pc' := cond (fx_cb .lt 1 11) 81 50) (lc' := [(4, .int 0), (3, .int (nI (3846 + (6 * n)))), (2, .int (nI n)), (1, .int 1), (0, .ref 0)]) (stk' := []) (mem' := fm g tp bt a b) (fun _ _ _ => rfl) ?_
  rw [show (fx_cb .lt 1 11) = true from by decide]
  dsimp only [cond]
  refine fe_s 2 (pc' := 83) (lc' := [(4, .int 0), (3, .int (nI (3846 + (6 * n)))), (2, .int (nI n)), (1, .int 1), (0, .ref 0)]) (stk' := [.int 2, .ref 0]) (mem' := fm g tp bt a b) (fun _ _ _ => rfl) ?_
  obtain ⟨gf1, hfrf1, hof1, hzf1⟩ := fr_failsq (x := 2) (g := g) (tp := tp) (bt := bt) (a := a) (b := b) (by omega) (by omega) (fm_gy_rf hxp hfl).2.1 (fm_gy_rf hxp hfl).2.2.1
  have gof1 := fm_gy_tr (fm_gy_rf hxp hfl) hof1
  have d22f1 : gf1 22 = nI D := by rw [hof1.1 22 (by decide) (by decide) (by decide) (by decide) (by decide) (by decide)]; first | exact eD | rfl
  have d23f1 : gf1 23 = nI K := by rw [hof1.1 23 (by decide) (by decide) (by decide) (by decide) (by decide) (by decide)]; first | exact eK | rfl
  refine fe_ivV hfrf1 (by omega) (by rfl) (by rfl) (by rfl) (by rfl) (by rfl) (by rfl) ?_
  exact fe_ret ⟨_, _, _, _, _, n, D, K, gof1, ⟨hT.1, hT.2.1, hT.2.2.1, hT.2.2.2.1, hT.2.2.2.2.1, ⟨d22f1, hD3, d23f1, hK30, hnK⟩, h8, h9⟩, Or.inl ⟨rfl, hzf1⟩, rfl⟩ (by rfl) (by rfl) (by rfl)
set_option maxRecDepth 20000 in
set_option maxHeartbeats 8000000 in
theorem ts_2 {S E F C W n D K : Nat} (hxp : fm_xp g S E F) (hfl : fm_flt g) (hH : fm_th a0 C W) (hT : fm_TS a0 g a n D K) (hR : fm_TR a n) : fe_R 10 gk_m251 7 [(1, .int 2), (0, .ref 0)] [] (fm g tp bt a b) (fm_FTS a0 g tp bt b S E) := by
  obtain ⟨⟨eD, hD3, eK, hK30, hnK⟩, h8, h9⟩ := hT.2.2.2.2.2
  refine fe_s 3 (pc' := 14) (lc' := [(1, .int 2), (0, .ref 0)]) (stk' := [.int 3374, .ref 1]) (mem' := fm g tp bt a b) (fun _ _ _ => rfl) ?_
  refine fe_ldI (by rfl) (by rfl) (fx_inN (i := 3374) (by omega) (by omega)) ?_
  rw [show Int32.toNatClampNeg (3374) = 3374 from rfl]
  rw [hT.2.2.2.2.1]
  refine fe_s 9 (pc' := 28) (lc' := [(3, .int (3846 + (6 * (nI n)))), (2, .int (nI n)), (1, .int 2), (0, .ref 0)]) (stk' := [.int 18, .int 2]) (mem' := fm g tp bt a b) (fun _ _ _ => rfl) ?_
  rw [show (3846 + (6 * (nI n)) : Int32) = nI (3846 + (6 * n)) from by simp only [show (3846 : Int32) = nI 3846 from rfl, show (6 : Int32) = nI 6 from rfl, nI_add, fm_mul]]
  refine fe_s 1 (pc' := cond (fx_cb .eq 2 18) 37 31) (lc' := [(3, .int (nI (3846 + (6 * n)))), (2, .int (nI n)), (1, .int 2), (0, .ref 0)]) (stk' := []) (mem' := fm g tp bt a b) (fun _ _ _ => rfl) ?_
  rw [show (fx_cb .eq 2 18) = false from by decide]
  dsimp only [cond]
  refine fe_s 2 (pc' := 34) (lc' := [(3, .int (nI (3846 + (6 * n)))), (2, .int (nI n)), (1, .int 2), (0, .ref 0)]) (stk' := [.int 19, .int 2]) (mem' := fm g tp bt a b) (fun _ _ _ => rfl) ?_
  refine fe_s 1 (pc' := cond (fx_cb .ne 2 19) 41 37) (lc' := [(3, .int (nI (3846 + (6 * n)))), (2, .int (nI n)), (1, .int 2), (0, .ref 0)]) (stk' := []) (mem' := fm g tp bt a b) (fun _ _ _ => rfl) ?_
  rw [show (fx_cb .ne 2 19) = true from by decide]
  dsimp only [cond]
  refine fe_s 4 (pc' := 47) (lc' := [(4, .int 0), (3, .int (nI (3846 + (6 * n)))), (2, .int (nI n)), (1, .int 2), (0, .ref 0)]) (stk' := [.int 11, .int 2]) (mem' := fm g tp bt a b) (fun _ _ _ => rfl) ?_
  refine fe_s 1 (pc' := cond (fx_cb .lt 2 11) 81 50) (lc' := [(4, .int 0), (3, .int (nI (3846 + (6 * n)))), (2, .int (nI n)), (1, .int 2), (0, .ref 0)]) (stk' := []) (mem' := fm g tp bt a b) (fun _ _ _ => rfl) ?_
  rw [show (fx_cb .lt 2 11) = true from by decide]
  dsimp only [cond]
  refine fe_s 2 (pc' := 83) (lc' := [(4, .int 0), (3, .int (nI (3846 + (6 * n)))), (2, .int (nI n)), (1, .int 2), (0, .ref 0)]) (stk' := [.int 2, .ref 0]) (mem' := fm g tp bt a b) (fun _ _ _ => rfl) ?_
  obtain ⟨gf1, hfrf1, hof1, hzf1⟩ := fr_failsq (x := 2) (g := g) (tp := tp) (bt := bt) (a := a) (b := b) (by omega) (by omega) (fm_gy_rf hxp hfl).2.1 (fm_gy_rf hxp hfl).2.2.1
  have gof1 := fm_gy_tr (fm_gy_rf hxp hfl) hof1
  have d22f1 : gf1 22 = nI D := by rw [hof1.1 22 (by decide) (by decide) (by decide) (by decide) (by decide) (by decide)]; first | exact eD | rfl
  have d23f1 : gf1 23 = nI K := by rw [hof1.1 23 (by decide) (by decide) (by decide) (by decide) (by decide) (by decide)]; first | exact eK | rfl
  refine fe_ivV hfrf1 (by omega) (by rfl) (by rfl) (by rfl) (by rfl) (by rfl) (by rfl) ?_
  exact fe_ret ⟨_, _, _, _, _, n, D, K, gof1, ⟨hT.1, hT.2.1, hT.2.2.1, hT.2.2.2.1, hT.2.2.2.2.1, ⟨d22f1, hD3, d23f1, hK30, hnK⟩, h8, h9⟩, Or.inl ⟨rfl, hzf1⟩, rfl⟩ (by rfl) (by rfl) (by rfl)
set_option maxRecDepth 20000 in
set_option maxHeartbeats 8000000 in
theorem ts_3 {S E F C W n D K : Nat} (hxp : fm_xp g S E F) (hfl : fm_flt g) (hH : fm_th a0 C W) (hT : fm_TS a0 g a n D K) (hR : fm_TR a n) : fe_R 10 gk_m251 7 [(1, .int 3), (0, .ref 0)] [] (fm g tp bt a b) (fm_FTS a0 g tp bt b S E) := by
  obtain ⟨⟨eD, hD3, eK, hK30, hnK⟩, h8, h9⟩ := hT.2.2.2.2.2
  refine fe_s 3 (pc' := 14) (lc' := [(1, .int 3), (0, .ref 0)]) (stk' := [.int 3374, .ref 1]) (mem' := fm g tp bt a b) (fun _ _ _ => rfl) ?_
  refine fe_ldI (by rfl) (by rfl) (fx_inN (i := 3374) (by omega) (by omega)) ?_
  rw [show Int32.toNatClampNeg (3374) = 3374 from rfl]
  rw [hT.2.2.2.2.1]
  refine fe_s 9 (pc' := 28) (lc' := [(3, .int (3846 + (6 * (nI n)))), (2, .int (nI n)), (1, .int 3), (0, .ref 0)]) (stk' := [.int 18, .int 3]) (mem' := fm g tp bt a b) (fun _ _ _ => rfl) ?_
  rw [show (3846 + (6 * (nI n)) : Int32) = nI (3846 + (6 * n)) from by simp only [show (3846 : Int32) = nI 3846 from rfl, show (6 : Int32) = nI 6 from rfl, nI_add, fm_mul]]
  refine fe_s 1 (pc' := cond (fx_cb .eq 3 18) 37 31) (lc' := [(3, .int (nI (3846 + (6 * n)))), (2, .int (nI n)), (1, .int 3), (0, .ref 0)]) (stk' := []) (mem' := fm g tp bt a b) (fun _ _ _ => rfl) ?_
  rw [show (fx_cb .eq 3 18) = false from by decide]
  dsimp only [cond]
  refine fe_s 2 (pc' := 34) (lc' := [(3, .int (nI (3846 + (6 * n)))), (2, .int (nI n)), (1, .int 3), (0, .ref 0)]) (stk' := [.int 19, .int 3]) (mem' := fm g tp bt a b) (fun _ _ _ => rfl) ?_
  refine fe_s 1 (pc' := cond (fx_cb .ne 3 19) 41 37) (lc' := [(3, .int (nI (3846 + (6 * n)))), (2, .int (nI n)), (1, .int 3), (0, .ref 0)]) (stk' := []) (mem' := fm g tp bt a b) (fun _ _ _ => rfl) ?_
  rw [show (fx_cb .ne 3 19) = true from by decide]
  dsimp only [cond]
  refine fe_s 4 (pc' := 47) (lc' := [(4, .int 0), (3, .int (nI (3846 + (6 * n)))), (2, .int (nI n)), (1, .int 3), (0, .ref 0)]) (stk' := [.int 11, .int 3]) (mem' := fm g tp bt a b) (fun _ _ _ => rfl) ?_
  refine fe_s 1 (pc' := cond (fx_cb .lt 3 11) 81 50) (lc' := [(4, .int 0), (3, .int (nI (3846 + (6 * n)))), (2, .int (nI n)), (1, .int 3), (0, .ref 0)]) (stk' := []) (mem' := fm g tp bt a b) (fun _ _ _ => rfl) ?_
  rw [show (fx_cb .lt 3 11) = true from by decide]
  dsimp only [cond]
  refine fe_s 2 (pc' := 83) (lc' := [(4, .int 0), (3, .int (nI (3846 + (6 * n)))), (2, .int (nI n)), (1, .int 3), (0, .ref 0)]) (stk' := [.int 2, .ref 0]) (mem' := fm g tp bt a b) (fun _ _ _ => rfl) ?_
  obtain ⟨gf1, hfrf1, hof1, hzf1⟩ := fr_failsq (x := 2) (g := g) (tp := tp) (bt := bt) (a := a) (b := b) (by omega) (by omega) (fm_gy_rf hxp hfl).2.1 (fm_gy_rf hxp hfl).2.2.1
  have gof1 := fm_gy_tr (fm_gy_rf hxp hfl) hof1
  have d22f1 : gf1 22 = nI D := by rw [hof1.1 22 (by decide) (by decide) (by decide) (by decide) (by decide) (by decide)]; first | exact eD | rfl
  have d23f1 : gf1 23 = nI K := by rw [hof1.1 23 (by decide) (by decide) (by decide) (by decide) (by decide) (by decide)]; first | exact eK | rfl
  refine fe_ivV hfrf1 (by omega) (by rfl) (by rfl) (by rfl) (by rfl) (by rfl) (by rfl) ?_
  exact fe_ret ⟨_, _, _, _, _, n, D, K, gof1, ⟨hT.1, hT.2.1, hT.2.2.1, hT.2.2.2.1, hT.2.2.2.2.1, ⟨d22f1, hD3, d23f1, hK30, hnK⟩, h8, h9⟩, Or.inl ⟨rfl, hzf1⟩, rfl⟩ (by rfl) (by rfl) (by rfl)
set_option maxRecDepth 20000 in
set_option maxHeartbeats 8000000 in
theorem ts_4 {S E F C W n D K : Nat} (hxp : fm_xp g S E F) (hfl : fm_flt g) (hH : fm_th a0 C W) (hT : fm_TS a0 g a n D K) (hR : fm_TR a n) : fe_R 10 gk_m251 7 [(1, .int 4), (0, .ref 0)] [] (fm g tp bt a b) (fm_FTS a0 g tp bt b S E) := by
  obtain ⟨⟨eD, hD3, eK, hK30, hnK⟩, h8, h9⟩ := hT.2.2.2.2.2
  refine fe_s 3 (pc' := 14) (lc' := [(1, .int 4), (0, .ref 0)]) (stk' := [.int 3374, .ref 1]) (mem' := fm g tp bt a b) (fun _ _ _ => rfl) ?_
  refine fe_ldI (by rfl) (by rfl) (fx_inN (i := 3374) (by omega) (by omega)) ?_
  rw [show Int32.toNatClampNeg (3374) = 3374 from rfl]
  rw [hT.2.2.2.2.1]
  refine fe_s 9 (pc' := 28) (lc' := [(3, .int (3846 + (6 * (nI n)))), (2, .int (nI n)), (1, .int 4), (0, .ref 0)]) (stk' := [.int 18, .int 4]) (mem' := fm g tp bt a b) (fun _ _ _ => rfl) ?_
  rw [show (3846 + (6 * (nI n)) : Int32) = nI (3846 + (6 * n)) from by simp only [show (3846 : Int32) = nI 3846 from rfl, show (6 : Int32) = nI 6 from rfl, nI_add, fm_mul]]
  refine fe_s 1 (pc' := cond (fx_cb .eq 4 18) 37 31) (lc' := [(3, .int (nI (3846 + (6 * n)))), (2, .int (nI n)), (1, .int 4), (0, .ref 0)]) (stk' := []) (mem' := fm g tp bt a b) (fun _ _ _ => rfl) ?_
  rw [show (fx_cb .eq 4 18) = false from by decide]
  dsimp only [cond]
  refine fe_s 2 (pc' := 34) (lc' := [(3, .int (nI (3846 + (6 * n)))), (2, .int (nI n)), (1, .int 4), (0, .ref 0)]) (stk' := [.int 19, .int 4]) (mem' := fm g tp bt a b) (fun _ _ _ => rfl) ?_
  refine fe_s 1 (pc' := cond (fx_cb .ne 4 19) 41 37) (lc' := [(3, .int (nI (3846 + (6 * n)))), (2, .int (nI n)), (1, .int 4), (0, .ref 0)]) (stk' := []) (mem' := fm g tp bt a b) (fun _ _ _ => rfl) ?_
  rw [show (fx_cb .ne 4 19) = true from by decide]
  dsimp only [cond]
  refine fe_s 4 (pc' := 47) (lc' := [(4, .int 0), (3, .int (nI (3846 + (6 * n)))), (2, .int (nI n)), (1, .int 4), (0, .ref 0)]) (stk' := [.int 11, .int 4]) (mem' := fm g tp bt a b) (fun _ _ _ => rfl) ?_
  refine fe_s 1 (pc' := cond (fx_cb .lt 4 11) 81 50) (lc' := [(4, .int 0), (3, .int (nI (3846 + (6 * n)))), (2, .int (nI n)), (1, .int 4), (0, .ref 0)]) (stk' := []) (mem' := fm g tp bt a b) (fun _ _ _ => rfl) ?_
  rw [show (fx_cb .lt 4 11) = true from by decide]
  dsimp only [cond]
  refine fe_s 2 (pc' := 83) (lc' := [(4, .int 0), (3, .int (nI (3846 + (6 * n)))), (2, .int (nI n)), (1, .int 4), (0, .ref 0)]) (stk' := [.int 2, .ref 0]) (mem' := fm g tp bt a b) (fun _ _ _ => rfl) ?_
  obtain ⟨gf1, hfrf1, hof1, hzf1⟩ := fr_failsq (x := 2) (g := g) (tp := tp) (bt := bt) (a := a) (b := b) (by omega) (by omega) (fm_gy_rf hxp hfl).2.1 (fm_gy_rf hxp hfl).2.2.1
  have gof1 := fm_gy_tr (fm_gy_rf hxp hfl) hof1
  have d22f1 : gf1 22 = nI D := by rw [hof1.1 22 (by decide) (by decide) (by decide) (by decide) (by decide) (by decide)]; first | exact eD | rfl
  have d23f1 : gf1 23 = nI K := by rw [hof1.1 23 (by decide) (by decide) (by decide) (by decide) (by decide) (by decide)]; first | exact eK | rfl
  refine fe_ivV hfrf1 (by omega) (by rfl) (by rfl) (by rfl) (by rfl) (by rfl) (by rfl) ?_
  exact fe_ret ⟨_, _, _, _, _, n, D, K, gof1, ⟨hT.1, hT.2.1, hT.2.2.1, hT.2.2.2.1, hT.2.2.2.2.1, ⟨d22f1, hD3, d23f1, hK30, hnK⟩, h8, h9⟩, Or.inl ⟨rfl, hzf1⟩, rfl⟩ (by rfl) (by rfl) (by rfl)
set_option maxRecDepth 20000 in
set_option maxHeartbeats 8000000 in
theorem ts_5 {S E F C W n D K : Nat} (hxp : fm_xp g S E F) (hfl : fm_flt g) (hH : fm_th a0 C W) (hT : fm_TS a0 g a n D K) (hR : fm_TR a n) : fe_R 10 gk_m251 7 [(1, .int 5), (0, .ref 0)] [] (fm g tp bt a b) (fm_FTS a0 g tp bt b S E) := by
  obtain ⟨⟨eD, hD3, eK, hK30, hnK⟩, h8, h9⟩ := hT.2.2.2.2.2
  refine fe_s 3 (pc' := 14) (lc' := [(1, .int 5), (0, .ref 0)]) (stk' := [.int 3374, .ref 1]) (mem' := fm g tp bt a b) (fun _ _ _ => rfl) ?_
  refine fe_ldI (by rfl) (by rfl) (fx_inN (i := 3374) (by omega) (by omega)) ?_
  rw [show Int32.toNatClampNeg (3374) = 3374 from rfl]
  rw [hT.2.2.2.2.1]
  refine fe_s 9 (pc' := 28) (lc' := [(3, .int (3846 + (6 * (nI n)))), (2, .int (nI n)), (1, .int 5), (0, .ref 0)]) (stk' := [.int 18, .int 5]) (mem' := fm g tp bt a b) (fun _ _ _ => rfl) ?_
  rw [show (3846 + (6 * (nI n)) : Int32) = nI (3846 + (6 * n)) from by simp only [show (3846 : Int32) = nI 3846 from rfl, show (6 : Int32) = nI 6 from rfl, nI_add, fm_mul]]
  refine fe_s 1 (pc' := cond (fx_cb .eq 5 18) 37 31) (lc' := [(3, .int (nI (3846 + (6 * n)))), (2, .int (nI n)), (1, .int 5), (0, .ref 0)]) (stk' := []) (mem' := fm g tp bt a b) (fun _ _ _ => rfl) ?_
  rw [show (fx_cb .eq 5 18) = false from by decide]
  dsimp only [cond]
  refine fe_s 2 (pc' := 34) (lc' := [(3, .int (nI (3846 + (6 * n)))), (2, .int (nI n)), (1, .int 5), (0, .ref 0)]) (stk' := [.int 19, .int 5]) (mem' := fm g tp bt a b) (fun _ _ _ => rfl) ?_
  refine fe_s 1 (pc' := cond (fx_cb .ne 5 19) 41 37) (lc' := [(3, .int (nI (3846 + (6 * n)))), (2, .int (nI n)), (1, .int 5), (0, .ref 0)]) (stk' := []) (mem' := fm g tp bt a b) (fun _ _ _ => rfl) ?_
  rw [show (fx_cb .ne 5 19) = true from by decide]
  dsimp only [cond]
  refine fe_s 4 (pc' := 47) (lc' := [(4, .int 0), (3, .int (nI (3846 + (6 * n)))), (2, .int (nI n)), (1, .int 5), (0, .ref 0)]) (stk' := [.int 11, .int 5]) (mem' := fm g tp bt a b) (fun _ _ _ => rfl) ?_
  refine fe_s 1 (pc' := cond (fx_cb .lt 5 11) 81 50) (lc' := [(4, .int 0), (3, .int (nI (3846 + (6 * n)))), (2, .int (nI n)), (1, .int 5), (0, .ref 0)]) (stk' := []) (mem' := fm g tp bt a b) (fun _ _ _ => rfl) ?_
  rw [show (fx_cb .lt 5 11) = true from by decide]
  dsimp only [cond]
  refine fe_s 2 (pc' := 83) (lc' := [(4, .int 0), (3, .int (nI (3846 + (6 * n)))), (2, .int (nI n)), (1, .int 5), (0, .ref 0)]) (stk' := [.int 2, .ref 0]) (mem' := fm g tp bt a b) (fun _ _ _ => rfl) ?_
  obtain ⟨gf1, hfrf1, hof1, hzf1⟩ := fr_failsq (x := 2) (g := g) (tp := tp) (bt := bt) (a := a) (b := b) (by omega) (by omega) (fm_gy_rf hxp hfl).2.1 (fm_gy_rf hxp hfl).2.2.1
  have gof1 := fm_gy_tr (fm_gy_rf hxp hfl) hof1
  have d22f1 : gf1 22 = nI D := by rw [hof1.1 22 (by decide) (by decide) (by decide) (by decide) (by decide) (by decide)]; first | exact eD | rfl
  have d23f1 : gf1 23 = nI K := by rw [hof1.1 23 (by decide) (by decide) (by decide) (by decide) (by decide) (by decide)]; first | exact eK | rfl
  refine fe_ivV hfrf1 (by omega) (by rfl) (by rfl) (by rfl) (by rfl) (by rfl) (by rfl) ?_
  exact fe_ret ⟨_, _, _, _, _, n, D, K, gof1, ⟨hT.1, hT.2.1, hT.2.2.1, hT.2.2.2.1, hT.2.2.2.2.1, ⟨d22f1, hD3, d23f1, hK30, hnK⟩, h8, h9⟩, Or.inl ⟨rfl, hzf1⟩, rfl⟩ (by rfl) (by rfl) (by rfl)
set_option maxRecDepth 20000 in
set_option maxHeartbeats 8000000 in
theorem ts_6 {S E F C W n D K : Nat} (hxp : fm_xp g S E F) (hfl : fm_flt g) (hH : fm_th a0 C W) (hT : fm_TS a0 g a n D K) (hR : fm_TR a n) : fe_R 10 gk_m251 7 [(1, .int 6), (0, .ref 0)] [] (fm g tp bt a b) (fm_FTS a0 g tp bt b S E) := by
  obtain ⟨⟨eD, hD3, eK, hK30, hnK⟩, h8, h9⟩ := hT.2.2.2.2.2
  refine fe_s 3 (pc' := 14) (lc' := [(1, .int 6), (0, .ref 0)]) (stk' := [.int 3374, .ref 1]) (mem' := fm g tp bt a b) (fun _ _ _ => rfl) ?_
  refine fe_ldI (by rfl) (by rfl) (fx_inN (i := 3374) (by omega) (by omega)) ?_
  rw [show Int32.toNatClampNeg (3374) = 3374 from rfl]
  rw [hT.2.2.2.2.1]
  refine fe_s 9 (pc' := 28) (lc' := [(3, .int (3846 + (6 * (nI n)))), (2, .int (nI n)), (1, .int 6), (0, .ref 0)]) (stk' := [.int 18, .int 6]) (mem' := fm g tp bt a b) (fun _ _ _ => rfl) ?_
  rw [show (3846 + (6 * (nI n)) : Int32) = nI (3846 + (6 * n)) from by simp only [show (3846 : Int32) = nI 3846 from rfl, show (6 : Int32) = nI 6 from rfl, nI_add, fm_mul]]
  refine fe_s 1 (pc' := cond (fx_cb .eq 6 18) 37 31) (lc' := [(3, .int (nI (3846 + (6 * n)))), (2, .int (nI n)), (1, .int 6), (0, .ref 0)]) (stk' := []) (mem' := fm g tp bt a b) (fun _ _ _ => rfl) ?_
  rw [show (fx_cb .eq 6 18) = false from by decide]
  dsimp only [cond]
  refine fe_s 2 (pc' := 34) (lc' := [(3, .int (nI (3846 + (6 * n)))), (2, .int (nI n)), (1, .int 6), (0, .ref 0)]) (stk' := [.int 19, .int 6]) (mem' := fm g tp bt a b) (fun _ _ _ => rfl) ?_
  refine fe_s 1 (pc' := cond (fx_cb .ne 6 19) 41 37) (lc' := [(3, .int (nI (3846 + (6 * n)))), (2, .int (nI n)), (1, .int 6), (0, .ref 0)]) (stk' := []) (mem' := fm g tp bt a b) (fun _ _ _ => rfl) ?_
  rw [show (fx_cb .ne 6 19) = true from by decide]
  dsimp only [cond]
  refine fe_s 4 (pc' := 47) (lc' := [(4, .int 0), (3, .int (nI (3846 + (6 * n)))), (2, .int (nI n)), (1, .int 6), (0, .ref 0)]) (stk' := [.int 11, .int 6]) (mem' := fm g tp bt a b) (fun _ _ _ => rfl) ?_
  refine fe_s 1 (pc' := cond (fx_cb .lt 6 11) 81 50) (lc' := [(4, .int 0), (3, .int (nI (3846 + (6 * n)))), (2, .int (nI n)), (1, .int 6), (0, .ref 0)]) (stk' := []) (mem' := fm g tp bt a b) (fun _ _ _ => rfl) ?_
  rw [show (fx_cb .lt 6 11) = true from by decide]
  dsimp only [cond]
  refine fe_s 2 (pc' := 83) (lc' := [(4, .int 0), (3, .int (nI (3846 + (6 * n)))), (2, .int (nI n)), (1, .int 6), (0, .ref 0)]) (stk' := [.int 2, .ref 0]) (mem' := fm g tp bt a b) (fun _ _ _ => rfl) ?_
  obtain ⟨gf1, hfrf1, hof1, hzf1⟩ := fr_failsq (x := 2) (g := g) (tp := tp) (bt := bt) (a := a) (b := b) (by omega) (by omega) (fm_gy_rf hxp hfl).2.1 (fm_gy_rf hxp hfl).2.2.1
  have gof1 := fm_gy_tr (fm_gy_rf hxp hfl) hof1
  have d22f1 : gf1 22 = nI D := by rw [hof1.1 22 (by decide) (by decide) (by decide) (by decide) (by decide) (by decide)]; first | exact eD | rfl
  have d23f1 : gf1 23 = nI K := by rw [hof1.1 23 (by decide) (by decide) (by decide) (by decide) (by decide) (by decide)]; first | exact eK | rfl
  refine fe_ivV hfrf1 (by omega) (by rfl) (by rfl) (by rfl) (by rfl) (by rfl) (by rfl) ?_
  exact fe_ret ⟨_, _, _, _, _, n, D, K, gof1, ⟨hT.1, hT.2.1, hT.2.2.1, hT.2.2.2.1, hT.2.2.2.2.1, ⟨d22f1, hD3, d23f1, hK30, hnK⟩, h8, h9⟩, Or.inl ⟨rfl, hzf1⟩, rfl⟩ (by rfl) (by rfl) (by rfl)
set_option maxRecDepth 20000 in
set_option maxHeartbeats 8000000 in
theorem ts_7 {S E F C W n D K : Nat} (hxp : fm_xp g S E F) (hfl : fm_flt g) (hH : fm_th a0 C W) (hT : fm_TS a0 g a n D K) (hR : fm_TR a n) : fe_R 10 gk_m251 7 [(1, .int 7), (0, .ref 0)] [] (fm g tp bt a b) (fm_FTS a0 g tp bt b S E) := by
  obtain ⟨⟨eD, hD3, eK, hK30, hnK⟩, h8, h9⟩ := hT.2.2.2.2.2
  refine fe_s 3 (pc' := 14) (lc' := [(1, .int 7), (0, .ref 0)]) (stk' := [.int 3374, .ref 1]) (mem' := fm g tp bt a b) (fun _ _ _ => rfl) ?_
  refine fe_ldI (by rfl) (by rfl) (fx_inN (i := 3374) (by omega) (by omega)) ?_
  rw [show Int32.toNatClampNeg (3374) = 3374 from rfl]
  rw [hT.2.2.2.2.1]
  refine fe_s 9 (pc' := 28) (lc' := [(3, .int (3846 + (6 * (nI n)))), (2, .int (nI n)), (1, .int 7), (0, .ref 0)]) (stk' := [.int 18, .int 7]) (mem' := fm g tp bt a b) (fun _ _ _ => rfl) ?_
  rw [show (3846 + (6 * (nI n)) : Int32) = nI (3846 + (6 * n)) from by simp only [show (3846 : Int32) = nI 3846 from rfl, show (6 : Int32) = nI 6 from rfl, nI_add, fm_mul]]
  refine fe_s 1 (pc' := cond (fx_cb .eq 7 18) 37 31) (lc' := [(3, .int (nI (3846 + (6 * n)))), (2, .int (nI n)), (1, .int 7), (0, .ref 0)]) (stk' := []) (mem' := fm g tp bt a b) (fun _ _ _ => rfl) ?_
  rw [show (fx_cb .eq 7 18) = false from by decide]
  dsimp only [cond]
  refine fe_s 2 (pc' := 34) (lc' := [(3, .int (nI (3846 + (6 * n)))), (2, .int (nI n)), (1, .int 7), (0, .ref 0)]) (stk' := [.int 19, .int 7]) (mem' := fm g tp bt a b) (fun _ _ _ => rfl) ?_
  refine fe_s 1 (pc' := cond (fx_cb .ne 7 19) 41 37) (lc' := [(3, .int (nI (3846 + (6 * n)))), (2, .int (nI n)), (1, .int 7), (0, .ref 0)]) (stk' := []) (mem' := fm g tp bt a b) (fun _ _ _ => rfl) ?_
  rw [show (fx_cb .ne 7 19) = true from by decide]
  dsimp only [cond]
  refine fe_s 4 (pc' := 47) (lc' := [(4, .int 0), (3, .int (nI (3846 + (6 * n)))), (2, .int (nI n)), (1, .int 7), (0, .ref 0)]) (stk' := [.int 11, .int 7]) (mem' := fm g tp bt a b) (fun _ _ _ => rfl) ?_
  refine fe_s 1 (pc' := cond (fx_cb .lt 7 11) 81 50) (lc' := [(4, .int 0), (3, .int (nI (3846 + (6 * n)))), (2, .int (nI n)), (1, .int 7), (0, .ref 0)]) (stk' := []) (mem' := fm g tp bt a b) (fun _ _ _ => rfl) ?_
  rw [show (fx_cb .lt 7 11) = true from by decide]
  dsimp only [cond]
  refine fe_s 2 (pc' := 83) (lc' := [(4, .int 0), (3, .int (nI (3846 + (6 * n)))), (2, .int (nI n)), (1, .int 7), (0, .ref 0)]) (stk' := [.int 2, .ref 0]) (mem' := fm g tp bt a b) (fun _ _ _ => rfl) ?_
  obtain ⟨gf1, hfrf1, hof1, hzf1⟩ := fr_failsq (x := 2) (g := g) (tp := tp) (bt := bt) (a := a) (b := b) (by omega) (by omega) (fm_gy_rf hxp hfl).2.1 (fm_gy_rf hxp hfl).2.2.1
  have gof1 := fm_gy_tr (fm_gy_rf hxp hfl) hof1
  have d22f1 : gf1 22 = nI D := by rw [hof1.1 22 (by decide) (by decide) (by decide) (by decide) (by decide) (by decide)]; first | exact eD | rfl
  have d23f1 : gf1 23 = nI K := by rw [hof1.1 23 (by decide) (by decide) (by decide) (by decide) (by decide) (by decide)]; first | exact eK | rfl
  refine fe_ivV hfrf1 (by omega) (by rfl) (by rfl) (by rfl) (by rfl) (by rfl) (by rfl) ?_
  exact fe_ret ⟨_, _, _, _, _, n, D, K, gof1, ⟨hT.1, hT.2.1, hT.2.2.1, hT.2.2.2.1, hT.2.2.2.2.1, ⟨d22f1, hD3, d23f1, hK30, hnK⟩, h8, h9⟩, Or.inl ⟨rfl, hzf1⟩, rfl⟩ (by rfl) (by rfl) (by rfl)
set_option maxRecDepth 20000 in
set_option maxHeartbeats 8000000 in
theorem ts_8 {S E F C W n D K : Nat} (hxp : fm_xp g S E F) (hfl : fm_flt g) (hH : fm_th a0 C W) (hT : fm_TS a0 g a n D K) (hR : fm_TR a n) : fe_R 10 gk_m251 7 [(1, .int 8), (0, .ref 0)] [] (fm g tp bt a b) (fm_FTS a0 g tp bt b S E) := by
  obtain ⟨⟨eD, hD3, eK, hK30, hnK⟩, h8, h9⟩ := hT.2.2.2.2.2
  refine fe_s 3 (pc' := 14) (lc' := [(1, .int 8), (0, .ref 0)]) (stk' := [.int 3374, .ref 1]) (mem' := fm g tp bt a b) (fun _ _ _ => rfl) ?_
  refine fe_ldI (by rfl) (by rfl) (fx_inN (i := 3374) (by omega) (by omega)) ?_
  rw [show Int32.toNatClampNeg (3374) = 3374 from rfl]
  rw [hT.2.2.2.2.1]
  refine fe_s 9 (pc' := 28) (lc' := [(3, .int (3846 + (6 * (nI n)))), (2, .int (nI n)), (1, .int 8), (0, .ref 0)]) (stk' := [.int 18, .int 8]) (mem' := fm g tp bt a b) (fun _ _ _ => rfl) ?_
  rw [show (3846 + (6 * (nI n)) : Int32) = nI (3846 + (6 * n)) from by simp only [show (3846 : Int32) = nI 3846 from rfl, show (6 : Int32) = nI 6 from rfl, nI_add, fm_mul]]
  refine fe_s 1 (pc' := cond (fx_cb .eq 8 18) 37 31) (lc' := [(3, .int (nI (3846 + (6 * n)))), (2, .int (nI n)), (1, .int 8), (0, .ref 0)]) (stk' := []) (mem' := fm g tp bt a b) (fun _ _ _ => rfl) ?_
  rw [show (fx_cb .eq 8 18) = false from by decide]
  dsimp only [cond]
  refine fe_s 2 (pc' := 34) (lc' := [(3, .int (nI (3846 + (6 * n)))), (2, .int (nI n)), (1, .int 8), (0, .ref 0)]) (stk' := [.int 19, .int 8]) (mem' := fm g tp bt a b) (fun _ _ _ => rfl) ?_
  refine fe_s 1 (pc' := cond (fx_cb .ne 8 19) 41 37) (lc' := [(3, .int (nI (3846 + (6 * n)))), (2, .int (nI n)), (1, .int 8), (0, .ref 0)]) (stk' := []) (mem' := fm g tp bt a b) (fun _ _ _ => rfl) ?_
  rw [show (fx_cb .ne 8 19) = true from by decide]
  dsimp only [cond]
  refine fe_s 4 (pc' := 47) (lc' := [(4, .int 0), (3, .int (nI (3846 + (6 * n)))), (2, .int (nI n)), (1, .int 8), (0, .ref 0)]) (stk' := [.int 11, .int 8]) (mem' := fm g tp bt a b) (fun _ _ _ => rfl) ?_
  refine fe_s 1 (pc' := cond (fx_cb .lt 8 11) 81 50) (lc' := [(4, .int 0), (3, .int (nI (3846 + (6 * n)))), (2, .int (nI n)), (1, .int 8), (0, .ref 0)]) (stk' := []) (mem' := fm g tp bt a b) (fun _ _ _ => rfl) ?_
  rw [show (fx_cb .lt 8 11) = true from by decide]
  dsimp only [cond]
  refine fe_s 2 (pc' := 83) (lc' := [(4, .int 0), (3, .int (nI (3846 + (6 * n)))), (2, .int (nI n)), (1, .int 8), (0, .ref 0)]) (stk' := [.int 2, .ref 0]) (mem' := fm g tp bt a b) (fun _ _ _ => rfl) ?_
  obtain ⟨gf1, hfrf1, hof1, hzf1⟩ := fr_failsq (x := 2) (g := g) (tp := tp) (bt := bt) (a := a) (b := b) (by omega) (by omega) (fm_gy_rf hxp hfl).2.1 (fm_gy_rf hxp hfl).2.2.1
  have gof1 := fm_gy_tr (fm_gy_rf hxp hfl) hof1
  have d22f1 : gf1 22 = nI D := by rw [hof1.1 22 (by decide) (by decide) (by decide) (by decide) (by decide) (by decide)]; first | exact eD | rfl
  have d23f1 : gf1 23 = nI K := by rw [hof1.1 23 (by decide) (by decide) (by decide) (by decide) (by decide) (by decide)]; first | exact eK | rfl
  refine fe_ivV hfrf1 (by omega) (by rfl) (by rfl) (by rfl) (by rfl) (by rfl) (by rfl) ?_
  exact fe_ret ⟨_, _, _, _, _, n, D, K, gof1, ⟨hT.1, hT.2.1, hT.2.2.1, hT.2.2.2.1, hT.2.2.2.2.1, ⟨d22f1, hD3, d23f1, hK30, hnK⟩, h8, h9⟩, Or.inl ⟨rfl, hzf1⟩, rfl⟩ (by rfl) (by rfl) (by rfl)
set_option maxRecDepth 20000 in
set_option maxHeartbeats 8000000 in
theorem ts_9 {S E F C W n D K : Nat} (hxp : fm_xp g S E F) (hfl : fm_flt g) (hH : fm_th a0 C W) (hT : fm_TS a0 g a n D K) (hR : fm_TR a n) : fe_R 10 gk_m251 7 [(1, .int 9), (0, .ref 0)] [] (fm g tp bt a b) (fm_FTS a0 g tp bt b S E) := by
  obtain ⟨⟨eD, hD3, eK, hK30, hnK⟩, h8, h9⟩ := hT.2.2.2.2.2
  refine fe_s 3 (pc' := 14) (lc' := [(1, .int 9), (0, .ref 0)]) (stk' := [.int 3374, .ref 1]) (mem' := fm g tp bt a b) (fun _ _ _ => rfl) ?_
  refine fe_ldI (by rfl) (by rfl) (fx_inN (i := 3374) (by omega) (by omega)) ?_
  rw [show Int32.toNatClampNeg (3374) = 3374 from rfl]
  rw [hT.2.2.2.2.1]
  refine fe_s 9 (pc' := 28) (lc' := [(3, .int (3846 + (6 * (nI n)))), (2, .int (nI n)), (1, .int 9), (0, .ref 0)]) (stk' := [.int 18, .int 9]) (mem' := fm g tp bt a b) (fun _ _ _ => rfl) ?_
  rw [show (3846 + (6 * (nI n)) : Int32) = nI (3846 + (6 * n)) from by simp only [show (3846 : Int32) = nI 3846 from rfl, show (6 : Int32) = nI 6 from rfl, nI_add, fm_mul]]
  refine fe_s 1 (pc' := cond (fx_cb .eq 9 18) 37 31) (lc' := [(3, .int (nI (3846 + (6 * n)))), (2, .int (nI n)), (1, .int 9), (0, .ref 0)]) (stk' := []) (mem' := fm g tp bt a b) (fun _ _ _ => rfl) ?_
  rw [show (fx_cb .eq 9 18) = false from by decide]
  dsimp only [cond]
  refine fe_s 2 (pc' := 34) (lc' := [(3, .int (nI (3846 + (6 * n)))), (2, .int (nI n)), (1, .int 9), (0, .ref 0)]) (stk' := [.int 19, .int 9]) (mem' := fm g tp bt a b) (fun _ _ _ => rfl) ?_
  refine fe_s 1 (pc' := cond (fx_cb .ne 9 19) 41 37) (lc' := [(3, .int (nI (3846 + (6 * n)))), (2, .int (nI n)), (1, .int 9), (0, .ref 0)]) (stk' := []) (mem' := fm g tp bt a b) (fun _ _ _ => rfl) ?_
  rw [show (fx_cb .ne 9 19) = true from by decide]
  dsimp only [cond]
  refine fe_s 4 (pc' := 47) (lc' := [(4, .int 0), (3, .int (nI (3846 + (6 * n)))), (2, .int (nI n)), (1, .int 9), (0, .ref 0)]) (stk' := [.int 11, .int 9]) (mem' := fm g tp bt a b) (fun _ _ _ => rfl) ?_
  refine fe_s 1 (pc' := cond (fx_cb .lt 9 11) 81 50) (lc' := [(4, .int 0), (3, .int (nI (3846 + (6 * n)))), (2, .int (nI n)), (1, .int 9), (0, .ref 0)]) (stk' := []) (mem' := fm g tp bt a b) (fun _ _ _ => rfl) ?_
  rw [show (fx_cb .lt 9 11) = true from by decide]
  dsimp only [cond]
  refine fe_s 2 (pc' := 83) (lc' := [(4, .int 0), (3, .int (nI (3846 + (6 * n)))), (2, .int (nI n)), (1, .int 9), (0, .ref 0)]) (stk' := [.int 2, .ref 0]) (mem' := fm g tp bt a b) (fun _ _ _ => rfl) ?_
  obtain ⟨gf1, hfrf1, hof1, hzf1⟩ := fr_failsq (x := 2) (g := g) (tp := tp) (bt := bt) (a := a) (b := b) (by omega) (by omega) (fm_gy_rf hxp hfl).2.1 (fm_gy_rf hxp hfl).2.2.1
  have gof1 := fm_gy_tr (fm_gy_rf hxp hfl) hof1
  have d22f1 : gf1 22 = nI D := by rw [hof1.1 22 (by decide) (by decide) (by decide) (by decide) (by decide) (by decide)]; first | exact eD | rfl
  have d23f1 : gf1 23 = nI K := by rw [hof1.1 23 (by decide) (by decide) (by decide) (by decide) (by decide) (by decide)]; first | exact eK | rfl
  refine fe_ivV hfrf1 (by omega) (by rfl) (by rfl) (by rfl) (by rfl) (by rfl) (by rfl) ?_
  exact fe_ret ⟨_, _, _, _, _, n, D, K, gof1, ⟨hT.1, hT.2.1, hT.2.2.1, hT.2.2.2.1, hT.2.2.2.2.1, ⟨d22f1, hD3, d23f1, hK30, hnK⟩, h8, h9⟩, Or.inl ⟨rfl, hzf1⟩, rfl⟩ (by rfl) (by rfl) (by rfl)
set_option maxRecDepth 20000 in
set_option maxHeartbeats 8000000 in
theorem ts_10 {S E F C W n D K : Nat} (hxp : fm_xp g S E F) (hfl : fm_flt g) (hH : fm_th a0 C W) (hT : fm_TS a0 g a n D K) (hR : fm_TR a n) : fe_R 10 gk_m251 7 [(1, .int 10), (0, .ref 0)] [] (fm g tp bt a b) (fm_FTS a0 g tp bt b S E) := by
  obtain ⟨⟨eD, hD3, eK, hK30, hnK⟩, h8, h9⟩ := hT.2.2.2.2.2
  refine fe_s 3 (pc' := 14) (lc' := [(1, .int 10), (0, .ref 0)]) (stk' := [.int 3374, .ref 1]) (mem' := fm g tp bt a b) (fun _ _ _ => rfl) ?_
  refine fe_ldI (by rfl) (by rfl) (fx_inN (i := 3374) (by omega) (by omega)) ?_
  rw [show Int32.toNatClampNeg (3374) = 3374 from rfl]
  rw [hT.2.2.2.2.1]
  refine fe_s 9 (pc' := 28) (lc' := [(3, .int (3846 + (6 * (nI n)))), (2, .int (nI n)), (1, .int 10), (0, .ref 0)]) (stk' := [.int 18, .int 10]) (mem' := fm g tp bt a b) (fun _ _ _ => rfl) ?_
  rw [show (3846 + (6 * (nI n)) : Int32) = nI (3846 + (6 * n)) from by simp only [show (3846 : Int32) = nI 3846 from rfl, show (6 : Int32) = nI 6 from rfl, nI_add, fm_mul]]
  refine fe_s 1 (pc' := cond (fx_cb .eq 10 18) 37 31) (lc' := [(3, .int (nI (3846 + (6 * n)))), (2, .int (nI n)), (1, .int 10), (0, .ref 0)]) (stk' := []) (mem' := fm g tp bt a b) (fun _ _ _ => rfl) ?_
  rw [show (fx_cb .eq 10 18) = false from by decide]
  dsimp only [cond]
  refine fe_s 2 (pc' := 34) (lc' := [(3, .int (nI (3846 + (6 * n)))), (2, .int (nI n)), (1, .int 10), (0, .ref 0)]) (stk' := [.int 19, .int 10]) (mem' := fm g tp bt a b) (fun _ _ _ => rfl) ?_
  refine fe_s 1 (pc' := cond (fx_cb .ne 10 19) 41 37) (lc' := [(3, .int (nI (3846 + (6 * n)))), (2, .int (nI n)), (1, .int 10), (0, .ref 0)]) (stk' := []) (mem' := fm g tp bt a b) (fun _ _ _ => rfl) ?_
  rw [show (fx_cb .ne 10 19) = true from by decide]
  dsimp only [cond]
  refine fe_s 4 (pc' := 47) (lc' := [(4, .int 0), (3, .int (nI (3846 + (6 * n)))), (2, .int (nI n)), (1, .int 10), (0, .ref 0)]) (stk' := [.int 11, .int 10]) (mem' := fm g tp bt a b) (fun _ _ _ => rfl) ?_
  refine fe_s 1 (pc' := cond (fx_cb .lt 10 11) 81 50) (lc' := [(4, .int 0), (3, .int (nI (3846 + (6 * n)))), (2, .int (nI n)), (1, .int 10), (0, .ref 0)]) (stk' := []) (mem' := fm g tp bt a b) (fun _ _ _ => rfl) ?_
  rw [show (fx_cb .lt 10 11) = true from by decide]
  dsimp only [cond]
  refine fe_s 2 (pc' := 83) (lc' := [(4, .int 0), (3, .int (nI (3846 + (6 * n)))), (2, .int (nI n)), (1, .int 10), (0, .ref 0)]) (stk' := [.int 2, .ref 0]) (mem' := fm g tp bt a b) (fun _ _ _ => rfl) ?_
  obtain ⟨gf1, hfrf1, hof1, hzf1⟩ := fr_failsq (x := 2) (g := g) (tp := tp) (bt := bt) (a := a) (b := b) (by omega) (by omega) (fm_gy_rf hxp hfl).2.1 (fm_gy_rf hxp hfl).2.2.1
  have gof1 := fm_gy_tr (fm_gy_rf hxp hfl) hof1
  have d22f1 : gf1 22 = nI D := by rw [hof1.1 22 (by decide) (by decide) (by decide) (by decide) (by decide) (by decide)]; first | exact eD | rfl
  have d23f1 : gf1 23 = nI K := by rw [hof1.1 23 (by decide) (by decide) (by decide) (by decide) (by decide) (by decide)]; first | exact eK | rfl
  refine fe_ivV hfrf1 (by omega) (by rfl) (by rfl) (by rfl) (by rfl) (by rfl) (by rfl) ?_
  exact fe_ret ⟨_, _, _, _, _, n, D, K, gof1, ⟨hT.1, hT.2.1, hT.2.2.1, hT.2.2.2.1, hT.2.2.2.2.1, ⟨d22f1, hD3, d23f1, hK30, hnK⟩, h8, h9⟩, Or.inl ⟨rfl, hzf1⟩, rfl⟩ (by rfl) (by rfl) (by rfl)
end F4870_step
