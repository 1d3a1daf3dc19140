/-! ===== fx: a STEP of the TALES ===== -/
section F4876_step
variable {g : Nat → Int32} {tp bt : Int64} {a0 a : Nat → Nat → Int32} {b : Nat → Nat → Int64}
set_option maxRecDepth 20000 in
set_option maxHeartbeats 8000000 in
theorem ts_22 {S E F C W n D K : Nat} (hxp : fm_xp g S E F) (hfl : fm_flt g) (hH : fm_th a0 C W) (hT : fm_TS a0 g a n D K) (hR : fm_TR a n) : fe_R 10 gk_m251 7 [(1, .int 22), (0, .ref 0)] [] (fm g tp bt a b) (fm_FTS a0 g tp bt b S E) := by
  obtain ⟨⟨eD, hD3, eK, hK30, hnK⟩, h8, h9⟩ := hT.2.2.2.2.2
  refine fe_s 3 (pc' := 14) (lc' := [(1, .int 22), (0, .ref 0)]) (stk' := [.int 3374, .ref 1]) (mem' := fm g tp bt a b) (fun _ _ _ => rfl) ?_
  refine fe_ldI (by rfl) (by rfl) (fx_inN (i := 3374) (by omega) (by omega)) ?_
  rw [show Int32.toNatClampNeg (3374) = 3374 from rfl]
  rw [hT.2.2.2.2.1]
  refine fe_s 9 (pc' := 28) (lc' := [(3, .int (3846 + (6 * (nI n)))), (2, .int (nI n)), (1, .int 22), (0, .ref 0)]) (stk' := [.int 18, .int 22]) (mem' := fm g tp bt a b) (fun _ _ _ => rfl) ?_
  rw [show (3846 + (6 * (nI n)) : Int32) = nI (3846 + (6 * n)) from by simp only [show (3846 : Int32) = nI 3846 from rfl, show (6 : Int32) = nI 6 from rfl, nI_add, fm_mul]]
  refine fe_s 1 (pc' := cond (fx_cb .eq 22 18) 37 31) (lc' := [(3, .int (nI (3846 + (6 * n)))), (2, .int (nI n)), (1, .int 22), (0, .ref 0)]) (stk' := []) (mem' := fm g tp bt a b) (fun _ _ _ => rfl) ?_
  rw [show (fx_cb .eq 22 18) = false from by decide]
  dsimp only [cond]
  refine fe_s 2 (pc' := 34) (lc' := [(3, .int (nI (3846 + (6 * n)))), (2, .int (nI n)), (1, .int 22), (0, .ref 0)]) (stk' := [.int 19, .int 22]) (mem' := fm g tp bt a b) (fun _ _ _ => rfl) ?_
  refine fe_s 1 (pc' := cond (fx_cb .ne 22 19) 41 37) (lc' := [(3, .int (nI (3846 + (6 * n)))), (2, .int (nI n)), (1, .int 22), (0, .ref 0)]) (stk' := []) (mem' := fm g tp bt a b) (fun _ _ _ => rfl) ?_
  rw [show (fx_cb .ne 22 19) = true from by decide]
  dsimp only [cond]
  refine fe_s 4 (pc' := 47) (lc' := [(4, .int 0), (3, .int (nI (3846 + (6 * n)))), (2, .int (nI n)), (1, .int 22), (0, .ref 0)]) (stk' := [.int 11, .int 22]) (mem' := fm g tp bt a b) (fun _ _ _ => rfl) ?_
  refine fe_s 1 (pc' := cond (fx_cb .lt 22 11) 81 50) (lc' := [(4, .int 0), (3, .int (nI (3846 + (6 * n)))), (2, .int (nI n)), (1, .int 22), (0, .ref 0)]) (stk' := []) (mem' := fm g tp bt a b) (fun _ _ _ => rfl) ?_
  rw [show (fx_cb .lt 22 11) = false from by decide]
  dsimp only [cond]
  refine fe_s 2 (pc' := 53) (lc' := [(4, .int 0), (3, .int (nI (3846 + (6 * n)))), (2, .int (nI n)), (1, .int 22), (0, .ref 0)]) (stk' := [.int 21, .int 22]) (mem' := fm g tp bt a b) (fun _ _ _ => rfl) ?_
  refine fe_s 1 (pc' := cond (fx_cb .gt 22 21) 81 56) (lc' := [(4, .int 0), (3, .int (nI (3846 + (6 * n)))), (2, .int (nI n)), (1, .int 22), (0, .ref 0)]) (stk' := []) (mem' := fm g tp bt a b) (fun _ _ _ => rfl) ?_
  rw [show (fx_cb .gt 22 21) = true from by decide]
  dsimp only [cond]
  refine fe_s 2 (pc' := 83) (lc' := [(4, .int 0), (3, .int (nI (3846 + (6 * n)))), (2, .int (nI n)), (1, .int 22), (0, .ref 0)]) (stk' := [.int 2, .ref 0]) (mem' := fm g tp bt a b) (fun _ _ _ => rfl) ?_
  obtain ⟨gf1, hfrf1, hof1, hzf1⟩ := fr_failsq (x := 2) (g := g) (tp := tp) (bt := bt) (a := a) (b := b) (by omega) (by omega) (fm_gy_rf hxp hfl).2.1 (fm_gy_rf hxp hfl).2.2.1
  have gof1 := fm_gy_tr (fm_gy_rf hxp hfl) hof1
  have d22f1 : gf1 22 = nI D := by rw [hof1.1 22 (by decide) (by decide) (by decide) (by decide) (by decide) (by decide)]; first | exact eD | rfl
  have d23f1 : gf1 23 = nI K := by rw [hof1.1 23 (by decide) (by decide) (by decide) (by decide) (by decide) (by decide)]; first | exact eK | rfl
  refine fe_ivV hfrf1 (by omega) (by rfl) (by rfl) (by rfl) (by rfl) (by rfl) (by rfl) ?_
  exact fe_ret ⟨_, _, _, _, _, n, D, K, gof1, ⟨hT.1, hT.2.1, hT.2.2.1, hT.2.2.2.1, hT.2.2.2.2.1, ⟨d22f1, hD3, d23f1, hK30, hnK⟩, h8, h9⟩, Or.inl ⟨rfl, hzf1⟩, rfl⟩ (by rfl) (by rfl) (by rfl)
set_option maxRecDepth 20000 in
set_option maxHeartbeats 8000000 in
theorem ts_23 {S E F C W n D K : Nat} (hxp : fm_xp g S E F) (hfl : fm_flt g) (hH : fm_th a0 C W) (hT : fm_TS a0 g a n D K) (hR : fm_TR a n) : fe_R 10 gk_m251 7 [(1, .int 23), (0, .ref 0)] [] (fm g tp bt a b) (fm_FTS a0 g tp bt b S E) := by
  obtain ⟨⟨eD, hD3, eK, hK30, hnK⟩, h8, h9⟩ := hT.2.2.2.2.2
  refine fe_s 3 (pc' := 14) (lc' := [(1, .int 23), (0, .ref 0)]) (stk' := [.int 3374, .ref 1]) (mem' := fm g tp bt a b) (fun _ _ _ => rfl) ?_
  refine fe_ldI (by rfl) (by rfl) (fx_inN (i := 3374) (by omega) (by omega)) ?_
  rw [show Int32.toNatClampNeg (3374) = 3374 from rfl]
  rw [hT.2.2.2.2.1]
  refine fe_s 9 (pc' := 28) (lc' := [(3, .int (3846 + (6 * (nI n)))), (2, .int (nI n)), (1, .int 23), (0, .ref 0)]) (stk' := [.int 18, .int 23]) (mem' := fm g tp bt a b) (fun _ _ _ => rfl) ?_
  rw [show (3846 + (6 * (nI n)) : Int32) = nI (3846 + (6 * n)) from by simp only [show (3846 : Int32) = nI 3846 from rfl, show (6 : Int32) = nI 6 from rfl, nI_add, fm_mul]]
  refine fe_s 1 (pc' := cond (fx_cb .eq 23 18) 37 31) (lc' := [(3, .int (nI (3846 + (6 * n)))), (2, .int (nI n)), (1, .int 23), (0, .ref 0)]) (stk' := []) (mem' := fm g tp bt a b) (fun _ _ _ => rfl) ?_
  rw [show (fx_cb .eq 23 18) = false from by decide]
  dsimp only [cond]
  refine fe_s 2 (pc' := 34) (lc' := [(3, .int (nI (3846 + (6 * n)))), (2, .int (nI n)), (1, .int 23), (0, .ref 0)]) (stk' := [.int 19, .int 23]) (mem' := fm g tp bt a b) (fun _ _ _ => rfl) ?_
  refine fe_s 1 (pc' := cond (fx_cb .ne 23 19) 41 37) (lc' := [(3, .int (nI (3846 + (6 * n)))), (2, .int (nI n)), (1, .int 23), (0, .ref 0)]) (stk' := []) (mem' := fm g tp bt a b) (fun _ _ _ => rfl) ?_
  rw [show (fx_cb .ne 23 19) = true from by decide]
  dsimp only [cond]
  refine fe_s 4 (pc' := 47) (lc' := [(4, .int 0), (3, .int (nI (3846 + (6 * n)))), (2, .int (nI n)), (1, .int 23), (0, .ref 0)]) (stk' := [.int 11, .int 23]) (mem' := fm g tp bt a b) (fun _ _ _ => rfl) ?_
  refine fe_s 1 (pc' := cond (fx_cb .lt 23 11) 81 50) (lc' := [(4, .int 0), (3, .int (nI (3846 + (6 * n)))), (2, .int (nI n)), (1, .int 23), (0, .ref 0)]) (stk' := []) (mem' := fm g tp bt a b) (fun _ _ _ => rfl) ?_
  rw [show (fx_cb .lt 23 11) = false from by decide]
  dsimp only [cond]
  refine fe_s 2 (pc' := 53) (lc' := [(4, .int 0), (3, .int (nI (3846 + (6 * n)))), (2, .int (nI n)), (1, .int 23), (0, .ref 0)]) (stk' := [.int 21, .int 23]) (mem' := fm g tp bt a b) (fun _ _ _ => rfl) ?_
  refine fe_s 1 (pc' := cond (fx_cb .gt 23 21) 81 56) (lc' := [(4, .int 0), (3, .int (nI (3846 + (6 * n)))), (2, .int (nI n)), (1, .int 23), (0, .ref 0)]) (stk' := []) (mem' := fm g tp bt a b) (fun _ _ _ => rfl) ?_
  rw [show (fx_cb .gt 23 21) = true from by decide]
  dsimp only [cond]
  refine fe_s 2 (pc' := 83) (lc' := [(4, .int 0), (3, .int (nI (3846 + (6 * n)))), (2, .int (nI n)), (1, .int 23), (0, .ref 0)]) (stk' := [.int 2, .ref 0]) (mem' := fm g tp bt a b) (fun _ _ _ => rfl) ?_
  obtain ⟨gf1, hfrf1, hof1, hzf1⟩ := fr_failsq (x := 2) (g := g) (tp := tp) (bt := bt) (a := a) (b := b) (by omega) (by omega) (fm_gy_rf hxp hfl).2.1 (fm_gy_rf hxp hfl).2.2.1
  have gof1 := fm_gy_tr (fm_gy_rf hxp hfl) hof1
  have d22f1 : gf1 22 = nI D := by rw [hof1.1 22 (by decide) (by decide) (by decide) (by decide) (by decide) (by decide)]; first | exact eD | rfl
  have d23f1 : gf1 23 = nI K := by rw [hof1.1 23 (by decide) (by decide) (by decide) (by decide) (by decide) (by decide)]; first | exact eK | rfl
  refine fe_ivV hfrf1 (by omega) (by rfl) (by rfl) (by rfl) (by rfl) (by rfl) (by rfl) ?_
  exact fe_ret ⟨_, _, _, _, _, n, D, K, gof1, ⟨hT.1, hT.2.1, hT.2.2.1, hT.2.2.2.1, hT.2.2.2.2.1, ⟨d22f1, hD3, d23f1, hK30, hnK⟩, h8, h9⟩, Or.inl ⟨rfl, hzf1⟩, rfl⟩ (by rfl) (by rfl) (by rfl)
theorem fr_taleStep {S E F C W n D K : Nat} (hxp : fm_xp g S E F) (hfl : fm_flt g) (hH : fm_th a0 C W) (hT : fm_TS a0 g a n D K) (hR : fm_TR a n) : ∃ (v : Option Value) (mem' : fx_M), (fm_FTS a0 g tp bt b S E) (v, mem') ∧ fr_T 11 251 [.ref 0] (fm g tp bt a b) v mem' := by
  refine fe_meth (F := fm_FTS a0 g tp bt b S E) (M := gk_m251) (by rfl) (by rfl) ?_
  refine fe_s 2 (pc' := 3) (lc' := [(0, .ref 0)]) (stk' := [.ref 22, .ref 0]) (mem' := fm g tp bt a b) (fun _ _ _ => rfl) ?_
  obtain ⟨vw2, memw2, ⟨xw2, hxw2, hRw2⟩, hfrw2⟩ := fr_inWords (g := g) (tp := tp) (bt := bt) (a := a) (b := b) (fm_gy_rf hxp hfl).2.1
  cases hRw2
  refine fe_ivV hfrw2 (by omega) (by rfl) (by rfl) (by rfl) (by rfl) (by rfl) (by rfl) ?_
  rcases fm_24 hxw2 with rfl | rfl | rfl | rfl | rfl | rfl | rfl | rfl | rfl | rfl | rfl | rfl | rfl | rfl | rfl | rfl | rfl | rfl | rfl | rfl | rfl | rfl | rfl | rfl | rfl
  · refine fe_s 1 (pc' := 7) (lc' := [(1, .int (-1)), (0, .ref 0)]) (stk' := []) (mem' := fm g tp bt a b) (fun _ _ _ => rfl) ?_
    refine fe_w (lc' := [(1, .int (-1)), (0, .ref 0)]) ⟨rfl, rfl, trivial⟩ (by show List.Nodup [1, 0]; decide) (by show List.Nodup [1, 0]; decide) ?_
    exact ts_m hxp hfl hH hT hR
  · refine fe_s 1 (pc' := 7) (lc' := [(1, .int 0), (0, .ref 0)]) (stk' := []) (mem' := fm g tp bt a b) (fun _ _ _ => rfl) ?_
    refine fe_w (lc' := [(1, .int 0), (0, .ref 0)]) ⟨rfl, rfl, trivial⟩ (by show List.Nodup [1, 0]; decide) (by show List.Nodup [1, 0]; decide) ?_
    exact ts_0 hxp hfl hH hT hR
  · refine fe_s 1 (pc' := 7) (lc' := [(1, .int 1), (0, .ref 0)]) (stk' := []) (mem' := fm g tp bt a b) (fun _ _ _ => rfl) ?_
    refine fe_w (lc' := [(1, .int 1), (0, .ref 0)]) ⟨rfl, rfl, trivial⟩ (by show List.Nodup [1, 0]; decide) (by show List.Nodup [1, 0]; decide) ?_
    exact ts_1 hxp hfl hH hT hR
  · refine fe_s 1 (pc' := 7) (lc' := [(1, .int 2), (0, .ref 0)]) (stk' := []) (mem' := fm g tp bt a b) (fun _ _ _ => rfl) ?_
    refine fe_w (lc' := [(1, .int 2), (0, .ref 0)]) ⟨rfl, rfl, trivial⟩ (by show List.Nodup [1, 0]; decide) (by show List.Nodup [1, 0]; decide) ?_
    exact ts_2 hxp hfl hH hT hR
  · refine fe_s 1 (pc' := 7) (lc' := [(1, .int 3), (0, .ref 0)]) (stk' := []) (mem' := fm g tp bt a b) (fun _ _ _ => rfl) ?_
    refine fe_w (lc' := [(1, .int 3), (0, .ref 0)]) ⟨rfl, rfl, trivial⟩ (by show List.Nodup [1, 0]; decide) (by show List.Nodup [1, 0]; decide) ?_
    exact ts_3 hxp hfl hH hT hR
  · refine fe_s 1 (pc' := 7) (lc' := [(1, .int 4), (0, .ref 0)]) (stk' := []) (mem' := fm g tp bt a b) (fun _ _ _ => rfl) ?_
    refine fe_w (lc' := [(1, .int 4), (0, .ref 0)]) ⟨rfl, rfl, trivial⟩ (by show List.Nodup [1, 0]; decide) (by show List.Nodup [1, 0]; decide) ?_
    exact ts_4 hxp hfl hH hT hR
  · refine fe_s 1 (pc' := 7) (lc' := [(1, .int 5), (0, .ref 0)]) (stk' := []) (mem' := fm g tp bt a b) (fun _ _ _ => rfl) ?_
    refine fe_w (lc' := [(1, .int 5), (0, .ref 0)]) ⟨rfl, rfl, trivial⟩ (by show List.Nodup [1, 0]; decide) (by show List.Nodup [1, 0]; decide) ?_
    exact ts_5 hxp hfl hH hT hR
  · refine fe_s 1 (pc' := 7) (lc' := [(1, .int 6), (0, .ref 0)]) (stk' := []) (mem' := fm g tp bt a b) (fun _ _ _ => rfl) ?_
    refine fe_w (lc' := [(1, .int 6), (0, .ref 0)]) ⟨rfl, rfl, trivial⟩ (by show List.Nodup [1, 0]; decide) (by show List.Nodup [1, 0]; decide) ?_
    exact ts_6 hxp hfl hH hT hR
  · refine fe_s 1 (pc' := 7) (lc' := [(1, .int 7), (0, .ref 0)]) (stk' := []) (mem' := fm g tp bt a b) (fun _ _ _ => rfl) ?_
    refine fe_w (lc' := [(1, .int 7), (0, .ref 0)]) ⟨rfl, rfl, trivial⟩ (by show List.Nodup [1, 0]; decide) (by show List.Nodup [1, 0]; decide) ?_
    exact ts_7 hxp hfl hH hT hR
  · refine fe_s 1 (pc' := 7) (lc' := [(1, .int 8), (0, .ref 0)]) (stk' := []) (mem' := fm g tp bt a b) (fun _ _ _ => rfl) ?_
    refine fe_w (lc' := [(1, .int 8), (0, .ref 0)]) ⟨rfl, rfl, trivial⟩ (by show List.Nodup [1, 0]; decide) (by show List.Nodup [1, 0]; decide) ?_
    exact ts_8 hxp hfl hH hT hR
  · refine fe_s 1 (pc' := 7) (lc' := [(1, .int 9), (0, .ref 0)]) (stk' := []) (mem' := fm g tp bt a b) (fun _ _ _ => rfl) ?_
    refine fe_w (lc' := [(1, .int 9), (0, .ref 0)]) ⟨rfl, rfl, trivial⟩ (by show List.Nodup [1, 0]; decide) (by show List.Nodup [1, 0]; decide) ?_
    exact ts_9 hxp hfl hH hT hR
  · refine fe_s 1 (pc' := 7) (lc' := [(1, .int 10), (0, .ref 0)]) (stk' := []) (mem' := fm g tp bt a b) (fun _ _ _ => rfl) ?_
    refine fe_w (lc' := [(1, .int 10), (0, .ref 0)]) ⟨rfl, rfl, trivial⟩ (by show List.Nodup [1, 0]; decide) (by show List.Nodup [1, 0]; decide) ?_
    exact ts_10 hxp hfl hH hT hR
  · refine fe_s 1 (pc' := 7) (lc' := [(1, .int 11), (0, .ref 0)]) (stk' := []) (mem' := fm g tp bt a b) (fun _ _ _ => rfl) ?_
    refine fe_w (lc' := [(1, .int 11), (0, .ref 0)]) ⟨rfl, rfl, trivial⟩ (by show List.Nodup [1, 0]; decide) (by show List.Nodup [1, 0]; decide) ?_
    exact ts_11 hxp hfl hH hT hR
  · refine fe_s 1 (pc' := 7) (lc' := [(1, .int 12), (0, .ref 0)]) (stk' := []) (mem' := fm g tp bt a b) (fun _ _ _ => rfl) ?_
    refine fe_w (lc' := [(1, .int 12), (0, .ref 0)]) ⟨rfl, rfl, trivial⟩ (by show List.Nodup [1, 0]; decide) (by show List.Nodup [1, 0]; decide) ?_
    exact ts_12 hxp hfl hH hT hR
  · refine fe_s 1 (pc' := 7) (lc' := [(1, .int 13), (0, .ref 0)]) (stk' := []) (mem' := fm g tp bt a b) (fun _ _ _ => rfl) ?_
    refine fe_w (lc' := [(1, .int 13), (0, .ref 0)]) ⟨rfl, rfl, trivial⟩ (by show List.Nodup [1, 0]; decide) (by show List.Nodup [1, 0]; decide) ?_
    exact ts_13 hxp hfl hH hT hR
  · refine fe_s 1 (pc' := 7) (lc' := [(1, .int 14), (0, .ref 0)]) (stk' := []) (mem' := fm g tp bt a b) (fun _ _ _ => rfl) ?_
    refine fe_w (lc' := [(1, .int 14), (0, .ref 0)]) ⟨rfl, rfl, trivial⟩ (by show List.Nodup [1, 0]; decide) (by show List.Nodup [1, 0]; decide) ?_
    exact ts_14 hxp hfl hH hT hR
  · refine fe_s 1 (pc' := 7) (lc' := [(1, .int 15), (0, .ref 0)]) (stk' := []) (mem' := fm g tp bt a b) (fun _ _ _ => rfl) ?_
    refine fe_w (lc' := [(1, .int 15), (0, .ref 0)]) ⟨rfl, rfl, trivial⟩ (by show List.Nodup [1, 0]; decide) (by show List.Nodup [1, 0]; decide) ?_
    exact ts_15 hxp hfl hH hT hR
  · refine fe_s 1 (pc' := 7) (lc' := [(1, .int 16), (0, .ref 0)]) (stk' := []) (mem' := fm g tp bt a b) (fun _ _ _ => rfl) ?_
    refine fe_w (lc' := [(1, .int 16), (0, .ref 0)]) ⟨rfl, rfl, trivial⟩ (by show List.Nodup [1, 0]; decide) (by show List.Nodup [1, 0]; decide) ?_
    exact ts_16 hxp hfl hH hT hR
  · refine fe_s 1 (pc' := 7) (lc' := [(1, .int 17), (0, .ref 0)]) (stk' := []) (mem' := fm g tp bt a b) (fun _ _ _ => rfl) ?_
    refine fe_w (lc' := [(1, .int 17), (0, .ref 0)]) ⟨rfl, rfl, trivial⟩ (by show List.Nodup [1, 0]; decide) (by show List.Nodup [1, 0]; decide) ?_
    exact ts_17 hxp hfl hH hT hR
  · refine fe_s 1 (pc' := 7) (lc' := [(1, .int 18), (0, .ref 0)]) (stk' := []) (mem' := fm g tp bt a b) (fun _ _ _ => rfl) ?_
    refine fe_w (lc' := [(1, .int 18), (0, .ref 0)]) ⟨rfl, rfl, trivial⟩ (by show List.Nodup [1, 0]; decide) (by show List.Nodup [1, 0]; decide) ?_
    exact ts_18 hxp hfl hH hT hR
  · refine fe_s 1 (pc' := 7) (lc' := [(1, .int 19), (0, .ref 0)]) (stk' := []) (mem' := fm g tp bt a b) (fun _ _ _ => rfl) ?_
    refine fe_w (lc' := [(1, .int 19), (0, .ref 0)]) ⟨rfl, rfl, trivial⟩ (by show List.Nodup [1, 0]; decide) (by show List.Nodup [1, 0]; decide) ?_
    exact ts_19 hxp hfl hH hT hR
  · refine fe_s 1 (pc' := 7) (lc' := [(1, .int 20), (0, .ref 0)]) (stk' := []) (mem' := fm g tp bt a b) (fun _ _ _ => rfl) ?_
    refine fe_w (lc' := [(1, .int 20), (0, .ref 0)]) ⟨rfl, rfl, trivial⟩ (by show List.Nodup [1, 0]; decide) (by show List.Nodup [1, 0]; decide) ?_
    exact ts_20 hxp hfl hH hT hR
  · refine fe_s 1 (pc' := 7) (lc' := [(1, .int 21), (0, .ref 0)]) (stk' := []) (mem' := fm g tp bt a b) (fun _ _ _ => rfl) ?_
    refine fe_w (lc' := [(1, .int 21), (0, .ref 0)]) ⟨rfl, rfl, trivial⟩ (by show List.Nodup [1, 0]; decide) (by show List.Nodup [1, 0]; decide) ?_
    exact ts_21 hxp hfl hH hT hR
  · refine fe_s 1 (pc' := 7) (lc' := [(1, .int 22), (0, .ref 0)]) (stk' := []) (mem' := fm g tp bt a b) (fun _ _ _ => rfl) ?_
    refine fe_w (lc' := [(1, .int 22), (0, .ref 0)]) ⟨rfl, rfl, trivial⟩ (by show List.Nodup [1, 0]; decide) (by show List.Nodup [1, 0]; decide) ?_
    exact ts_22 hxp hfl hH hT hR
  · refine fe_s 1 (pc' := 7) (lc' := [(1, .int 23), (0, .ref 0)]) (stk' := []) (mem' := fm g tp bt a b) (fun _ _ _ => rfl) ?_
    refine fe_w (lc' := [(1, .int 23), (0, .ref 0)]) ⟨rfl, rfl, trivial⟩ (by show List.Nodup [1, 0]; decide) (by show List.Nodup [1, 0]; decide) ?_
    exact ts_23 hxp hfl hH hT hR
end F4876_step
