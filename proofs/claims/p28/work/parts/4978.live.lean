/-! ===== fx: live, mean ===== -/
section FLM
variable {g : Nat → Int32} {tp bt : Int64} {a0 a : Nat → Nat → Int32} {b : Nat → Nat → Int64}
theorem fm_6 {a : Nat → Nat → Int32} (hB : fm_B a) : a 1 6 = -1 ∨ ∃ N, N ≤ 60 ∧ a 1 6 = nI N := by
  have h := hB.1 6 (by decide)
  unfold fm_bd at h
  rw [show gm_at 6 = (-1, 60) from rfl] at h
  obtain ⟨h1, h2⟩ := h
  by_cases e : (a 1 6).toInt = -1
  · exact Or.inl (Int32.toInt_inj.mp e)
  · have h3 : (-1 : Int) ≤ (a 1 6).toInt := h1
    have h4 : (a 1 6).toInt ≤ (60 : Int) := h2
    exact Or.inr (nI_bd (n := 60) (by omega) h4)
theorem fm_G_lv {g g1 g2 : Nat → Int32} {r : Nat} (h : fm_G g g1) (hf : ∀ j, j ≠ 36 → j ≠ 37 → g2 j = g1 j) (h37 : g2 37 = nI r) (hr : r ≤ 300) : fm_G g g2 := by
  obtain ⟨k1, k2, k3, k4, k5⟩ := h
  refine ⟨fun j hj => ?_, ?_, ?_, ?_, ?_⟩
  · rw [hf j (fun e => by subst e; exact absurd hj (by decide)) (fun e => by subst e; exact absurd hj (by decide))]; exact k1 j hj
  · rw [hf 2 (by decide) (by decide)]; exact k2
  · rw [hf 30 (by decide) (by decide)]; exact k3
  · rw [h37, nI_i32 (by omega)]; omega
  · rw [hf 41 (by decide) (by decide)]; exact k5
theorem fm_E_K {a a0 a9 : Nat → Nat → Int32} {to T : Nat} (hto : 3368 ≤ to) (hK : fm_K a a0 to) (hB : fm_B a0) (hD : fm_D a0 a9 T) (hT : T ≤ 9999) : fm_E a a9 := ⟨fm_D_B hB hD hT, fun t ht => (hD.1 t (fm_okE_t ht)).trans (hK.1 t (fun e => by subst e; exact absurd ht (by decide))), fun i hi => (hD.2.1 i (fm_st_5 hi) (fm_st_d hi)).trans (hK.2.1 i (by have := fm_st_n hi; omega))⟩
theorem fm_i64n {m : Nat} (h1 : 1 ≤ m) (h2 : m < 2147483648) : ¬ (nI m).toInt64 = 0 := fun z => by
  have := congrArg Int64.toInt z
  rw [Int32.toInt_toInt64, nI_i32 h2, show ((0 : Int64).toInt) = 0 from rfl] at this
  omega
set_option maxRecDepth 20000 in
theorem fr_live {sd : Int32} (hBa : fm_B a) (hgb : fm_gb g) : ∃ (v : Option Value) (mem' : fx_M), (fm_PO g tp bt a b) (v, mem') ∧ fr_T 13 366 [.ref 0, .int sd] (fm g tp bt a b) v mem' := by
  have hG := fm_G_rf hgb
  have hB := hBa
  obtain ⟨NC, hNC, eNC⟩ := fm_B_0 hB (i := 0) (n := 10) (by decide) rfl
  obtain ⟨NW, hNW, eNW⟩ := fm_B_0 hB (i := 1) (n := 8) (by decide) rfl
  obtain ⟨NG, hNG, eNG⟩ := fm_B_0 hB (i := 3) (n := 20) (by decide) rfl
  obtain ⟨T, hT9, eT⟩ := fm_T5 hB
  have hD : fm_D a a T := fm_D_rf hB eT (by omega)
  refine fe_meth (F := fm_PO g tp bt a b) (M := gk_m366) (by rfl) (by rfl) ?_
  refine fe_s 4 (pc' := 6) (lc' := [(0, .ref 0), (1, .int sd)]) (stk' := [.long 9999, .long (0 : Int64), .long (sd.toInt64)]) (mem' := fm g tp bt a b) (fun _ _ _ => rfl) ?_
  obtain ⟨vf1, memf1, ⟨xf1, hxf1, hRf1⟩, hfrf1⟩ := fr_isFrom (v := sd.toInt64) (l := (0 : Int64)) (m := 9999) (mem := fm g tp bt a b)
  cases hRf1
  refine fe_ivS hfrf1 (by omega) (by rfl) (by rfl) (by rfl) (by rfl) (by rfl) ?_
  rcases hxf1 with ⟨rfl, -⟩ | ⟨rfl, hlf1, hmf1⟩
  · refine fe_s 1 (pc' := cond (fx_cb .ne 0 0) 18 12) (lc' := [(0, .ref 0), (1, .int sd)]) (stk' := []) (mem' := fm g tp bt a b) (fun _ _ _ => rfl) ?_
    rw [show (fx_cb .ne 0 0) = false from by decide]
    dsimp only [cond]
    refine fe_s 2 (pc' := 14) (lc' := [(0, .ref 0), (1, .int sd)]) (stk' := [.int 1, .ref 0]) (mem' := fm g tp bt a b) (fun _ _ _ => rfl) ?_
    refine fe_ivV (fr_refuse (x := 1)) (by omega) (by rfl) (by rfl) (by rfl) (by rfl) (by rfl) (by rfl) ?_
    exact fe_ret ⟨_, _, _, _, _, _, (fm_E_rf hBa), (fm_G_2 hG (by decide) (by decide)), (fun _ _ _ => rfl), rfl⟩ (by rfl) (by rfl) (by rfl)
  · obtain ⟨s, hs, rfl⟩ : ∃ qq, qq ≤ 9999 ∧ sd = nI qq := by
      rw [Int32.toInt_toInt64] at hlf1 hmf1
      rw [show (((9999 : Int64)).toInt) = 9999 from rfl] at hmf1
      rw [show (((0 : Int64)).toInt) = 0 from rfl] at hlf1
      exact nI_bd (n := 9999) (by omega) hmf1
    refine fe_s 1 (pc' := cond (fx_cb .ne 1 0) 18 12) (lc' := [(0, .ref 0), (1, .int (nI s))]) (stk' := []) (mem' := fm g tp bt a b) (fun _ _ _ => rfl) ?_
    rw [show (fx_cb .ne 1 0) = true from by decide]
    dsimp only [cond]
    refine fe_s 3 (pc' := 24) (lc' := [(0, .ref 0), (1, .int (nI s))]) (stk' := [.int 6, .ref 1]) (mem' := fm g tp bt a b) (fun _ _ _ => rfl) ?_
    refine fe_ldI (by rfl) (by rfl) (fx_inN (i := 6) (by omega) (by omega)) ?_
    rw [show Int32.toNatClampNeg (6) = 6 from rfl]
    rcases fm_6 hBa with e6 | ⟨N, hN6, e6⟩
    · rw [show a 1 6 = -1 from e6]
      refine fe_s 1 (pc' := 26) (lc' := [(0, .ref 0), (1, .int (nI s))]) (stk' := [.int (-1), .int (-1)]) (mem' := fm g tp bt a b) (fun _ _ _ => rfl) ?_
      refine fe_s 1 (pc' := cond (fx_cb .ne (-1) (-1)) 36 29) (lc' := [(0, .ref 0), (1, .int (nI s))]) (stk' := []) (mem' := fm g tp bt a b) (fun _ _ _ => rfl) ?_
      rw [show (fx_cb .ne (-1) (-1)) = false from by decide]
      dsimp only [cond]
      refine fe_s 2 (pc' := 32) (lc' := [(0, .ref 0), (1, .int (nI s))]) (stk' := [.int 6, .ref 0]) (mem' := fm g tp bt a b) (fun _ _ _ => rfl) ?_
      refine fe_ivV (fr_refuse (x := 6)) (by omega) (by rfl) (by rfl) (by rfl) (by rfl) (by rfl) (by rfl) ?_
      exact fe_ret ⟨_, _, _, _, _, _, (fm_E_rf hBa), (fm_G_2 hG (by decide) (by decide)), (fun _ _ _ => rfl), rfl⟩ (by rfl) (by rfl) (by rfl)
    · rw [show a 1 6 = nI N from e6]
      refine fe_s 1 (pc' := 26) (lc' := [(0, .ref 0), (1, .int (nI s))]) (stk' := [.int (-1), .int (nI N)]) (mem' := fm g tp bt a b) (fun _ _ _ => rfl) ?_
      refine fe_s 1 (pc' := cond (fx_cb .ne (nI N) (-1)) 36 29) (lc' := [(0, .ref 0), (1, .int (nI s))]) (stk' := []) (mem' := fm g tp bt a b) (fun _ _ _ => rfl) ?_
      rw [show (fx_cb .ne (nI N) (-1)) = true from cb_n_ne (by omega) (by decide)]
      dsimp only [cond]
      refine fe_s 2 (pc' := 38) (lc' := [(0, .ref 0), (1, .int (nI s))]) (stk' := [.int (nI s), .ref 0]) (mem' := fm g tp bt a b) (fun _ _ _ => rfl) ?_
      obtain ⟨ve2, meme2, ⟨ge2, ae2, Te2, re2, hTe2, hre2, hge2, h37e2, hDe2, hRe2⟩, hfre2⟩ := fr_lives (s := s) (N := N) (g := g) (tp := tp) (bt := bt) (a := a) (b := b) hB hD (by omega) (by omega) e6 hN6
      cases hRe2
      have hGe2 := fm_G_lv hG hge2 h37e2 hre2
      refine fe_ivV hfre2 (by omega) (by rfl) (by rfl) (by rfl) (by rfl) (by rfl) (by rfl) ?_
      refine fe_s 4 (pc' := 45) (lc' := [(2, .int 0), (0, .ref 0), (1, .int (nI s))]) (stk' := [.int 5, .int 0]) (mem' := fm ge2 tp bt ae2 b) (fun _ _ _ => rfl) ?_
      refine fe_s 1 (pc' := cond (fx_cb .ge 0 5) 66 48) (lc' := [(2, .int 0), (0, .ref 0), (1, .int (nI s))]) (stk' := []) (mem' := fm ge2 tp bt ae2 b) (fun _ _ _ => rfl) ?_
      rw [show (fx_cb .ge 0 5) = false from by decide]
      dsimp only [cond]
      refine fe_s 6 (pc' := 58) (lc' := [(2, .int 0), (0, .ref 0), (1, .int (nI s))]) (stk' := [.int 0, .ref 20, .int 0, .ref 21]) (mem' := fm ge2 tp bt ae2 b) (fun _ _ _ => rfl) ?_
      refine fe_ldI (by rfl) (by rfl) (fx_inN (i := 0) (by omega) (by omega)) ?_
      rw [show Int32.toNatClampNeg (0) = 0 from rfl]
      refine fe_stI (mem' := fm ge2 tp bt (fm_u ae2 21 (0 : Int32).toNatClampNeg (ae2 20 0)) b) (by rfl) (by rfl) (fx_inN (i := 0) (by omega) (by omega)) fm_si21 ?_
      rw [show Int32.toNatClampNeg (0) = 0 from rfl]
      obtain ⟨at3, hat3⟩ : ∃ z, z = fm_u ae2 21 (0) (ae2 20 0) := ⟨_, rfl⟩
      rw [← hat3]
      have hDt3 : fm_D a at3 Te2 := by rw [hat3]; exact fm_D_ot hDe2 (by decide) (by decide) rfl
      refine fe_s 4 (pc' := 45) (lc' := [(2, .int (0 + 1)), (0, .ref 0), (1, .int (nI s))]) (stk' := [.int 5, .int (0 + 1)]) (mem' := fm ge2 tp bt at3 b) (fun _ _ _ => rfl) ?_
      rw [show (0 + 1 : Int32) = 1 from rfl]
      refine fe_s 1 (pc' := cond (fx_cb .ge 1 5) 66 48) (lc' := [(2, .int 1), (0, .ref 0), (1, .int (nI s))]) (stk' := []) (mem' := fm ge2 tp bt at3 b) (fun _ _ _ => rfl) ?_
      rw [show (fx_cb .ge 1 5) = false from by decide]
      dsimp only [cond]
      refine fe_s 6 (pc' := 58) (lc' := [(2, .int 1), (0, .ref 0), (1, .int (nI s))]) (stk' := [.int 1, .ref 20, .int 1, .ref 21]) (mem' := fm ge2 tp bt at3 b) (fun _ _ _ => rfl) ?_
      refine fe_ldI (by rfl) (by rfl) (fx_inN (i := 1) (by omega) (by omega)) ?_
      rw [show Int32.toNatClampNeg (1) = 1 from rfl]
      refine fe_stI (mem' := fm ge2 tp bt (fm_u at3 21 (1 : Int32).toNatClampNeg (at3 20 1)) b) (by rfl) (by rfl) (fx_inN (i := 1) (by omega) (by omega)) fm_si21 ?_
      rw [show Int32.toNatClampNeg (1) = 1 from rfl]
      obtain ⟨at4, hat4⟩ : ∃ z, z = fm_u at3 21 (1) (at3 20 1) := ⟨_, rfl⟩
      rw [← hat4]
      have hDt4 : fm_D a at4 Te2 := by rw [hat4]; exact fm_D_ot hDt3 (by decide) (by decide) rfl
      refine fe_s 4 (pc' := 45) (lc' := [(2, .int (1 + 1)), (0, .ref 0), (1, .int (nI s))]) (stk' := [.int 5, .int (1 + 1)]) (mem' := fm ge2 tp bt at4 b) (fun _ _ _ => rfl) ?_
      rw [show (1 + 1 : Int32) = 2 from rfl]
      refine fe_s 1 (pc' := cond (fx_cb .ge 2 5) 66 48) (lc' := [(2, .int 2), (0, .ref 0), (1, .int (nI s))]) (stk' := []) (mem' := fm ge2 tp bt at4 b) (fun _ _ _ => rfl) ?_
      rw [show (fx_cb .ge 2 5) = false from by decide]
      dsimp only [cond]
      refine fe_s 6 (pc' := 58) (lc' := [(2, .int 2), (0, .ref 0), (1, .int (nI s))]) (stk' := [.int 2, .ref 20, .int 2, .ref 21]) (mem' := fm ge2 tp bt at4 b) (fun _ _ _ => rfl) ?_
      refine fe_ldI (by rfl) (by rfl) (fx_inN (i := 2) (by omega) (by omega)) ?_
      rw [show Int32.toNatClampNeg (2) = 2 from rfl]
      refine fe_stI (mem' := fm ge2 tp bt (fm_u at4 21 (2 : Int32).toNatClampNeg (at4 20 2)) b) (by rfl) (by rfl) (fx_inN (i := 2) (by omega) (by omega)) fm_si21 ?_
      rw [show Int32.toNatClampNeg (2) = 2 from rfl]
      obtain ⟨at5, hat5⟩ : ∃ z, z = fm_u at4 21 (2) (at4 20 2) := ⟨_, rfl⟩
      rw [← hat5]
      have hDt5 : fm_D a at5 Te2 := by rw [hat5]; exact fm_D_ot hDt4 (by decide) (by decide) rfl
      refine fe_s 4 (pc' := 45) (lc' := [(2, .int (2 + 1)), (0, .ref 0), (1, .int (nI s))]) (stk' := [.int 5, .int (2 + 1)]) (mem' := fm ge2 tp bt at5 b) (fun _ _ _ => rfl) ?_
      rw [show (2 + 1 : Int32) = 3 from rfl]
      refine fe_s 1 (pc' := cond (fx_cb .ge 3 5) 66 48) (lc' := [(2, .int 3), (0, .ref 0), (1, .int (nI s))]) (stk' := []) (mem' := fm ge2 tp bt at5 b) (fun _ _ _ => rfl) ?_
      rw [show (fx_cb .ge 3 5) = false from by decide]
      dsimp only [cond]
      refine fe_s 6 (pc' := 58) (lc' := [(2, .int 3), (0, .ref 0), (1, .int (nI s))]) (stk' := [.int 3, .ref 20, .int 3, .ref 21]) (mem' := fm ge2 tp bt at5 b) (fun _ _ _ => rfl) ?_
      refine fe_ldI (by rfl) (by rfl) (fx_inN (i := 3) (by omega) (by omega)) ?_
      rw [show Int32.toNatClampNeg (3) = 3 from rfl]
      refine fe_stI (mem' := fm ge2 tp bt (fm_u at5 21 (3 : Int32).toNatClampNeg (at5 20 3)) b) (by rfl) (by rfl) (fx_inN (i := 3) (by omega) (by omega)) fm_si21 ?_
      rw [show Int32.toNatClampNeg (3) = 3 from rfl]
      obtain ⟨at6, hat6⟩ : ∃ z, z = fm_u at5 21 (3) (at5 20 3) := ⟨_, rfl⟩
      rw [← hat6]
      have hDt6 : fm_D a at6 Te2 := by rw [hat6]; exact fm_D_ot hDt5 (by decide) (by decide) rfl
      refine fe_s 4 (pc' := 45) (lc' := [(2, .int (3 + 1)), (0, .ref 0), (1, .int (nI s))]) (stk' := [.int 5, .int (3 + 1)]) (mem' := fm ge2 tp bt at6 b) (fun _ _ _ => rfl) ?_
      rw [show (3 + 1 : Int32) = 4 from rfl]
      refine fe_s 1 (pc' := cond (fx_cb .ge 4 5) 66 48) (lc' := [(2, .int 4), (0, .ref 0), (1, .int (nI s))]) (stk' := []) (mem' := fm ge2 tp bt at6 b) (fun _ _ _ => rfl) ?_
      rw [show (fx_cb .ge 4 5) = false from by decide]
      dsimp only [cond]
      refine fe_s 6 (pc' := 58) (lc' := [(2, .int 4), (0, .ref 0), (1, .int (nI s))]) (stk' := [.int 4, .ref 20, .int 4, .ref 21]) (mem' := fm ge2 tp bt at6 b) (fun _ _ _ => rfl) ?_
      refine fe_ldI (by rfl) (by rfl) (fx_inN (i := 4) (by omega) (by omega)) ?_
      rw [show Int32.toNatClampNeg (4) = 4 from rfl]
      refine fe_stI (mem' := fm ge2 tp bt (fm_u at6 21 (4 : Int32).toNatClampNeg (at6 20 4)) b) (by rfl) (by rfl) (fx_inN (i := 4) (by omega) (by omega)) fm_si21 ?_
      rw [show Int32.toNatClampNeg (4) = 4 from rfl]
      obtain ⟨at7, hat7⟩ : ∃ z, z = fm_u at6 21 (4) (at6 20 4) := ⟨_, rfl⟩
      rw [← hat7]
      have hDt7 : fm_D a at7 Te2 := by rw [hat7]; exact fm_D_ot hDt6 (by decide) (by decide) rfl
      refine fe_s 4 (pc' := 45) (lc' := [(2, .int (4 + 1)), (0, .ref 0), (1, .int (nI s))]) (stk' := [.int 5, .int (4 + 1)]) (mem' := fm ge2 tp bt at7 b) (fun _ _ _ => rfl) ?_
      rw [show (4 + 1 : Int32) = 5 from rfl]
      refine fe_s 1 (pc' := cond (fx_cb .ge 5 5) 66 48) (lc' := [(2, .int 5), (0, .ref 0), (1, .int (nI s))]) (stk' := []) (mem' := fm ge2 tp bt at7 b) (fun _ _ _ => rfl) ?_
      rw [show (fx_cb .ge 5 5) = true from by decide]
      dsimp only [cond]
      refine fe_s 6 (pc' := 76) (lc' := [(2, .int 5), (0, .ref 0), (1, .int (nI s))]) (stk' := [.int (ge2 37), .ref 0]) (mem' := fm (upd ge2 41 1) tp bt at7 b) (fun _ _ _ => rfl) ?_
      try rw [h37e2]
      refine fe_ivV (fr_gives (x := nI re2)) (by omega) (by rfl) (by rfl) (by rfl) (by rfl) (by rfl) (by rfl) ?_
      exact fe_ret ⟨_, _, _, _, _, _, fm_E_D hB hDt7 (by omega), (fm_G_2 (fm_G_41 hGe2) (by decide) (by decide)), (fun _ _ _ => rfl), rfl⟩ (by rfl) (by rfl) (by rfl)
set_option maxRecDepth 20000 in
theorem fr_mean {sd my : Int32} (hBa : fm_B a) (hgb : fm_gb g) : ∃ (v : Option Value) (mem' : fx_M), (fm_PZ g tp bt a b) (v, mem') ∧ fr_T 14 368 [.ref 0, .int sd, .int my] (fm g tp bt a b) v mem' := by
  have hG := fm_G_rf hgb
  refine fe_meth (F := fm_PZ g tp bt a b) (M := gk_m368) (by rfl) (by rfl) ?_
  refine fe_s 4 (pc' := 6) (lc' := [(0, .ref 0), (1, .int sd), (2, .int my)]) (stk' := [.long 9999, .long (0 : Int64), .long (sd.toInt64)]) (mem' := fm g tp bt a b) (fun _ _ _ => rfl) ?_
  obtain ⟨vf1, memf1, ⟨xf1, hxf1, hRf1⟩, hfrf1⟩ := fr_isFrom (v := sd.toInt64) (l := (0 : Int64)) (m := 9999) (mem := fm g tp bt a b)
  cases hRf1
  refine fe_ivS hfrf1 (by omega) (by rfl) (by rfl) (by rfl) (by rfl) (by rfl) ?_
  rcases hxf1 with ⟨rfl, -⟩ | ⟨rfl, hlf1, hmf1⟩
  · refine fe_s 1 (pc' := cond (fx_cb .eq 0 0) 35 12) (lc' := [(0, .ref 0), (1, .int sd), (2, .int my)]) (stk' := []) (mem' := fm g tp bt a b) (fun _ _ _ => rfl) ?_
    rw [show (fx_cb .eq 0 0) = true from by decide]
    dsimp only [cond]
    refine fe_s 2 (pc' := 37) (lc' := [(0, .ref 0), (1, .int sd), (2, .int my)]) (stk' := [.int 1, .ref 0]) (mem' := fm g tp bt a b) (fun _ _ _ => rfl) ?_
    refine fe_ivV fr_isx1 (by omega) (by rfl) (by rfl) (by rfl) (by rfl) (by rfl) (by rfl) ?_
    exact fe_ret ⟨_, _, _, _, _, _, Or.inl rfl, (fm_E_rf hBa), (fm_G_2 hG (by decide) (by decide)), (fun _ _ _ => rfl), rfl⟩ (by rfl) (by rfl) (by rfl)
  · obtain ⟨s, hs, rfl⟩ : ∃ qq, qq ≤ 9999 ∧ sd = nI qq := by
      rw [Int32.toInt_toInt64] at hlf1 hmf1
      rw [show (((9999 : Int64)).toInt) = 9999 from rfl] at hmf1
      rw [show (((0 : Int64)).toInt) = 0 from rfl] at hlf1
      exact nI_bd (n := 9999) (by omega) hmf1
    refine fe_s 1 (pc' := cond (fx_cb .eq 1 0) 35 12) (lc' := [(0, .ref 0), (1, .int (nI s)), (2, .int my)]) (stk' := []) (mem' := fm g tp bt a b) (fun _ _ _ => rfl) ?_
    rw [show (fx_cb .eq 1 0) = false from by decide]
    dsimp only [cond]
    refine fe_s 4 (pc' := 18) (lc' := [(0, .ref 0), (1, .int (nI s)), (2, .int my)]) (stk' := [.long 20, .long (1 : Int64), .long (my.toInt64)]) (mem' := fm g tp bt a b) (fun _ _ _ => rfl) ?_
    obtain ⟨vf2, memf2, ⟨xf2, hxf2, hRf2⟩, hfrf2⟩ := fr_isFrom (v := my.toInt64) (l := (1 : Int64)) (m := 20) (mem := fm g tp bt a b)
    cases hRf2
    refine fe_ivS hfrf2 (by omega) (by rfl) (by rfl) (by rfl) (by rfl) (by rfl) ?_
    rcases hxf2 with ⟨rfl, -⟩ | ⟨rfl, hlf2, hmf2⟩
    · refine fe_s 1 (pc' := cond (fx_cb .eq 0 0) 35 24) (lc' := [(0, .ref 0), (1, .int (nI s)), (2, .int my)]) (stk' := []) (mem' := fm g tp bt a b) (fun _ _ _ => rfl) ?_
      rw [show (fx_cb .eq 0 0) = true from by decide]
      dsimp only [cond]
      refine fe_s 2 (pc' := 37) (lc' := [(0, .ref 0), (1, .int (nI s)), (2, .int my)]) (stk' := [.int 1, .ref 0]) (mem' := fm g tp bt a b) (fun _ _ _ => rfl) ?_
      refine fe_ivV fr_isx1 (by omega) (by rfl) (by rfl) (by rfl) (by rfl) (by rfl) (by rfl) ?_
      exact fe_ret ⟨_, _, _, _, _, _, Or.inl rfl, (fm_E_rf hBa), (fm_G_2 hG (by decide) (by decide)), (fun _ _ _ => rfl), rfl⟩ (by rfl) (by rfl) (by rfl)
    · obtain ⟨m, hm, rfl⟩ : ∃ qq, qq ≤ 20 ∧ my = nI qq := by
        rw [Int32.toInt_toInt64] at hlf2 hmf2
        rw [show (((20 : Int64)).toInt) = 20 from rfl] at hmf2
        rw [show (((1 : Int64)).toInt) = 1 from rfl] at hlf2
        exact nI_bd (n := 20) (by omega) hmf2
      have h1m : 1 ≤ m := by
        rw [Int32.toInt_toInt64, nI_i32 (by omega), show (((1 : Int64)).toInt) = 1 from rfl] at hlf2; omega
      refine fe_s 1 (pc' := cond (fx_cb .eq 1 0) 35 24) (lc' := [(0, .ref 0), (1, .int (nI s)), (2, .int (nI m))]) (stk' := []) (mem' := fm g tp bt a b) (fun _ _ _ => rfl) ?_
      rw [show (fx_cb .eq 1 0) = false from by decide]
      dsimp only [cond]
      refine fe_s 6 (pc' := 32) (lc' := [(0, .ref 0), (1, .int (nI s)), (2, .int (nI m))]) (stk' := [.int 9999, .int (((nI s) + (nI m)) - 1)]) (mem' := fm g tp bt a b) (fun _ _ _ => rfl) ?_
      rw [show (((nI s) + (nI m)) - 1 : Int32) = nI ((s + m) - 1) from by simp only [show (1 : Int32) = nI 1 from rfl, tg_sub2 (x := s + m) (y := 1) (by omega), nI_add, fm_mul]]
      refine fe_s 1 (pc' := cond (fx_cb .le (nI ((s + m) - 1)) 9999) 41 35) (lc' := [(0, .ref 0), (1, .int (nI s)), (2, .int (nI m))]) (stk' := []) (mem' := fm g tp bt a b) (fun _ _ _ => rfl) ?_
      by_cases h3 : ((s + m) - 1) ≤ 9999
      · rw [show (fx_cb .le (nI ((s + m) - 1)) 9999) = true from cb_leT (a := (s + m) - 1) (b := 9999) (by omega) (by omega) (by omega)]
        dsimp only [cond]
        refine fe_s 3 (pc' := 47) (lc' := [(0, .ref 0), (1, .int (nI s)), (2, .int (nI m))]) (stk' := [.int 6, .ref 1]) (mem' := fm g tp bt a b) (fun _ _ _ => rfl) ?_
        refine fe_ldI (by rfl) (by rfl) (fx_inN (i := 6) (by omega) (by omega)) ?_
        rw [show Int32.toNatClampNeg (6) = 6 from rfl]
        rcases fm_6 hBa with e6 | ⟨N, hN6, e6⟩
        · rw [show a 1 6 = -1 from e6]
          refine fe_s 1 (pc' := 49) (lc' := [(0, .ref 0), (1, .int (nI s)), (2, .int (nI m))]) (stk' := [.int (-1), .int (-1)]) (mem' := fm g tp bt a b) (fun _ _ _ => rfl) ?_
          refine fe_s 1 (pc' := cond (fx_cb .ne (-1) (-1)) 59 52) (lc' := [(0, .ref 0), (1, .int (nI s)), (2, .int (nI m))]) (stk' := []) (mem' := fm g tp bt a b) (fun _ _ _ => rfl) ?_
          rw [show (fx_cb .ne (-1) (-1)) = false from by decide]
          dsimp only [cond]
          refine fe_s 2 (pc' := 55) (lc' := [(0, .ref 0), (1, .int (nI s)), (2, .int (nI m))]) (stk' := [.int 6, .ref 0]) (mem' := fm g tp bt a b) (fun _ _ _ => rfl) ?_
          refine fe_ivV fr_isx6 (by omega) (by rfl) (by rfl) (by rfl) (by rfl) (by rfl) (by rfl) ?_
          exact fe_ret ⟨_, _, _, _, _, _, Or.inl rfl, (fm_E_rf hBa), (fm_G_2 hG (by decide) (by decide)), (fun _ _ _ => rfl), rfl⟩ (by rfl) (by rfl) (by rfl)
        · rw [show a 1 6 = nI N from e6]
          refine fe_s 1 (pc' := 49) (lc' := [(0, .ref 0), (1, .int (nI s)), (2, .int (nI m))]) (stk' := [.int (-1), .int (nI N)]) (mem' := fm g tp bt a b) (fun _ _ _ => rfl) ?_
          refine fe_s 1 (pc' := cond (fx_cb .ne (nI N) (-1)) 59 52) (lc' := [(0, .ref 0), (1, .int (nI s)), (2, .int (nI m))]) (stk' := []) (mem' := fm g tp bt a b) (fun _ _ _ => rfl) ?_
          rw [show (fx_cb .ne (nI N) (-1)) = true from cb_n_ne (by omega) (by decide)]
          dsimp only [cond]
          refine fe_s 2 (pc' := 63) (lc' := [(0, .ref 0), (1, .int (nI s)), (2, .int (nI m))]) (stk' := [.int 4210, .ref 0]) (mem' := fm g tp bt a b) (fun _ _ _ => rfl) ?_
          obtain ⟨vK, memK, ⟨a0, hK, hRK⟩, hfrK⟩ := fr_keeps4210 (g := g) (tp := tp) (bt := bt) (a := a) (b := b)
          cases hRK
          have hB : fm_B a0 := fm_kept hBa (by decide) hK
          obtain ⟨NC, hNC, eNC⟩ := fm_B_0 hB (i := 0) (n := 10) (by decide) rfl
          obtain ⟨NW, hNW, eNW⟩ := fm_B_0 hB (i := 1) (n := 8) (by decide) rfl
          obtain ⟨NG, hNG, eNG⟩ := fm_B_0 hB (i := 3) (n := 20) (by decide) rfl
          obtain ⟨T, hT9, eT⟩ := fm_T5 hB
          have hD : fm_D a0 a0 T := fm_D_rf hB eT (by omega)
          refine fe_ivV hfrK (by omega) (by rfl) (by rfl) (by rfl) (by rfl) (by rfl) (by rfl) ?_
          refine fe_s 4 (pc' := 71) (lc' := [(5, .int 0), (3, .long (0 : Int64)), (0, .ref 0), (1, .int (nI s)), (2, .int (nI m))]) (stk' := []) (mem' := fm g tp bt a0 b) (fun _ _ _ => rfl) ?_
          have loop : ∀ (r i : Nat), i + r = m → ∀ (x : Int64) (a1 : Nat → Nat → Int32) (g1 : Nat → Int32), fm_D a0 a1 T → fm_G g g1 → fe_R 13 gk_m368 71 [(5, .int (nI i)), (3, .long x), (0, .ref 0), (1, .int (nI s)), (2, .int (nI m))] [] (fm g1 tp bt a1 b) (fm_PZ g tp bt a b) := by
            intro r
            induction r with
            | zero =>
              intro i hi x a1 g1 hD1 hG1
              obtain rfl : m = i := by omega
              refine fe_s 2 (pc' := 74) (lc' := [(5, .int (nI m)), (3, .long x), (0, .ref 0), (1, .int (nI s)), (2, .int (nI m))]) (stk' := [.int (nI m), .int (nI m)]) (mem' := fm g1 tp bt a1 b) (fun _ _ _ => rfl) ?_
              refine fe_s 1 (pc' := cond (fx_cb .ge (nI m) (nI m)) 110 77) (lc' := [(5, .int (nI m)), (3, .long x), (0, .ref 0), (1, .int (nI s)), (2, .int (nI m))]) (stk' := []) (mem' := fm g1 tp bt a1 b) (fun _ _ _ => rfl) ?_
              rw [show (fx_cb .ge (nI m) (nI m)) = true from cb_geT (a := m) (b := m) (by omega) (by omega) (by omega)]
              dsimp only [cond]
              refine fe_s 4 (pc' := 114) (lc' := [(5, .int (nI m)), (3, .long x), (0, .ref 0), (1, .int (nI s)), (2, .int (nI m))]) (stk' := [.long ((nI m).toInt64), .long x, .ref 0]) (mem' := fm g1 tp bt a1 b) (fun _ _ _ => rfl) ?_
              obtain ⟨vt4, memt4, ⟨tt4, ut4, hRt4⟩, hfrt4⟩ := fr_tellsByX (n := x) (d := (nI m).toInt64) (g := g1) (tp := tp) (bt := bt) (a := a1) (b := b) (fm_i64n (by omega) (by omega))
              cases hRt4
              refine fe_ivV hfrt4 (by omega) (by rfl) (by rfl) (by rfl) (by rfl) (by rfl) (by rfl) ?_
              exact fe_ret ⟨_, _, _, _, _, _, Or.inr rfl, fm_E_K (by decide) hK hB hD1 (by omega), (fm_G_2 hG1 (by decide) (by decide)), (fun _ _ _ => rfl), rfl⟩ (by rfl) (by rfl) (by rfl)
            | succ r ih =>
              intro i hi x a1 g1 hD1 hG1
              have him : i < m := by omega
              refine fe_s 2 (pc' := 74) (lc' := [(5, .int (nI i)), (3, .long x), (0, .ref 0), (1, .int (nI s)), (2, .int (nI m))]) (stk' := [.int (nI m), .int (nI i)]) (mem' := fm g1 tp bt a1 b) (fun _ _ _ => rfl) ?_
              refine fe_s 1 (pc' := cond (fx_cb .ge (nI i) (nI m)) 110 77) (lc' := [(5, .int (nI i)), (3, .long x), (0, .ref 0), (1, .int (nI s)), (2, .int (nI m))]) (stk' := []) (mem' := fm g1 tp bt a1 b) (fun _ _ _ => rfl) ?_
              rw [show (fx_cb .ge (nI i) (nI m)) = false from cb_geF (a := i) (b := m) (by omega) (by omega) (by omega)]
              dsimp only [cond]
              refine fe_s 4 (pc' := 82) (lc' := [(5, .int (nI i)), (3, .long x), (0, .ref 0), (1, .int (nI s)), (2, .int (nI m))]) (stk' := [.int ((nI s) + (nI i)), .ref 0]) (mem' := fm g1 tp bt a1 b) (fun _ _ _ => rfl) ?_
              rw [show ((nI s) + (nI i) : Int32) = nI (s + i) from by simp only [nI_add, fm_mul]]
              obtain ⟨ve5, meme5, ⟨ge5, ae5, Te5, re5, hTe5, hre5, hge5, h37e5, hDe5, hRe5⟩, hfre5⟩ := fr_lives (s := s + i) (N := N) (g := g1) (tp := tp) (bt := bt) (a := a1) (b := b) hB hD1 (by omega) (by omega) ((hK.2.1 6 (by omega)).trans e6) hN6
              cases hRe5
              have hGe5 := fm_G_lv hG1 hge5 h37e5 hre5
              refine fe_ivV hfre5 (by omega) (by rfl) (by rfl) (by rfl) (by rfl) (by rfl) (by rfl) ?_
              refine fe_s 3 (pc' := 88) (lc' := [(5, .int (nI i)), (3, .long x), (0, .ref 0), (1, .int (nI s)), (2, .int (nI m))]) (stk' := [.int 2, .ref 0, .long x]) (mem' := fm ge5 tp bt ae5 b) (fun _ _ _ => rfl) ?_
              obtain ⟨vd6, memd6, ⟨xd6, ad6, hDd6, hRd6⟩, hfrd6⟩ := fr_setOf2 (g := ge5) (tp := tp) (bt := bt) (a := ae5) (b := b) hB hDe5
              cases hRd6
              refine fe_ivV hfrd6 (by omega) (by rfl) (by rfl) (by rfl) (by rfl) (by rfl) (by rfl) ?_
              obtain ⟨vb7, hfrb7⟩ := fr_bits (x := xd6) (mem := fm ge5 tp bt ad6 b)
              refine fe_ivS hfrb7 (by omega) (by rfl) (by rfl) (by rfl) (by rfl) (by rfl) ?_
              refine fe_s 5 (pc' := 101) (lc' := [(3, .long (x + (vb7.toInt64))), (5, .int (nI i)), (0, .ref 0), (1, .int (nI s)), (2, .int (nI m))]) (stk' := [.int 4210, .ref 0]) (mem' := fm ge5 tp bt ad6 b) (fun _ _ _ => rfl) ?_
              obtain ⟨vz8, memz8, ⟨az8, hSz8, hRz8⟩, hfrz8⟩ := fr_restores4210 (g := ge5) (tp := tp) (bt := bt) (a := ad6) (b := b)
              cases hRz8
              have hDz8 := fm_restD (by decide) hK hB hD hDd6 hSz8
              refine fe_ivV hfrz8 (by omega) (by rfl) (by rfl) (by rfl) (by rfl) (by rfl) (by rfl) ?_
              refine fe_s 2 (pc' := 71) (lc' := [(5, .int ((nI i) + 1)), (3, .long (x + (vb7.toInt64))), (0, .ref 0), (1, .int (nI s)), (2, .int (nI m))]) (stk' := []) (mem' := fm ge5 tp bt az8 b) (fun _ _ _ => rfl) ?_
              rw [show ((nI i) + 1 : Int32) = nI (i + 1) from by simp only [show (1 : Int32) = nI 1 from rfl, nI_add, fm_mul]]
              refine fe_w (lc' := [(5, .int (nI (i + 1))), (3, .long (x + (vb7.toInt64))), (0, .ref 0), (1, .int (nI s)), (2, .int (nI m))]) ⟨rfl, rfl, rfl, rfl, rfl, trivial⟩ (by show List.Nodup [5, 3, 0, 1, 2]; decide) (by show List.Nodup [5, 3, 0, 1, 2]; decide) ?_
              exact ih (i + 1) (by omega) _ _ _ hDz8 hGe5
          refine fe_w (lc' := [(5, .int (nI 0)), (3, .long (0 : Int64)), (0, .ref 0), (1, .int (nI s)), (2, .int (nI m))]) ⟨rfl, rfl, rfl, rfl, rfl, trivial⟩ (by show List.Nodup [5, 3, 0, 1, 2]; decide) (by show List.Nodup [5, 3, 0, 1, 2]; decide) ?_
          exact loop m 0 (by omega) _ _ _ hD hG
      · rw [show (fx_cb .le (nI ((s + m) - 1)) 9999) = false from cb_leF (a := (s + m) - 1) (b := 9999) (by omega) (by omega) (by omega)]
        dsimp only [cond]
        refine fe_s 2 (pc' := 37) (lc' := [(0, .ref 0), (1, .int (nI s)), (2, .int (nI m))]) (stk' := [.int 1, .ref 0]) (mem' := fm g tp bt a b) (fun _ _ _ => rfl) ?_
        refine fe_ivV fr_isx1 (by omega) (by rfl) (by rfl) (by rfl) (by rfl) (by rfl) (by rfl) ?_
        exact fe_ret ⟨_, _, _, _, _, _, Or.inl rfl, (fm_E_rf hBa), (fm_G_2 hG (by decide) (by decide)), (fun _ _ _ => rfl), rfl⟩ (by rfl) (by rfl) (by rfl)
end FLM
