/-! ===== fx: steps; how long till; whether it holds ===== -/
section FRD
variable {g : Nat → Int32} {tp bt : Int64} {a0 a : Nat → Nat → Int32} {b : Nat → Nat → Int64}
theorem fr_step {n : Int32} (hBa : fm_B a) (hgb : fm_gb g) : ∃ (v : Option Value) (mem' : fx_M), (fm_PO g tp bt a b) (v, mem') ∧ fr_T 8 293 [.ref 0, .int n] (fm g tp bt a b) v mem' := by
  have hG := fm_G_rf hgb
  have hB := hBa
  obtain ⟨NC, hNC, eNC⟩ := fm_B_0 hB (i := 0) (n := 10) (by decide) rfl
  obtain ⟨NW, hNW, eNW⟩ := fm_B_0 hB (i := 1) (n := 8) (by decide) rfl
  obtain ⟨NG, hNG, eNG⟩ := fm_B_0 hB (i := 3) (n := 20) (by decide) rfl
  obtain ⟨T, hT9, eT⟩ := fm_T5 hB
  have hD : fm_D a a T := fm_D_rf hB eT (by omega)
  refine fe_meth (F := fm_PO g tp bt a b) (M := gk_m293) (by rfl) (by rfl) ?_
  refine fe_s 4 (pc' := 6) (lc' := [(0, .ref 0), (1, .int n)]) (stk' := [.long 20, .long (1 : Int64), .long (n.toInt64)]) (mem' := fm g tp bt a b) (fun _ _ _ => rfl) ?_
  obtain ⟨vf1, memf1, ⟨xf1, hxf1, hRf1⟩, hfrf1⟩ := fr_isFrom (v := n.toInt64) (l := (1 : Int64)) (m := 20) (mem := fm g tp bt a b)
  cases hRf1
  refine fe_ivS hfrf1 (by omega) (by rfl) (by rfl) (by rfl) (by rfl) (by rfl) ?_
  rcases hxf1 with ⟨rfl, -⟩ | ⟨rfl, hlf1, hmf1⟩
  · refine fe_s 1 (pc' := cond (fx_cb .ne 0 0) 18 12) (lc' := [(0, .ref 0), (1, .int n)]) (stk' := []) (mem' := fm g tp bt a b) (fun _ _ _ => rfl) ?_
    rw [show (fx_cb .ne 0 0) = false from by decide]
    dsimp only [cond]
    refine fe_s 2 (pc' := 14) (lc' := [(0, .ref 0), (1, .int n)]) (stk' := [.int 1, .ref 0]) (mem' := fm g tp bt a b) (fun _ _ _ => rfl) ?_
    refine fe_ivV (fr_refuse (x := 1)) (by omega) (by rfl) (by rfl) (by rfl) (by rfl) (by rfl) (by rfl) ?_
    exact fe_ret ⟨_, _, _, _, _, _, (fm_E_rf hBa), (fm_G_2 hG (by decide) (by decide)), (fun _ _ _ => rfl), rfl⟩ (by rfl) (by rfl) (by rfl)
  · obtain ⟨m, hm, rfl⟩ : ∃ qq, qq ≤ 20 ∧ n = nI qq := by
      rw [Int32.toInt_toInt64] at hlf1 hmf1
      rw [show (((20 : Int64)).toInt) = 20 from rfl] at hmf1
      rw [show (((1 : Int64)).toInt) = 1 from rfl] at hlf1
      exact nI_bd (n := 20) (by omega) hmf1
    have h1m : 1 ≤ m := by
      rw [Int32.toInt_toInt64, nI_i32 (by omega), show (((1 : Int64)).toInt) = 1 from rfl] at hlf1; omega
    refine fe_s 1 (pc' := cond (fx_cb .ne 1 0) 18 12) (lc' := [(0, .ref 0), (1, .int (nI m))]) (stk' := []) (mem' := fm g tp bt a b) (fun _ _ _ => rfl) ?_
    rw [show (fx_cb .ne 1 0) = true from by decide]
    dsimp only [cond]
    refine fe_s 3 (pc' := 23) (lc' := [(0, .ref 0), (1, .int (nI m))]) (stk' := [.int 5, .ref 1]) (mem' := fm g tp bt a b) (fun _ _ _ => rfl) ?_
    refine fe_ldI (by rfl) (by rfl) (fx_inN (i := 5) (by omega) (by omega)) ?_
    rw [show Int32.toNatClampNeg (5) = 5 from rfl]
    rw [show a 1 5 = nI T from hD.2.2.2.1]
    refine fe_s 3 (pc' := 29) (lc' := [(0, .ref 0), (1, .int (nI m))]) (stk' := [.int 9999, .int ((nI T) + (nI m))]) (mem' := fm g tp bt a b) (fun _ _ _ => rfl) ?_
    rw [show ((nI T) + (nI m) : Int32) = nI (T + m) from by simp only [nI_add, fm_mul]]
    refine fe_s 1 (pc' := cond (fx_cb .le (nI (T + m)) 9999) 38 32) (lc' := [(0, .ref 0), (1, .int (nI m))]) (stk' := []) (mem' := fm g tp bt a b) (fun _ _ _ => rfl) ?_
    by_cases h2 : (T + m) ≤ 9999
    · rw [show (fx_cb .le (nI (T + m)) 9999) = true from cb_leT (a := T + m) (b := 9999) (by omega) (by omega) (by omega)]
      dsimp only [cond]
      refine fe_s 4 (pc' := 42) (lc' := [(3, .int 0), (2, .int 0), (0, .ref 0), (1, .int (nI m))]) (stk' := []) (mem' := fm g tp bt a b) (fun _ _ _ => rfl) ?_
      have loop3 : ∀ (r i3 : Nat), i3 + r = m → ∀ (x2_3 : Int32), ∀ (a_3 : Nat → Nat → Int32) (T_3 : Nat), T_3 ≤ T + i3 → fm_D a a_3 T_3 → fe_R 7 gk_m293 42 [(3, .int (nI i3)), (2, .int x2_3), (0, .ref 0), (1, .int (nI m))] [] (fm g tp bt a_3 b) (fm_PO g tp bt a b) := by
        intro r
        induction r with
        | zero =>
          intro i3 hi3 x2_3 a_3 T_3 hT3 hD_3
          obtain rfl : m = i3 := by omega
          refine fe_s 2 (pc' := 44) (lc' := [(3, .int (nI m)), (2, .int x2_3), (0, .ref 0), (1, .int (nI m))]) (stk' := [.int (nI m), .int (nI m)]) (mem' := fm g tp bt a_3 b) (fun _ _ _ => rfl) ?_
          refine fe_s 1 (pc' := cond (fx_cb .ge (nI m) (nI m)) 60 47) (lc' := [(3, .int (nI m)), (2, .int x2_3), (0, .ref 0), (1, .int (nI m))]) (stk' := []) (mem' := fm g tp bt a_3 b) (fun _ _ _ => rfl) ?_
          rw [show (fx_cb .ge (nI m) (nI m)) = true from cb_geT (a := m) (b := m) (by omega) (by omega) (by omega)]
          dsimp only [cond]
          refine fe_s 2 (pc' := 62) (lc' := [(3, .int (nI m)), (2, .int x2_3), (0, .ref 0), (1, .int (nI m))]) (stk' := [.int x2_3, .ref 0]) (mem' := fm g tp bt a_3 b) (fun _ _ _ => rfl) ?_
          refine fe_ivV (fr_gives (x := x2_3)) (by omega) (by rfl) (by rfl) (by rfl) (by rfl) (by rfl) (by rfl) ?_
          exact fe_ret ⟨_, _, _, _, _, _, fm_E_D hB hD_3 (by omega), (fm_G_2 hG (by decide) (by decide)), (fun _ _ _ => rfl), rfl⟩ (by rfl) (by rfl) (by rfl)
        | succ r ih3 =>
          intro i3 hi3 x2_3 a_3 T_3 hT3 hD_3
          have hl3 : i3 < m := by omega
          refine fe_s 2 (pc' := 44) (lc' := [(3, .int (nI i3)), (2, .int x2_3), (0, .ref 0), (1, .int (nI m))]) (stk' := [.int (nI m), .int (nI i3)]) (mem' := fm g tp bt a_3 b) (fun _ _ _ => rfl) ?_
          refine fe_s 1 (pc' := cond (fx_cb .ge (nI i3) (nI m)) 60 47) (lc' := [(3, .int (nI i3)), (2, .int x2_3), (0, .ref 0), (1, .int (nI m))]) (stk' := []) (mem' := fm g tp bt a_3 b) (fun _ _ _ => rfl) ?_
          rw [show (fx_cb .ge (nI i3) (nI m)) = false from cb_geF (a := i3) (b := m) (by omega) (by omega) (by omega)]
          dsimp only [cond]
          refine fe_s 2 (pc' := 49) (lc' := [(3, .int (nI i3)), (2, .int x2_3), (0, .ref 0), (1, .int (nI m))]) (stk' := [.ref 0, .int x2_3]) (mem' := fm g tp bt a_3 b) (fun _ _ _ => rfl) ?_
          obtain ⟨vd4, memd4, ⟨xd4, ad4, hDd4, hRd4⟩, hfrd4⟩ := fr_goes (T := T_3) (g := g) (tp := tp) (bt := bt) (a := a_3) (b := b) hB hD_3 (by omega)
          cases hRd4
          refine fe_ivV hfrd4 (by omega) (by rfl) (by rfl) (by rfl) (by rfl) (by rfl) (by rfl) ?_
          refine fe_s 4 (pc' := 42) (lc' := [(3, .int ((nI i3) + 1)), (2, .int (x2_3 ||| xd4)), (0, .ref 0), (1, .int (nI m))]) (stk' := []) (mem' := fm g tp bt ad4 b) (fun _ _ _ => rfl) ?_
          rw [show ((nI i3) + 1 : Int32) = nI (i3 + 1) from by simp only [show (1 : Int32) = nI 1 from rfl, nI_add, fm_mul]]
          exact ih3 (i3 + 1) (by omega) _ ad4 (T_3 + 1) (by omega) hDd4
      exact loop3 (m) 0 (by omega) _ a T (by omega) hD
    · rw [show (fx_cb .le (nI (T + m)) 9999) = false from cb_leF (a := T + m) (b := 9999) (by omega) (by omega) (by omega)]
      dsimp only [cond]
      refine fe_s 2 (pc' := 34) (lc' := [(0, .ref 0), (1, .int (nI m))]) (stk' := [.int 4, .ref 0]) (mem' := fm g tp bt a b) (fun _ _ _ => rfl) ?_
      refine fe_ivV (fr_refuse (x := 4)) (by omega) (by rfl) (by rfl) (by rfl) (by rfl) (by rfl) (by rfl) ?_
      exact fe_ret ⟨_, _, _, _, _, _, (fm_E_rf hBa), (fm_G_2 hG (by decide) (by decide)), (fun _ _ _ => rfl), rfl⟩ (by rfl) (by rfl) (by rfl)
theorem fr_ready {c m : Int32} (hBa : fm_B a) (hgb : fm_gb g) : ∃ (v : Option Value) (mem' : fx_M), (fm_PO g tp bt a b) (v, mem') ∧ fr_T 9 328 [.ref 0, .int c, .int m] (fm g tp bt a b) v mem' := by
  have hG := fm_G_rf hgb
  obtain ⟨NCa, hNCa, eNCa⟩ := fm_B_0 hBa (i := 0) (n := 10) (by decide) rfl
  obtain ⟨NWa, hNWa, eNWa⟩ := fm_B_0 hBa (i := 1) (n := 8) (by decide) rfl
  refine fe_meth (F := fm_PO g tp bt a b) (M := gk_m328) (by rfl) (by rfl) ?_
  refine fe_s 2 (pc' := 2) (lc' := [(0, .ref 0), (1, .int c), (2, .int m)]) (stk' := [.int c, .ref 0]) (mem' := fm g tp bt a b) (fun _ _ _ => rfl) ?_
  obtain ⟨vj1, memj1, ⟨xj1, hxj1, hRj1⟩, hfrj1⟩ := fr_isIceX (c := c) (g := g) (tp := tp) (bt := bt) (b := b) eNCa hNCa
  cases hRj1
  refine fe_ivV hfrj1 (by omega) (by rfl) (by rfl) (by rfl) (by rfl) (by rfl) (by rfl) ?_
  rcases hxj1 with rfl | ⟨rfl, Cj1, hCj1, rfl⟩
  · refine fe_s 1 (pc' := cond (fx_cb .eq 0 0) 20 8) (lc' := [(0, .ref 0), (1, .int c), (2, .int m)]) (stk' := []) (mem' := fm g tp bt a b) (fun _ _ _ => rfl) ?_
    rw [show (fx_cb .eq 0 0) = true from by decide]
    dsimp only [cond]
    refine fe_s 2 (pc' := 22) (lc' := [(0, .ref 0), (1, .int c), (2, .int m)]) (stk' := [.int 1, .ref 0]) (mem' := fm g tp bt a b) (fun _ _ _ => rfl) ?_
    refine fe_ivV (fr_refuse (x := 1)) (by omega) (by rfl) (by rfl) (by rfl) (by rfl) (by rfl) (by rfl) ?_
    exact fe_ret ⟨_, _, _, _, _, _, (fm_E_rf hBa), (fm_G_2 hG (by decide) (by decide)), (fun _ _ _ => rfl), rfl⟩ (by rfl) (by rfl) (by rfl)
  · refine fe_s 1 (pc' := cond (fx_cb .eq 1 0) 20 8) (lc' := [(0, .ref 0), (1, .int (nI Cj1)), (2, .int m)]) (stk' := []) (mem' := fm g tp bt a b) (fun _ _ _ => rfl) ?_
    rw [show (fx_cb .eq 1 0) = false from by decide]
    dsimp only [cond]
    refine fe_s 4 (pc' := 14) (lc' := [(0, .ref 0), (1, .int (nI Cj1)), (2, .int m)]) (stk' := [.long 999, .long (0 : Int64), .long (m.toInt64)]) (mem' := fm g tp bt a b) (fun _ _ _ => rfl) ?_
    obtain ⟨vf2, memf2, ⟨xf2, hxf2, hRf2⟩, hfrf2⟩ := fr_isFrom (v := m.toInt64) (l := (0 : Int64)) (m := 999) (mem := fm g tp bt a b)
    cases hRf2
    refine fe_ivS hfrf2 (by omega) (by rfl) (by rfl) (by rfl) (by rfl) (by rfl) ?_
    rcases hxf2 with ⟨rfl, -⟩ | ⟨rfl, hlf2, hmf2⟩
    · refine fe_s 1 (pc' := cond (fx_cb .ne 0 0) 26 20) (lc' := [(0, .ref 0), (1, .int (nI Cj1)), (2, .int m)]) (stk' := []) (mem' := fm g tp bt a b) (fun _ _ _ => rfl) ?_
      rw [show (fx_cb .ne 0 0) = false from by decide]
      dsimp only [cond]
      refine fe_s 2 (pc' := 22) (lc' := [(0, .ref 0), (1, .int (nI Cj1)), (2, .int m)]) (stk' := [.int 1, .ref 0]) (mem' := fm g tp bt a b) (fun _ _ _ => rfl) ?_
      refine fe_ivV (fr_refuse (x := 1)) (by omega) (by rfl) (by rfl) (by rfl) (by rfl) (by rfl) (by rfl) ?_
      exact fe_ret ⟨_, _, _, _, _, _, (fm_E_rf hBa), (fm_G_2 hG (by decide) (by decide)), (fun _ _ _ => rfl), rfl⟩ (by rfl) (by rfl) (by rfl)
    · refine fe_s 1 (pc' := cond (fx_cb .ne 1 0) 26 20) (lc' := [(0, .ref 0), (1, .int (nI Cj1)), (2, .int m)]) (stk' := []) (mem' := fm g tp bt a b) (fun _ _ _ => rfl) ?_
      rw [show (fx_cb .ne 1 0) = true from by decide]
      dsimp only [cond]
      refine fe_s 2 (pc' := 30) (lc' := [(0, .ref 0), (1, .int (nI Cj1)), (2, .int m)]) (stk' := [.int 5052, .ref 0]) (mem' := fm g tp bt a b) (fun _ _ _ => rfl) ?_
      obtain ⟨vK, memK, ⟨a0, hK, hRK⟩, hfrK⟩ := fr_keeps5052 (g := g) (tp := tp) (bt := bt) (a := a) (b := b)
      cases hRK
      have hB : fm_B a0 := fm_kept hBa (by decide) hK
      obtain ⟨NC, hNC, eNC⟩ := fm_B_0 hB (i := 0) (n := 10) (by decide) rfl
      obtain ⟨NW, hNW, eNW⟩ := fm_B_0 hB (i := 1) (n := 8) (by decide) rfl
      obtain ⟨NG, hNG, eNG⟩ := fm_B_0 hB (i := 3) (n := 20) (by decide) rfl
      obtain ⟨T, hT9, eT⟩ := fm_T5 hB
      have hD : fm_D a0 a0 T := fm_D_rf hB eT (by omega)
      refine fe_ivV hfrK (by omega) (by rfl) (by rfl) (by rfl) (by rfl) (by rfl) (by rfl) ?_
      refine fe_s 1 (pc' := 34) (lc' := [(0, .ref 0), (1, .int (nI Cj1)), (2, .int m)]) (stk' := [.ref 0]) (mem' := fm g tp bt a0 b) (fun _ _ _ => rfl) ?_
      obtain ⟨vd3, memd3, ⟨ad3, hDd3, hRd3⟩, hfrd3⟩ := fr_stills (g := g) (tp := tp) (bt := bt) (a := a0) (b := b) hB hD
      cases hRd3
      refine fe_ivV hfrd3 (by omega) (by rfl) (by rfl) (by rfl) (by rfl) (by rfl) (by rfl) ?_
      refine fe_s 2 (pc' := 39) (lc' := [(3, .int 0), (0, .ref 0), (1, .int (nI Cj1)), (2, .int m)]) (stk' := []) (mem' := fm g tp bt ad3 b) (fun _ _ _ => rfl) ?_
      have loop4 : ∀ (r i4 : Nat), i4 + r = NW → ∀ a_4 : Nat → Nat → Int32, fm_D a0 a_4 T → fe_R 8 gk_m328 39 [(3, .int (nI i4)), (0, .ref 0), (1, .int (nI Cj1)), (2, .int m)] [] (fm g tp bt a_4 b) (fm_PO g tp bt a b) := by
        intro r
        induction r with
        | zero =>
          intro i4 hi4 a_4 hD_4
          obtain rfl : NW = i4 := by omega
          refine fe_s 4 (pc' := 45) (lc' := [(3, .int (nI NW)), (0, .ref 0), (1, .int (nI Cj1)), (2, .int m)]) (stk' := [.int 1, .ref 1, .int (nI NW)]) (mem' := fm g tp bt a_4 b) (fun _ _ _ => rfl) ?_
          refine fe_ldI (by rfl) (by rfl) (fx_inN (i := 1) (by omega) (by omega)) ?_
          rw [show Int32.toNatClampNeg (1) = 1 from rfl]
          rw [show a_4 1 1 = nI NW from (fm_D_h hD_4 (by decide) rfl).trans eNW]
          refine fe_s 1 (pc' := cond (fx_cb .ge (nI NW) (nI NW)) 67 49) (lc' := [(3, .int (nI NW)), (0, .ref 0), (1, .int (nI Cj1)), (2, .int m)]) (stk' := []) (mem' := fm g tp bt a_4 b) (fun _ _ _ => rfl) ?_
          rw [show (fx_cb .ge (nI NW) (nI NW)) = true from cb_geT (a := NW) (b := NW) (by omega) (by omega) (by omega)]
          dsimp only [cond]
          refine fe_s 2 (pc' := 69) (lc' := [(3, .int (nI NW)), (0, .ref 0), (1, .int (nI Cj1)), (2, .int m)]) (stk' := [.int (nI Cj1), .ref 0]) (mem' := fm g tp bt a_4 b) (fun _ _ _ => rfl) ?_
          obtain ⟨v5, z6, hv5⟩ := fq_isBroken (C := Cj1) (g := g) (tp := tp) (bt := bt) (a := a_4) (b := b) (by omega)
          refine fe_ivV hv5 (by omega) (by rfl) (by rfl) (by rfl) (by rfl) (by rfl) (by rfl) ?_
          rcases z6 with rfl | rfl
          · refine fe_s 1 (pc' := cond (fx_cb .eq 0 0) 80 75) (lc' := [(3, .int (nI NW)), (0, .ref 0), (1, .int (nI Cj1)), (2, .int m)]) (stk' := []) (mem' := fm g tp bt a_4 b) (fun _ _ _ => rfl) ?_
            rw [show (fx_cb .eq 0 0) = true from by decide]
            dsimp only [cond]
            refine fe_s 2 (pc' := 82) (lc' := [(3, .int 0), (0, .ref 0), (1, .int (nI Cj1)), (2, .int m)]) (stk' := []) (mem' := fm g tp bt a_4 b) (fun _ _ _ => rfl) ?_
            have loop7 : ∀ (r i7 : Nat), i7 + r = 21 → ∀ (a_7 : Nat → Nat → Int32) (T_7 : Nat), T_7 ≤ 9999 + i7 → fm_D a0 a_7 T_7 → fe_R 8 gk_m328 82 [(3, .int (nI i7)), (0, .ref 0), (1, .int (nI Cj1)), (2, .int m)] [] (fm g tp bt a_7 b) (fm_PO g tp bt a b) := by
              intro r
              induction r with
              | zero =>
                intro i7 hi7 a_7 T_7 hT7 hD_7
                obtain rfl : i7 = 21 := by omega
                refine fe_s 2 (pc' := 85) (lc' := [(3, .int (nI 21)), (0, .ref 0), (1, .int (nI Cj1)), (2, .int m)]) (stk' := [.int 20, .int (nI 21)]) (mem' := fm g tp bt a_7 b) (fun _ _ _ => rfl) ?_
                refine fe_s 1 (pc' := cond (fx_cb .gt (nI 21) 20) 108 88) (lc' := [(3, .int (nI 21)), (0, .ref 0), (1, .int (nI Cj1)), (2, .int m)]) (stk' := []) (mem' := fm g tp bt a_7 b) (fun _ _ _ => rfl) ?_
                rw [show (fx_cb .gt (nI 21) 20) = true from cb_gtT (a := 21) (b := 20) (by omega) (by omega) (by omega)]
                dsimp only [cond]
                refine fe_s 2 (pc' := 112) (lc' := [(3, .int (nI 21)), (0, .ref 0), (1, .int (nI Cj1)), (2, .int m)]) (stk' := [.int 5052, .ref 0]) (mem' := fm g tp bt a_7 b) (fun _ _ _ => rfl) ?_
                obtain ⟨vz8, memz8, ⟨az8, hSz8, hRz8⟩, hfrz8⟩ := fr_restores5052 (g := g) (tp := tp) (bt := bt) (a := a_7) (b := b)
                cases hRz8
                have hZz8 := fm_restd hB (by decide) hK hD_7 hSz8
                have hEz8 : fm_E a az8 := ⟨hZz8.1, fun t ht => hZz8.2.2 t (fm_okE_t ht), fun i hi => hZz8.2.1 i (by have := fm_st_n hi; omega)⟩
                refine fe_ivV hfrz8 (by omega) (by rfl) (by rfl) (by rfl) (by rfl) (by rfl) (by rfl) ?_
                refine fe_s 2 (pc' := 118) (lc' := [(3, .int (nI 21)), (0, .ref 0), (1, .int (nI Cj1)), (2, .int m)]) (stk' := [.int 20, .int (nI 21)]) (mem' := fm g tp bt az8 b) (fun _ _ _ => rfl) ?_
                refine fe_s 1 (pc' := cond (fx_cb .le (nI 21) 20) 130 121) (lc' := [(3, .int (nI 21)), (0, .ref 0), (1, .int (nI Cj1)), (2, .int m)]) (stk' := []) (mem' := fm g tp bt az8 b) (fun _ _ _ => rfl) ?_
                rw [show (fx_cb .le (nI 21) 20) = false from cb_leF (a := 21) (b := 20) (by omega) (by omega) (by omega)]
                dsimp only [cond]
                refine fe_s 2 (pc' := 124) (lc' := [(3, .int (nI 21)), (0, .ref 0), (1, .int (nI Cj1)), (2, .int m)]) (stk' := [.int 6, .ref 0]) (mem' := fm g tp bt az8 b) (fun _ _ _ => rfl) ?_
                refine fe_ivV (fr_refuse (x := 6)) (by omega) (by rfl) (by rfl) (by rfl) (by rfl) (by rfl) (by rfl) ?_
                refine fe_s 1 (pc' := 135) (lc' := [(3, .int (nI 21)), (0, .ref 0), (1, .int (nI Cj1)), (2, .int m)]) (stk' := [.int (-1)]) (mem' := fm (upd g 2 6) tp bt az8 b) (fun _ _ _ => rfl) ?_
                exact fe_ret ⟨_, _, _, _, _, _, hEz8, (fm_G_2 hG (by decide) (by decide)), (fun _ _ _ => rfl), rfl⟩ (by rfl) (by rfl) (by rfl)
              | succ r ih7 =>
                intro i7 hi7 a_7 T_7 hT7 hD_7
                have hl7 : i7 < 21 := by omega
                refine fe_s 2 (pc' := 85) (lc' := [(3, .int (nI i7)), (0, .ref 0), (1, .int (nI Cj1)), (2, .int m)]) (stk' := [.int 20, .int (nI i7)]) (mem' := fm g tp bt a_7 b) (fun _ _ _ => rfl) ?_
                refine fe_s 1 (pc' := cond (fx_cb .gt (nI i7) 20) 108 88) (lc' := [(3, .int (nI i7)), (0, .ref 0), (1, .int (nI Cj1)), (2, .int m)]) (stk' := []) (mem' := fm g tp bt a_7 b) (fun _ _ _ => rfl) ?_
                rw [show (fx_cb .gt (nI i7) 20) = false from cb_gtF (a := i7) (b := 20) (by omega) (by omega) (by omega)]
                dsimp only [cond]
                refine fe_s 2 (pc' := 90) (lc' := [(3, .int (nI i7)), (0, .ref 0), (1, .int (nI Cj1)), (2, .int m)]) (stk' := [.int (nI Cj1), .ref 0]) (mem' := fm g tp bt a_7 b) (fun _ _ _ => rfl) ?_
                obtain ⟨v9, hv9⟩ := fq_strengthOf (C := Cj1) (g := g) (tp := tp) (bt := bt) (a := a_7) (b := b) (fm_D_t hB hD_7) (by omega)
                refine fe_ivV hv9 (by omega) (by rfl) (by rfl) (by rfl) (by rfl) (by rfl) (by rfl) ?_
                refine fe_s 1 (pc' := 94) (lc' := [(3, .int (nI i7)), (0, .ref 0), (1, .int (nI Cj1)), (2, .int m)]) (stk' := [.int m, .int v9]) (mem' := fm g tp bt a_7 b) (fun _ _ _ => rfl) ?_
                refine fe_s 1 (pc' := cond (fx_cb .ge v9 m) 108 97) (lc' := [(3, .int (nI i7)), (0, .ref 0), (1, .int (nI Cj1)), (2, .int m)]) (stk' := []) (mem' := fm g tp bt a_7 b) (fun _ _ _ => rfl) ?_
                cases h10 : fx_cb .ge v9 m
                · refine fe_s 1 (pc' := 98) (lc' := [(3, .int (nI i7)), (0, .ref 0), (1, .int (nI Cj1)), (2, .int m)]) (stk' := [.ref 0]) (mem' := fm g tp bt a_7 b) (fun _ _ _ => rfl) ?_
                  obtain ⟨vd11, memd11, ⟨xd11, ad11, hDd11, hRd11⟩, hfrd11⟩ := fr_goes (T := T_7) (g := g) (tp := tp) (bt := bt) (a := a_7) (b := b) hB hD_7 (by omega)
                  cases hRd11
                  refine fe_ivV hfrd11 (by omega) (by rfl) (by rfl) (by rfl) (by rfl) (by rfl) (by rfl) ?_
                  refine fe_s 3 (pc' := 82) (lc' := [(3, .int ((nI i7) + 1)), (0, .ref 0), (1, .int (nI Cj1)), (2, .int m)]) (stk' := []) (mem' := fm g tp bt ad11 b) (fun _ _ _ => rfl) ?_
                  rw [show ((nI i7) + 1 : Int32) = nI (i7 + 1) from by simp only [show (1 : Int32) = nI 1 from rfl, nI_add, fm_mul]]
                  exact ih7 (i7 + 1) (by omega) ad11 (T_7 + 1) (by omega) hDd11
                · refine fe_s 2 (pc' := 112) (lc' := [(3, .int (nI i7)), (0, .ref 0), (1, .int (nI Cj1)), (2, .int m)]) (stk' := [.int 5052, .ref 0]) (mem' := fm g tp bt a_7 b) (fun _ _ _ => rfl) ?_
                  obtain ⟨vz12, memz12, ⟨az12, hSz12, hRz12⟩, hfrz12⟩ := fr_restores5052 (g := g) (tp := tp) (bt := bt) (a := a_7) (b := b)
                  cases hRz12
                  have hZz12 := fm_restd hB (by decide) hK hD_7 hSz12
                  have hEz12 : fm_E a az12 := ⟨hZz12.1, fun t ht => hZz12.2.2 t (fm_okE_t ht), fun i hi => hZz12.2.1 i (by have := fm_st_n hi; omega)⟩
                  refine fe_ivV hfrz12 (by omega) (by rfl) (by rfl) (by rfl) (by rfl) (by rfl) (by rfl) ?_
                  refine fe_s 2 (pc' := 118) (lc' := [(3, .int (nI i7)), (0, .ref 0), (1, .int (nI Cj1)), (2, .int m)]) (stk' := [.int 20, .int (nI i7)]) (mem' := fm g tp bt az12 b) (fun _ _ _ => rfl) ?_
                  refine fe_s 1 (pc' := cond (fx_cb .le (nI i7) 20) 130 121) (lc' := [(3, .int (nI i7)), (0, .ref 0), (1, .int (nI Cj1)), (2, .int m)]) (stk' := []) (mem' := fm g tp bt az12 b) (fun _ _ _ => rfl) ?_
                  rw [show (fx_cb .le (nI i7) 20) = true from cb_leT (a := i7) (b := 20) (by omega) (by omega) (by omega)]
                  dsimp only [cond]
                  refine fe_s 2 (pc' := 132) (lc' := [(3, .int (nI i7)), (0, .ref 0), (1, .int (nI Cj1)), (2, .int m)]) (stk' := [.int (nI i7), .ref 0]) (mem' := fm g tp bt az12 b) (fun _ _ _ => rfl) ?_
                  refine fe_ivV (fr_gives (x := nI i7)) (by omega) (by rfl) (by rfl) (by rfl) (by rfl) (by rfl) (by rfl) ?_
                  exact fe_ret ⟨_, _, _, _, _, _, hEz12, (fm_G_2 hG (by decide) (by decide)), (fun _ _ _ => rfl), rfl⟩ (by rfl) (by rfl) (by rfl)
            exact loop7 21 0 (by omega) a_4 T (by omega) hD_4
          · refine fe_s 1 (pc' := cond (fx_cb .eq 1 0) 80 75) (lc' := [(3, .int (nI NW)), (0, .ref 0), (1, .int (nI Cj1)), (2, .int m)]) (stk' := []) (mem' := fm g tp bt a_4 b) (fun _ _ _ => rfl) ?_
            rw [show (fx_cb .eq 1 0) = false from by decide]
            dsimp only [cond]
            refine fe_s 3 (pc' := 82) (lc' := [(3, .int 21), (0, .ref 0), (1, .int (nI Cj1)), (2, .int m)]) (stk' := []) (mem' := fm g tp bt a_4 b) (fun _ _ _ => rfl) ?_
            have loop13 : ∀ (r i13 : Nat), i13 + r = 21 → ∀ (a_13 : Nat → Nat → Int32) (T_13 : Nat), T_13 ≤ 9999 + i13 → fm_D a0 a_13 T_13 → fe_R 8 gk_m328 82 [(3, .int (nI i13)), (0, .ref 0), (1, .int (nI Cj1)), (2, .int m)] [] (fm g tp bt a_13 b) (fm_PO g tp bt a b) := by
              intro r
              induction r with
              | zero =>
                intro i13 hi13 a_13 T_13 hT13 hD_13
                obtain rfl : i13 = 21 := by omega
                refine fe_s 2 (pc' := 85) (lc' := [(3, .int (nI 21)), (0, .ref 0), (1, .int (nI Cj1)), (2, .int m)]) (stk' := [.int 20, .int (nI 21)]) (mem' := fm g tp bt a_13 b) (fun _ _ _ => rfl) ?_
                refine fe_s 1 (pc' := cond (fx_cb .gt (nI 21) 20) 108 88) (lc' := [(3, .int (nI 21)), (0, .ref 0), (1, .int (nI Cj1)), (2, .int m)]) (stk' := []) (mem' := fm g tp bt a_13 b) (fun _ _ _ => rfl) ?_
                rw [show (fx_cb .gt (nI 21) 20) = true from cb_gtT (a := 21) (b := 20) (by omega) (by omega) (by omega)]
                dsimp only [cond]
                refine fe_s 2 (pc' := 112) (lc' := [(3, .int (nI 21)), (0, .ref 0), (1, .int (nI Cj1)), (2, .int m)]) (stk' := [.int 5052, .ref 0]) (mem' := fm g tp bt a_13 b) (fun _ _ _ => rfl) ?_
                obtain ⟨vz14, memz14, ⟨az14, hSz14, hRz14⟩, hfrz14⟩ := fr_restores5052 (g := g) (tp := tp) (bt := bt) (a := a_13) (b := b)
                cases hRz14
                have hZz14 := fm_restd hB (by decide) hK hD_13 hSz14
                have hEz14 : fm_E a az14 := ⟨hZz14.1, fun t ht => hZz14.2.2 t (fm_okE_t ht), fun i hi => hZz14.2.1 i (by have := fm_st_n hi; omega)⟩
                refine fe_ivV hfrz14 (by omega) (by rfl) (by rfl) (by rfl) (by rfl) (by rfl) (by rfl) ?_
                refine fe_s 2 (pc' := 118) (lc' := [(3, .int (nI 21)), (0, .ref 0), (1, .int (nI Cj1)), (2, .int m)]) (stk' := [.int 20, .int (nI 21)]) (mem' := fm g tp bt az14 b) (fun _ _ _ => rfl) ?_
                refine fe_s 1 (pc' := cond (fx_cb .le (nI 21) 20) 130 121) (lc' := [(3, .int (nI 21)), (0, .ref 0), (1, .int (nI Cj1)), (2, .int m)]) (stk' := []) (mem' := fm g tp bt az14 b) (fun _ _ _ => rfl) ?_
                rw [show (fx_cb .le (nI 21) 20) = false from cb_leF (a := 21) (b := 20) (by omega) (by omega) (by omega)]
                dsimp only [cond]
                refine fe_s 2 (pc' := 124) (lc' := [(3, .int (nI 21)), (0, .ref 0), (1, .int (nI Cj1)), (2, .int m)]) (stk' := [.int 6, .ref 0]) (mem' := fm g tp bt az14 b) (fun _ _ _ => rfl) ?_
                refine fe_ivV (fr_refuse (x := 6)) (by omega) (by rfl) (by rfl) (by rfl) (by rfl) (by rfl) (by rfl) ?_
                refine fe_s 1 (pc' := 135) (lc' := [(3, .int (nI 21)), (0, .ref 0), (1, .int (nI Cj1)), (2, .int m)]) (stk' := [.int (-1)]) (mem' := fm (upd g 2 6) tp bt az14 b) (fun _ _ _ => rfl) ?_
                exact fe_ret ⟨_, _, _, _, _, _, hEz14, (fm_G_2 hG (by decide) (by decide)), (fun _ _ _ => rfl), rfl⟩ (by rfl) (by rfl) (by rfl)
              | succ r ih13 =>
                intro i13 hi13 a_13 T_13 hT13 hD_13
                have hl13 : i13 < 21 := by omega
                refine fe_s 2 (pc' := 85) (lc' := [(3, .int (nI i13)), (0, .ref 0), (1, .int (nI Cj1)), (2, .int m)]) (stk' := [.int 20, .int (nI i13)]) (mem' := fm g tp bt a_13 b) (fun _ _ _ => rfl) ?_
                refine fe_s 1 (pc' := cond (fx_cb .gt (nI i13) 20) 108 88) (lc' := [(3, .int (nI i13)), (0, .ref 0), (1, .int (nI Cj1)), (2, .int m)]) (stk' := []) (mem' := fm g tp bt a_13 b) (fun _ _ _ => rfl) ?_
                rw [show (fx_cb .gt (nI i13) 20) = false from cb_gtF (a := i13) (b := 20) (by omega) (by omega) (by omega)]
                dsimp only [cond]
                refine fe_s 2 (pc' := 90) (lc' := [(3, .int (nI i13)), (0, .ref 0), (1, .int (nI Cj1)), (2, .int m)]) (stk' := [.int (nI Cj1), .ref 0]) (mem' := fm g tp bt a_13 b) (fun _ _ _ => rfl) ?_
                obtain ⟨v15, hv15⟩ := fq_strengthOf (C := Cj1) (g := g) (tp := tp) (bt := bt) (a := a_13) (b := b) (fm_D_t hB hD_13) (by omega)
                refine fe_ivV hv15 (by omega) (by rfl) (by rfl) (by rfl) (by rfl) (by rfl) (by rfl) ?_
                refine fe_s 1 (pc' := 94) (lc' := [(3, .int (nI i13)), (0, .ref 0), (1, .int (nI Cj1)), (2, .int m)]) (stk' := [.int m, .int v15]) (mem' := fm g tp bt a_13 b) (fun _ _ _ => rfl) ?_
                refine fe_s 1 (pc' := cond (fx_cb .ge v15 m) 108 97) (lc' := [(3, .int (nI i13)), (0, .ref 0), (1, .int (nI Cj1)), (2, .int m)]) (stk' := []) (mem' := fm g tp bt a_13 b) (fun _ _ _ => rfl) ?_
                cases h16 : fx_cb .ge v15 m
                · refine fe_s 1 (pc' := 98) (lc' := [(3, .int (nI i13)), (0, .ref 0), (1, .int (nI Cj1)), (2, .int m)]) (stk' := [.ref 0]) (mem' := fm g tp bt a_13 b) (fun _ _ _ => rfl) ?_
                  obtain ⟨vd17, memd17, ⟨xd17, ad17, hDd17, hRd17⟩, hfrd17⟩ := fr_goes (T := T_13) (g := g) (tp := tp) (bt := bt) (a := a_13) (b := b) hB hD_13 (by omega)
                  cases hRd17
                  refine fe_ivV hfrd17 (by omega) (by rfl) (by rfl) (by rfl) (by rfl) (by rfl) (by rfl) ?_
                  refine fe_s 3 (pc' := 82) (lc' := [(3, .int ((nI i13) + 1)), (0, .ref 0), (1, .int (nI Cj1)), (2, .int m)]) (stk' := []) (mem' := fm g tp bt ad17 b) (fun _ _ _ => rfl) ?_
                  rw [show ((nI i13) + 1 : Int32) = nI (i13 + 1) from by simp only [show (1 : Int32) = nI 1 from rfl, nI_add, fm_mul]]
                  exact ih13 (i13 + 1) (by omega) ad17 (T_13 + 1) (by omega) hDd17
                · refine fe_s 2 (pc' := 112) (lc' := [(3, .int (nI i13)), (0, .ref 0), (1, .int (nI Cj1)), (2, .int m)]) (stk' := [.int 5052, .ref 0]) (mem' := fm g tp bt a_13 b) (fun _ _ _ => rfl) ?_
                  obtain ⟨vz18, memz18, ⟨az18, hSz18, hRz18⟩, hfrz18⟩ := fr_restores5052 (g := g) (tp := tp) (bt := bt) (a := a_13) (b := b)
                  cases hRz18
                  have hZz18 := fm_restd hB (by decide) hK hD_13 hSz18
                  have hEz18 : fm_E a az18 := ⟨hZz18.1, fun t ht => hZz18.2.2 t (fm_okE_t ht), fun i hi => hZz18.2.1 i (by have := fm_st_n hi; omega)⟩
                  refine fe_ivV hfrz18 (by omega) (by rfl) (by rfl) (by rfl) (by rfl) (by rfl) (by rfl) ?_
                  refine fe_s 2 (pc' := 118) (lc' := [(3, .int (nI i13)), (0, .ref 0), (1, .int (nI Cj1)), (2, .int m)]) (stk' := [.int 20, .int (nI i13)]) (mem' := fm g tp bt az18 b) (fun _ _ _ => rfl) ?_
                  refine fe_s 1 (pc' := cond (fx_cb .le (nI i13) 20) 130 121) (lc' := [(3, .int (nI i13)), (0, .ref 0), (1, .int (nI Cj1)), (2, .int m)]) (stk' := []) (mem' := fm g tp bt az18 b) (fun _ _ _ => rfl) ?_
                  rw [show (fx_cb .le (nI i13) 20) = true from cb_leT (a := i13) (b := 20) (by omega) (by omega) (by omega)]
                  dsimp only [cond]
                  refine fe_s 2 (pc' := 132) (lc' := [(3, .int (nI i13)), (0, .ref 0), (1, .int (nI Cj1)), (2, .int m)]) (stk' := [.int (nI i13), .ref 0]) (mem' := fm g tp bt az18 b) (fun _ _ _ => rfl) ?_
                  refine fe_ivV (fr_gives (x := nI i13)) (by omega) (by rfl) (by rfl) (by rfl) (by rfl) (by rfl) (by rfl) ?_
                  exact fe_ret ⟨_, _, _, _, _, _, hEz18, (fm_G_2 hG (by decide) (by decide)), (fun _ _ _ => rfl), rfl⟩ (by rfl) (by rfl) (by rfl)
            exact loop13 0 21 (by omega) a_4 T (by omega) hD_4
        | succ r ih4 =>
          intro i4 hi4 a_4 hD_4
          have hl4 : i4 < NW := by omega
          refine fe_s 4 (pc' := 45) (lc' := [(3, .int (nI i4)), (0, .ref 0), (1, .int (nI Cj1)), (2, .int m)]) (stk' := [.int 1, .ref 1, .int (nI i4)]) (mem' := fm g tp bt a_4 b) (fun _ _ _ => rfl) ?_
          refine fe_ldI (by rfl) (by rfl) (fx_inN (i := 1) (by omega) (by omega)) ?_
          rw [show Int32.toNatClampNeg (1) = 1 from rfl]
          rw [show a_4 1 1 = nI NW from (fm_D_h hD_4 (by decide) rfl).trans eNW]
          refine fe_s 1 (pc' := cond (fx_cb .ge (nI i4) (nI NW)) 67 49) (lc' := [(3, .int (nI i4)), (0, .ref 0), (1, .int (nI Cj1)), (2, .int m)]) (stk' := []) (mem' := fm g tp bt a_4 b) (fun _ _ _ => rfl) ?_
          rw [show (fx_cb .ge (nI i4) (nI NW)) = false from cb_geF (a := i4) (b := NW) (by omega) (by omega) (by omega)]
          dsimp only [cond]
          refine fe_s 3 (pc' := 54) (lc' := [(3, .int (nI i4)), (0, .ref 0), (1, .int (nI Cj1)), (2, .int m)]) (stk' := [.int (nI i4), .ref 1]) (mem' := fm g tp bt a_4 b) (fun _ _ _ => rfl) ?_
          refine fe_ivS fr_walkerRow (by omega) (by rfl) (by rfl) (by rfl) (by rfl) (by rfl) ?_
          rw [show (278 + 5 * (nI i4) : Int32) = nI (278 + (5 * i4)) from by simp only [show (278 : Int32) = nI 278 from rfl, show (5 : Int32) = nI 5 from rfl, nI_add, fm_mul]]
          refine fe_s 3 (pc' := 60) (lc' := [(3, .int (nI i4)), (0, .ref 0), (1, .int (nI Cj1)), (2, .int m)]) (stk' := [.int 1, .int ((nI (278 + (5 * i4))) + 2), .ref 1]) (mem' := fm g tp bt a_4 b) (fun _ _ _ => rfl) ?_
          rw [show ((nI (278 + (5 * i4))) + 2 : Int32) = nI ((278 + (5 * i4)) + 2) from by simp only [show (2 : Int32) = nI 2 from rfl, nI_add, fm_mul]]
          refine fe_stI (mem' := fm g tp bt (fm_u a_4 1 (nI ((278 + (5 * i4)) + 2) : Int32).toNatClampNeg 1) b) (by rfl) (by rfl) (fx_inN (i := (278 + (5 * i4)) + 2) (by omega) (by omega)) (by rfl) ?_
          rw [show Int32.toNatClampNeg (nI ((278 + (5 * i4)) + 2)) = (278 + (5 * i4)) + 2 from nI_clamp (by omega)]
          obtain ⟨at19, hat19⟩ : ∃ z, z = fm_u a_4 1 ((278 + (5 * i4)) + 2) 1 := ⟨_, rfl⟩
          rw [← hat19]
          have hDt19 : fm_D a0 at19 T := by rw [hat19, show (278 + (5 * i4)) + 2 = 280 + 5 * i4 by omega]; exact fm_Dw2 (X := 1) hD_4 (by omega) (by omega)
          refine fe_s 2 (pc' := 39) (lc' := [(3, .int ((nI i4) + 1)), (0, .ref 0), (1, .int (nI Cj1)), (2, .int m)]) (stk' := []) (mem' := fm g tp bt at19 b) (fun _ _ _ => rfl) ?_
          rw [show ((nI i4) + 1 : Int32) = nI (i4 + 1) from by simp only [show (1 : Int32) = nI 1 from rfl, nI_add, fm_mul]]
          exact ih4 (i4 + 1) (by omega) at19 hDt19
      exact loop4 (NW) 0 (by omega) ad3 hDd3
theorem fr_holds (hBa : fm_B a) (hgb : fm_gb g) : ∃ (v : Option Value) (mem' : fx_M), (fm_PO g tp bt a b) (v, mem') ∧ fr_T 9 336 [.ref 0] (fm g tp bt a b) v mem' := by
  have hG := fm_G_rf hgb
  refine fe_meth (F := fm_PO g tp bt a b) (M := gk_m336) (by rfl) (by rfl) ?_
  refine fe_s 2 (pc' := 4) (lc' := [(0, .ref 0)]) (stk' := [.int 5052, .ref 0]) (mem' := fm g tp bt a b) (fun _ _ _ => rfl) ?_
  obtain ⟨vK, memK, ⟨a0, hK, hRK⟩, hfrK⟩ := fr_keeps5052 (g := g) (tp := tp) (bt := bt) (a := a) (b := b)
  cases hRK
  have hB : fm_B a0 := fm_kept hBa (by decide) hK
  obtain ⟨NC, hNC, eNC⟩ := fm_B_0 hB (i := 0) (n := 10) (by decide) rfl
  obtain ⟨NW, hNW, eNW⟩ := fm_B_0 hB (i := 1) (n := 8) (by decide) rfl
  obtain ⟨NG, hNG, eNG⟩ := fm_B_0 hB (i := 3) (n := 20) (by decide) rfl
  obtain ⟨T, hT9, eT⟩ := fm_T5 hB
  have hD : fm_D a0 a0 T := fm_D_rf hB eT (by omega)
  refine fe_ivV hfrK (by omega) (by rfl) (by rfl) (by rfl) (by rfl) (by rfl) (by rfl) ?_
  refine fe_s 4 (pc' := 11) (lc' := [(2, .int 1), (1, .int 0), (0, .ref 0)]) (stk' := []) (mem' := fm g tp bt a0 b) (fun _ _ _ => rfl) ?_
  have loop1 : ∀ (r i1 : Nat), i1 + r = 21 → ∀ (x1_1 : Int32), ∀ (a_1 : Nat → Nat → Int32) (T_1 : Nat), T_1 ≤ 9999 + i1 → fm_D a0 a_1 T_1 → fe_R 8 gk_m336 11 [(2, .int (nI i1)), (1, .int x1_1), (0, .ref 0)] [] (fm g tp bt a_1 b) (fm_PO g tp bt a b) := by
    intro r
    induction r with
    | zero =>
      intro i1 hi1 x1_1 a_1 T_1 hT1 hD_1
      obtain rfl : i1 = 21 := by omega
      refine fe_s 2 (pc' := 14) (lc' := [(2, .int (nI 21)), (1, .int x1_1), (0, .ref 0)]) (stk' := [.int 20, .int (nI 21)]) (mem' := fm g tp bt a_1 b) (fun _ _ _ => rfl) ?_
      refine fe_s 1 (pc' := cond (fx_cb .gt (nI 21) 20) 48 17) (lc' := [(2, .int (nI 21)), (1, .int x1_1), (0, .ref 0)]) (stk' := []) (mem' := fm g tp bt a_1 b) (fun _ _ _ => rfl) ?_
      rw [show (fx_cb .gt (nI 21) 20) = true from cb_gtT (a := 21) (b := 20) (by omega) (by omega) (by omega)]
      dsimp only [cond]
      refine fe_s 2 (pc' := 52) (lc' := [(2, .int (nI 21)), (1, .int x1_1), (0, .ref 0)]) (stk' := [.int 5052, .ref 0]) (mem' := fm g tp bt a_1 b) (fun _ _ _ => rfl) ?_
      obtain ⟨vz2, memz2, ⟨az2, hSz2, hRz2⟩, hfrz2⟩ := fr_restores5052 (g := g) (tp := tp) (bt := bt) (a := a_1) (b := b)
      cases hRz2
      have hZz2 := fm_restd hB (by decide) hK hD_1 hSz2
      have hEz2 : fm_E a az2 := ⟨hZz2.1, fun t ht => hZz2.2.2 t (fm_okE_t ht), fun i hi => hZz2.2.1 i (by have := fm_st_n hi; omega)⟩
      refine fe_ivV hfrz2 (by omega) (by rfl) (by rfl) (by rfl) (by rfl) (by rfl) (by rfl) ?_
      refine fe_s 2 (pc' := 57) (lc' := [(2, .int (nI 21)), (1, .int x1_1), (0, .ref 0)]) (stk' := [.int x1_1, .ref 0]) (mem' := fm g tp bt az2 b) (fun _ _ _ => rfl) ?_
      refine fe_ivV (fr_gives (x := x1_1)) (by omega) (by rfl) (by rfl) (by rfl) (by rfl) (by rfl) (by rfl) ?_
      exact fe_ret ⟨_, _, _, _, _, _, hEz2, (fm_G_2 hG (by decide) (by decide)), (fun _ _ _ => rfl), rfl⟩ (by rfl) (by rfl) (by rfl)
    | succ r ih1 =>
      intro i1 hi1 x1_1 a_1 T_1 hT1 hD_1
      have hl1 : i1 < 21 := by omega
      refine fe_s 2 (pc' := 14) (lc' := [(2, .int (nI i1)), (1, .int x1_1), (0, .ref 0)]) (stk' := [.int 20, .int (nI i1)]) (mem' := fm g tp bt a_1 b) (fun _ _ _ => rfl) ?_
      refine fe_s 1 (pc' := cond (fx_cb .gt (nI i1) 20) 48 17) (lc' := [(2, .int (nI i1)), (1, .int x1_1), (0, .ref 0)]) (stk' := []) (mem' := fm g tp bt a_1 b) (fun _ _ _ => rfl) ?_
      rw [show (fx_cb .gt (nI i1) 20) = false from cb_gtF (a := i1) (b := 20) (by omega) (by omega) (by omega)]
      dsimp only [cond]
      refine fe_s 1 (pc' := 18) (lc' := [(2, .int (nI i1)), (1, .int x1_1), (0, .ref 0)]) (stk' := [.int x1_1]) (mem' := fm g tp bt a_1 b) (fun _ _ _ => rfl) ?_
      refine fe_s 1 (pc' := cond (fx_cb .ne x1_1 0) 48 21) (lc' := [(2, .int (nI i1)), (1, .int x1_1), (0, .ref 0)]) (stk' := []) (mem' := fm g tp bt a_1 b) (fun _ _ _ => rfl) ?_
      cases h3 : fx_cb .ne x1_1 0
      · refine fe_s 2 (pc' := 23) (lc' := [(2, .int (nI i1)), (1, .int x1_1), (0, .ref 0)]) (stk' := [.int 3, .ref 0]) (mem' := fm g tp bt a_1 b) (fun _ _ _ => rfl) ?_
        obtain ⟨vd4, memd4, ⟨xd4, ad4, hDd4, hRd4⟩, hfrd4⟩ := fr_setOf3 (g := g) (tp := tp) (bt := bt) (a := a_1) (b := b) hB hD_1
        cases hRd4
        refine fe_ivV hfrd4 (by omega) (by rfl) (by rfl) (by rfl) (by rfl) (by rfl) (by rfl) ?_
        refine fe_s 1 (pc' := cond (fx_cb .eq xd4 0) 48 29) (lc' := [(2, .int (nI i1)), (1, .int x1_1), (0, .ref 0)]) (stk' := []) (mem' := fm g tp bt ad4 b) (fun _ _ _ => rfl) ?_
        cases h5 : fx_cb .eq xd4 0
        · refine fe_s 1 (pc' := 30) (lc' := [(2, .int (nI i1)), (1, .int x1_1), (0, .ref 0)]) (stk' := [.ref 0]) (mem' := fm g tp bt ad4 b) (fun _ _ _ => rfl) ?_
          obtain ⟨vd6, memd6, ⟨xd6, ad6, hDd6, hRd6⟩, hfrd6⟩ := fr_goes (T := T_1) (g := g) (tp := tp) (bt := bt) (a := ad4) (b := b) hB hDd4 (by omega)
          cases hRd6
          refine fe_ivV hfrd6 (by omega) (by rfl) (by rfl) (by rfl) (by rfl) (by rfl) (by rfl) ?_
          refine fe_s 1 (pc' := cond (fx_cb .ne xd6 0) 40 36) (lc' := [(2, .int (nI i1)), (1, .int x1_1), (0, .ref 0)]) (stk' := []) (mem' := fm g tp bt ad6 b) (fun _ _ _ => rfl) ?_
          cases h7 : fx_cb .ne xd6 0
          · refine fe_s 5 (pc' := 11) (lc' := [(2, .int ((nI i1) + 1)), (1, .int 0), (0, .ref 0)]) (stk' := []) (mem' := fm g tp bt ad6 b) (fun _ _ _ => rfl) ?_
            rw [show ((nI i1) + 1 : Int32) = nI (i1 + 1) from by simp only [show (1 : Int32) = nI 1 from rfl, nI_add, fm_mul]]
            exact ih1 (i1 + 1) (by omega) _ ad6 (T_1 + 1) (by omega) hDd6
          · refine fe_s 4 (pc' := 11) (lc' := [(2, .int ((nI i1) + 1)), (1, .int (nI i1)), (0, .ref 0)]) (stk' := []) (mem' := fm g tp bt ad6 b) (fun _ _ _ => rfl) ?_
            rw [show ((nI i1) + 1 : Int32) = nI (i1 + 1) from by simp only [show (1 : Int32) = nI 1 from rfl, nI_add, fm_mul]]
            exact ih1 (i1 + 1) (by omega) _ ad6 (T_1 + 1) (by omega) hDd6
        · refine fe_s 2 (pc' := 52) (lc' := [(2, .int (nI i1)), (1, .int x1_1), (0, .ref 0)]) (stk' := [.int 5052, .ref 0]) (mem' := fm g tp bt ad4 b) (fun _ _ _ => rfl) ?_
          obtain ⟨vz8, memz8, ⟨az8, hSz8, hRz8⟩, hfrz8⟩ := fr_restores5052 (g := g) (tp := tp) (bt := bt) (a := ad4) (b := b)
          cases hRz8
          have hZz8 := fm_restd hB (by decide) hK hDd4 hSz8
          have hEz8 : fm_E a az8 := ⟨hZz8.1, fun t ht => hZz8.2.2 t (fm_okE_t ht), fun i hi => hZz8.2.1 i (by have := fm_st_n hi; omega)⟩
          refine fe_ivV hfrz8 (by omega) (by rfl) (by rfl) (by rfl) (by rfl) (by rfl) (by rfl) ?_
          refine fe_s 2 (pc' := 57) (lc' := [(2, .int (nI i1)), (1, .int x1_1), (0, .ref 0)]) (stk' := [.int x1_1, .ref 0]) (mem' := fm g tp bt az8 b) (fun _ _ _ => rfl) ?_
          refine fe_ivV (fr_gives (x := x1_1)) (by omega) (by rfl) (by rfl) (by rfl) (by rfl) (by rfl) (by rfl) ?_
          exact fe_ret ⟨_, _, _, _, _, _, hEz8, (fm_G_2 hG (by decide) (by decide)), (fun _ _ _ => rfl), rfl⟩ (by rfl) (by rfl) (by rfl)
      · refine fe_s 2 (pc' := 52) (lc' := [(2, .int (nI i1)), (1, .int x1_1), (0, .ref 0)]) (stk' := [.int 5052, .ref 0]) (mem' := fm g tp bt a_1 b) (fun _ _ _ => rfl) ?_
        obtain ⟨vz9, memz9, ⟨az9, hSz9, hRz9⟩, hfrz9⟩ := fr_restores5052 (g := g) (tp := tp) (bt := bt) (a := a_1) (b := b)
        cases hRz9
        have hZz9 := fm_restd hB (by decide) hK hD_1 hSz9
        have hEz9 : fm_E a az9 := ⟨hZz9.1, fun t ht => hZz9.2.2 t (fm_okE_t ht), fun i hi => hZz9.2.1 i (by have := fm_st_n hi; omega)⟩
        refine fe_ivV hfrz9 (by omega) (by rfl) (by rfl) (by rfl) (by rfl) (by rfl) (by rfl) ?_
        refine fe_s 2 (pc' := 57) (lc' := [(2, .int (nI i1)), (1, .int x1_1), (0, .ref 0)]) (stk' := [.int x1_1, .ref 0]) (mem' := fm g tp bt az9 b) (fun _ _ _ => rfl) ?_
        refine fe_ivV (fr_gives (x := x1_1)) (by omega) (by rfl) (by rfl) (by rfl) (by rfl) (by rfl) (by rfl) ?_
        exact fe_ret ⟨_, _, _, _, _, _, hEz9, (fm_G_2 hG (by decide) (by decide)), (fun _ _ _ => rfl), rfl⟩ (by rfl) (by rfl) (by rfl)
  exact loop1 (21 - 1) 1 (by omega) _ a0 T (by omega) hD
end FRD
