section MH1_0
/-! ===== fx: the parts of a LAKE, whole ===== -/
section F4825_walk
variable {g : Nat → Int32} {tp bt : Int64} {a0 a : Nat → Nat → Int32} {b : Nat → Nat → Int64}
set_option maxHeartbeats 8000000 in
theorem fr_aWalker {S E F NC NW : Nat} (hxp : fm_xp g S E F) (hfl : fm_flt g) (hN : fm_N a0 a NC NW) (hW : fm_NW a) : ∃ (v : Option Value) (mem' : fx_M), (fm_GL a0 g tp bt b S E) (v, mem') ∧ fr_T 8 243 [.ref 0] (fm g tp bt a b) v mem' := by
  have hNC := hN.2.2.1.2.1
  have hNW := hN.2.2.1.2.2.2
  refine fe_meth (F := fm_GL a0 g tp bt b S E) (M := gk_m243) (by rfl) (by rfl) ?_
  refine fe_s 5 (pc' := 11) (lc' := [(0, .ref 0)]) (stk' := [.int 3369, .ref 1, .int 5, .int 3646]) (mem' := fm g tp bt a b) (by intro _ _ _; eq_refl) ?_
  refine fe_ldI (by rfl) (by rfl) (fx_inN (i := 3369) (by omega) (by omega)) ?_
  rw [show Int32.toNatClampNeg (3369) = 3369 from rfl]
  rw [hN.2.2.1.2.2.1]
  refine fe_s 7 (pc' := 21) (lc' := [(1, .int (3646 + (5 * (nI NW)))), (0, .ref 0)]) (stk' := [.int 10, .int 8, .int 1, .ref 0]) (mem' := fm g tp bt a b) (by intro _ _ _; eq_refl) ?_
  rw [show (3646 + (5 * (nI NW)) : Int32) = nI (3646 + (5 * NW)) from by simp only [show (3646 : Int32) = nI 3646 from rfl, show (5 : Int32) = nI 5 from rfl, nI_add, fm_mul]]
  obtain ⟨vn1, memn1, ⟨xn1, gn1, En1, Fn1, bn1, hon1, hvn1, hRn1⟩, hfrn1⟩ := fr_newOne1 (g := g) (tp := tp) (bt := bt) (a := a) (b := b) (fm_gx_rf hxp hfl).2.1 (fm_gx_rf hxp hfl).2.2.1 hN.2.2.1
  cases hRn1
  have gon1 := fm_gx_tr (fm_gx_rf hxp hfl) hon1
  refine fe_ivV hfrn1 (by omega) (by rfl) (by rfl) (by rfl) (by rfl) (by rfl) (by rfl) ?_
  rcases hvn1 with ⟨rfl, hzn1, hbn1⟩ | ⟨rfl, hen1, hpn1, hin1, nmn1, hbn1⟩
  · have bNn1 : ∀ t, t ≠ 2 → bn1 t = b t := fun t ht => (congrFun hbn1 t).trans ((fun _ _ => rfl) t ht)
    refine fe_s 1 (pc' := cond (fx_cb .eq 0 0) 60 27) (lc' := [(1, .int (nI (3646 + (5 * NW)))), (0, .ref 0)]) (stk' := []) (mem' := fm gn1 tp bt a bn1) (by intro _ _ _; eq_refl) ?_
    rw [show (fx_cb .eq 0 0) = true from by decide]
    dsimp only [cond]
    refine fe_s 1 (pc' := 61) (lc' := [(1, .int (nI (3646 + (5 * NW)))), (0, .ref 0)]) (stk' := [.int 0]) (mem' := fm gn1 tp bt a bn1) (by intro _ _ _; eq_refl) ?_
    exact fe_ret ⟨_, _, _, _, _, _, _, _, gon1, bNn1, hN, Or.inl ⟨rfl, hzn1⟩, rfl⟩ (by rfl) (by rfl) (by rfl)
  · have e18n1 : gn1 18 = g 18 := hen1.trans rfl
    have prn1 : gn1 12 = 0 ∨ E < En1 := hpn1.imp id (fun z => by have := (fm_gx_rf hxp hfl).2.2.2; omega)
    have bNn1 : ∀ t, t ≠ 2 → bn1 t = b t := fun t ht => (congrFun hbn1 t).trans ((fm_uL_t ht).trans ((fun _ _ => rfl) t ht))
    have hcn1 : NW < 8 := by have := hN.2.2.1.2.1; have := hN.2.2.1.2.2.2; omega
    refine fe_s 1 (pc' := cond (fx_cb .eq 1 0) 60 27) (lc' := [(1, .int (nI (3646 + (5 * NW)))), (0, .ref 0)]) (stk' := []) (mem' := fm gn1 tp bt a bn1) (by intro _ _ _; eq_refl) ?_
    rw [show (fx_cb .eq 1 0) = false from by decide]
    dsimp only [cond]
    refine fe_s 3 (pc' := 32) (lc' := [(1, .int (nI (3646 + (5 * NW)))), (0, .ref 0)]) (stk' := [.int 9, .ref 22, .ref 0]) (mem' := fm gn1 tp bt a bn1) (by intro _ _ _; eq_refl) ?_
    obtain ⟨xc2, gc2, Ec2, Fc2, hfrc2, hoc2, hvc2⟩ := fr_wantWordq (k := 9) (g := gn1) (tp := tp) (bt := bt) (a := a) (b := bn1) gon1.2.1 gon1.2.2.1
    have goc2 := fm_gx_tr gon1 hoc2
    refine fe_ivV hfrc2 (by omega) (by rfl) (by rfl) (by rfl) (by rfl) (by rfl) (by rfl) ?_
    rcases hvc2 with ⟨rfl, hzc2⟩ | ⟨rfl, hec2, hpc2⟩
    · refine fe_s 1 (pc' := cond (fx_cb .eq 0 0) 60 38) (lc' := [(1, .int (nI (3646 + (5 * NW)))), (0, .ref 0)]) (stk' := []) (mem' := fm gc2 tp bt a bn1) (by intro _ _ _; eq_refl) ?_
      rw [show (fx_cb .eq 0 0) = true from by decide]
      dsimp only [cond]
      refine fe_s 1 (pc' := 61) (lc' := [(1, .int (nI (3646 + (5 * NW)))), (0, .ref 0)]) (stk' := [.int 0]) (mem' := fm gc2 tp bt a bn1) (by intro _ _ _; eq_refl) ?_
      exact fe_ret ⟨_, _, _, _, _, _, _, _, goc2, bNn1, hN, Or.inl ⟨rfl, hzc2⟩, rfl⟩ (by rfl) (by rfl) (by rfl)
    · have e18c2 : gc2 18 = g 18 := hec2.trans e18n1
      have prc2 : gc2 12 = 0 ∨ E < Ec2 := hpc2.imp id (fun z => by have := gon1.2.2.2; omega)
      refine fe_s 1 (pc' := cond (fx_cb .eq 1 0) 60 38) (lc' := [(1, .int (nI (3646 + (5 * NW)))), (0, .ref 0)]) (stk' := []) (mem' := fm gc2 tp bt a bn1) (by intro _ _ _; eq_refl) ?_
      rw [show (fx_cb .eq 1 0) = false from by decide]
      dsimp only [cond]
      refine fe_s 4 (pc' := 43) (lc' := [(1, .int (nI (3646 + (5 * NW)))), (0, .ref 0)]) (stk' := [.int 99, .int 1, .int (nI (3646 + (5 * NW))), .ref 0]) (mem' := fm gc2 tp bt a bn1) (by intro _ _ _; eq_refl) ?_
      obtain ⟨xm3, gm3, Em3, Fm3, am3, hfrm3, hom3, hvm3⟩ := fr_numberq (T := 3646 + (5 * NW)) (lo := 1) (hi := 99) (g := gc2) (tp := tp) (bt := bt) (a := a) (b := bn1) (by omega) goc2.2.1 goc2.2.2.1
      have gom3 := fm_gx_tr goc2 hom3
      refine fe_ivV hfrm3 (by omega) (by rfl) (by rfl) (by rfl) (by rfl) (by rfl) (by rfl) ?_
      rcases hvm3 with ⟨rfl, hzm3, ham3⟩ | ⟨rfl, hem3, hpm3, ym3, hlm3, hum3, ham3⟩
      · have hNm3 : fm_N a0 am3 NC NW := by rw [ham3]; exact hN
        refine fe_s 1 (pc' := cond (fx_cb .eq 0 0) 60 49) (lc' := [(1, .int (nI (3646 + (5 * NW)))), (0, .ref 0)]) (stk' := []) (mem' := fm gm3 tp bt am3 bn1) (by intro _ _ _; eq_refl) ?_
        rw [show (fx_cb .eq 0 0) = true from by decide]
        dsimp only [cond]
        refine fe_s 1 (pc' := 61) (lc' := [(1, .int (nI (3646 + (5 * NW)))), (0, .ref 0)]) (stk' := [.int 0]) (mem' := fm gm3 tp bt am3 bn1) (by intro _ _ _; eq_refl) ?_
        exact fe_ret ⟨_, _, _, _, _, _, _, _, gom3, bNn1, hNm3, Or.inl ⟨rfl, hzm3⟩, rfl⟩ (by rfl) (by rfl) (by rfl)
      · have e18m3 : gm3 18 = g 18 := hem3.trans e18c2
        have prm3 : gm3 12 = 0 ∨ E < Em3 := hpm3.imp id (fun z => by have := goc2.2.2.2; omega)
        have hNm3 : fm_N a0 am3 NC NW := by rw [ham3]; exact fm_N_u hN (by omega) (by omega) (fun c hc => by omega) (fm_full (show gm_at (3646 + (5 * NW)) = (-2147483648, 2147483647) from by rw [show 3646 + (5 * NW) = 3646 + 5 * NW by omega]; exact gm_at_w0 NW (by omega)))
        have hWm3 : fm_NW am3 := by rw [ham3]; exact fm_NW_u hW (Or.inr (fun w hw => by omega))
        refine fe_s 1 (pc' := cond (fx_cb .eq 1 0) 60 49) (lc' := [(1, .int (nI (3646 + (5 * NW)))), (0, .ref 0)]) (stk' := []) (mem' := fm gm3 tp bt am3 bn1) (by intro _ _ _; eq_refl) ?_
        rw [show (fx_cb .eq 1 0) = false from by decide]
        dsimp only [cond]
        refine fe_s 3 (pc' := 54) (lc' := [(1, .int (nI (3646 + (5 * NW)))), (0, .ref 0)]) (stk' := [.int 10, .ref 22, .ref 0]) (mem' := fm gm3 tp bt am3 bn1) (by intro _ _ _; eq_refl) ?_
        obtain ⟨xc4, gc4, Ec4, Fc4, hfrc4, hoc4, hvc4⟩ := fr_wantWordq (k := 10) (g := gm3) (tp := tp) (bt := bt) (a := am3) (b := bn1) gom3.2.1 gom3.2.2.1
        have goc4 := fm_gx_tr gom3 hoc4
        refine fe_ivV hfrc4 (by omega) (by rfl) (by rfl) (by rfl) (by rfl) (by rfl) (by rfl) ?_
        rcases hvc4 with ⟨rfl, hzc4⟩ | ⟨rfl, hec4, hpc4⟩
        · refine fe_s 1 (pc' := cond (fx_cb .ne 0 0) 62 60) (lc' := [(1, .int (nI (3646 + (5 * NW)))), (0, .ref 0)]) (stk' := []) (mem' := fm gc4 tp bt am3 bn1) (by intro _ _ _; eq_refl) ?_
          rw [show (fx_cb .ne 0 0) = false from by decide]
          dsimp only [cond]
          refine fe_s 1 (pc' := 61) (lc' := [(1, .int (nI (3646 + (5 * NW)))), (0, .ref 0)]) (stk' := [.int 0]) (mem' := fm gc4 tp bt am3 bn1) (by intro _ _ _; eq_refl) ?_
          exact fe_ret ⟨_, _, _, _, _, _, _, _, goc4, bNn1, hNm3, Or.inl ⟨rfl, hzc4⟩, rfl⟩ (by rfl) (by rfl) (by rfl)
        · have e18c4 : gc4 18 = g 18 := hec4.trans e18m3
          have prc4 : gc4 12 = 0 ∨ E < Ec4 := hpc4.imp id (fun z => by have := gom3.2.2.2; omega)
          refine fe_s 1 (pc' := cond (fx_cb .ne 1 0) 62 60) (lc' := [(1, .int (nI (3646 + (5 * NW)))), (0, .ref 0)]) (stk' := []) (mem' := fm gc4 tp bt am3 bn1) (by intro _ _ _; eq_refl) ?_
          rw [show (fx_cb .ne 1 0) = true from by decide]
          dsimp only [cond]
          refine fe_s 1 (pc' := 63) (lc' := [(1, .int (nI (3646 + (5 * NW)))), (0, .ref 0)]) (stk' := [.ref 0]) (mem' := fm gc4 tp bt am3 bn1) (by intro _ _ _; eq_refl) ?_
          obtain ⟨vh5, memh5, ⟨qh5, xh5, hqh5, hvh5, hRh5⟩, hfrh5⟩ := fr_cellHere (g := gc4) (tp := tp) (bt := bt) (a := am3) (b := bn1) goc4.2.1 hNm3.2.2.1
          cases hRh5
          refine fe_ivV hfrh5 (by omega) (by rfl) (by rfl) (by rfl) (by rfl) (by rfl) (by rfl) ?_
          rcases fm_ch hvh5 with ⟨rfl, hmh5⟩ | ⟨kh5, hkh5, rfl⟩
          · refine fe_s 3 (pc' := 69) (lc' := [(2, .int (-1)), (1, .int (nI (3646 + (5 * NW)))), (0, .ref 0)]) (stk' := [.int (-1), .int (-1)]) (mem' := fm gc4 tp bt am3 bn1) (by intro _ _ _; eq_refl) ?_
            refine fe_s 1 (pc' := cond (fx_cb .eq (-1) (-1)) 86 72) (lc' := [(2, .int (-1)), (1, .int (nI (3646 + (5 * NW)))), (0, .ref 0)]) (stk' := []) (mem' := fm gc4 tp bt am3 bn1) (by intro _ _ _; eq_refl) ?_
            rw [show (fx_cb .eq (-1) (-1)) = true from by decide]
            dsimp only [cond]
            refine fe_s 5 (pc' := 96) (lc' := [(2, .int (-1)), (1, .int (nI (3646 + (5 * NW)))), (0, .ref 0)]) (stk' := [.int 3368, .ref 1, .int 72, .ref 0]) (mem' := fm gc4 tp bt am3 bn1) (by intro _ _ _; eq_refl) ?_
            refine fe_ldI (by rfl) (by rfl) (fx_inN (i := 3368) (by omega) (by omega)) ?_
            rw [show Int32.toNatClampNeg (3368) = 3368 from rfl]
            rw [hNm3.2.2.1.1]
            refine fe_s 3 (pc' := 100) (lc' := [(2, .int (-1)), (1, .int (nI (3646 + (5 * NW)))), (0, .ref 0)]) (stk' := [.int ((nI (3646 + (5 * NW))) + 1), .int (nI NC), .int 72, .ref 0]) (mem' := fm gc4 tp bt am3 bn1) (by intro _ _ _; eq_refl) ?_
            rw [show ((nI (3646 + (5 * NW))) + 1 : Int32) = nI ((3646 + (5 * NW)) + 1) from by simp only [show (1 : Int32) = nI 1 from rfl, nI_add, fm_mul]]
            obtain ⟨xo6, go6, Eo6, Fo6, ao6, hfro6, hoo6, hvo6⟩ := fr_oldOneq (T := (3646 + (5 * NW)) + 1) (base := 72) (many := NC) (g := gc4) (tp := tp) (bt := bt) (a := am3) (b := bn1) (by omega) (by have := hNm3.2.2.1.2.1; omega) goc4.2.1 goc4.2.2.1
            have goo6 := fm_gx_tr goc4 hoo6
            refine fe_ivV hfro6 (by omega) (by rfl) (by rfl) (by rfl) (by rfl) (by rfl) (by rfl) ?_
            rcases hvo6 with ⟨rfl, hzo6, hao6⟩ | ⟨rfl, heo6, hpo6, hso6, ko6, hko6, hio6, hao6⟩
            · have hNo6 : fm_N a0 ao6 NC NW := by
                rcases hao6 with e | ⟨y, hy, e⟩
                · rw [e]; exact hNm3
                · rw [e, hy]; exact fm_N_u hNm3 (by omega) (by omega) (fun c hc => by omega) (fm_bdI (show gm_at ((3646 + (5 * NW)) + 1) = (-1, 9) from by rw [show (3646 + (5 * NW)) + 1 = 3647 + 5 * NW by omega]; exact gm_at_w1 NW (by omega)) (by decide) (by decide))
              refine fe_s 1 (pc' := cond (fx_cb .ne 0 0) 108 106) (lc' := [(2, .int (-1)), (1, .int (nI (3646 + (5 * NW)))), (0, .ref 0)]) (stk' := []) (mem' := fm go6 tp bt ao6 bn1) (by intro _ _ _; eq_refl) ?_
              rw [show (fx_cb .ne 0 0) = false from by decide]
              dsimp only [cond]
              refine fe_s 1 (pc' := 107) (lc' := [(2, .int (-1)), (1, .int (nI (3646 + (5 * NW)))), (0, .ref 0)]) (stk' := [.int 0]) (mem' := fm go6 tp bt ao6 bn1) (by intro _ _ _; eq_refl) ?_
              exact fe_ret ⟨_, _, _, _, _, _, _, _, goo6, bNn1, hNo6, Or.inl ⟨rfl, hzo6⟩, rfl⟩ (by rfl) (by rfl) (by rfl)
            · exact absurd (fm_chx hmh5 (fr_det hqh5 hso6).1 (by have := hNm3.2.2.1.2.1; omega) hio6) id
          · have hk9h5 : kh5 < 10 := by have := hNm3.2.2.1.2.1; omega
            refine fe_s 3 (pc' := 69) (lc' := [(2, .int (nI kh5)), (1, .int (nI (3646 + (5 * NW)))), (0, .ref 0)]) (stk' := [.int (-1), .int (nI kh5)]) (mem' := fm gc4 tp bt am3 bn1) (by intro _ _ _; eq_refl) ?_
            refine fe_s 1 (pc' := cond (fx_cb .eq (nI kh5) (-1)) 86 72) (lc' := [(2, .int (nI kh5)), (1, .int (nI (3646 + (5 * NW)))), (0, .ref 0)]) (stk' := []) (mem' := fm gc4 tp bt am3 bn1) (by intro _ _ _; eq_refl) ?_
            rw [show (fx_cb .eq (nI kh5) (-1)) = false from cb_n_eq (by omega) (by decide)]
            dsimp only [cond]
            refine fe_s 2 (pc' := 74) (lc' := [(2, .int (nI kh5)), (1, .int (nI (3646 + (5 * NW)))), (0, .ref 0)]) (stk' := [.int (nI kh5), .ref 0]) (mem' := fm gc4 tp bt am3 bn1) (by intro _ _ _; eq_refl) ?_
            obtain ⟨vs7, mems7, ⟨xs7, hxs7, hRs7⟩, hfrs7⟩ := fr_isNewShore (C := kh5) (g := gc4) (tp := tp) (bt := bt) (a := am3) (b := bn1) (by omega)
            cases hRs7
            refine fe_ivV hfrs7 (by omega) (by rfl) (by rfl) (by rfl) (by rfl) (by rfl) (by rfl) ?_
            rcases hxs7 with rfl | rfl
            · refine fe_s 1 (pc' := cond (fx_cb .ne 0 0) 86 80) (lc' := [(2, .int (nI kh5)), (1, .int (nI (3646 + (5 * NW)))), (0, .ref 0)]) (stk' := []) (mem' := fm gc4 tp bt am3 bn1) (by intro _ _ _; eq_refl) ?_
              rw [show (fx_cb .ne 0 0) = false from by decide]
              dsimp only [cond]
              refine fe_s 2 (pc' := 82) (lc' := [(2, .int (nI kh5)), (1, .int (nI (3646 + (5 * NW)))), (0, .ref 0)]) (stk' := [.int 5, .ref 0]) (mem' := fm gc4 tp bt am3 bn1) (by intro _ _ _; eq_refl) ?_
              obtain ⟨gf8, hfrf8, hof8, hzf8⟩ := fr_failsq (x := 5) (g := gc4) (tp := tp) (bt := bt) (a := am3) (b := bn1) (by omega) (by omega) goc4.2.1 goc4.2.2.1
              have gof8 := fm_gx_tr goc4 hof8
              refine fe_ivV hfrf8 (by omega) (by rfl) (by rfl) (by rfl) (by rfl) (by rfl) (by rfl) ?_
              exact fe_ret ⟨_, _, _, _, _, _, _, _, gof8, bNn1, hNm3, Or.inl ⟨rfl, hzf8⟩, rfl⟩ (by rfl) (by rfl) (by rfl)
            · refine fe_s 1 (pc' := cond (fx_cb .ne 1 0) 86 80) (lc' := [(2, .int (nI kh5)), (1, .int (nI (3646 + (5 * NW)))), (0, .ref 0)]) (stk' := []) (mem' := fm gc4 tp bt am3 bn1) (by intro _ _ _; eq_refl) ?_
              rw [show (fx_cb .ne 1 0) = true from by decide]
              dsimp only [cond]
              refine fe_s 5 (pc' := 96) (lc' := [(2, .int (nI kh5)), (1, .int (nI (3646 + (5 * NW)))), (0, .ref 0)]) (stk' := [.int 3368, .ref 1, .int 72, .ref 0]) (mem' := fm gc4 tp bt am3 bn1) (by intro _ _ _; eq_refl) ?_
              refine fe_ldI (by rfl) (by rfl) (fx_inN (i := 3368) (by omega) (by omega)) ?_
              rw [show Int32.toNatClampNeg (3368) = 3368 from rfl]
              rw [hNm3.2.2.1.1]
              refine fe_s 3 (pc' := 100) (lc' := [(2, .int (nI kh5)), (1, .int (nI (3646 + (5 * NW)))), (0, .ref 0)]) (stk' := [.int ((nI (3646 + (5 * NW))) + 1), .int (nI NC), .int 72, .ref 0]) (mem' := fm gc4 tp bt am3 bn1) (by intro _ _ _; eq_refl) ?_
              rw [show ((nI (3646 + (5 * NW))) + 1 : Int32) = nI ((3646 + (5 * NW)) + 1) from by simp only [show (1 : Int32) = nI 1 from rfl, nI_add, fm_mul]]
              obtain ⟨xo9, go9, Eo9, Fo9, ao9, hfro9, hoo9, hvo9⟩ := fr_oldOneq (T := (3646 + (5 * NW)) + 1) (base := 72) (many := NC) (g := gc4) (tp := tp) (bt := bt) (a := am3) (b := bn1) (by omega) (by have := hNm3.2.2.1.2.1; omega) goc4.2.1 goc4.2.2.1
              have goo9 := fm_gx_tr goc4 hoo9
              refine fe_ivV hfro9 (by omega) (by rfl) (by rfl) (by rfl) (by rfl) (by rfl) (by rfl) ?_
              rcases hvo9 with ⟨rfl, hzo9, hao9⟩ | ⟨rfl, heo9, hpo9, hso9, ko9, hko9, hio9, hao9⟩
              · have hNo9 : fm_N a0 ao9 NC NW := by
                  rcases hao9 with e | ⟨y, hy, e⟩
                  · rw [e]; exact hNm3
                  · rw [e, hy]; exact fm_N_u hNm3 (by omega) (by omega) (fun c hc => by omega) (fm_bdI (show gm_at ((3646 + (5 * NW)) + 1) = (-1, 9) from by rw [show (3646 + (5 * NW)) + 1 = 3647 + 5 * NW by omega]; exact gm_at_w1 NW (by omega)) (by decide) (by decide))
                refine fe_s 1 (pc' := cond (fx_cb .ne 0 0) 108 106) (lc' := [(2, .int (nI kh5)), (1, .int (nI (3646 + (5 * NW)))), (0, .ref 0)]) (stk' := []) (mem' := fm go9 tp bt ao9 bn1) (by intro _ _ _; eq_refl) ?_
                rw [show (fx_cb .ne 0 0) = false from by decide]
                dsimp only [cond]
                refine fe_s 1 (pc' := 107) (lc' := [(2, .int (nI kh5)), (1, .int (nI (3646 + (5 * NW)))), (0, .ref 0)]) (stk' := [.int 0]) (mem' := fm go9 tp bt ao9 bn1) (by intro _ _ _; eq_refl) ?_
                exact fe_ret ⟨_, _, _, _, _, _, _, _, goo9, bNn1, hNo9, Or.inl ⟨rfl, hzo9⟩, rfl⟩ (by rfl) (by rfl) (by rfl)
              · have e18o9 : go9 18 = g 18 := heo9.trans e18c4
                have pro9 : go9 12 = 0 ∨ E < Eo9 := hpo9.imp id (fun z => by have := goc4.2.2.2; omega)
                have hk9o9 : ko9 < 10 := by have := hNm3.2.2.1.2.1; omega
                have hNo9 : fm_N a0 ao9 NC NW := by rw [hao9]; exact fm_N_u hNm3 (by omega) (by omega) (fun c hc => by omega) (fm_bdI (show gm_at ((3646 + (5 * NW)) + 1) = (-1, 9) from by rw [show (3646 + (5 * NW)) + 1 = 3647 + 5 * NW by omega]; exact gm_at_w1 NW (by omega)) (by rw [nI_i32 (by omega)]; omega) (by rw [nI_i32 (by omega)]; omega))
                have hWo9 : fm_NW ao9 := by rw [hao9]; exact fm_NW_u hWm3 (Or.inl (by rw [nI_i32 (by omega)]; omega))
                refine fe_s 1 (pc' := cond (fx_cb .ne 1 0) 108 106) (lc' := [(2, .int (nI kh5)), (1, .int (nI (3646 + (5 * NW)))), (0, .ref 0)]) (stk' := []) (mem' := fm go9 tp bt ao9 bn1) (by intro _ _ _; eq_refl) ?_
                rw [show (fx_cb .ne 1 0) = true from by decide]
                dsimp only [cond]
                refine fe_s 4 (pc' := 116) (lc' := [(2, .int (nI kh5)), (1, .int (nI (3646 + (5 * NW)))), (0, .ref 0)]) (stk' := [.int 3369, .ref 1, .int 3369, .ref 1]) (mem' := fm go9 tp bt ao9 bn1) (by intro _ _ _; eq_refl) ?_
                refine fe_ldI (by rfl) (by rfl) (fx_inN (i := 3369) (by omega) (by omega)) ?_
                rw [show Int32.toNatClampNeg (3369) = 3369 from rfl]
                rw [hNo9.2.2.1.2.2.1]
                refine fe_s 2 (pc' := 119) (lc' := [(2, .int (nI kh5)), (1, .int (nI (3646 + (5 * NW)))), (0, .ref 0)]) (stk' := [.int ((nI NW) + 1), .int 3369, .ref 1]) (mem' := fm go9 tp bt ao9 bn1) (by intro _ _ _; eq_refl) ?_
                rw [show ((nI NW) + 1 : Int32) = nI (NW + 1) from by simp only [show (1 : Int32) = nI 1 from rfl, nI_add, fm_mul]]
                refine fe_stI (mem' := fm go9 tp bt (fm_u ao9 1 (3369 : Int32).toNatClampNeg (nI (NW + 1))) bn1) (by rfl) (by rfl) (fx_inN (i := 3369) (by omega) (by omega)) fm_si1 ?_
                rw [show Int32.toNatClampNeg (3369) = 3369 from rfl]
                obtain ⟨at10, hat10⟩ : ∃ z, z = fm_u ao9 1 (3369) (nI (NW + 1)) := ⟨_, rfl⟩
                rw [← hat10]
                have hNt10 : fm_N a0 at10 NC (NW + 1) := by rw [hat10]; exact fm_N_nw hNo9 (by omega)
                have hWt10 : fm_NW at10 := by rw [hat10]; exact fm_NW_u hWo9 (Or.inr (fun w hw => by omega))
                refine fe_s 1 (pc' := 121) (lc' := [(2, .int (nI kh5)), (1, .int (nI (3646 + (5 * NW)))), (0, .ref 0)]) (stk' := [.int 1]) (mem' := fm go9 tp bt at10 bn1) (by intro _ _ _; eq_refl) ?_
                exact fe_ret ⟨_, _, _, _, _, _, _, _, goo9, bNn1, hNt10, Or.inr ⟨rfl, e18o9, pro9, hWt10⟩, rfl⟩ (by rfl) (by rfl) (by rfl)
set_option maxHeartbeats 4000000 in
theorem fr_once5 {S E F NC NW : Nat} (hxp : fm_xp g S E F) (hfl : fm_flt g) (hN : fm_N a0 a NC NW) (hW : fm_NW a) : ∃ (v : Option Value) (mem' : fx_M), (fm_GL a0 g tp bt b S E) (v, mem') ∧ fr_T 8 244 [.ref 0, .int 5] (fm g tp bt a b) v mem' := by
  have hNC := hN.2.2.1.2.1
  have hNW := hN.2.2.1.2.2.2
  refine fe_meth (F := fm_GL a0 g tp bt b S E) (M := gk_m244) (by rfl) (by rfl) ?_
  refine fe_s 7 (pc' := 9) (lc' := [(0, .ref 0), (1, .int 5)]) (stk' := [.int 1, .int (((g 20) >>> (5 &&& 31)) &&& 1)]) (mem' := fm g tp bt a b) (by intro _ _ _; eq_refl) ?_
  refine fe_s 1 (pc' := cond (fx_cb .ne (((g 20) >>> (5 &&& 31)) &&& 1) 1) 18 12) (lc' := [(0, .ref 0), (1, .int 5)]) (stk' := []) (mem' := fm g tp bt a b) (by intro _ _ _; eq_refl) ?_
  cases h1 : fx_cb .ne (((g 20) >>> (5 &&& 31)) &&& 1) 1
  · refine fe_s 2 (pc' := 14) (lc' := [(0, .ref 0), (1, .int 5)]) (stk' := [.int 5, .ref 0]) (mem' := fm g tp bt a b) (by intro _ _ _; eq_refl) ?_
    obtain ⟨gf2, hfrf2, hof2, hzf2⟩ := fr_failsq (x := 5) (g := g) (tp := tp) (bt := bt) (a := a) (b := b) (by omega) (by omega) (fm_gx_rf hxp hfl).2.1 (fm_gx_rf hxp hfl).2.2.1
    have gof2 := fm_gx_tr (fm_gx_rf hxp hfl) hof2
    refine fe_ivV hfrf2 (by omega) (by rfl) (by rfl) (by rfl) (by rfl) (by rfl) (by rfl) ?_
    exact fe_ret ⟨_, _, _, _, _, _, _, _, gof2, (fun _ _ => rfl), hN, Or.inl ⟨rfl, hzf2⟩, rfl⟩ (by rfl) (by rfl) (by rfl)
  · refine fe_s 9 (pc' := 31) (lc' := [(0, .ref 0), (1, .int 5)]) (stk' := [.ref 0]) (mem' := fm (upd g 20 ((g 20) ||| ((1 : Int32) <<< (5 &&& 31)))) tp bt a b) (by intro _ _ _; eq_refl) ?_
    obtain ⟨gk3, Ek3, Fk3, hfrk3, hok3, hek3, hpk3⟩ := fr_aheadq (g := (upd g 20 ((g 20) ||| ((1 : Int32) <<< (5 &&& 31))))) (tp := tp) (bt := bt) (a := a) (b := b) (fm_gx_up (fm_gx_rf hxp hfl) (by decide)).2.1 (fm_gx_up (fm_gx_rf hxp hfl) (by decide)).2.2.1
    have gok3 := fm_gx_tr (fm_gx_up (fm_gx_rf hxp hfl) (by decide)) hok3
    have e18k3 : gk3 18 = g 18 := hek3.trans ((pk_un (by decide)).trans rfl)
    have prk3 : gk3 12 = 0 ∨ E < Ek3 := hpk3.imp id (fun z => by have := (fm_gx_rf hxp hfl).2.2.2; omega)
    refine fe_ivV hfrk3 (by omega) (by rfl) (by rfl) (by rfl) (by rfl) (by rfl) (by rfl) ?_
    refine fe_s 8 (pc' := 45) (lc' := [(0, .ref 0), (1, .int 5)]) (stk' := [.int 6, .int 5, .int ((3370 + 5) - 5), .ref 0]) (mem' := fm gk3 tp bt a b) (by intro _ _ _; eq_refl) ?_
    rw [show ((3370 + 5) - 5 : Int32) = 3370 from rfl]
    refine fe_s 1 (pc' := cond (fx_cb .ne 5 6) 52 48) (lc' := [(0, .ref 0), (1, .int 5)]) (stk' := [.int 3370, .ref 0]) (mem' := fm gk3 tp bt a b) (by intro _ _ _; eq_refl) ?_
    rw [show (fx_cb .ne 5 6) = true from by decide]
    dsimp only [cond]
    refine fe_s 2 (pc' := 55) (lc' := [(0, .ref 0), (1, .int 5)]) (stk' := [.int 20, .int 0, .int 3370, .ref 0]) (mem' := fm gk3 tp bt a b) (by intro _ _ _; eq_refl) ?_
    obtain ⟨xm4, gm4, Em4, Fm4, am4, hfrm4, hom4, hvm4⟩ := fr_numberq (T := 3370) (lo := 0) (hi := 20) (g := gk3) (tp := tp) (bt := bt) (a := a) (b := b) (by omega) gok3.2.1 gok3.2.2.1
    have gom4 := fm_gx_tr gok3 hom4
    refine fe_ivV hfrm4 (by omega) (by rfl) (by rfl) (by rfl) (by rfl) (by rfl) (by rfl) ?_
    rcases hvm4 with ⟨rfl, hzm4, ham4⟩ | ⟨rfl, hem4, hpm4, ym4, hlm4, hum4, ham4⟩
    · have hNm4 : fm_N a0 am4 NC NW := by rw [ham4]; exact hN
      exact fe_ret ⟨_, _, _, _, _, _, _, _, gom4, (fun _ _ => rfl), hNm4, Or.inl ⟨rfl, hzm4⟩, rfl⟩ (by rfl) (by rfl) (by rfl)
    · have e18m4 : gm4 18 = g 18 := hem4.trans e18k3
      have prm4 : gm4 12 = 0 ∨ E < Em4 := hpm4.imp id (fun z => by have := gok3.2.2.2; omega)
      have hNm4 : fm_N a0 am4 NC NW := by rw [ham4]; exact fm_N_u hN (by omega) (by omega) (fun c hc => by omega) (fm_bdI (show gm_at 3370 = (0, 20) from rfl) (by have z := Int32.le_iff_toInt_le.mp hlm4; rw [show ((0 : Int32).toInt) = 0 from rfl] at z; omega) (by have z := Int32.le_iff_toInt_le.mp hum4; rw [show ((20 : Int32).toInt) = 20 from rfl] at z; omega))
      have hWm4 : fm_NW am4 := by rw [ham4]; exact fm_NW_u hW (Or.inr (fun w hw => by omega))
      exact fe_ret ⟨_, _, _, _, _, _, _, _, gom4, (fun _ _ => rfl), hNm4, Or.inr ⟨rfl, e18m4, prm4, hWm4⟩, rfl⟩ (by rfl) (by rfl) (by rfl)
set_option maxHeartbeats 4000000 in
theorem fr_once6 {S E F NC NW : Nat} (hxp : fm_xp g S E F) (hfl : fm_flt g) (hN : fm_N a0 a NC NW) (hW : fm_NW a) : ∃ (v : Option Value) (mem' : fx_M), (fm_GL a0 g tp bt b S E) (v, mem') ∧ fr_T 8 244 [.ref 0, .int 6] (fm g tp bt a b) v mem' := by
  have hNC := hN.2.2.1.2.1
  have hNW := hN.2.2.1.2.2.2
  refine fe_meth (F := fm_GL a0 g tp bt b S E) (M := gk_m244) (by rfl) (by rfl) ?_
  refine fe_s 7 (pc' := 9) (lc' := [(0, .ref 0), (1, .int 6)]) (stk' := [.int 1, .int (((g 20) >>> (6 &&& 31)) &&& 1)]) (mem' := fm g tp bt a b) (by intro _ _ _; eq_refl) ?_
  refine fe_s 1 (pc' := cond (fx_cb .ne (((g 20) >>> (6 &&& 31)) &&& 1) 1) 18 12) (lc' := [(0, .ref 0), (1, .int 6)]) (stk' := []) (mem' := fm g tp bt a b) (by intro _ _ _; eq_refl) ?_
  cases h1 : fx_cb .ne (((g 20) >>> (6 &&& 31)) &&& 1) 1
  · refine fe_s 2 (pc' := 14) (lc' := [(0, .ref 0), (1, .int 6)]) (stk' := [.int 5, .ref 0]) (mem' := fm g tp bt a b) (by intro _ _ _; eq_refl) ?_
    obtain ⟨gf2, hfrf2, hof2, hzf2⟩ := fr_failsq (x := 5) (g := g) (tp := tp) (bt := bt) (a := a) (b := b) (by omega) (by omega) (fm_gx_rf hxp hfl).2.1 (fm_gx_rf hxp hfl).2.2.1
    have gof2 := fm_gx_tr (fm_gx_rf hxp hfl) hof2
    refine fe_ivV hfrf2 (by omega) (by rfl) (by rfl) (by rfl) (by rfl) (by rfl) (by rfl) ?_
    exact fe_ret ⟨_, _, _, _, _, _, _, _, gof2, (fun _ _ => rfl), hN, Or.inl ⟨rfl, hzf2⟩, rfl⟩ (by rfl) (by rfl) (by rfl)
  · refine fe_s 9 (pc' := 31) (lc' := [(0, .ref 0), (1, .int 6)]) (stk' := [.ref 0]) (mem' := fm (upd g 20 ((g 20) ||| ((1 : Int32) <<< (6 &&& 31)))) tp bt a b) (by intro _ _ _; eq_refl) ?_
    obtain ⟨gk3, Ek3, Fk3, hfrk3, hok3, hek3, hpk3⟩ := fr_aheadq (g := (upd g 20 ((g 20) ||| ((1 : Int32) <<< (6 &&& 31))))) (tp := tp) (bt := bt) (a := a) (b := b) (fm_gx_up (fm_gx_rf hxp hfl) (by decide)).2.1 (fm_gx_up (fm_gx_rf hxp hfl) (by decide)).2.2.1
    have gok3 := fm_gx_tr (fm_gx_up (fm_gx_rf hxp hfl) (by decide)) hok3
    have e18k3 : gk3 18 = g 18 := hek3.trans ((pk_un (by decide)).trans rfl)
    have prk3 : gk3 12 = 0 ∨ E < Ek3 := hpk3.imp id (fun z => by have := (fm_gx_rf hxp hfl).2.2.2; omega)
    refine fe_ivV hfrk3 (by omega) (by rfl) (by rfl) (by rfl) (by rfl) (by rfl) (by rfl) ?_
    refine fe_s 8 (pc' := 45) (lc' := [(0, .ref 0), (1, .int 6)]) (stk' := [.int 6, .int 6, .int ((3370 + 6) - 5), .ref 0]) (mem' := fm gk3 tp bt a b) (by intro _ _ _; eq_refl) ?_
    rw [show ((3370 + 6) - 5 : Int32) = 3371 from rfl]
    refine fe_s 1 (pc' := cond (fx_cb .ne 6 6) 52 48) (lc' := [(0, .ref 0), (1, .int 6)]) (stk' := [.int 3371, .ref 0]) (mem' := fm gk3 tp bt a b) (by intro _ _ _; eq_refl) ?_
    rw [show (fx_cb .ne 6 6) = false from by decide]
    dsimp only [cond]
    refine fe_s 3 (pc' := 55) (lc' := [(0, .ref 0), (1, .int 6)]) (stk' := [.int 20, .int 1, .int 3371, .ref 0]) (mem' := fm gk3 tp bt a b) (by intro _ _ _; eq_refl) ?_
    obtain ⟨xm4, gm4, Em4, Fm4, am4, hfrm4, hom4, hvm4⟩ := fr_numberq (T := 3371) (lo := 1) (hi := 20) (g := gk3) (tp := tp) (bt := bt) (a := a) (b := b) (by omega) gok3.2.1 gok3.2.2.1
    have gom4 := fm_gx_tr gok3 hom4
    refine fe_ivV hfrm4 (by omega) (by rfl) (by rfl) (by rfl) (by rfl) (by rfl) (by rfl) ?_
    rcases hvm4 with ⟨rfl, hzm4, ham4⟩ | ⟨rfl, hem4, hpm4, ym4, hlm4, hum4, ham4⟩
    · have hNm4 : fm_N a0 am4 NC NW := by rw [ham4]; exact hN
      exact fe_ret ⟨_, _, _, _, _, _, _, _, gom4, (fun _ _ => rfl), hNm4, Or.inl ⟨rfl, hzm4⟩, rfl⟩ (by rfl) (by rfl) (by rfl)
    · have e18m4 : gm4 18 = g 18 := hem4.trans e18k3
      have prm4 : gm4 12 = 0 ∨ E < Em4 := hpm4.imp id (fun z => by have := gok3.2.2.2; omega)
      have hNm4 : fm_N a0 am4 NC NW := by rw [ham4]; exact fm_N_u hN (by omega) (by omega) (fun c hc => by omega) (fm_bdI (show gm_at 3371 = (0, 20) from rfl) (by have z := Int32.le_iff_toInt_le.mp hlm4; rw [show ((1 : Int32).toInt) = 1 from rfl] at z; omega) (by have z := Int32.le_iff_toInt_le.mp hum4; rw [show ((20 : Int32).toInt) = 20 from rfl] at z; omega))
      have hWm4 : fm_NW am4 := by rw [ham4]; exact fm_NW_u hW (Or.inr (fun w hw => by omega))
      exact fe_ret ⟨_, _, _, _, _, _, _, _, gom4, (fun _ _ => rfl), hNm4, Or.inr ⟨rfl, e18m4, prm4, hWm4⟩, rfl⟩ (by rfl) (by rfl) (by rfl)
set_option maxHeartbeats 4000000 in
theorem fr_once7 {S E F NC NW : Nat} (hxp : fm_xp g S E F) (hfl : fm_flt g) (hN : fm_N a0 a NC NW) (hW : fm_NW a) : ∃ (v : Option Value) (mem' : fx_M), (fm_GL a0 g tp bt b S E) (v, mem') ∧ fr_T 8 244 [.ref 0, .int 7] (fm g tp bt a b) v mem' := by
  have hNC := hN.2.2.1.2.1
  have hNW := hN.2.2.1.2.2.2
  refine fe_meth (F := fm_GL a0 g tp bt b S E) (M := gk_m244) (by rfl) (by rfl) ?_
  refine fe_s 7 (pc' := 9) (lc' := [(0, .ref 0), (1, .int 7)]) (stk' := [.int 1, .int (((g 20) >>> (7 &&& 31)) &&& 1)]) (mem' := fm g tp bt a b) (by intro _ _ _; eq_refl) ?_
  refine fe_s 1 (pc' := cond (fx_cb .ne (((g 20) >>> (7 &&& 31)) &&& 1) 1) 18 12) (lc' := [(0, .ref 0), (1, .int 7)]) (stk' := []) (mem' := fm g tp bt a b) (by intro _ _ _; eq_refl) ?_
  cases h1 : fx_cb .ne (((g 20) >>> (7 &&& 31)) &&& 1) 1
  · refine fe_s 2 (pc' := 14) (lc' := [(0, .ref 0), (1, .int 7)]) (stk' := [.int 5, .ref 0]) (mem' := fm g tp bt a b) (by intro _ _ _; eq_refl) ?_
    obtain ⟨gf2, hfrf2, hof2, hzf2⟩ := fr_failsq (x := 5) (g := g) (tp := tp) (bt := bt) (a := a) (b := b) (by omega) (by omega) (fm_gx_rf hxp hfl).2.1 (fm_gx_rf hxp hfl).2.2.1
    have gof2 := fm_gx_tr (fm_gx_rf hxp hfl) hof2
    refine fe_ivV hfrf2 (by omega) (by rfl) (by rfl) (by rfl) (by rfl) (by rfl) (by rfl) ?_
    exact fe_ret ⟨_, _, _, _, _, _, _, _, gof2, (fun _ _ => rfl), hN, Or.inl ⟨rfl, hzf2⟩, rfl⟩ (by rfl) (by rfl) (by rfl)
  · refine fe_s 9 (pc' := 31) (lc' := [(0, .ref 0), (1, .int 7)]) (stk' := [.ref 0]) (mem' := fm (upd g 20 ((g 20) ||| ((1 : Int32) <<< (7 &&& 31)))) tp bt a b) (by intro _ _ _; eq_refl) ?_
    obtain ⟨gk3, Ek3, Fk3, hfrk3, hok3, hek3, hpk3⟩ := fr_aheadq (g := (upd g 20 ((g 20) ||| ((1 : Int32) <<< (7 &&& 31))))) (tp := tp) (bt := bt) (a := a) (b := b) (fm_gx_up (fm_gx_rf hxp hfl) (by decide)).2.1 (fm_gx_up (fm_gx_rf hxp hfl) (by decide)).2.2.1
    have gok3 := fm_gx_tr (fm_gx_up (fm_gx_rf hxp hfl) (by decide)) hok3
    have e18k3 : gk3 18 = g 18 := hek3.trans ((pk_un (by decide)).trans rfl)
    have prk3 : gk3 12 = 0 ∨ E < Ek3 := hpk3.imp id (fun z => by have := (fm_gx_rf hxp hfl).2.2.2; omega)
    refine fe_ivV hfrk3 (by omega) (by rfl) (by rfl) (by rfl) (by rfl) (by rfl) (by rfl) ?_
    refine fe_s 8 (pc' := 45) (lc' := [(0, .ref 0), (1, .int 7)]) (stk' := [.int 6, .int 7, .int ((3370 + 7) - 5), .ref 0]) (mem' := fm gk3 tp bt a b) (by intro _ _ _; eq_refl) ?_
    rw [show ((3370 + 7) - 5 : Int32) = 3372 from rfl]
    refine fe_s 1 (pc' := cond (fx_cb .ne 7 6) 52 48) (lc' := [(0, .ref 0), (1, .int 7)]) (stk' := [.int 3372, .ref 0]) (mem' := fm gk3 tp bt a b) (by intro _ _ _; eq_refl) ?_
    rw [show (fx_cb .ne 7 6) = true from by decide]
    dsimp only [cond]
    refine fe_s 2 (pc' := 55) (lc' := [(0, .ref 0), (1, .int 7)]) (stk' := [.int 20, .int 0, .int 3372, .ref 0]) (mem' := fm gk3 tp bt a b) (by intro _ _ _; eq_refl) ?_
    obtain ⟨xm4, gm4, Em4, Fm4, am4, hfrm4, hom4, hvm4⟩ := fr_numberq (T := 3372) (lo := 0) (hi := 20) (g := gk3) (tp := tp) (bt := bt) (a := a) (b := b) (by omega) gok3.2.1 gok3.2.2.1
    have gom4 := fm_gx_tr gok3 hom4
    refine fe_ivV hfrm4 (by omega) (by rfl) (by rfl) (by rfl) (by rfl) (by rfl) (by rfl) ?_
    rcases hvm4 with ⟨rfl, hzm4, ham4⟩ | ⟨rfl, hem4, hpm4, ym4, hlm4, hum4, ham4⟩
    · have hNm4 : fm_N a0 am4 NC NW := by rw [ham4]; exact hN
      exact fe_ret ⟨_, _, _, _, _, _, _, _, gom4, (fun _ _ => rfl), hNm4, Or.inl ⟨rfl, hzm4⟩, rfl⟩ (by rfl) (by rfl) (by rfl)
    · have e18m4 : gm4 18 = g 18 := hem4.trans e18k3
      have prm4 : gm4 12 = 0 ∨ E < Em4 := hpm4.imp id (fun z => by have := gok3.2.2.2; omega)
      have hNm4 : fm_N a0 am4 NC NW := by rw [ham4]; exact fm_N_u hN (by omega) (by omega) (fun c hc => by omega) (fm_bdI (show gm_at 3372 = (0, 20) from rfl) (by have z := Int32.le_iff_toInt_le.mp hlm4; rw [show ((0 : Int32).toInt) = 0 from rfl] at z; omega) (by have z := Int32.le_iff_toInt_le.mp hum4; rw [show ((20 : Int32).toInt) = 20 from rfl] at z; omega))
      have hWm4 : fm_NW am4 := by rw [ham4]; exact fm_NW_u hW (Or.inr (fun w hw => by omega))
      exact fe_ret ⟨_, _, _, _, _, _, _, _, gom4, (fun _ _ => rfl), hNm4, Or.inr ⟨rfl, e18m4, prm4, hWm4⟩, rfl⟩ (by rfl) (by rfl) (by rfl)
end F4825_walk
end MH1_0
section MH1_1
/-! ===== fx: the parts of a LAKE, whole ===== -/
section F483_part
variable {g : Nat → Int32} {tp bt : Int64} {a0 a : Nat → Nat → Int32} {b : Nat → Nat → Int64}
set_option maxHeartbeats 16000000 in
theorem fr_lakePart {S E F NC NW : Nat} (hxp : fm_xp g S E F) (hfl : fm_flt g) (hN : fm_N a0 a NC NW) (hW : fm_NW a) : ∃ (v : Option Value) (mem' : fx_M), (fm_GL a0 g tp bt b S E) (v, mem') ∧ fr_T 9 245 [.ref 0] (fm g tp bt a b) v mem' := by
  have hNC := hN.2.2.1.2.1
  have hNW := hN.2.2.1.2.2.2
  refine fe_meth (F := fm_GL a0 g tp bt b S E) (M := gk_m245) (by rfl) (by rfl) ?_
  refine fe_s 2 (pc' := 3) (lc' := [(0, .ref 0)]) (stk' := [.ref 22, .ref 0]) (mem' := fm g tp bt a b) (by intro _ _ _; eq_refl) ?_
  obtain ⟨vw1, memw1, ⟨xw1, hxw1, hRw1⟩, hfrw1⟩ := fr_inWords (g := g) (tp := tp) (bt := bt) (a := a) (b := b) (fm_gx_rf hxp hfl).2.1
  cases hRw1
  refine fe_ivV hfrw1 (by omega) (by rfl) (by rfl) (by rfl) (by rfl) (by rfl) (by rfl) ?_
  rcases fm_24 hxw1 with rfl | rfl | rfl | rfl | rfl | rfl | rfl | rfl | rfl | rfl | rfl | rfl | rfl | rfl | rfl | rfl | rfl | rfl | rfl | rfl | rfl | rfl | rfl | rfl | rfl
  · refine fe_s 1 (pc' := 125) (lc' := [(0, .ref 0)]) (stk' := []) (mem' := fm g tp bt a b) (by intro _ _ _; eq_refl) ?_
    refine fe_s 2 (pc' := 127) (lc' := [(0, .ref 0)]) (stk' := [.int 2, .ref 0]) (mem' := fm g tp bt a b) (by intro _ _ _; eq_refl) ?_
    obtain ⟨gf2, hfrf2, hof2, hzf2⟩ := fr_failsq (x := 2) (g := g) (tp := tp) (bt := bt) (a := a) (b := b) (by omega) (by omega) (fm_gx_rf hxp hfl).2.1 (fm_gx_rf hxp hfl).2.2.1
    have gof2 := fm_gx_tr (fm_gx_rf hxp hfl) hof2
    refine fe_ivV hfrf2 (by omega) (by rfl) (by rfl) (by rfl) (by rfl) (by rfl) (by rfl) ?_
    exact fe_ret ⟨_, _, _, _, _, _, _, _, gof2, (fun _ _ => rfl), hN, Or.inl ⟨rfl, hzf2⟩, rfl⟩ (by rfl) (by rfl) (by rfl)
  · refine fe_s 1 (pc' := 52) (lc' := [(0, .ref 0)]) (stk' := []) (mem' := fm g tp bt a b) (by intro _ _ _; eq_refl) ?_
    refine fe_s 2 (pc' := 54) (lc' := [(0, .ref 0)]) (stk' := [.int 0, .ref 0]) (mem' := fm g tp bt a b) (by intro _ _ _; eq_refl) ?_
    obtain ⟨vp3, memp3, ⟨xp3, gp3, Ep3, Fp3, ap3, bp3, NCp3, NWp3, hop3, hbp3, hNp3, hvp3, hRp3⟩, hfrp3⟩ := fr_aCell0 (g := g) (tp := tp) (bt := bt) (a := a) (b := b) (a0 := a0) (fm_gx_rf hxp hfl).2.1 (fm_gx_rf hxp hfl).2.2.1 hN hW
    cases hRp3
    have gop3 := fm_gx_tx (fm_gx_rf hxp hfl) hop3
    have bNp3 : ∀ t, t ≠ 2 → bp3 t = b t := fun t ht => (hbp3 t ht).trans ((fun _ _ => rfl) t ht)
    refine fe_ivV hfrp3 (by omega) (by rfl) (by rfl) (by rfl) (by rfl) (by rfl) (by rfl) ?_
    rcases hvp3 with ⟨rfl, hzp3⟩ | ⟨rfl, hep3, hpp3, hWp3⟩
    · refine fe_s 3 (pc' := 132) (lc' := [(1, .int 0), (0, .ref 0)]) (stk' := [.int 0]) (mem' := fm gp3 tp bt ap3 bp3) (by intro _ _ _; eq_refl) ?_
      refine fe_s 1 (pc' := cond (fx_cb .eq 0 0) 148 135) (lc' := [(1, .int 0), (0, .ref 0)]) (stk' := []) (mem' := fm gp3 tp bt ap3 bp3) (by intro _ _ _; eq_refl) ?_
      rw [show (fx_cb .eq 0 0) = true from by decide]
      dsimp only [cond]
      refine fe_s 1 (pc' := 149) (lc' := [(1, .int 0), (0, .ref 0)]) (stk' := [.int 0]) (mem' := fm gp3 tp bt ap3 bp3) (by intro _ _ _; eq_refl) ?_
      exact fe_ret ⟨_, _, _, _, _, _, _, _, gop3, bNp3, hNp3, Or.inl ⟨rfl, hzp3⟩, rfl⟩ (by rfl) (by rfl) (by rfl)
    · have e18p3 : gp3 18 = g 18 := hep3.trans rfl
      have prp3 : gp3 12 = 0 ∨ E < Ep3 := hpp3.imp id (fun z => by have := (fm_gx_rf hxp hfl).2.2.2; omega)
      refine fe_s 3 (pc' := 132) (lc' := [(1, .int 1), (0, .ref 0)]) (stk' := [.int 1]) (mem' := fm gp3 tp bt ap3 bp3) (by intro _ _ _; eq_refl) ?_
      refine fe_s 1 (pc' := cond (fx_cb .eq 1 0) 148 135) (lc' := [(1, .int 1), (0, .ref 0)]) (stk' := []) (mem' := fm gp3 tp bt ap3 bp3) (by intro _ _ _; eq_refl) ?_
      rw [show (fx_cb .eq 1 0) = false from by decide]
      dsimp only [cond]
      refine fe_s 2 (pc' := 138) (lc' := [(1, .int 1), (0, .ref 0)]) (stk' := [.int 59, .ref 0]) (mem' := fm gp3 tp bt ap3 bp3) (by intro _ _ _; eq_refl) ?_
      obtain ⟨xc4, gc4, Ec4, Fc4, hfrc4, hoc4, hvc4⟩ := fr_wantSignq (c := 59) (g := gp3) (tp := tp) (bt := bt) (a := ap3) (b := bp3) gop3.2.1 gop3.2.2.1
      have goc4 := fm_gx_tr gop3 hoc4
      refine fe_ivV hfrc4 (by omega) (by rfl) (by rfl) (by rfl) (by rfl) (by rfl) (by rfl) ?_
      rcases hvc4 with ⟨rfl, hzc4⟩ | ⟨rfl, hec4, hpc4⟩
      · refine fe_s 1 (pc' := cond (fx_cb .eq 0 0) 148 144) (lc' := [(1, .int 1), (0, .ref 0)]) (stk' := []) (mem' := fm gc4 tp bt ap3 bp3) (by intro _ _ _; eq_refl) ?_
        rw [show (fx_cb .eq 0 0) = true from by decide]
        dsimp only [cond]
        refine fe_s 1 (pc' := 149) (lc' := [(1, .int 1), (0, .ref 0)]) (stk' := [.int 0]) (mem' := fm gc4 tp bt ap3 bp3) (by intro _ _ _; eq_refl) ?_
        exact fe_ret ⟨_, _, _, _, _, _, _, _, goc4, bNp3, hNp3, Or.inl ⟨rfl, hzc4⟩, rfl⟩ (by rfl) (by rfl) (by rfl)
      · have e18c4 : gc4 18 = g 18 := hec4.trans e18p3
        have prc4 : gc4 12 = 0 ∨ E < Ec4 := hpc4.imp id (fun z => by have := gop3.2.2.2; omega)
        refine fe_s 1 (pc' := cond (fx_cb .eq 1 0) 148 144) (lc' := [(1, .int 1), (0, .ref 0)]) (stk' := []) (mem' := fm gc4 tp bt ap3 bp3) (by intro _ _ _; eq_refl) ?_
        rw [show (fx_cb .eq 1 0) = false from by decide]
        dsimp only [cond]
        refine fe_s 2 (pc' := 149) (lc' := [(1, .int 1), (0, .ref 0)]) (stk' := [.int 1]) (mem' := fm gc4 tp bt ap3 bp3) (by intro _ _ _; eq_refl) ?_
        exact fe_ret ⟨_, _, _, _, _, _, _, _, goc4, bNp3, hNp3, Or.inr ⟨rfl, e18c4, prc4, hWp3⟩, rfl⟩ (by rfl) (by rfl) (by rfl)
  · refine fe_s 1 (pc' := 61) (lc' := [(0, .ref 0)]) (stk' := []) (mem' := fm g tp bt a b) (by intro _ _ _; eq_refl) ?_
    refine fe_s 2 (pc' := 63) (lc' := [(0, .ref 0)]) (stk' := [.int 1, .ref 0]) (mem' := fm g tp bt a b) (by intro _ _ _; eq_refl) ?_
    obtain ⟨vp5, memp5, ⟨xp5, gp5, Ep5, Fp5, ap5, bp5, NCp5, NWp5, hop5, hbp5, hNp5, hvp5, hRp5⟩, hfrp5⟩ := fr_aCell1 (g := g) (tp := tp) (bt := bt) (a := a) (b := b) (a0 := a0) (fm_gx_rf hxp hfl).2.1 (fm_gx_rf hxp hfl).2.2.1 hN hW
    cases hRp5
    have gop5 := fm_gx_tx (fm_gx_rf hxp hfl) hop5
    have bNp5 : ∀ t, t ≠ 2 → bp5 t = b t := fun t ht => (hbp5 t ht).trans ((fun _ _ => rfl) t ht)
    refine fe_ivV hfrp5 (by omega) (by rfl) (by rfl) (by rfl) (by rfl) (by rfl) (by rfl) ?_
    rcases hvp5 with ⟨rfl, hzp5⟩ | ⟨rfl, hep5, hpp5, hWp5⟩
    · refine fe_s 3 (pc' := 132) (lc' := [(1, .int 0), (0, .ref 0)]) (stk' := [.int 0]) (mem' := fm gp5 tp bt ap5 bp5) (by intro _ _ _; eq_refl) ?_
      refine fe_s 1 (pc' := cond (fx_cb .eq 0 0) 148 135) (lc' := [(1, .int 0), (0, .ref 0)]) (stk' := []) (mem' := fm gp5 tp bt ap5 bp5) (by intro _ _ _; eq_refl) ?_
      rw [show (fx_cb .eq 0 0) = true from by decide]
      dsimp only [cond]
      refine fe_s 1 (pc' := 149) (lc' := [(1, .int 0), (0, .ref 0)]) (stk' := [.int 0]) (mem' := fm gp5 tp bt ap5 bp5) (by intro _ _ _; eq_refl) ?_
      exact fe_ret ⟨_, _, _, _, _, _, _, _, gop5, bNp5, hNp5, Or.inl ⟨rfl, hzp5⟩, rfl⟩ (by rfl) (by rfl) (by rfl)
    · have e18p5 : gp5 18 = g 18 := hep5.trans rfl
      have prp5 : gp5 12 = 0 ∨ E < Ep5 := hpp5.imp id (fun z => by have := (fm_gx_rf hxp hfl).2.2.2; omega)
      refine fe_s 3 (pc' := 132) (lc' := [(1, .int 1), (0, .ref 0)]) (stk' := [.int 1]) (mem' := fm gp5 tp bt ap5 bp5) (by intro _ _ _; eq_refl) ?_
      refine fe_s 1 (pc' := cond (fx_cb .eq 1 0) 148 135) (lc' := [(1, .int 1), (0, .ref 0)]) (stk' := []) (mem' := fm gp5 tp bt ap5 bp5) (by intro _ _ _; eq_refl) ?_
      rw [show (fx_cb .eq 1 0) = false from by decide]
      dsimp only [cond]
      refine fe_s 2 (pc' := 138) (lc' := [(1, .int 1), (0, .ref 0)]) (stk' := [.int 59, .ref 0]) (mem' := fm gp5 tp bt ap5 bp5) (by intro _ _ _; eq_refl) ?_
      obtain ⟨xc6, gc6, Ec6, Fc6, hfrc6, hoc6, hvc6⟩ := fr_wantSignq (c := 59) (g := gp5) (tp := tp) (bt := bt) (a := ap5) (b := bp5) gop5.2.1 gop5.2.2.1
      have goc6 := fm_gx_tr gop5 hoc6
      refine fe_ivV hfrc6 (by omega) (by rfl) (by rfl) (by rfl) (by rfl) (by rfl) (by rfl) ?_
      rcases hvc6 with ⟨rfl, hzc6⟩ | ⟨rfl, hec6, hpc6⟩
      · refine fe_s 1 (pc' := cond (fx_cb .eq 0 0) 148 144) (lc' := [(1, .int 1), (0, .ref 0)]) (stk' := []) (mem' := fm gc6 tp bt ap5 bp5) (by intro _ _ _; eq_refl) ?_
        rw [show (fx_cb .eq 0 0) = true from by decide]
        dsimp only [cond]
        refine fe_s 1 (pc' := 149) (lc' := [(1, .int 1), (0, .ref 0)]) (stk' := [.int 0]) (mem' := fm gc6 tp bt ap5 bp5) (by intro _ _ _; eq_refl) ?_
        exact fe_ret ⟨_, _, _, _, _, _, _, _, goc6, bNp5, hNp5, Or.inl ⟨rfl, hzc6⟩, rfl⟩ (by rfl) (by rfl) (by rfl)
      · have e18c6 : gc6 18 = g 18 := hec6.trans e18p5
        have prc6 : gc6 12 = 0 ∨ E < Ec6 := hpc6.imp id (fun z => by have := gop5.2.2.2; omega)
        refine fe_s 1 (pc' := cond (fx_cb .eq 1 0) 148 144) (lc' := [(1, .int 1), (0, .ref 0)]) (stk' := []) (mem' := fm gc6 tp bt ap5 bp5) (by intro _ _ _; eq_refl) ?_
        rw [show (fx_cb .eq 1 0) = false from by decide]
        dsimp only [cond]
        refine fe_s 2 (pc' := 149) (lc' := [(1, .int 1), (0, .ref 0)]) (stk' := [.int 1]) (mem' := fm gc6 tp bt ap5 bp5) (by intro _ _ _; eq_refl) ?_
        exact fe_ret ⟨_, _, _, _, _, _, _, _, goc6, bNp5, hNp5, Or.inr ⟨rfl, e18c6, prc6, hWp5⟩, rfl⟩ (by rfl) (by rfl) (by rfl)
  · refine fe_s 1 (pc' := 70) (lc' := [(0, .ref 0)]) (stk' := []) (mem' := fm g tp bt a b) (by intro _ _ _; eq_refl) ?_
    refine fe_s 2 (pc' := 72) (lc' := [(0, .ref 0)]) (stk' := [.int 2, .ref 0]) (mem' := fm g tp bt a b) (by intro _ _ _; eq_refl) ?_
    obtain ⟨vp7, memp7, ⟨xp7, gp7, Ep7, Fp7, ap7, bp7, NCp7, NWp7, hop7, hbp7, hNp7, hvp7, hRp7⟩, hfrp7⟩ := fr_aCouple2 (g := g) (tp := tp) (bt := bt) (a := a) (b := b) (a0 := a0) (fm_gx_rf hxp hfl).2.1 (fm_gx_rf hxp hfl).2.2.1 hN hW
    cases hRp7
    have gop7 := fm_gx_tx (fm_gx_rf hxp hfl) hop7
    have bNp7 : ∀ t, t ≠ 2 → bp7 t = b t := fun t ht => (hbp7 t ht).trans ((fun _ _ => rfl) t ht)
    refine fe_ivV hfrp7 (by omega) (by rfl) (by rfl) (by rfl) (by rfl) (by rfl) (by rfl) ?_
    rcases hvp7 with ⟨rfl, hzp7⟩ | ⟨rfl, hep7, hpp7, hWp7⟩
    · refine fe_s 3 (pc' := 132) (lc' := [(1, .int 0), (0, .ref 0)]) (stk' := [.int 0]) (mem' := fm gp7 tp bt ap7 bp7) (by intro _ _ _; eq_refl) ?_
      refine fe_s 1 (pc' := cond (fx_cb .eq 0 0) 148 135) (lc' := [(1, .int 0), (0, .ref 0)]) (stk' := []) (mem' := fm gp7 tp bt ap7 bp7) (by intro _ _ _; eq_refl) ?_
      rw [show (fx_cb .eq 0 0) = true from by decide]
      dsimp only [cond]
      refine fe_s 1 (pc' := 149) (lc' := [(1, .int 0), (0, .ref 0)]) (stk' := [.int 0]) (mem' := fm gp7 tp bt ap7 bp7) (by intro _ _ _; eq_refl) ?_
      exact fe_ret ⟨_, _, _, _, _, _, _, _, gop7, bNp7, hNp7, Or.inl ⟨rfl, hzp7⟩, rfl⟩ (by rfl) (by rfl) (by rfl)
    · have e18p7 : gp7 18 = g 18 := hep7.trans rfl
      have prp7 : gp7 12 = 0 ∨ E < Ep7 := hpp7.imp id (fun z => by have := (fm_gx_rf hxp hfl).2.2.2; omega)
      refine fe_s 3 (pc' := 132) (lc' := [(1, .int 1), (0, .ref 0)]) (stk' := [.int 1]) (mem' := fm gp7 tp bt ap7 bp7) (by intro _ _ _; eq_refl) ?_
      refine fe_s 1 (pc' := cond (fx_cb .eq 1 0) 148 135) (lc' := [(1, .int 1), (0, .ref 0)]) (stk' := []) (mem' := fm gp7 tp bt ap7 bp7) (by intro _ _ _; eq_refl) ?_
      rw [show (fx_cb .eq 1 0) = false from by decide]
      dsimp only [cond]
      refine fe_s 2 (pc' := 138) (lc' := [(1, .int 1), (0, .ref 0)]) (stk' := [.int 59, .ref 0]) (mem' := fm gp7 tp bt ap7 bp7) (by intro _ _ _; eq_refl) ?_
      obtain ⟨xc8, gc8, Ec8, Fc8, hfrc8, hoc8, hvc8⟩ := fr_wantSignq (c := 59) (g := gp7) (tp := tp) (bt := bt) (a := ap7) (b := bp7) gop7.2.1 gop7.2.2.1
      have goc8 := fm_gx_tr gop7 hoc8
      refine fe_ivV hfrc8 (by omega) (by rfl) (by rfl) (by rfl) (by rfl) (by rfl) (by rfl) ?_
      rcases hvc8 with ⟨rfl, hzc8⟩ | ⟨rfl, hec8, hpc8⟩
      · refine fe_s 1 (pc' := cond (fx_cb .eq 0 0) 148 144) (lc' := [(1, .int 1), (0, .ref 0)]) (stk' := []) (mem' := fm gc8 tp bt ap7 bp7) (by intro _ _ _; eq_refl) ?_
        rw [show (fx_cb .eq 0 0) = true from by decide]
        dsimp only [cond]
        refine fe_s 1 (pc' := 149) (lc' := [(1, .int 1), (0, .ref 0)]) (stk' := [.int 0]) (mem' := fm gc8 tp bt ap7 bp7) (by intro _ _ _; eq_refl) ?_
        exact fe_ret ⟨_, _, _, _, _, _, _, _, goc8, bNp7, hNp7, Or.inl ⟨rfl, hzc8⟩, rfl⟩ (by rfl) (by rfl) (by rfl)
      · have e18c8 : gc8 18 = g 18 := hec8.trans e18p7
        have prc8 : gc8 12 = 0 ∨ E < Ec8 := hpc8.imp id (fun z => by have := gop7.2.2.2; omega)
        refine fe_s 1 (pc' := cond (fx_cb .eq 1 0) 148 144) (lc' := [(1, .int 1), (0, .ref 0)]) (stk' := []) (mem' := fm gc8 tp bt ap7 bp7) (by intro _ _ _; eq_refl) ?_
        rw [show (fx_cb .eq 1 0) = false from by decide]
        dsimp only [cond]
        refine fe_s 2 (pc' := 149) (lc' := [(1, .int 1), (0, .ref 0)]) (stk' := [.int 1]) (mem' := fm gc8 tp bt ap7 bp7) (by intro _ _ _; eq_refl) ?_
        exact fe_ret ⟨_, _, _, _, _, _, _, _, goc8, bNp7, hNp7, Or.inr ⟨rfl, e18c8, prc8, hWp7⟩, rfl⟩ (by rfl) (by rfl) (by rfl)
  · refine fe_s 1 (pc' := 79) (lc' := [(0, .ref 0)]) (stk' := []) (mem' := fm g tp bt a b) (by intro _ _ _; eq_refl) ?_
    refine fe_s 2 (pc' := 81) (lc' := [(0, .ref 0)]) (stk' := [.int 3, .ref 0]) (mem' := fm g tp bt a b) (by intro _ _ _; eq_refl) ?_
    obtain ⟨vp9, memp9, ⟨xp9, gp9, Ep9, Fp9, ap9, bp9, NCp9, NWp9, hop9, hbp9, hNp9, hvp9, hRp9⟩, hfrp9⟩ := fr_aCouple3 (g := g) (tp := tp) (bt := bt) (a := a) (b := b) (a0 := a0) (fm_gx_rf hxp hfl).2.1 (fm_gx_rf hxp hfl).2.2.1 hN hW
    cases hRp9
    have gop9 := fm_gx_tx (fm_gx_rf hxp hfl) hop9
    have bNp9 : ∀ t, t ≠ 2 → bp9 t = b t := fun t ht => (hbp9 t ht).trans ((fun _ _ => rfl) t ht)
    refine fe_ivV hfrp9 (by omega) (by rfl) (by rfl) (by rfl) (by rfl) (by rfl) (by rfl) ?_
    rcases hvp9 with ⟨rfl, hzp9⟩ | ⟨rfl, hep9, hpp9, hWp9⟩
    · refine fe_s 3 (pc' := 132) (lc' := [(1, .int 0), (0, .ref 0)]) (stk' := [.int 0]) (mem' := fm gp9 tp bt ap9 bp9) (by intro _ _ _; eq_refl) ?_
      refine fe_s 1 (pc' := cond (fx_cb .eq 0 0) 148 135) (lc' := [(1, .int 0), (0, .ref 0)]) (stk' := []) (mem' := fm gp9 tp bt ap9 bp9) (by intro _ _ _; eq_refl) ?_
      rw [show (fx_cb .eq 0 0) = true from by decide]
      dsimp only [cond]
      refine fe_s 1 (pc' := 149) (lc' := [(1, .int 0), (0, .ref 0)]) (stk' := [.int 0]) (mem' := fm gp9 tp bt ap9 bp9) (by intro _ _ _; eq_refl) ?_
      exact fe_ret ⟨_, _, _, _, _, _, _, _, gop9, bNp9, hNp9, Or.inl ⟨rfl, hzp9⟩, rfl⟩ (by rfl) (by rfl) (by rfl)
    · have e18p9 : gp9 18 = g 18 := hep9.trans rfl
      have prp9 : gp9 12 = 0 ∨ E < Ep9 := hpp9.imp id (fun z => by have := (fm_gx_rf hxp hfl).2.2.2; omega)
      refine fe_s 3 (pc' := 132) (lc' := [(1, .int 1), (0, .ref 0)]) (stk' := [.int 1]) (mem' := fm gp9 tp bt ap9 bp9) (by intro _ _ _; eq_refl) ?_
      refine fe_s 1 (pc' := cond (fx_cb .eq 1 0) 148 135) (lc' := [(1, .int 1), (0, .ref 0)]) (stk' := []) (mem' := fm gp9 tp bt ap9 bp9) (by intro _ _ _; eq_refl) ?_
      rw [show (fx_cb .eq 1 0) = false from by decide]
      dsimp only [cond]
      refine fe_s 2 (pc' := 138) (lc' := [(1, .int 1), (0, .ref 0)]) (stk' := [.int 59, .ref 0]) (mem' := fm gp9 tp bt ap9 bp9) (by intro _ _ _; eq_refl) ?_
      obtain ⟨xc10, gc10, Ec10, Fc10, hfrc10, hoc10, hvc10⟩ := fr_wantSignq (c := 59) (g := gp9) (tp := tp) (bt := bt) (a := ap9) (b := bp9) gop9.2.1 gop9.2.2.1
      have goc10 := fm_gx_tr gop9 hoc10
      refine fe_ivV hfrc10 (by omega) (by rfl) (by rfl) (by rfl) (by rfl) (by rfl) (by rfl) ?_
      rcases hvc10 with ⟨rfl, hzc10⟩ | ⟨rfl, hec10, hpc10⟩
      · refine fe_s 1 (pc' := cond (fx_cb .eq 0 0) 148 144) (lc' := [(1, .int 1), (0, .ref 0)]) (stk' := []) (mem' := fm gc10 tp bt ap9 bp9) (by intro _ _ _; eq_refl) ?_
        rw [show (fx_cb .eq 0 0) = true from by decide]
        dsimp only [cond]
        refine fe_s 1 (pc' := 149) (lc' := [(1, .int 1), (0, .ref 0)]) (stk' := [.int 0]) (mem' := fm gc10 tp bt ap9 bp9) (by intro _ _ _; eq_refl) ?_
        exact fe_ret ⟨_, _, _, _, _, _, _, _, goc10, bNp9, hNp9, Or.inl ⟨rfl, hzc10⟩, rfl⟩ (by rfl) (by rfl) (by rfl)
      · have e18c10 : gc10 18 = g 18 := hec10.trans e18p9
        have prc10 : gc10 12 = 0 ∨ E < Ec10 := hpc10.imp id (fun z => by have := gop9.2.2.2; omega)
        refine fe_s 1 (pc' := cond (fx_cb .eq 1 0) 148 144) (lc' := [(1, .int 1), (0, .ref 0)]) (stk' := []) (mem' := fm gc10 tp bt ap9 bp9) (by intro _ _ _; eq_refl) ?_
        rw [show (fx_cb .eq 1 0) = false from by decide]
        dsimp only [cond]
        refine fe_s 2 (pc' := 149) (lc' := [(1, .int 1), (0, .ref 0)]) (stk' := [.int 1]) (mem' := fm gc10 tp bt ap9 bp9) (by intro _ _ _; eq_refl) ?_
        exact fe_ret ⟨_, _, _, _, _, _, _, _, goc10, bNp9, hNp9, Or.inr ⟨rfl, e18c10, prc10, hWp9⟩, rfl⟩ (by rfl) (by rfl) (by rfl)
  · refine fe_s 1 (pc' := 88) (lc' := [(0, .ref 0)]) (stk' := []) (mem' := fm g tp bt a b) (by intro _ _ _; eq_refl) ?_
    refine fe_s 1 (pc' := 89) (lc' := [(0, .ref 0)]) (stk' := [.ref 0]) (mem' := fm g tp bt a b) (by intro _ _ _; eq_refl) ?_
    obtain ⟨vp11, memp11, ⟨xp11, gp11, Ep11, Fp11, ap11, bp11, NCp11, NWp11, hop11, hbp11, hNp11, hvp11, hRp11⟩, hfrp11⟩ := fr_aWalker (g := g) (tp := tp) (bt := bt) (a := a) (b := b) (a0 := a0) (fm_gx_rf hxp hfl).2.1 (fm_gx_rf hxp hfl).2.2.1 hN hW
    cases hRp11
    have gop11 := fm_gx_tx (fm_gx_rf hxp hfl) hop11
    have bNp11 : ∀ t, t ≠ 2 → bp11 t = b t := fun t ht => (hbp11 t ht).trans ((fun _ _ => rfl) t ht)
    refine fe_ivV hfrp11 (by omega) (by rfl) (by rfl) (by rfl) (by rfl) (by rfl) (by rfl) ?_
    rcases hvp11 with ⟨rfl, hzp11⟩ | ⟨rfl, hep11, hpp11, hWp11⟩
    · refine fe_s 3 (pc' := 132) (lc' := [(1, .int 0), (0, .ref 0)]) (stk' := [.int 0]) (mem' := fm gp11 tp bt ap11 bp11) (by intro _ _ _; eq_refl) ?_
      refine fe_s 1 (pc' := cond (fx_cb .eq 0 0) 148 135) (lc' := [(1, .int 0), (0, .ref 0)]) (stk' := []) (mem' := fm gp11 tp bt ap11 bp11) (by intro _ _ _; eq_refl) ?_
      rw [show (fx_cb .eq 0 0) = true from by decide]
      dsimp only [cond]
      refine fe_s 1 (pc' := 149) (lc' := [(1, .int 0), (0, .ref 0)]) (stk' := [.int 0]) (mem' := fm gp11 tp bt ap11 bp11) (by intro _ _ _; eq_refl) ?_
      exact fe_ret ⟨_, _, _, _, _, _, _, _, gop11, bNp11, hNp11, Or.inl ⟨rfl, hzp11⟩, rfl⟩ (by rfl) (by rfl) (by rfl)
    · have e18p11 : gp11 18 = g 18 := hep11.trans rfl
      have prp11 : gp11 12 = 0 ∨ E < Ep11 := hpp11.imp id (fun z => by have := (fm_gx_rf hxp hfl).2.2.2; omega)
      refine fe_s 3 (pc' := 132) (lc' := [(1, .int 1), (0, .ref 0)]) (stk' := [.int 1]) (mem' := fm gp11 tp bt ap11 bp11) (by intro _ _ _; eq_refl) ?_
      refine fe_s 1 (pc' := cond (fx_cb .eq 1 0) 148 135) (lc' := [(1, .int 1), (0, .ref 0)]) (stk' := []) (mem' := fm gp11 tp bt ap11 bp11) (by intro _ _ _; eq_refl) ?_
      rw [show (fx_cb .eq 1 0) = false from by decide]
      dsimp only [cond]
      refine fe_s 2 (pc' := 138) (lc' := [(1, .int 1), (0, .ref 0)]) (stk' := [.int 59, .ref 0]) (mem' := fm gp11 tp bt ap11 bp11) (by intro _ _ _; eq_refl) ?_
      obtain ⟨xc12, gc12, Ec12, Fc12, hfrc12, hoc12, hvc12⟩ := fr_wantSignq (c := 59) (g := gp11) (tp := tp) (bt := bt) (a := ap11) (b := bp11) gop11.2.1 gop11.2.2.1
      have goc12 := fm_gx_tr gop11 hoc12
      refine fe_ivV hfrc12 (by omega) (by rfl) (by rfl) (by rfl) (by rfl) (by rfl) (by rfl) ?_
      rcases hvc12 with ⟨rfl, hzc12⟩ | ⟨rfl, hec12, hpc12⟩
      · refine fe_s 1 (pc' := cond (fx_cb .eq 0 0) 148 144) (lc' := [(1, .int 1), (0, .ref 0)]) (stk' := []) (mem' := fm gc12 tp bt ap11 bp11) (by intro _ _ _; eq_refl) ?_
        rw [show (fx_cb .eq 0 0) = true from by decide]
        dsimp only [cond]
        refine fe_s 1 (pc' := 149) (lc' := [(1, .int 1), (0, .ref 0)]) (stk' := [.int 0]) (mem' := fm gc12 tp bt ap11 bp11) (by intro _ _ _; eq_refl) ?_
        exact fe_ret ⟨_, _, _, _, _, _, _, _, goc12, bNp11, hNp11, Or.inl ⟨rfl, hzc12⟩, rfl⟩ (by rfl) (by rfl) (by rfl)
      · have e18c12 : gc12 18 = g 18 := hec12.trans e18p11
        have prc12 : gc12 12 = 0 ∨ E < Ec12 := hpc12.imp id (fun z => by have := gop11.2.2.2; omega)
        refine fe_s 1 (pc' := cond (fx_cb .eq 1 0) 148 144) (lc' := [(1, .int 1), (0, .ref 0)]) (stk' := []) (mem' := fm gc12 tp bt ap11 bp11) (by intro _ _ _; eq_refl) ?_
        rw [show (fx_cb .eq 1 0) = false from by decide]
        dsimp only [cond]
        refine fe_s 2 (pc' := 149) (lc' := [(1, .int 1), (0, .ref 0)]) (stk' := [.int 1]) (mem' := fm gc12 tp bt ap11 bp11) (by intro _ _ _; eq_refl) ?_
        exact fe_ret ⟨_, _, _, _, _, _, _, _, goc12, bNp11, hNp11, Or.inr ⟨rfl, e18c12, prc12, hWp11⟩, rfl⟩ (by rfl) (by rfl) (by rfl)
  · refine fe_s 1 (pc' := 96) (lc' := [(0, .ref 0)]) (stk' := []) (mem' := fm g tp bt a b) (by intro _ _ _; eq_refl) ?_
    refine fe_s 2 (pc' := 98) (lc' := [(0, .ref 0)]) (stk' := [.int 5, .ref 0]) (mem' := fm g tp bt a b) (by intro _ _ _; eq_refl) ?_
    obtain ⟨vp13, memp13, ⟨xp13, gp13, Ep13, Fp13, ap13, bp13, NCp13, NWp13, hop13, hbp13, hNp13, hvp13, hRp13⟩, hfrp13⟩ := fr_once5 (g := g) (tp := tp) (bt := bt) (a := a) (b := b) (a0 := a0) (fm_gx_rf hxp hfl).2.1 (fm_gx_rf hxp hfl).2.2.1 hN hW
    cases hRp13
    have gop13 := fm_gx_tx (fm_gx_rf hxp hfl) hop13
    have bNp13 : ∀ t, t ≠ 2 → bp13 t = b t := fun t ht => (hbp13 t ht).trans ((fun _ _ => rfl) t ht)
    refine fe_ivV hfrp13 (by omega) (by rfl) (by rfl) (by rfl) (by rfl) (by rfl) (by rfl) ?_
    rcases hvp13 with ⟨rfl, hzp13⟩ | ⟨rfl, hep13, hpp13, hWp13⟩
    · refine fe_s 3 (pc' := 132) (lc' := [(1, .int 0), (0, .ref 0)]) (stk' := [.int 0]) (mem' := fm gp13 tp bt ap13 bp13) (by intro _ _ _; eq_refl) ?_
      refine fe_s 1 (pc' := cond (fx_cb .eq 0 0) 148 135) (lc' := [(1, .int 0), (0, .ref 0)]) (stk' := []) (mem' := fm gp13 tp bt ap13 bp13) (by intro _ _ _; eq_refl) ?_
      rw [show (fx_cb .eq 0 0) = true from by decide]
      dsimp only [cond]
      refine fe_s 1 (pc' := 149) (lc' := [(1, .int 0), (0, .ref 0)]) (stk' := [.int 0]) (mem' := fm gp13 tp bt ap13 bp13) (by intro _ _ _; eq_refl) ?_
      exact fe_ret ⟨_, _, _, _, _, _, _, _, gop13, bNp13, hNp13, Or.inl ⟨rfl, hzp13⟩, rfl⟩ (by rfl) (by rfl) (by rfl)
    · have e18p13 : gp13 18 = g 18 := hep13.trans rfl
      have prp13 : gp13 12 = 0 ∨ E < Ep13 := hpp13.imp id (fun z => by have := (fm_gx_rf hxp hfl).2.2.2; omega)
      refine fe_s 3 (pc' := 132) (lc' := [(1, .int 1), (0, .ref 0)]) (stk' := [.int 1]) (mem' := fm gp13 tp bt ap13 bp13) (by intro _ _ _; eq_refl) ?_
      refine fe_s 1 (pc' := cond (fx_cb .eq 1 0) 148 135) (lc' := [(1, .int 1), (0, .ref 0)]) (stk' := []) (mem' := fm gp13 tp bt ap13 bp13) (by intro _ _ _; eq_refl) ?_
      rw [show (fx_cb .eq 1 0) = false from by decide]
      dsimp only [cond]
      refine fe_s 2 (pc' := 138) (lc' := [(1, .int 1), (0, .ref 0)]) (stk' := [.int 59, .ref 0]) (mem' := fm gp13 tp bt ap13 bp13) (by intro _ _ _; eq_refl) ?_
      obtain ⟨xc14, gc14, Ec14, Fc14, hfrc14, hoc14, hvc14⟩ := fr_wantSignq (c := 59) (g := gp13) (tp := tp) (bt := bt) (a := ap13) (b := bp13) gop13.2.1 gop13.2.2.1
      have goc14 := fm_gx_tr gop13 hoc14
      refine fe_ivV hfrc14 (by omega) (by rfl) (by rfl) (by rfl) (by rfl) (by rfl) (by rfl) ?_
      rcases hvc14 with ⟨rfl, hzc14⟩ | ⟨rfl, hec14, hpc14⟩
      · refine fe_s 1 (pc' := cond (fx_cb .eq 0 0) 148 144) (lc' := [(1, .int 1), (0, .ref 0)]) (stk' := []) (mem' := fm gc14 tp bt ap13 bp13) (by intro _ _ _; eq_refl) ?_
        rw [show (fx_cb .eq 0 0) = true from by decide]
        dsimp only [cond]
        refine fe_s 1 (pc' := 149) (lc' := [(1, .int 1), (0, .ref 0)]) (stk' := [.int 0]) (mem' := fm gc14 tp bt ap13 bp13) (by intro _ _ _; eq_refl) ?_
        exact fe_ret ⟨_, _, _, _, _, _, _, _, goc14, bNp13, hNp13, Or.inl ⟨rfl, hzc14⟩, rfl⟩ (by rfl) (by rfl) (by rfl)
      · have e18c14 : gc14 18 = g 18 := hec14.trans e18p13
        have prc14 : gc14 12 = 0 ∨ E < Ec14 := hpc14.imp id (fun z => by have := gop13.2.2.2; omega)
        refine fe_s 1 (pc' := cond (fx_cb .eq 1 0) 148 144) (lc' := [(1, .int 1), (0, .ref 0)]) (stk' := []) (mem' := fm gc14 tp bt ap13 bp13) (by intro _ _ _; eq_refl) ?_
        rw [show (fx_cb .eq 1 0) = false from by decide]
        dsimp only [cond]
        refine fe_s 2 (pc' := 149) (lc' := [(1, .int 1), (0, .ref 0)]) (stk' := [.int 1]) (mem' := fm gc14 tp bt ap13 bp13) (by intro _ _ _; eq_refl) ?_
        exact fe_ret ⟨_, _, _, _, _, _, _, _, goc14, bNp13, hNp13, Or.inr ⟨rfl, e18c14, prc14, hWp13⟩, rfl⟩ (by rfl) (by rfl) (by rfl)
  · refine fe_s 1 (pc' := 105) (lc' := [(0, .ref 0)]) (stk' := []) (mem' := fm g tp bt a b) (by intro _ _ _; eq_refl) ?_
    refine fe_s 2 (pc' := 108) (lc' := [(0, .ref 0)]) (stk' := [.int 6, .ref 0]) (mem' := fm g tp bt a b) (by intro _ _ _; eq_refl) ?_
    obtain ⟨vp15, memp15, ⟨xp15, gp15, Ep15, Fp15, ap15, bp15, NCp15, NWp15, hop15, hbp15, hNp15, hvp15, hRp15⟩, hfrp15⟩ := fr_once6 (g := g) (tp := tp) (bt := bt) (a := a) (b := b) (a0 := a0) (fm_gx_rf hxp hfl).2.1 (fm_gx_rf hxp hfl).2.2.1 hN hW
    cases hRp15
    have gop15 := fm_gx_tx (fm_gx_rf hxp hfl) hop15
    have bNp15 : ∀ t, t ≠ 2 → bp15 t = b t := fun t ht => (hbp15 t ht).trans ((fun _ _ => rfl) t ht)
    refine fe_ivV hfrp15 (by omega) (by rfl) (by rfl) (by rfl) (by rfl) (by rfl) (by rfl) ?_
    rcases hvp15 with ⟨rfl, hzp15⟩ | ⟨rfl, hep15, hpp15, hWp15⟩
    · refine fe_s 3 (pc' := 132) (lc' := [(1, .int 0), (0, .ref 0)]) (stk' := [.int 0]) (mem' := fm gp15 tp bt ap15 bp15) (by intro _ _ _; eq_refl) ?_
      refine fe_s 1 (pc' := cond (fx_cb .eq 0 0) 148 135) (lc' := [(1, .int 0), (0, .ref 0)]) (stk' := []) (mem' := fm gp15 tp bt ap15 bp15) (by intro _ _ _; eq_refl) ?_
      rw [show (fx_cb .eq 0 0) = true from by decide]
      dsimp only [cond]
      refine fe_s 1 (pc' := 149) (lc' := [(1, .int 0), (0, .ref 0)]) (stk' := [.int 0]) (mem' := fm gp15 tp bt ap15 bp15) (by intro _ _ _; eq_refl) ?_
      exact fe_ret ⟨_, _, _, _, _, _, _, _, gop15, bNp15, hNp15, Or.inl ⟨rfl, hzp15⟩, rfl⟩ (by rfl) (by rfl) (by rfl)
    · have e18p15 : gp15 18 = g 18 := hep15.trans rfl
      have prp15 : gp15 12 = 0 ∨ E < Ep15 := hpp15.imp id (fun z => by have := (fm_gx_rf hxp hfl).2.2.2; omega)
      refine fe_s 3 (pc' := 132) (lc' := [(1, .int 1), (0, .ref 0)]) (stk' := [.int 1]) (mem' := fm gp15 tp bt ap15 bp15) (by intro _ _ _; eq_refl) ?_
      refine fe_s 1 (pc' := cond (fx_cb .eq 1 0) 148 135) (lc' := [(1, .int 1), (0, .ref 0)]) (stk' := []) (mem' := fm gp15 tp bt ap15 bp15) (by intro _ _ _; eq_refl) ?_
      rw [show (fx_cb .eq 1 0) = false from by decide]
      dsimp only [cond]
      refine fe_s 2 (pc' := 138) (lc' := [(1, .int 1), (0, .ref 0)]) (stk' := [.int 59, .ref 0]) (mem' := fm gp15 tp bt ap15 bp15) (by intro _ _ _; eq_refl) ?_
      obtain ⟨xc16, gc16, Ec16, Fc16, hfrc16, hoc16, hvc16⟩ := fr_wantSignq (c := 59) (g := gp15) (tp := tp) (bt := bt) (a := ap15) (b := bp15) gop15.2.1 gop15.2.2.1
      have goc16 := fm_gx_tr gop15 hoc16
      refine fe_ivV hfrc16 (by omega) (by rfl) (by rfl) (by rfl) (by rfl) (by rfl) (by rfl) ?_
      rcases hvc16 with ⟨rfl, hzc16⟩ | ⟨rfl, hec16, hpc16⟩
      · refine fe_s 1 (pc' := cond (fx_cb .eq 0 0) 148 144) (lc' := [(1, .int 1), (0, .ref 0)]) (stk' := []) (mem' := fm gc16 tp bt ap15 bp15) (by intro _ _ _; eq_refl) ?_
        rw [show (fx_cb .eq 0 0) = true from by decide]
        dsimp only [cond]
        refine fe_s 1 (pc' := 149) (lc' := [(1, .int 1), (0, .ref 0)]) (stk' := [.int 0]) (mem' := fm gc16 tp bt ap15 bp15) (by intro _ _ _; eq_refl) ?_
        exact fe_ret ⟨_, _, _, _, _, _, _, _, goc16, bNp15, hNp15, Or.inl ⟨rfl, hzc16⟩, rfl⟩ (by rfl) (by rfl) (by rfl)
      · have e18c16 : gc16 18 = g 18 := hec16.trans e18p15
        have prc16 : gc16 12 = 0 ∨ E < Ec16 := hpc16.imp id (fun z => by have := gop15.2.2.2; omega)
        refine fe_s 1 (pc' := cond (fx_cb .eq 1 0) 148 144) (lc' := [(1, .int 1), (0, .ref 0)]) (stk' := []) (mem' := fm gc16 tp bt ap15 bp15) (by intro _ _ _; eq_refl) ?_
        rw [show (fx_cb .eq 1 0) = false from by decide]
        dsimp only [cond]
        refine fe_s 2 (pc' := 149) (lc' := [(1, .int 1), (0, .ref 0)]) (stk' := [.int 1]) (mem' := fm gc16 tp bt ap15 bp15) (by intro _ _ _; eq_refl) ?_
        exact fe_ret ⟨_, _, _, _, _, _, _, _, goc16, bNp15, hNp15, Or.inr ⟨rfl, e18c16, prc16, hWp15⟩, rfl⟩ (by rfl) (by rfl) (by rfl)
  · refine fe_s 1 (pc' := 115) (lc' := [(0, .ref 0)]) (stk' := []) (mem' := fm g tp bt a b) (by intro _ _ _; eq_refl) ?_
    refine fe_s 2 (pc' := 118) (lc' := [(0, .ref 0)]) (stk' := [.int 7, .ref 0]) (mem' := fm g tp bt a b) (by intro _ _ _; eq_refl) ?_
    obtain ⟨vp17, memp17, ⟨xp17, gp17, Ep17, Fp17, ap17, bp17, NCp17, NWp17, hop17, hbp17, hNp17, hvp17, hRp17⟩, hfrp17⟩ := fr_once7 (g := g) (tp := tp) (bt := bt) (a := a) (b := b) (a0 := a0) (fm_gx_rf hxp hfl).2.1 (fm_gx_rf hxp hfl).2.2.1 hN hW
    cases hRp17
    have gop17 := fm_gx_tx (fm_gx_rf hxp hfl) hop17
    have bNp17 : ∀ t, t ≠ 2 → bp17 t = b t := fun t ht => (hbp17 t ht).trans ((fun _ _ => rfl) t ht)
    refine fe_ivV hfrp17 (by omega) (by rfl) (by rfl) (by rfl) (by rfl) (by rfl) (by rfl) ?_
    rcases hvp17 with ⟨rfl, hzp17⟩ | ⟨rfl, hep17, hpp17, hWp17⟩
    · refine fe_s 3 (pc' := 132) (lc' := [(1, .int 0), (0, .ref 0)]) (stk' := [.int 0]) (mem' := fm gp17 tp bt ap17 bp17) (by intro _ _ _; eq_refl) ?_
      refine fe_s 1 (pc' := cond (fx_cb .eq 0 0) 148 135) (lc' := [(1, .int 0), (0, .ref 0)]) (stk' := []) (mem' := fm gp17 tp bt ap17 bp17) (by intro _ _ _; eq_refl) ?_
      rw [show (fx_cb .eq 0 0) = true from by decide]
      dsimp only [cond]
      refine fe_s 1 (pc' := 149) (lc' := [(1, .int 0), (0, .ref 0)]) (stk' := [.int 0]) (mem' := fm gp17 tp bt ap17 bp17) (by intro _ _ _; eq_refl) ?_
      exact fe_ret ⟨_, _, _, _, _, _, _, _, gop17, bNp17, hNp17, Or.inl ⟨rfl, hzp17⟩, rfl⟩ (by rfl) (by rfl) (by rfl)
    · have e18p17 : gp17 18 = g 18 := hep17.trans rfl
      have prp17 : gp17 12 = 0 ∨ E < Ep17 := hpp17.imp id (fun z => by have := (fm_gx_rf hxp hfl).2.2.2; omega)
      refine fe_s 3 (pc' := 132) (lc' := [(1, .int 1), (0, .ref 0)]) (stk' := [.int 1]) (mem' := fm gp17 tp bt ap17 bp17) (by intro _ _ _; eq_refl) ?_
      refine fe_s 1 (pc' := cond (fx_cb .eq 1 0) 148 135) (lc' := [(1, .int 1), (0, .ref 0)]) (stk' := []) (mem' := fm gp17 tp bt ap17 bp17) (by intro _ _ _; eq_refl) ?_
      rw [show (fx_cb .eq 1 0) = false from by decide]
      dsimp only [cond]
      refine fe_s 2 (pc' := 138) (lc' := [(1, .int 1), (0, .ref 0)]) (stk' := [.int 59, .ref 0]) (mem' := fm gp17 tp bt ap17 bp17) (by intro _ _ _; eq_refl) ?_
      obtain ⟨xc18, gc18, Ec18, Fc18, hfrc18, hoc18, hvc18⟩ := fr_wantSignq (c := 59) (g := gp17) (tp := tp) (bt := bt) (a := ap17) (b := bp17) gop17.2.1 gop17.2.2.1
      have goc18 := fm_gx_tr gop17 hoc18
      refine fe_ivV hfrc18 (by omega) (by rfl) (by rfl) (by rfl) (by rfl) (by rfl) (by rfl) ?_
      rcases hvc18 with ⟨rfl, hzc18⟩ | ⟨rfl, hec18, hpc18⟩
      · refine fe_s 1 (pc' := cond (fx_cb .eq 0 0) 148 144) (lc' := [(1, .int 1), (0, .ref 0)]) (stk' := []) (mem' := fm gc18 tp bt ap17 bp17) (by intro _ _ _; eq_refl) ?_
        rw [show (fx_cb .eq 0 0) = true from by decide]
        dsimp only [cond]
        refine fe_s 1 (pc' := 149) (lc' := [(1, .int 1), (0, .ref 0)]) (stk' := [.int 0]) (mem' := fm gc18 tp bt ap17 bp17) (by intro _ _ _; eq_refl) ?_
        exact fe_ret ⟨_, _, _, _, _, _, _, _, goc18, bNp17, hNp17, Or.inl ⟨rfl, hzc18⟩, rfl⟩ (by rfl) (by rfl) (by rfl)
      · have e18c18 : gc18 18 = g 18 := hec18.trans e18p17
        have prc18 : gc18 12 = 0 ∨ E < Ec18 := hpc18.imp id (fun z => by have := gop17.2.2.2; omega)
        refine fe_s 1 (pc' := cond (fx_cb .eq 1 0) 148 144) (lc' := [(1, .int 1), (0, .ref 0)]) (stk' := []) (mem' := fm gc18 tp bt ap17 bp17) (by intro _ _ _; eq_refl) ?_
        rw [show (fx_cb .eq 1 0) = false from by decide]
        dsimp only [cond]
        refine fe_s 2 (pc' := 149) (lc' := [(1, .int 1), (0, .ref 0)]) (stk' := [.int 1]) (mem' := fm gc18 tp bt ap17 bp17) (by intro _ _ _; eq_refl) ?_
        exact fe_ret ⟨_, _, _, _, _, _, _, _, goc18, bNp17, hNp17, Or.inr ⟨rfl, e18c18, prc18, hWp17⟩, rfl⟩ (by rfl) (by rfl) (by rfl)
  · refine fe_s 1 (pc' := 125) (lc' := [(0, .ref 0)]) (stk' := []) (mem' := fm g tp bt a b) (by intro _ _ _; eq_refl) ?_
    refine fe_s 2 (pc' := 127) (lc' := [(0, .ref 0)]) (stk' := [.int 2, .ref 0]) (mem' := fm g tp bt a b) (by intro _ _ _; eq_refl) ?_
    obtain ⟨gf19, hfrf19, hof19, hzf19⟩ := fr_failsq (x := 2) (g := g) (tp := tp) (bt := bt) (a := a) (b := b) (by omega) (by omega) (fm_gx_rf hxp hfl).2.1 (fm_gx_rf hxp hfl).2.2.1
    have gof19 := fm_gx_tr (fm_gx_rf hxp hfl) hof19
    refine fe_ivV hfrf19 (by omega) (by rfl) (by rfl) (by rfl) (by rfl) (by rfl) (by rfl) ?_
    exact fe_ret ⟨_, _, _, _, _, _, _, _, gof19, (fun _ _ => rfl), hN, Or.inl ⟨rfl, hzf19⟩, rfl⟩ (by rfl) (by rfl) (by rfl)
  · refine fe_s 1 (pc' := 125) (lc' := [(0, .ref 0)]) (stk' := []) (mem' := fm g tp bt a b) (by intro _ _ _; eq_refl) ?_
    refine fe_s 2 (pc' := 127) (lc' := [(0, .ref 0)]) (stk' := [.int 2, .ref 0]) (mem' := fm g tp bt a b) (by intro _ _ _; eq_refl) ?_
    obtain ⟨gf20, hfrf20, hof20, hzf20⟩ := fr_failsq (x := 2) (g := g) (tp := tp) (bt := bt) (a := a) (b := b) (by omega) (by omega) (fm_gx_rf hxp hfl).2.1 (fm_gx_rf hxp hfl).2.2.1
    have gof20 := fm_gx_tr (fm_gx_rf hxp hfl) hof20
    refine fe_ivV hfrf20 (by omega) (by rfl) (by rfl) (by rfl) (by rfl) (by rfl) (by rfl) ?_
    exact fe_ret ⟨_, _, _, _, _, _, _, _, gof20, (fun _ _ => rfl), hN, Or.inl ⟨rfl, hzf20⟩, rfl⟩ (by rfl) (by rfl) (by rfl)
  · refine fe_s 1 (pc' := 125) (lc' := [(0, .ref 0)]) (stk' := []) (mem' := fm g tp bt a b) (by intro _ _ _; eq_refl) ?_
    refine fe_s 2 (pc' := 127) (lc' := [(0, .ref 0)]) (stk' := [.int 2, .ref 0]) (mem' := fm g tp bt a b) (by intro _ _ _; eq_refl) ?_
    obtain ⟨gf21, hfrf21, hof21, hzf21⟩ := fr_failsq (x := 2) (g := g) (tp := tp) (bt := bt) (a := a) (b := b) (by omega) (by omega) (fm_gx_rf hxp hfl).2.1 (fm_gx_rf hxp hfl).2.2.1
    have gof21 := fm_gx_tr (fm_gx_rf hxp hfl) hof21
    refine fe_ivV hfrf21 (by omega) (by rfl) (by rfl) (by rfl) (by rfl) (by rfl) (by rfl) ?_
    exact fe_ret ⟨_, _, _, _, _, _, _, _, gof21, (fun _ _ => rfl), hN, Or.inl ⟨rfl, hzf21⟩, rfl⟩ (by rfl) (by rfl) (by rfl)
  · refine fe_s 1 (pc' := 125) (lc' := [(0, .ref 0)]) (stk' := []) (mem' := fm g tp bt a b) (by intro _ _ _; eq_refl) ?_
    refine fe_s 2 (pc' := 127) (lc' := [(0, .ref 0)]) (stk' := [.int 2, .ref 0]) (mem' := fm g tp bt a b) (by intro _ _ _; eq_refl) ?_
    obtain ⟨gf22, hfrf22, hof22, hzf22⟩ := fr_failsq (x := 2) (g := g) (tp := tp) (bt := bt) (a := a) (b := b) (by omega) (by omega) (fm_gx_rf hxp hfl).2.1 (fm_gx_rf hxp hfl).2.2.1
    have gof22 := fm_gx_tr (fm_gx_rf hxp hfl) hof22
    refine fe_ivV hfrf22 (by omega) (by rfl) (by rfl) (by rfl) (by rfl) (by rfl) (by rfl) ?_
    exact fe_ret ⟨_, _, _, _, _, _, _, _, gof22, (fun _ _ => rfl), hN, Or.inl ⟨rfl, hzf22⟩, rfl⟩ (by rfl) (by rfl) (by rfl)
  · refine fe_s 1 (pc' := 125) (lc' := [(0, .ref 0)]) (stk' := []) (mem' := fm g tp bt a b) (by intro _ _ _; eq_refl) ?_
    refine fe_s 2 (pc' := 127) (lc' := [(0, .ref 0)]) (stk' := [.int 2, .ref 0]) (mem' := fm g tp bt a b) (by intro _ _ _; eq_refl) ?_
    obtain ⟨gf23, hfrf23, hof23, hzf23⟩ := fr_failsq (x := 2) (g := g) (tp := tp) (bt := bt) (a := a) (b := b) (by omega) (by omega) (fm_gx_rf hxp hfl).2.1 (fm_gx_rf hxp hfl).2.2.1
    have gof23 := fm_gx_tr (fm_gx_rf hxp hfl) hof23
    refine fe_ivV hfrf23 (by omega) (by rfl) (by rfl) (by rfl) (by rfl) (by rfl) (by rfl) ?_
    exact fe_ret ⟨_, _, _, _, _, _, _, _, gof23, (fun _ _ => rfl), hN, Or.inl ⟨rfl, hzf23⟩, rfl⟩ (by rfl) (by rfl) (by rfl)
  · refine fe_s 1 (pc' := 125) (lc' := [(0, .ref 0)]) (stk' := []) (mem' := fm g tp bt a b) (by intro _ _ _; eq_refl) ?_
    refine fe_s 2 (pc' := 127) (lc' := [(0, .ref 0)]) (stk' := [.int 2, .ref 0]) (mem' := fm g tp bt a b) (by intro _ _ _; eq_refl) ?_
    obtain ⟨gf24, hfrf24, hof24, hzf24⟩ := fr_failsq (x := 2) (g := g) (tp := tp) (bt := bt) (a := a) (b := b) (by omega) (by omega) (fm_gx_rf hxp hfl).2.1 (fm_gx_rf hxp hfl).2.2.1
    have gof24 := fm_gx_tr (fm_gx_rf hxp hfl) hof24
    refine fe_ivV hfrf24 (by omega) (by rfl) (by rfl) (by rfl) (by rfl) (by rfl) (by rfl) ?_
    exact fe_ret ⟨_, _, _, _, _, _, _, _, gof24, (fun _ _ => rfl), hN, Or.inl ⟨rfl, hzf24⟩, rfl⟩ (by rfl) (by rfl) (by rfl)
  · refine fe_s 1 (pc' := 125) (lc' := [(0, .ref 0)]) (stk' := []) (mem' := fm g tp bt a b) (by intro _ _ _; eq_refl) ?_
    refine fe_s 2 (pc' := 127) (lc' := [(0, .ref 0)]) (stk' := [.int 2, .ref 0]) (mem' := fm g tp bt a b) (by intro _ _ _; eq_refl) ?_
    obtain ⟨gf25, hfrf25, hof25, hzf25⟩ := fr_failsq (x := 2) (g := g) (tp := tp) (bt := bt) (a := a) (b := b) (by omega) (by omega) (fm_gx_rf hxp hfl).2.1 (fm_gx_rf hxp hfl).2.2.1
    have gof25 := fm_gx_tr (fm_gx_rf hxp hfl) hof25
    refine fe_ivV hfrf25 (by omega) (by rfl) (by rfl) (by rfl) (by rfl) (by rfl) (by rfl) ?_
    exact fe_ret ⟨_, _, _, _, _, _, _, _, gof25, (fun _ _ => rfl), hN, Or.inl ⟨rfl, hzf25⟩, rfl⟩ (by rfl) (by rfl) (by rfl)
  · refine fe_s 1 (pc' := 125) (lc' := [(0, .ref 0)]) (stk' := []) (mem' := fm g tp bt a b) (by intro _ _ _; eq_refl) ?_
    refine fe_s 2 (pc' := 127) (lc' := [(0, .ref 0)]) (stk' := [.int 2, .ref 0]) (mem' := fm g tp bt a b) (by intro _ _ _; eq_refl) ?_
    obtain ⟨gf26, hfrf26, hof26, hzf26⟩ := fr_failsq (x := 2) (g := g) (tp := tp) (bt := bt) (a := a) (b := b) (by omega) (by omega) (fm_gx_rf hxp hfl).2.1 (fm_gx_rf hxp hfl).2.2.1
    have gof26 := fm_gx_tr (fm_gx_rf hxp hfl) hof26
    refine fe_ivV hfrf26 (by omega) (by rfl) (by rfl) (by rfl) (by rfl) (by rfl) (by rfl) ?_
    exact fe_ret ⟨_, _, _, _, _, _, _, _, gof26, (fun _ _ => rfl), hN, Or.inl ⟨rfl, hzf26⟩, rfl⟩ (by rfl) (by rfl) (by rfl)
  · refine fe_s 1 (pc' := 125) (lc' := [(0, .ref 0)]) (stk' := []) (mem' := fm g tp bt a b) (by intro _ _ _; eq_refl) ?_
    refine fe_s 2 (pc' := 127) (lc' := [(0, .ref 0)]) (stk' := [.int 2, .ref 0]) (mem' := fm g tp bt a b) (by intro _ _ _; eq_refl) ?_
    obtain ⟨gf27, hfrf27, hof27, hzf27⟩ := fr_failsq (x := 2) (g := g) (tp := tp) (bt := bt) (a := a) (b := b) (by omega) (by omega) (fm_gx_rf hxp hfl).2.1 (fm_gx_rf hxp hfl).2.2.1
    have gof27 := fm_gx_tr (fm_gx_rf hxp hfl) hof27
    refine fe_ivV hfrf27 (by omega) (by rfl) (by rfl) (by rfl) (by rfl) (by rfl) (by rfl) ?_
    exact fe_ret ⟨_, _, _, _, _, _, _, _, gof27, (fun _ _ => rfl), hN, Or.inl ⟨rfl, hzf27⟩, rfl⟩ (by rfl) (by rfl) (by rfl)
  · refine fe_s 1 (pc' := 125) (lc' := [(0, .ref 0)]) (stk' := []) (mem' := fm g tp bt a b) (by intro _ _ _; eq_refl) ?_
    refine fe_s 2 (pc' := 127) (lc' := [(0, .ref 0)]) (stk' := [.int 2, .ref 0]) (mem' := fm g tp bt a b) (by intro _ _ _; eq_refl) ?_
    obtain ⟨gf28, hfrf28, hof28, hzf28⟩ := fr_failsq (x := 2) (g := g) (tp := tp) (bt := bt) (a := a) (b := b) (by omega) (by omega) (fm_gx_rf hxp hfl).2.1 (fm_gx_rf hxp hfl).2.2.1
    have gof28 := fm_gx_tr (fm_gx_rf hxp hfl) hof28
    refine fe_ivV hfrf28 (by omega) (by rfl) (by rfl) (by rfl) (by rfl) (by rfl) (by rfl) ?_
    exact fe_ret ⟨_, _, _, _, _, _, _, _, gof28, (fun _ _ => rfl), hN, Or.inl ⟨rfl, hzf28⟩, rfl⟩ (by rfl) (by rfl) (by rfl)
  · refine fe_s 1 (pc' := 125) (lc' := [(0, .ref 0)]) (stk' := []) (mem' := fm g tp bt a b) (by intro _ _ _; eq_refl) ?_
    refine fe_s 2 (pc' := 127) (lc' := [(0, .ref 0)]) (stk' := [.int 2, .ref 0]) (mem' := fm g tp bt a b) (by intro _ _ _; eq_refl) ?_
    obtain ⟨gf29, hfrf29, hof29, hzf29⟩ := fr_failsq (x := 2) (g := g) (tp := tp) (bt := bt) (a := a) (b := b) (by omega) (by omega) (fm_gx_rf hxp hfl).2.1 (fm_gx_rf hxp hfl).2.2.1
    have gof29 := fm_gx_tr (fm_gx_rf hxp hfl) hof29
    refine fe_ivV hfrf29 (by omega) (by rfl) (by rfl) (by rfl) (by rfl) (by rfl) (by rfl) ?_
    exact fe_ret ⟨_, _, _, _, _, _, _, _, gof29, (fun _ _ => rfl), hN, Or.inl ⟨rfl, hzf29⟩, rfl⟩ (by rfl) (by rfl) (by rfl)
  · refine fe_s 1 (pc' := 125) (lc' := [(0, .ref 0)]) (stk' := []) (mem' := fm g tp bt a b) (by intro _ _ _; eq_refl) ?_
    refine fe_s 2 (pc' := 127) (lc' := [(0, .ref 0)]) (stk' := [.int 2, .ref 0]) (mem' := fm g tp bt a b) (by intro _ _ _; eq_refl) ?_
    obtain ⟨gf30, hfrf30, hof30, hzf30⟩ := fr_failsq (x := 2) (g := g) (tp := tp) (bt := bt) (a := a) (b := b) (by omega) (by omega) (fm_gx_rf hxp hfl).2.1 (fm_gx_rf hxp hfl).2.2.1
    have gof30 := fm_gx_tr (fm_gx_rf hxp hfl) hof30
    refine fe_ivV hfrf30 (by omega) (by rfl) (by rfl) (by rfl) (by rfl) (by rfl) (by rfl) ?_
    exact fe_ret ⟨_, _, _, _, _, _, _, _, gof30, (fun _ _ => rfl), hN, Or.inl ⟨rfl, hzf30⟩, rfl⟩ (by rfl) (by rfl) (by rfl)
  · refine fe_s 1 (pc' := 125) (lc' := [(0, .ref 0)]) (stk' := []) (mem' := fm g tp bt a b) (by intro _ _ _; eq_refl) ?_
    refine fe_s 2 (pc' := 127) (lc' := [(0, .ref 0)]) (stk' := [.int 2, .ref 0]) (mem' := fm g tp bt a b) (by intro _ _ _; eq_refl) ?_
    obtain ⟨gf31, hfrf31, hof31, hzf31⟩ := fr_failsq (x := 2) (g := g) (tp := tp) (bt := bt) (a := a) (b := b) (by omega) (by omega) (fm_gx_rf hxp hfl).2.1 (fm_gx_rf hxp hfl).2.2.1
    have gof31 := fm_gx_tr (fm_gx_rf hxp hfl) hof31
    refine fe_ivV hfrf31 (by omega) (by rfl) (by rfl) (by rfl) (by rfl) (by rfl) (by rfl) ?_
    exact fe_ret ⟨_, _, _, _, _, _, _, _, gof31, (fun _ _ => rfl), hN, Or.inl ⟨rfl, hzf31⟩, rfl⟩ (by rfl) (by rfl) (by rfl)
  · refine fe_s 1 (pc' := 125) (lc' := [(0, .ref 0)]) (stk' := []) (mem' := fm g tp bt a b) (by intro _ _ _; eq_refl) ?_
    refine fe_s 2 (pc' := 127) (lc' := [(0, .ref 0)]) (stk' := [.int 2, .ref 0]) (mem' := fm g tp bt a b) (by intro _ _ _; eq_refl) ?_
    obtain ⟨gf32, hfrf32, hof32, hzf32⟩ := fr_failsq (x := 2) (g := g) (tp := tp) (bt := bt) (a := a) (b := b) (by omega) (by omega) (fm_gx_rf hxp hfl).2.1 (fm_gx_rf hxp hfl).2.2.1
    have gof32 := fm_gx_tr (fm_gx_rf hxp hfl) hof32
    refine fe_ivV hfrf32 (by omega) (by rfl) (by rfl) (by rfl) (by rfl) (by rfl) (by rfl) ?_
    exact fe_ret ⟨_, _, _, _, _, _, _, _, gof32, (fun _ _ => rfl), hN, Or.inl ⟨rfl, hzf32⟩, rfl⟩ (by rfl) (by rfl) (by rfl)
  · refine fe_s 1 (pc' := 125) (lc' := [(0, .ref 0)]) (stk' := []) (mem' := fm g tp bt a b) (by intro _ _ _; eq_refl) ?_
    refine fe_s 2 (pc' := 127) (lc' := [(0, .ref 0)]) (stk' := [.int 2, .ref 0]) (mem' := fm g tp bt a b) (by intro _ _ _; eq_refl) ?_
    obtain ⟨gf33, hfrf33, hof33, hzf33⟩ := fr_failsq (x := 2) (g := g) (tp := tp) (bt := bt) (a := a) (b := b) (by omega) (by omega) (fm_gx_rf hxp hfl).2.1 (fm_gx_rf hxp hfl).2.2.1
    have gof33 := fm_gx_tr (fm_gx_rf hxp hfl) hof33
    refine fe_ivV hfrf33 (by omega) (by rfl) (by rfl) (by rfl) (by rfl) (by rfl) (by rfl) ?_
    exact fe_ret ⟨_, _, _, _, _, _, _, _, gof33, (fun _ _ => rfl), hN, Or.inl ⟨rfl, hzf33⟩, rfl⟩ (by rfl) (by rfl) (by rfl)
  · refine fe_s 1 (pc' := 125) (lc' := [(0, .ref 0)]) (stk' := []) (mem' := fm g tp bt a b) (by intro _ _ _; eq_refl) ?_
    refine fe_s 2 (pc' := 127) (lc' := [(0, .ref 0)]) (stk' := [.int 2, .ref 0]) (mem' := fm g tp bt a b) (by intro _ _ _; eq_refl) ?_
    obtain ⟨gf34, hfrf34, hof34, hzf34⟩ := fr_failsq (x := 2) (g := g) (tp := tp) (bt := bt) (a := a) (b := b) (by omega) (by omega) (fm_gx_rf hxp hfl).2.1 (fm_gx_rf hxp hfl).2.2.1
    have gof34 := fm_gx_tr (fm_gx_rf hxp hfl) hof34
    refine fe_ivV hfrf34 (by omega) (by rfl) (by rfl) (by rfl) (by rfl) (by rfl) (by rfl) ?_
    exact fe_ret ⟨_, _, _, _, _, _, _, _, gof34, (fun _ _ => rfl), hN, Or.inl ⟨rfl, hzf34⟩, rfl⟩ (by rfl) (by rfl) (by rfl)
end F483_part
end MH1_1
section MH1_2
/-! ===== fx: a LAKE is read ===== -/
section FLQ
variable {g : Nat → Int32} {tp bt : Int64} {a : Nat → Nat → Int32} {b : Nat → Nat → Int64}
theorem fe_stB {k pc : Nat} {M : rk_M2} {lc : fx_L} {r : List Value} {mem : fx_M} {F : Option Value × fx_M → Prop} {i v : Int32} {j len : Nat} {f : Nat → Int32} {mem' : fx_M} (hat : tk_at M.1 pc = some (pc, .bastore, 1)) (hj : mem[j]? = some (.inr (.byte, len, .inl f))) (hin : fx_in i len = true) (hm : mem.set j (.inr (.byte, len, .inl (upd f i.toNatClampNeg v.toInt8.toInt32))) = mem') (kk : fe_R k M (pc + 1) lc r mem' F) : fe_R k M pc lc (.int v :: .int i :: .ref j :: r) mem F := fe_of (fun _ z => fr_1 (fun _ _ => fx_stB hat hj hin hm) z) kk
theorem fm_utt {a : Nat → Nat → Int32} {T s t : Nat} {x : Int32} (h : t ≠ s) : (fm_u a s T x) t = a t := by
  unfold fm_u
  rw [if_neg h]
theorem fm_us {a : Nat → Nat → Int32} {T i s : Nat} {x : Int32} : (fm_u a s T x) s i = if i = T then x else a s i := by
  unfold fm_u
  rw [if_pos rfl]
  by_cases h : i = T
  · subst h; rw [pk_us, if_pos rfl]
  · rw [pk_un h, if_neg h]
theorem fm_i8 (x : Int32) : -128 ≤ x.toInt8.toInt32.toInt ∧ x.toInt8.toInt32.toInt ≤ 127 := by
  rw [Int8.toInt_toInt32]
  have h1 := Int8.le_toInt x.toInt8
  have h2 := Int8.toInt_lt x.toInt8
  omega
/-- the text is new, byte by byte -/
def fm_tx7 (a a' : Nat → Nat → Int32) : Prop := (∀ t, t ≠ 7 → a' t = a t) ∧ ∀ i, a' 7 i = a 7 i ∨ ∃ x : Int32, a' 7 i = x.toInt8.toInt32
theorem fm_tx7_u {a a' : Nat → Nat → Int32} {T : Nat} {x : Int32} (h : fm_tx7 a a') : fm_tx7 a (fm_u a' 7 T x.toInt8.toInt32) := ⟨fun t ht => by rw [fm_utt ht]; exact h.1 t ht, fun i => by
  rw [fm_us]
  split
  · exact Or.inr ⟨x, rfl⟩
  · exact h.2 i⟩
def fm_begun (g g' : Nat → Int32) : Prop := (∀ j, j ≠ 10 → j ≠ 11 → j ≠ 12 → j ≠ 13 → j ≠ 14 → j ≠ 15 → j ≠ 17 → j ≠ 18 → j ≠ 19 → g' j = g j) ∧ g' 10 = 0 ∧ g' 18 = 0 ∧ g' 19 = 0 ∧ (∃ S E F, fm_xp g' S E F) ∧ fm_flt g'
def fm_FB (g : Nat → Int32) (tp bt : Int64) (a : Nat → Nat → Int32) (b : Nat → Nat → Int64) (n most : Int32) (R : Option Value × fx_M) : Prop := ∃ (v : Int32) (g' : Nat → Int32) (a' : Nat → Nat → Int32), R = (some (.int v), fm g' tp bt a' b) ∧ (v = 0 ∧ g' = g ∧ a' = a ∧ ¬ (0 ≤ n ∧ n ≤ g 10 ∧ n ≤ most) ∨ v = 1 ∧ (0 ≤ n ∧ n ≤ g 10 ∧ n ≤ most) ∧ fm_begun g g' ∧ fm_tx7 a a')
theorem cb_ltT' {x y : Int32} (h : fx_cb .lt x y = true) : x < y := of_decide_eq_true h
theorem cb_gtT' {x y : Int32} (h : fx_cb .gt x y = true) : y < x := of_decide_eq_true h
theorem cb_leT' {x y : Int32} (h : fx_cb .le x y = true) : x ≤ y := of_decide_eq_true h
theorem cb_leF' {x y : Int32} (h : fx_cb .le x y = false) : ¬ x ≤ y := of_decide_eq_false h
theorem fr_begins {n most : Int32} (hT : ∃ T, T ≤ 900 ∧ g 10 = nI T) : ∃ (v : Option Value) (mem' : fx_M), (fm_FB g tp bt a b n most) (v, mem') ∧ fr_T 3 228 [.ref 0, .int n, .int most] (fm g tp bt a b) v mem' := by
  refine fe_meth (F := fm_FB g tp bt a b n most) (M := gk_m228) (by rfl) (by rfl) ?_
  refine fe_s 1 (pc' := 1) (lc' := [(0, .ref 0), (1, .int n), (2, .int most)]) (stk' := [.int n]) (mem' := fm g tp bt a b) (by intro _ _ _; eq_refl) ?_
  refine fe_s 1 (pc' := cond (fx_cb .lt n 0) 17 4) (lc' := [(0, .ref 0), (1, .int n), (2, .int most)]) (stk' := []) (mem' := fm g tp bt a b) (by intro _ _ _; eq_refl) ?_
  cases h12 : fx_cb .lt n 0
  · refine fe_s 3 (pc' := 9) (lc' := [(0, .ref 0), (1, .int n), (2, .int most)]) (stk' := [.int (g 10), .int n]) (mem' := fm g tp bt a b) (by intro _ _ _; eq_refl) ?_
    refine fe_s 1 (pc' := cond (fx_cb .gt n (g 10)) 17 12) (lc' := [(0, .ref 0), (1, .int n), (2, .int most)]) (stk' := []) (mem' := fm g tp bt a b) (by intro _ _ _; eq_refl) ?_
    cases h13 : fx_cb .gt n (g 10)
    · refine fe_s 2 (pc' := 14) (lc' := [(0, .ref 0), (1, .int n), (2, .int most)]) (stk' := [.int most, .int n]) (mem' := fm g tp bt a b) (by intro _ _ _; eq_refl) ?_
      refine fe_s 1 (pc' := cond (fx_cb .le n most) 19 17) (lc' := [(0, .ref 0), (1, .int n), (2, .int most)]) (stk' := []) (mem' := fm g tp bt a b) (by intro _ _ _; eq_refl) ?_
      cases h14 : fx_cb .le n most
      · refine fe_s 1 (pc' := 18) (lc' := [(0, .ref 0), (1, .int n), (2, .int most)]) (stk' := [.int 0]) (mem' := fm g tp bt a b) (by intro _ _ _; eq_refl) ?_
        exact fe_ret ⟨0, g, a, rfl, Or.inl ⟨rfl, rfl, rfl, fun z => absurd z.2.2 (cb_leF' h14)⟩⟩ (by rfl) (by rfl) (by rfl)
      · have q1 : (0 : Int32) ≤ n := Int32.not_lt.mp (of_decide_eq_false h12)
        have q2 : n ≤ g 10 := cb_gtF' h13
        have q3 : n ≤ most := cb_leT' h14
        obtain ⟨T, hT9, eT⟩ := hT
        obtain ⟨N, hN, rfl⟩ : ∃ N, N ≤ 900 ∧ n = nI N := by
          have z1 := Int32.le_iff_toInt_le.mp q1
          have z2 := Int32.le_iff_toInt_le.mp q2
          rw [eT, nI_i32 (by omega)] at z2
          exact nI_bd (n := 900) z1 (by omega)
        clear eT hT9
        have loop : ∀ (r k : Nat), k + r = N → ∀ a' : Nat → Nat → Int32, fm_tx7 a a' → fe_R 2 gk_m228 26 [(3, .int (nI k)), (0, .ref 0), (1, .int (nI N)), (2, .int most)] [] (fm (upd g 11 (nI N)) tp bt a' b) (fm_FB g tp bt a b (nI N) most) := by
          intro r
          induction r with
          | zero =>
            intro k hk a' ha
            obtain rfl : N = k := by omega
            refine fe_s 2 (pc' := 28) (lc' := [(3, .int (nI N)), (0, .ref 0), (1, .int (nI N)), (2, .int most)]) (stk' := [.int (nI N), .int (nI N)]) (mem' := fm (upd g 11 (nI N)) tp bt a' b) (by intro _ _ _; eq_refl) ?_
            refine fe_s 1 (pc' := cond (fx_cb .ge (nI N) (nI N)) 49 31) (lc' := [(3, .int (nI N)), (0, .ref 0), (1, .int (nI N)), (2, .int most)]) (stk' := []) (mem' := fm (upd g 11 (nI N)) tp bt a' b) (by intro _ _ _; eq_refl) ?_
            rw [show (fx_cb .ge (nI N) (nI N)) = true from cb_geT (a := N) (b := N) (by omega) (by omega) (by omega)]
            dsimp only [cond]
            refine fe_s 16 (pc' := 75) (lc' := [(3, .int (nI N)), (0, .ref 0), (1, .int (nI N)), (2, .int most)]) (stk' := [.ref 0]) (mem' := fm (upd (upd (upd (upd (upd (upd g 11 (nI N)) 10 0) 18 0) 17 (-1)) 14 0) 19 0) tp bt a' b) (by intro _ _ _; eq_refl) ?_
            obtain ⟨v5, mem5, ⟨g5, E5, F5, ht5, hx5, hE5, hp5, hR5⟩, hfr5⟩ := fr_ahead (S := N) (E := 0) (g := (upd (upd (upd (upd (upd (upd g 11 (nI N)) 10 0) 18 0) 17 (-1)) 14 0) 19 0)) (tp := tp) (bt := bt) (a := a') (b := b) rfl (by omega) rfl (by omega)
            cases hR5
            refine fe_ivV hfr5 (by omega) (by rfl) (by rfl) (by rfl) (by rfl) (by rfl) (by rfl) ?_
            refine fe_s 1 (pc' := 79) (lc' := [(3, .int (nI N)), (0, .ref 0), (1, .int (nI N)), (2, .int most)]) (stk' := [.int 1]) (mem' := fm g5 tp bt a' b) (by intro _ _ _; eq_refl) ?_
            refine fe_ret ⟨1, g5, a', rfl, Or.inr ⟨rfl, ⟨q1, q2, q3⟩, ⟨fun j j0 j1 j2 j3 j4 j5 j6 j7 j8 => ?_, ht5 10 (by decide) (by decide) (by decide) (by decide), ht5 18 (by decide) (by decide) (by decide) (by decide), ht5 19 (by decide) (by decide) (by decide) (by decide), ⟨_, _, _, hx5⟩, fm_flt_tx ⟨⟨0, by omega, rfl⟩, (show (-1 : Int) ≤ (-1 : Int32).toInt by decide), (show (-1 : Int32).toInt ≤ 900 by decide)⟩ ht5⟩, ha⟩⟩ (by rfl) (by rfl) (by rfl)
            rw [ht5 j j2 j3 j4 j5, pk_un j8, pk_un j4, pk_un j6, pk_un j7, pk_un j0, pk_un j1]
          | succ r ih =>
            intro k hk a' ha
            refine fe_s 2 (pc' := 28) (lc' := [(3, .int (nI k)), (0, .ref 0), (1, .int (nI N)), (2, .int most)]) (stk' := [.int (nI N), .int (nI k)]) (mem' := fm (upd g 11 (nI N)) tp bt a' b) (by intro _ _ _; eq_refl) ?_
            refine fe_s 1 (pc' := cond (fx_cb .ge (nI k) (nI N)) 49 31) (lc' := [(3, .int (nI k)), (0, .ref 0), (1, .int (nI N)), (2, .int most)]) (stk' := []) (mem' := fm (upd g 11 (nI N)) tp bt a' b) (by intro _ _ _; eq_refl) ?_
            rw [show (fx_cb .ge (nI k) (nI N)) = false from cb_geF (a := k) (b := N) (by omega) (by omega) (by omega)]
            dsimp only [cond]
            refine fe_s 6 (pc' := 41) (lc' := [(3, .int (nI k)), (0, .ref 0), (1, .int (nI N)), (2, .int most)]) (stk' := [.int (nI k), .ref 6, .int (nI k), .ref 7]) (mem' := fm (upd g 11 (nI N)) tp bt a' b) (by intro _ _ _; eq_refl) ?_
            refine fe_ldB (by rfl) (by rfl) (fx_inN (i := k) (by omega) (by omega)) ?_
            rw [show Int32.toNatClampNeg (nI k) = k from nI_clamp (by omega)]
            refine fe_stB (mem' := fm (upd g 11 (nI N)) tp bt (fm_u a' 7 (nI k : Int32).toNatClampNeg (a' 6 k).toInt8.toInt32) b) (by rfl) (by rfl) (fx_inN (i := k) (by omega) (by omega)) fm_sb7 ?_
            rw [show Int32.toNatClampNeg (nI k) = k from nI_clamp (by omega)]
            refine fe_s 2 (pc' := 26) (lc' := [(3, .int ((nI k) + 1)), (0, .ref 0), (1, .int (nI N)), (2, .int most)]) (stk' := []) (mem' := fm (upd g 11 (nI N)) tp bt (fm_u a' 7 k (a' 6 k).toInt8.toInt32) b) (by intro _ _ _; eq_refl) ?_
            rw [show ((nI k) + 1 : Int32) = nI (k + 1) from by simp only [show (1 : Int32) = nI 1 from rfl, nI_add, fm_mul]]
            exact ih (k + 1) (by omega) _ (fm_tx7_u ha)
        refine fe_s 5 (pc' := 26) (lc' := [(3, .int 0), (0, .ref 0), (1, .int (nI N)), (2, .int most)]) (stk' := []) (mem' := fm (upd g 11 (nI N)) tp bt a b) (by intro _ _ _; eq_refl) ?_
        exact loop N 0 (by omega) a ⟨fun _ _ => rfl, fun _ => Or.inl rfl⟩
    · refine fe_s 1 (pc' := 18) (lc' := [(0, .ref 0), (1, .int n), (2, .int most)]) (stk' := [.int 0]) (mem' := fm g tp bt a b) (by intro _ _ _; eq_refl) ?_
      exact fe_ret ⟨0, g, a, rfl, Or.inl ⟨rfl, rfl, rfl, fun z => absurd z.2.1 (Int32.not_le.mpr (cb_gtT' h13))⟩⟩ (by rfl) (by rfl) (by rfl)
  · refine fe_s 1 (pc' := 18) (lc' := [(0, .ref 0), (1, .int n), (2, .int most)]) (stk' := [.int 0]) (mem' := fm g tp bt a b) (by intro _ _ _; eq_refl) ?_
    exact fe_ret ⟨0, g, a, rfl, Or.inl ⟨rfl, rfl, rfl, fun z => absurd z.1 (Int32.not_le.mpr (cb_ltT' h12))⟩⟩ (by rfl) (by rfl) (by rfl)
/-- what plain writes -/
def fm_pl (i : Nat) : Int32 := if i = 2 then 2 else if i = 3 then 4 else if i = 4 then 1 else if i = 6 then -1 else 0
def fm_pln (a a' : Nat → Nat → Int32) : Prop := (∀ t, t ≠ 1 → a' t = a t) ∧ (∀ i, ¬ (3368 ≤ i ∧ i < 4210) → a' 1 i = a 1 i) ∧ ∀ i, i < 842 → a' 1 (3368 + i) = fm_pl i
theorem fm_pln_N {a a' : Nat → Nat → Int32} (h : fm_pln a a') : fm_N a a' 0 0 ∧ fm_NW a' := by
  obtain ⟨h1, h2, h3⟩ := h
  have hv : ∀ i, i < 842 → (gm_at (3368 + i)).1 ≤ (fm_pl i).toInt ∧ (fm_pl i).toInt ≤ (gm_at (3368 + i)).2 := by decide +kernel
  refine ⟨⟨h1, h2, ⟨h3 0 (by omega), by omega, h3 1 (by omega), by omega⟩, fun i h4 h5 => ?_, fun c d hc hd => ?_, h3 6 (by omega)⟩, fun w hw => ?_⟩
  · obtain ⟨k, rfl⟩ := Nat.exists_eq_add_of_le h4
    rw [h3 k (by omega)]
    exact hv k (by omega)
  · rw [show 3368 + 10 + 6 * c = 3368 + (10 + 6 * c) by omega, show 3368 + 10 + 6 * d = 3368 + (10 + 6 * d) by omega, h3 _ (by omega), h3 _ (by omega)]
    have e : ∀ c, c < 10 → fm_pl (10 + 6 * c) = nI 0 := by decide
    rw [e c hc, e d hd, fm_b_nat 0 (by omega) d hd, fm_b_nat 0 (by omega) c hc]
    simp
  · rw [show 3647 + 5 * w = 3368 + (279 + 5 * w) by omega, h3 _ (by omega)]
    have e : ∀ c, c < 8 → 0 ≤ (fm_pl (279 + 5 * c)).toInt := by decide
    exact e w hw
theorem fr_plain : ∃ (v : Option Value) (mem' : fx_M), (fun R => ∃ a' : Nat → Nat → Int32, fm_pln a a' ∧ R = (none, fm g tp bt a' b)) (v, mem') ∧ fr_T 1 202 [.ref 0, .int 3368] (fm g tp bt a b) v mem' := by
  refine fe_meth (F := fun R => ∃ a' : Nat → Nat → Int32, fm_pln a a' ∧ R = (none, fm g tp bt a' b)) (M := gk_m202) (by rfl) (by rfl) ?_
  have loop : ∀ (r k : Nat), k + r = 842 → ∀ a' : Nat → Nat → Int32, (∀ t, t ≠ 1 → a' t = a t) → (∀ i, ¬ (3368 ≤ i ∧ i < 4210) → a' 1 i = a 1 i) → (∀ i, i < k → a' 1 (3368 + i) = 0) → fe_R 0 gk_m202 2 [(2, .int (nI k)), (0, .ref 0), (1, .int 3368)] [] (fm g tp bt a' b) (fun R => ∃ a' : Nat → Nat → Int32, fm_pln a a' ∧ R = (none, fm g tp bt a' b)) := by
    intro r
    induction r with
    | zero =>
      intro k hk a' h1 h2 h3
      obtain rfl : k = 842 := by omega
      refine fe_s 2 (pc' := 6) (lc' := [(2, .int (nI 842)), (0, .ref 0), (1, .int 3368)]) (stk' := [.int 842, .int (nI 842)]) (mem' := fm g tp bt a' b) (by intro _ _ _; eq_refl) ?_
      refine fe_s 1 (pc' := cond (fx_cb .ge (nI 842) 842) 24 9) (lc' := [(2, .int (nI 842)), (0, .ref 0), (1, .int 3368)]) (stk' := []) (mem' := fm g tp bt a' b) (by intro _ _ _; eq_refl) ?_
      rw [show (fx_cb .ge (nI 842) 842) = true from cb_geT (a := 842) (b := 842) (by omega) (by omega) (by omega)]
      dsimp only [cond]
      refine fe_s 6 (pc' := 32) (lc' := [(2, .int (nI 842)), (0, .ref 0), (1, .int 3368)]) (stk' := [.int 2, .int (3368 + 2), .ref 1]) (mem' := fm g tp bt a' b) (by intro _ _ _; eq_refl) ?_
      rw [show (3368 + 2 : Int32) = 3370 from rfl]
      refine fe_stI (mem' := fm g tp bt (fm_u a' 1 (3370 : Int32).toNatClampNeg 2) b) (by rfl) (by rfl) (fx_inN (i := 3370) (by omega) (by omega)) fm_si1 ?_
      rw [show Int32.toNatClampNeg (3370) = 3370 from rfl]
      refine fe_s 6 (pc' := 41) (lc' := [(2, .int (nI 842)), (0, .ref 0), (1, .int 3368)]) (stk' := [.int 4, .int (3368 + 3), .ref 1]) (mem' := fm g tp bt (fm_u a' 1 (3370) 2) b) (by intro _ _ _; eq_refl) ?_
      rw [show (3368 + 3 : Int32) = 3371 from rfl]
      refine fe_stI (mem' := fm g tp bt (fm_u (fm_u a' 1 (3370) 2) 1 (3371 : Int32).toNatClampNeg 4) b) (by rfl) (by rfl) (fx_inN (i := 3371) (by omega) (by omega)) fm_si1 ?_
      rw [show Int32.toNatClampNeg (3371) = 3371 from rfl]
      refine fe_s 6 (pc' := 50) (lc' := [(2, .int (nI 842)), (0, .ref 0), (1, .int 3368)]) (stk' := [.int 1, .int (3368 + 4), .ref 1]) (mem' := fm g tp bt (fm_u (fm_u a' 1 (3370) 2) 1 (3371) 4) b) (by intro _ _ _; eq_refl) ?_
      rw [show (3368 + 4 : Int32) = 3372 from rfl]
      refine fe_stI (mem' := fm g tp bt (fm_u (fm_u (fm_u a' 1 (3370) 2) 1 (3371) 4) 1 (3372 : Int32).toNatClampNeg 1) b) (by rfl) (by rfl) (fx_inN (i := 3372) (by omega) (by omega)) fm_si1 ?_
      rw [show Int32.toNatClampNeg (3372) = 3372 from rfl]
      refine fe_s 6 (pc' := 60) (lc' := [(2, .int (nI 842)), (0, .ref 0), (1, .int 3368)]) (stk' := [.int (-1), .int (3368 + 6), .ref 1]) (mem' := fm g tp bt (fm_u (fm_u (fm_u a' 1 (3370) 2) 1 (3371) 4) 1 (3372) 1) b) (by intro _ _ _; eq_refl) ?_
      rw [show (3368 + 6 : Int32) = 3374 from rfl]
      refine fe_stI (mem' := fm g tp bt (fm_u (fm_u (fm_u (fm_u a' 1 (3370) 2) 1 (3371) 4) 1 (3372) 1) 1 (3374 : Int32).toNatClampNeg (-1)) b) (by rfl) (by rfl) (fx_inN (i := 3374) (by omega) (by omega)) fm_si1 ?_
      rw [show Int32.toNatClampNeg (3374) = 3374 from rfl]
      refine fe_ret ⟨(fm_u (fm_u (fm_u (fm_u a' 1 (3370) 2) 1 (3371) 4) 1 (3372) 1) 1 (3374) (-1)), ⟨fun t ht => by rw [fm_ut ht, fm_ut ht, fm_ut ht, fm_ut ht]; exact h1 t ht, fun i hi => by rw [fm_u1, if_neg (by omega), fm_u1, if_neg (by omega), fm_u1, if_neg (by omega), fm_u1, if_neg (by omega)]; exact h2 i hi, fun i hi => ?_⟩, rfl⟩ (by rfl) (by rfl) (by rfl)
      rw [fm_u1, fm_u1, fm_u1, fm_u1, h3 i (by omega)]
      unfold fm_pl
      by_cases e6 : i = 6
      · subst e6; rfl
      by_cases e4 : i = 4
      · subst e4; rfl
      by_cases e3 : i = 3
      · subst e3; rfl
      by_cases e2 : i = 2
      · subst e2; rfl
      rw [if_neg (by omega), if_neg (by omega), if_neg (by omega), if_neg (by omega), if_neg e2, if_neg e3, if_neg e4, if_neg e6]
    | succ r ih =>
      intro k hk a' h1 h2 h3
      refine fe_s 2 (pc' := 6) (lc' := [(2, .int (nI k)), (0, .ref 0), (1, .int 3368)]) (stk' := [.int 842, .int (nI k)]) (mem' := fm g tp bt a' b) (by intro _ _ _; eq_refl) ?_
      refine fe_s 1 (pc' := cond (fx_cb .ge (nI k) 842) 24 9) (lc' := [(2, .int (nI k)), (0, .ref 0), (1, .int 3368)]) (stk' := []) (mem' := fm g tp bt a' b) (by intro _ _ _; eq_refl) ?_
      rw [show (fx_cb .ge (nI k) 842) = false from cb_geF (a := k) (b := 842) (by omega) (by omega) (by omega)]
      dsimp only [cond]
      refine fe_s 6 (pc' := 17) (lc' := [(2, .int (nI k)), (0, .ref 0), (1, .int 3368)]) (stk' := [.int 0, .int (3368 + (nI k)), .ref 1]) (mem' := fm g tp bt a' b) (by intro _ _ _; eq_refl) ?_
      rw [show (3368 + (nI k) : Int32) = nI (3368 + k) from by simp only [show (3368 : Int32) = nI 3368 from rfl, nI_add, fm_mul]]
      refine fe_stI (mem' := fm g tp bt (fm_u a' 1 (nI (3368 + k) : Int32).toNatClampNeg 0) b) (by rfl) (by rfl) (fx_inN (i := 3368 + k) (by omega) (by omega)) fm_si1 ?_
      rw [show Int32.toNatClampNeg (nI (3368 + k)) = 3368 + k from nI_clamp (by omega)]
      refine fe_s 2 (pc' := 2) (lc' := [(2, .int ((nI k) + 1)), (0, .ref 0), (1, .int 3368)]) (stk' := []) (mem' := fm g tp bt (fm_u a' 1 (3368 + k) 0) b) (by intro _ _ _; eq_refl) ?_
      rw [show ((nI k) + 1 : Int32) = nI (k + 1) from by simp only [show (1 : Int32) = nI 1 from rfl, nI_add, fm_mul]]
      refine ih (k + 1) (by omega) _ (fun t ht => by rw [fm_ut ht]; exact h1 t ht) (fun i hi => by rw [fm_u1, if_neg (by omega)]; exact h2 i hi) (fun i hi => ?_)
      rw [fm_u1]
      split
      · rfl
      · exact h3 i (by omega)
  refine fe_s 2 (pc' := 2) (lc' := [(2, .int 0), (0, .ref 0), (1, .int 3368)]) (stk' := []) (mem' := fm g tp bt a b) (by intro _ _ _; eq_refl) ?_
  exact loop 842 0 (by omega) a (fun _ _ => rfl) (fun _ _ => rfl) (fun i hi => absurd hi (Nat.not_lt_zero i))
theorem fr_taken {x : Int32} (hfl : fm_flt g) : ∃ (v : Option Value) (mem' : fx_M), (fun R => ∃ v : Int32, (¬ g 18 = 0 ∧ v = -1 ∧ R = (some (.int v), fm (upd (upd g 16 (g 18)) 2 9) tp bt a b) ∨ g 18 = 0 ∧ v = x ∧ R = (some (.int v), fm (upd (upd g 16 (g 18)) 2 0) tp bt a b))) (v, mem') ∧ fr_T 2 236 [.ref 0, .int x] (fm g tp bt a b) v mem' := by
  refine fe_meth (F := fun R => ∃ v : Int32, (¬ g 18 = 0 ∧ v = -1 ∧ R = (some (.int v), fm (upd (upd g 16 (g 18)) 2 9) tp bt a b) ∨ g 18 = 0 ∧ v = x ∧ R = (some (.int v), fm (upd (upd g 16 (g 18)) 2 0) tp bt a b))) (M := gk_m236) (by rfl) (by rfl) ?_
  obtain ⟨⟨n, hn, en⟩, -, -⟩ := hfl
  by_cases hz : g 18 = 0
  · refine fe_s 6 (pc' := 12) (lc' := [(0, .ref 0), (1, .int x)]) (stk' := [.int (g 18)]) (mem' := fm (upd g 16 (g 18)) tp bt a b) (by intro _ _ _; eq_refl) ?_
    refine fe_s 1 (pc' := cond (fx_cb .le (g 18) 0) 24 15) (lc' := [(0, .ref 0), (1, .int x)]) (stk' := []) (mem' := fm (upd g 16 (g 18)) tp bt a b) (by intro _ _ _; eq_refl) ?_
    rw [show (fx_cb .le (g 18) 0) = true from by show decide (g 18 ≤ 0) = true; rw [hz]; decide]
    dsimp only [cond]
    refine fe_s 2 (pc' := 26) (lc' := [(0, .ref 0), (1, .int x)]) (stk' := [.int x, .ref 0]) (mem' := fm (upd g 16 (g 18)) tp bt a b) (by intro _ _ _; eq_refl) ?_
    refine fe_ivV (fr_gives (x := x)) (by omega) (by rfl) (by rfl) (by rfl) (by rfl) (by rfl) (by rfl) ?_
    exact fe_ret ⟨_, Or.inr ⟨hz, rfl, rfl⟩⟩ (by rfl) (by rfl) (by rfl)
  · refine fe_s 6 (pc' := 12) (lc' := [(0, .ref 0), (1, .int x)]) (stk' := [.int (g 18)]) (mem' := fm (upd g 16 (g 18)) tp bt a b) (by intro _ _ _; eq_refl) ?_
    refine fe_s 1 (pc' := cond (fx_cb .le (g 18) 0) 24 15) (lc' := [(0, .ref 0), (1, .int x)]) (stk' := []) (mem' := fm (upd g 16 (g 18)) tp bt a b) (by intro _ _ _; eq_refl) ?_
    rw [show (fx_cb .le (g 18) 0) = false from by show decide (g 18 ≤ 0) = false; refine decide_eq_false (fun z => hz ?_); rw [en] at z ⊢; have z2 := Int32.le_iff_toInt_le.mp z; rw [nI_i32 (by omega), show ((0 : Int32).toInt) = 0 from rfl] at z2; obtain rfl : n = 0 := (by omega); rfl]
    dsimp only [cond]
    refine fe_s 2 (pc' := 18) (lc' := [(0, .ref 0), (1, .int x)]) (stk' := [.int 9, .ref 0]) (mem' := fm (upd g 16 (g 18)) tp bt a b) (by intro _ _ _; eq_refl) ?_
    refine fe_ivV (fr_refuse (x := 9)) (by omega) (by rfl) (by rfl) (by rfl) (by rfl) (by rfl) (by rfl) ?_
    refine fe_s 1 (pc' := 29) (lc' := [(0, .ref 0), (1, .int x)]) (stk' := [.int (-1)]) (mem' := fm (upd (upd g 16 (g 18)) 2 9) tp bt a b) (by intro _ _ _; eq_refl) ?_
    exact fe_ret ⟨_, Or.inl ⟨hz, rfl, rfl⟩⟩ (by rfl) (by rfl) (by rfl)
/-- what is left by a LAKE that was read, good or not -/
def fm_LK1 (g0 : Nat → Int32) (a0 : Nat → Nat → Int32) (b0 : Nat → Nat → Int64) (g' : Nat → Int32) (a' : Nat → Nat → Int32) (b' : Nat → Nat → Int64) : Prop := (∀ j, j ≠ 2 → ¬ (10 ≤ j ∧ j ≤ 20) → g' j = g0 j) ∧ g' 10 = 0 ∧ (g' 2 = 0 ∨ g' 2 = 9) ∧ (∃ S E F, fm_xp g' S E F) ∧ fm_flt g' ∧ g' 16 = g' 18 ∧ g' 19 = 0 ∧ (∀ t, t ≠ 1 → t ≠ 7 → a' t = a0 t) ∧ (∀ i, a' 7 i = a0 7 i ∨ ∃ x : Int32, a' 7 i = x.toInt8.toInt32) ∧ (∀ i, ¬ i < 842 → ¬ (3368 ≤ i ∧ i < 4210) → a' 1 i = a0 1 i) ∧ (∀ i, 3368 ≤ i → i < 4210 → (gm_at i).1 ≤ (a' 1 i).toInt ∧ (a' 1 i).toInt ≤ (gm_at i).2) ∧ fm_sy a' 3368 ∧ ((∀ i, i < 842 → a' 1 i = a0 1 i) ∨ (∀ i, i < 842 → (gm_at i).1 ≤ (a' 1 i).toInt ∧ (a' 1 i).toInt ≤ (gm_at i).2) ∧ fm_sy a' 0 ∧ a' 1 5 = 0 ∧ a' 1 6 = -1) ∧ (∀ t, t ≠ 2 → b' t = b0 t)
def fm_FL (g0 : Nat → Int32) (tp bt : Int64) (a0 : Nat → Nat → Int32) (b0 : Nat → Nat → Int64) (n : Int32) (R : Option Value × fx_M) : Prop := ∃ (v : Int32) (g' : Nat → Int32) (a' : Nat → Nat → Int32) (b' : Nat → Nat → Int64), R = (some (.int v), fm g' tp bt a' b') ∧ (¬ (0 ≤ n ∧ n ≤ g0 10 ∧ n ≤ 900) ∧ v = -1 ∧ g' = upd g0 2 1 ∧ a' = a0 ∧ b' = b0 ∨ (0 ≤ n ∧ n ≤ g0 10 ∧ n ≤ 900) ∧ fm_LK1 g0 a0 b0 g' a' b')
/-- what is so when the parts of a LAKE are read -/
def fm_LK0 (g0 : Nat → Int32) (a0 : Nat → Nat → Int32) (b0 : Nat → Nat → Int64) (g1 : Nat → Int32) (a1 : Nat → Nat → Int32) : Prop := fm_begun g0 g1 ∧ fm_tx7 a0 a1
theorem gm_at_0N : ∀ i, i < 842 → ¬ (279 ≤ i ∧ i < 318 ∧ (i - 279) % 5 = 0) → (gm_at i).1 ≤ (gm_at (3368 + i)).1 ∧ (gm_at (3368 + i)).2 ≤ (gm_at i).2 := by decide +kernel
theorem gm_at_0w : ∀ i, i < 842 → (279 ≤ i ∧ i < 318 ∧ (i - 279) % 5 = 0) → gm_at i = (0, 9) ∧ gm_at (3368 + i) = (-1, 9) := by decide +kernel
theorem fm_LK1_0 {g0 : Nat → Int32} {a0 : Nat → Nat → Int32} {b0 : Nat → Nat → Int64} {g1 g2 g3 : Nat → Int32} {a1 a2 : Nat → Nat → Int32} {b2 : Nat → Nat → Int64} {S E E2 F2 NC NW : Nat} {s : Int32} (h1 : fm_begun g0 g1) (h2 : fm_tx7 a0 a1) (h3 : fm_gx g1 g2 S E E2 F2) (h4 : fm_N a1 a2 NC NW) (h5 : ∀ t, t ≠ 2 → b2 t = b0 t) (hs : s = 0 ∨ s = 9) (e3 : g3 = upd (upd g2 16 (g2 18)) 2 s) : fm_LK1 g0 a0 b0 g3 a2 b2 := by
  subst e3
  obtain ⟨p1, p2, p3, p4, p5, p6⟩ := h1
  obtain ⟨q1, q2, q3, q4⟩ := h3
  obtain ⟨n1, n2, n3, n4, n5, n6⟩ := h4
  have hg : ∀ j, j ≠ 2 → j ≠ 16 → upd (upd g2 16 (g2 18)) 2 s j = g2 j := fun j k1 k2 => by rw [pk_un k1, pk_un k2]
  refine ⟨fun j k1 k2 => ?_, ?_, ?_, ⟨S, E2, F2, ?_⟩, ?_, ?_, ?_, fun t t1 t7 => ?_, fun i => ?_, fun i k1 k2 => ?_, n4, n5, Or.inl (fun i hi => ?_), h5⟩
  · rw [hg j k1 (by omega), q1 j (by omega) (by omega) (by omega) (by omega) (by omega) (by omega) (by omega)]
    exact p1 j (by omega) (by omega) (by omega) (by omega) (by omega) (by omega) (by omega) (by omega) (by omega)
  · rw [hg 10 (by decide) (by decide), q1 10 (by decide) (by decide) (by decide) (by decide) (by decide) (by decide) (by decide)]; exact p2
  · rw [pk_us]; exact hs
  · unfold fm_xp at q2 ⊢
    rw [hg 11 (by decide) (by decide), hg 12 (by decide) (by decide), hg 13 (by decide) (by decide), hg 14 (by decide) (by decide), hg 15 (by decide) (by decide)]
    exact q2
  · unfold fm_flt at q3 ⊢
    rw [hg 17 (by decide) (by decide), hg 18 (by decide) (by decide)]
    exact q3
  · rw [pk_un (by decide), pk_us, hg 18 (by decide) (by decide)]
  · rw [hg 19 (by decide) (by decide), q1 19 (by decide) (by decide) (by decide) (by decide) (by decide) (by decide) (by decide)]; exact p4
  · rw [n1 t t1]; exact h2.1 t t7
  · rw [n1 7 (by decide)]; exact h2.2 i
  · rw [n2 i k2, h2.1 1 (by decide)]
  · rw [n2 i (by omega), h2.1 1 (by decide)]
theorem fm_LK1_1 {g0 : Nat → Int32} {a0 : Nat → Nat → Int32} {b0 : Nat → Nat → Int64} {g3 : Nat → Int32} {a1 a2 a3 : Nat → Nat → Int32} {b2 b3 : Nat → Nat → Int64} {NC NW : Nat} (h : fm_LK1 g0 a0 b0 g3 a2 b2) (h4 : fm_N a1 a2 NC NW) (hW : fm_NW a2) (k1 : ∀ t, t ≠ 1 → a3 t = a2 t) (k2 : ∀ i, ¬ i < 842 → a3 1 i = a2 1 i) (k3 : ∀ i, i < 842 → a3 1 i = a2 1 (3368 + i)) (k4 : ∀ t, t ≠ 2 → b3 t = b2 t) : fm_LK1 g0 a0 b0 g3 a3 b3 := by
  obtain ⟨p1, p2, p3, p4, p5, p6, p7, p8, p9, p10, p11, p12, -, p14⟩ := h
  obtain ⟨n1, n2, n3, n4, n5, n6⟩ := h4
  refine ⟨p1, p2, p3, p4, p5, p6, p7, fun t t1 t7 => by rw [k1 t t1]; exact p8 t t1 t7, fun i => by rw [k1 7 (by decide)]; exact p9 i, fun i j1 j2 => by rw [k2 i j1]; exact p10 i j1 j2, fun i j1 j2 => by rw [k2 i (by omega)]; exact p11 i j1 j2, fun c d hc hd => ?_, Or.inr ⟨fun i hi => ?_, fun c d hc hd => ?_, ?_, ?_⟩, fun t ht => by rw [k4 t ht]; exact p14 t ht⟩
  · rw [k2 _ (by omega), k2 _ (by omega)]; exact p12 c d hc hd
  · rw [k3 i hi]
    obtain ⟨v1, v2⟩ := n4 (3368 + i) (by omega) (by omega)
    by_cases hw : 279 ≤ i ∧ i < 318 ∧ (i - 279) % 5 = 0
    · obtain ⟨e1, e2⟩ := gm_at_0w i hi hw
      have := hW ((i - 279) / 5) (by omega)
      rw [show 3647 + 5 * ((i - 279) / 5) = 3368 + i by omega] at this
      rw [e2] at v2
      rw [e1]
      exact ⟨this, v2⟩
    · obtain ⟨e1, e2⟩ := gm_at_0N i hi hw
      exact ⟨by omega, by omega⟩
  · rw [k3 _ (by omega), k3 _ (by omega)]
    have := n5 c d hc hd
    rw [show 3368 + 10 + 6 * c = 3368 + (0 + 10 + 6 * c) by omega, show 3368 + 10 + 6 * d = 3368 + (0 + 10 + 6 * d) by omega] at this
    exact this
  · rw [k3 5 (by omega)]
    obtain ⟨v1, v2⟩ := n4 (3368 + 5) (by omega) (by omega)
    rw [show gm_at (3368 + 5) = (0, 0) from rfl] at v1 v2
    obtain ⟨m, hm, e⟩ := nI_bd (n := 0) v1 v2
    rw [e, show m = 0 by omega]
    rfl
  · rw [k3 6 (by omega)]; exact n6
theorem la_50 {g0 g1 : Nat → Int32} {a0 a1 : Nat → Nat → Int32} {b0 : Nat → Nat → Int64} {n : Int32} {S E E2 F2 NC NW : Nat} {z : Int32} (hB : fm_begun g0 g1) (hX : fm_tx7 a0 a1) (hr : 0 ≤ n ∧ n ≤ g0 10 ∧ n ≤ 900) (hG : fm_gx g1 g S E E2 F2) (hN : fm_N a1 a NC NW) (hb : ∀ t, t ≠ 2 → b t = b0 t) (hW : g 18 = 0 → fm_NW a) : fe_R 9 gk_m246 50 [(2, .int z), (0, .ref 0), (1, .int n)] [] (fm g tp bt a b) (fm_FL g0 tp bt a0 b0 n) := by
  by_cases hz : g 18 = 0
  · refine fe_s 2 (pc' := 54) (lc' := [(2, .int z), (0, .ref 0), (1, .int n)]) (stk' := [.int (g 18)]) (mem' := fm g tp bt a b) (by intro _ _ _; eq_refl) ?_
    refine fe_s 1 (pc' := cond (fx_cb .ne (g 18) 0) 117 57) (lc' := [(2, .int z), (0, .ref 0), (1, .int n)]) (stk' := []) (mem' := fm g tp bt a b) (by intro _ _ _; eq_refl) ?_
    rw [show (fx_cb .ne (g 18) 0) = false from by rw [hz]; rfl]
    dsimp only [cond]
    have l90 : ∀ (r k : Nat), k + r = 18 → ∀ (a3 : Nat → Nat → Int32) (b3 : Nat → Nat → Int64), (∀ t, t ≠ 1 → a3 t = a t) → (∀ i, ¬ i < 842 → a3 1 i = a 1 i) → (∀ i, i < 842 → a3 1 i = a 1 (3368 + i)) → (∀ t, t ≠ 2 → b3 t = b t) → fe_R 9 gk_m246 90 [(3, .int (nI k)), (2, .int z), (0, .ref 0), (1, .int n)] [] (fm g tp bt a3 b3) (fm_FL g0 tp bt a0 b0 n) := by
      intro r
      induction r with
      | zero =>
        intro k hk a3 b3 k1 k2 k3 k4
        obtain rfl : k = 18 := by omega
        refine fe_s 2 (pc' := 93) (lc' := [(3, .int (nI 18)), (2, .int z), (0, .ref 0), (1, .int n)]) (stk' := [.int 18, .int (nI 18)]) (mem' := fm g tp bt a3 b3) (by intro _ _ _; eq_refl) ?_
        refine fe_s 1 (pc' := cond (fx_cb .ge (nI 18) 18) 117 96) (lc' := [(3, .int (nI 18)), (2, .int z), (0, .ref 0), (1, .int n)]) (stk' := []) (mem' := fm g tp bt a3 b3) (by intro _ _ _; eq_refl) ?_
        rw [show (fx_cb .ge (nI 18) 18) = true from cb_geT (a := 18) (b := 18) (by omega) (by omega) (by omega)]
        dsimp only [cond]
        refine fe_s 4 (pc' := 123) (lc' := [(3, .int (nI 18)), (2, .int z), (0, .ref 0), (1, .int n)]) (stk' := [.int 0, .ref 1, .ref 0]) (mem' := fm g tp bt a3 b3) (by intro _ _ _; eq_refl) ?_
        refine fe_ldI (by rfl) (by rfl) (fx_inN (i := 0) (by omega) (by omega)) ?_
        rw [show Int32.toNatClampNeg (0) = 0 from rfl]
        obtain ⟨v7, mem7, ⟨x7, hx7⟩, hfr7⟩ := fr_taken (x := a3 1 0) (g := g) (tp := tp) (bt := bt) (a := a3) (b := b3) hG.2.2.1
        obtain ⟨hn7, rfl, hR7⟩ : g 18 = 0 ∧ x7 = _ ∧ _ := by rcases hx7 with q | q; exact absurd hz q.1; exact q
        cases hR7
        refine fe_ivV hfr7 (by omega) (by rfl) (by rfl) (by rfl) (by rfl) (by rfl) (by rfl) ?_
        exact fe_ret ⟨_, _, _, _, rfl, Or.inr ⟨hr, fm_LK1_1 (fm_LK1_0 hB hX hG hN hb (Or.inl rfl) rfl) hN (hW hz) k1 k2 k3 k4⟩⟩ (by rfl) (by rfl) (by rfl)
      | succ r ih =>
        intro k hk a3 b3 k1 k2 k3 k4
        refine fe_s 2 (pc' := 93) (lc' := [(3, .int (nI k)), (2, .int z), (0, .ref 0), (1, .int n)]) (stk' := [.int 18, .int (nI k)]) (mem' := fm g tp bt a3 b3) (by intro _ _ _; eq_refl) ?_
        refine fe_s 1 (pc' := cond (fx_cb .ge (nI k) 18) 117 96) (lc' := [(3, .int (nI k)), (2, .int z), (0, .ref 0), (1, .int n)]) (stk' := []) (mem' := fm g tp bt a3 b3) (by intro _ _ _; eq_refl) ?_
        rw [show (fx_cb .ge (nI k) 18) = false from cb_geF (a := k) (b := 18) (by omega) (by omega) (by omega)]
        dsimp only [cond]
        refine fe_s 8 (pc' := 109) (lc' := [(3, .int (nI k)), (2, .int z), (0, .ref 0), (1, .int n)]) (stk' := [.int (72 + (nI k)), .ref 2, .int (nI k), .ref 2]) (mem' := fm g tp bt a3 b3) (by intro _ _ _; eq_refl) ?_
        rw [show (72 + (nI k) : Int32) = nI (72 + k) from by simp only [show (72 : Int32) = nI 72 from rfl, nI_add, fm_mul]]
        refine fe_ldL (by rfl) (by rfl) (fx_inN (i := 72 + k) (by omega) (by omega)) ?_
        rw [show Int32.toNatClampNeg (nI (72 + k)) = 72 + k from nI_clamp (by omega)]
        refine fe_stL (mem' := fm g tp bt a3 (fm_uL b3 2 (nI k : Int32).toNatClampNeg (b3 2 (72 + k)))) (by rfl) (by rfl) (fx_inN (i := k) (by omega) (by omega)) fm_sl2 ?_
        rw [show Int32.toNatClampNeg (nI k) = k from nI_clamp (by omega)]
        refine fe_s 2 (pc' := 90) (lc' := [(3, .int ((nI k) + 1)), (2, .int z), (0, .ref 0), (1, .int n)]) (stk' := []) (mem' := fm g tp bt a3 (fm_uL b3 2 k (b3 2 (72 + k)))) (by intro _ _ _; eq_refl) ?_
        rw [show ((nI k) + 1 : Int32) = nI (k + 1) from by simp only [show (1 : Int32) = nI 1 from rfl, nI_add, fm_mul]]
        refine fe_w (lc' := [(3, .int (nI (k + 1))), (2, .int z), (0, .ref 0), (1, .int n)]) ⟨rfl, rfl, rfl, rfl, trivial⟩ (by show List.Nodup [3, 2, 0, 1]; decide) (by show List.Nodup [3, 2, 0, 1]; decide) (ih (k + 1) (by omega) a3 _ k1 k2 k3 (fun t ht => by rw [fm_uL_t ht]; exact k4 t ht))
    have l59 : ∀ (r k : Nat), k + r = 842 → ∀ a3 : Nat → Nat → Int32, (∀ t, t ≠ 1 → a3 t = a t) → (∀ i, ¬ i < k → a3 1 i = a 1 i) → (∀ i, i < k → a3 1 i = a 1 (3368 + i)) → fe_R 9 gk_m246 59 [(3, .int (nI k)), (2, .int z), (0, .ref 0), (1, .int n)] [] (fm g tp bt a3 b) (fm_FL g0 tp bt a0 b0 n) := by
      intro r
      induction r with
      | zero =>
        intro k hk a3 k1 k2 k3
        obtain rfl : k = 842 := by omega
        refine fe_s 2 (pc' := 63) (lc' := [(3, .int (nI 842)), (2, .int z), (0, .ref 0), (1, .int n)]) (stk' := [.int 842, .int (nI 842)]) (mem' := fm g tp bt a3 b) (by intro _ _ _; eq_refl) ?_
        refine fe_s 1 (pc' := cond (fx_cb .ge (nI 842) 842) 88 66) (lc' := [(3, .int (nI 842)), (2, .int z), (0, .ref 0), (1, .int n)]) (stk' := []) (mem' := fm g tp bt a3 b) (by intro _ _ _; eq_refl) ?_
        rw [show (fx_cb .ge (nI 842) 842) = true from cb_geT (a := 842) (b := 842) (by omega) (by omega) (by omega)]
        dsimp only [cond]
        refine fe_s 2 (pc' := 90) (lc' := [(3, .int 0), (2, .int z), (0, .ref 0), (1, .int n)]) (stk' := []) (mem' := fm g tp bt a3 b) (by intro _ _ _; eq_refl) ?_
        refine fe_w (lc' := [(3, .int (nI 0)), (2, .int z), (0, .ref 0), (1, .int n)]) ⟨rfl, rfl, rfl, rfl, trivial⟩ (by show List.Nodup [3, 2, 0, 1]; decide) (by show List.Nodup [3, 2, 0, 1]; decide) (l90 18 0 (by omega) a3 b k1 k2 k3 (fun _ _ => rfl))
      | succ r ih =>
        intro k hk a3 k1 k2 k3
        refine fe_s 2 (pc' := 63) (lc' := [(3, .int (nI k)), (2, .int z), (0, .ref 0), (1, .int n)]) (stk' := [.int 842, .int (nI k)]) (mem' := fm g tp bt a3 b) (by intro _ _ _; eq_refl) ?_
        refine fe_s 1 (pc' := cond (fx_cb .ge (nI k) 842) 88 66) (lc' := [(3, .int (nI k)), (2, .int z), (0, .ref 0), (1, .int n)]) (stk' := []) (mem' := fm g tp bt a3 b) (by intro _ _ _; eq_refl) ?_
        rw [show (fx_cb .ge (nI k) 842) = false from cb_geF (a := k) (b := 842) (by omega) (by omega) (by omega)]
        dsimp only [cond]
        refine fe_s 8 (pc' := 80) (lc' := [(3, .int (nI k)), (2, .int z), (0, .ref 0), (1, .int n)]) (stk' := [.int (3368 + (nI k)), .ref 1, .int (nI k), .ref 1]) (mem' := fm g tp bt a3 b) (by intro _ _ _; eq_refl) ?_
        rw [show (3368 + (nI k) : Int32) = nI (3368 + k) from by simp only [show (3368 : Int32) = nI 3368 from rfl, nI_add, fm_mul]]
        refine fe_ldI (by rfl) (by rfl) (fx_inN (i := 3368 + k) (by omega) (by omega)) ?_
        rw [show Int32.toNatClampNeg (nI (3368 + k)) = 3368 + k from nI_clamp (by omega)]
        refine fe_stI (mem' := fm g tp bt (fm_u a3 1 (nI k : Int32).toNatClampNeg (a3 1 (3368 + k))) b) (by rfl) (by rfl) (fx_inN (i := k) (by omega) (by omega)) fm_si1 ?_
        rw [show Int32.toNatClampNeg (nI k) = k from nI_clamp (by omega)]
        refine fe_s 2 (pc' := 59) (lc' := [(3, .int ((nI k) + 1)), (2, .int z), (0, .ref 0), (1, .int n)]) (stk' := []) (mem' := fm g tp bt (fm_u a3 1 k (a3 1 (3368 + k))) b) (by intro _ _ _; eq_refl) ?_
        rw [show ((nI k) + 1 : Int32) = nI (k + 1) from by simp only [show (1 : Int32) = nI 1 from rfl, nI_add, fm_mul]]
        refine ih (k + 1) (by omega) _ (fun t ht => by rw [fm_ut ht]; exact k1 t ht) (fun i hi => by rw [fm_u1, if_neg (by omega)]; exact k2 i (by omega)) (fun i hi => ?_)
        rw [fm_u1]
        split
        · next e => rw [e, k2 (3368 + k) (by omega)]
        · exact k3 i (by omega)
    refine fe_s 2 (pc' := 59) (lc' := [(3, .int 0), (2, .int z), (0, .ref 0), (1, .int n)]) (stk' := []) (mem' := fm g tp bt a b) (by intro _ _ _; eq_refl) ?_
    refine fe_w (lc' := [(3, .int (nI 0)), (2, .int z), (0, .ref 0), (1, .int n)]) ⟨rfl, rfl, rfl, rfl, trivial⟩ (by show List.Nodup [3, 2, 0, 1]; decide) (by show List.Nodup [3, 2, 0, 1]; decide) (l59 842 0 (by omega) a (fun _ _ => rfl) (fun _ _ => rfl) (fun i hi => absurd hi (Nat.not_lt_zero i)))
  · refine fe_s 2 (pc' := 54) (lc' := [(2, .int z), (0, .ref 0), (1, .int n)]) (stk' := [.int (g 18)]) (mem' := fm g tp bt a b) (by intro _ _ _; eq_refl) ?_
    refine fe_s 1 (pc' := cond (fx_cb .ne (g 18) 0) 117 57) (lc' := [(2, .int z), (0, .ref 0), (1, .int n)]) (stk' := []) (mem' := fm g tp bt a b) (by intro _ _ _; eq_refl) ?_
    rw [show (fx_cb .ne (g 18) 0) = true from by show (!decide (g 18 = 0)) = true; rw [decide_eq_false hz]; rfl]
    dsimp only [cond]
    refine fe_s 4 (pc' := 123) (lc' := [(2, .int z), (0, .ref 0), (1, .int n)]) (stk' := [.int 0, .ref 1, .ref 0]) (mem' := fm g tp bt a b) (by intro _ _ _; eq_refl) ?_
    refine fe_ldI (by rfl) (by rfl) (fx_inN (i := 0) (by omega) (by omega)) ?_
    rw [show Int32.toNatClampNeg (0) = 0 from rfl]
    obtain ⟨v7, mem7, ⟨x7, hx7⟩, hfr7⟩ := fr_taken (x := a 1 0) (g := g) (tp := tp) (bt := bt) (a := a) (b := b) hG.2.2.1
    obtain ⟨hn7, rfl, hR7⟩ : ¬ g 18 = 0 ∧ x7 = -1 ∧ _ := by rcases hx7 with q | q; exact q; exact absurd q.1 hz
    cases hR7
    refine fe_ivV hfr7 (by omega) (by rfl) (by rfl) (by rfl) (by rfl) (by rfl) (by rfl) ?_
    exact fe_ret ⟨_, _, _, _, rfl, Or.inr ⟨hr, fm_LK1_0 hB hX hG hN hb (Or.inr rfl) rfl⟩⟩ (by rfl) (by rfl) (by rfl)
theorem la_t0 {g0 g1 : Nat → Int32} {a0 a1 : Nat → Nat → Int32} {b0 : Nat → Nat → Int64} {n : Int32} {S E E2 F2 NC NW : Nat} (hB : fm_begun g0 g1) (hX : fm_tx7 a0 a1) (hr : 0 ≤ n ∧ n ≤ g0 10 ∧ n ≤ 900) (hG : fm_gx g1 g S E E2 F2) (hN : fm_N a1 a NC NW) (hb : ∀ t, t ≠ 2 → b t = b0 t) (hW : fm_NW a) (h0 : g 12 = 0) : fe_R 9 gk_m246 31 [(2, .int 1), (0, .ref 0), (1, .int n)] [] (fm g tp bt a b) (fm_FL g0 tp bt a0 b0 n) := by
  refine fe_s 1 (pc' := 32) (lc' := [(2, .int 1), (0, .ref 0), (1, .int n)]) (stk' := [.int 1]) (mem' := fm g tp bt a b) (by intro _ _ _; eq_refl) ?_
  refine fe_s 1 (pc' := 35) (lc' := [(2, .int 1), (0, .ref 0), (1, .int n)]) (stk' := []) (mem' := fm g tp bt a b) (by intro _ _ _; eq_refl) ?_
  refine fe_s 2 (pc' := 39) (lc' := [(2, .int 1), (0, .ref 0), (1, .int n)]) (stk' := [.int (g 12)]) (mem' := fm g tp bt a b) (by intro _ _ _; eq_refl) ?_
  refine fe_s 1 (pc' := cond (fx_cb .eq (g 12) 0) 50 42) (lc' := [(2, .int 1), (0, .ref 0), (1, .int n)]) (stk' := []) (mem' := fm g tp bt a b) (by intro _ _ _; eq_refl) ?_
  rw [show (fx_cb .eq (g 12) 0) = true from decide_eq_true h0]
  dsimp only [cond]
  exact la_50 hB hX hr hG hN hb (fun _ => hW)
theorem la_31 {g0 g1 : Nat → Int32} {a0 a1 : Nat → Nat → Int32} {b0 : Nat → Nat → Int64} {n : Int32} (hB : fm_begun g0 g1) (hX : fm_tx7 a0 a1) (hr : 0 ≤ n ∧ n ≤ g0 10 ∧ n ≤ 900) {E0 : Nat} : ∀ (r : Nat) {S E F NC NW : Nat} {g : Nat → Int32} {a : Nat → Nat → Int32} {b : Nat → Nat → Int64}, S - E < r → fm_gx g1 g S E0 E F → fm_N a1 a NC NW → fm_NW a → (∀ t, t ≠ 2 → b t = b0 t) → g 18 = 0 → fe_R 9 gk_m246 31 [(2, .int 1), (0, .ref 0), (1, .int n)] [] (fm g tp bt a b) (fm_FL g0 tp bt a0 b0 n) := by
  intro r
  induction r with
  | zero => intro S E F NC NW g a b h; exact absurd h (Nat.not_lt_zero _)
  | succ r ih =>
    intro S E F NC NW g a b hr9 hG hN hW hb hz
    obtain ⟨⟨tk, htk, etk⟩, -, -⟩ := hG.2.1.2.2.2.2.2.2
    by_cases h0 : g 12 = 0
    · refine fe_s 1 (pc' := 32) (lc' := [(2, .int 1), (0, .ref 0), (1, .int n)]) (stk' := [.int 1]) (mem' := fm g tp bt a b) (by intro _ _ _; eq_refl) ?_
      refine fe_s 1 (pc' := cond (fx_cb .eq 1 0) 50 35) (lc' := [(2, .int 1), (0, .ref 0), (1, .int n)]) (stk' := []) (mem' := fm g tp bt a b) (by intro _ _ _; eq_refl) ?_
      rw [show (fx_cb .eq 1 0) = false from by decide]
      dsimp only [cond]
      refine fe_s 2 (pc' := 39) (lc' := [(2, .int 1), (0, .ref 0), (1, .int n)]) (stk' := [.int (g 12)]) (mem' := fm g tp bt a b) (by intro _ _ _; eq_refl) ?_
      refine fe_s 1 (pc' := cond (fx_cb .eq (g 12) 0) 50 42) (lc' := [(2, .int 1), (0, .ref 0), (1, .int n)]) (stk' := []) (mem' := fm g tp bt a b) (by intro _ _ _; eq_refl) ?_
      rw [show (fx_cb .eq (g 12) 0) = true from decide_eq_true h0]
      dsimp only [cond]
      exact la_50 hB hX hr hG hN hb (fun _ => hW)
    · refine fe_s 1 (pc' := 32) (lc' := [(2, .int 1), (0, .ref 0), (1, .int n)]) (stk' := [.int 1]) (mem' := fm g tp bt a b) (by intro _ _ _; eq_refl) ?_
      refine fe_s 1 (pc' := cond (fx_cb .eq 1 0) 50 35) (lc' := [(2, .int 1), (0, .ref 0), (1, .int n)]) (stk' := []) (mem' := fm g tp bt a b) (by intro _ _ _; eq_refl) ?_
      rw [show (fx_cb .eq 1 0) = false from by decide]
      dsimp only [cond]
      refine fe_s 2 (pc' := 39) (lc' := [(2, .int 1), (0, .ref 0), (1, .int n)]) (stk' := [.int (g 12)]) (mem' := fm g tp bt a b) (by intro _ _ _; eq_refl) ?_
      refine fe_s 1 (pc' := cond (fx_cb .eq (g 12) 0) 50 42) (lc' := [(2, .int 1), (0, .ref 0), (1, .int n)]) (stk' := []) (mem' := fm g tp bt a b) (by intro _ _ _; eq_refl) ?_
      rw [show (fx_cb .eq (g 12) 0) = false from decide_eq_false h0]
      dsimp only [cond]
      refine fe_s 1 (pc' := 43) (lc' := [(2, .int 1), (0, .ref 0), (1, .int n)]) (stk' := [.ref 0]) (mem' := fm g tp bt a b) (by intro _ _ _; eq_refl) ?_
      obtain ⟨v5, mem5, ⟨x5, g5, E5, F5, a5, b5, NC5, NW5, ho5, hb5, hN5, hv5, hR5⟩, hfr5⟩ := fr_lakePart (g := g) (tp := tp) (bt := bt) (a := a) (b := b) (a0 := a1) hG.2.1 hG.2.2.1 hN hW
      cases hR5
      have hbb : ∀ t, t ≠ 2 → b5 t = b0 t := fun t ht => (hb5 t ht).trans (hb t ht)
      have hG5 := fm_gx_tx hG ho5
      refine fe_ivV hfr5 (by omega) (by rfl) (by rfl) (by rfl) (by rfl) (by rfl) (by rfl) ?_
      rcases hv5 with ⟨rfl, hz5⟩ | ⟨rfl, he5, hp5, hW5⟩
      · refine fe_s 2 (pc' := 31) (lc' := [(2, .int 0), (0, .ref 0), (1, .int n)]) (stk' := []) (mem' := fm g5 tp bt a5 b5) (by intro _ _ _; eq_refl) ?_
        refine fe_w (lc' := [(2, .int 0), (0, .ref 0), (1, .int n)]) ⟨rfl, rfl, rfl, trivial⟩ (by show List.Nodup [2, 0, 1]; decide) (by show List.Nodup [2, 0, 1]; decide) ?_
        refine fe_s 1 (pc' := 32) (lc' := [(2, .int 0), (0, .ref 0), (1, .int n)]) (stk' := [.int 0]) (mem' := fm g5 tp bt a5 b5) (by intro _ _ _; eq_refl) ?_
        refine fe_s 1 (pc' := 50) (lc' := [(2, .int 0), (0, .ref 0), (1, .int n)]) (stk' := []) (mem' := fm g5 tp bt a5 b5) (by intro _ _ _; eq_refl) ?_
        exact la_50 hB hX hr hG5 hN5 hbb (fun q => absurd q hz5)
      · refine fe_s 2 (pc' := 31) (lc' := [(2, .int 1), (0, .ref 0), (1, .int n)]) (stk' := []) (mem' := fm g5 tp bt a5 b5) (by intro _ _ _; eq_refl) ?_
        refine fe_w (lc' := [(2, .int 1), (0, .ref 0), (1, .int n)]) ⟨rfl, rfl, rfl, trivial⟩ (by show List.Nodup [2, 0, 1]; decide) (by show List.Nodup [2, 0, 1]; decide) ?_
        have h9 : r = 0 ∨ 0 < r := Nat.eq_zero_or_pos r
        rcases hp5 with hq5 | hq5
        · exact la_t0 hB hX hr hG5 hN5 hbb hW5 hq5
        · exact ih (by have := ho5.2.1.2.2.2.1; omega) hG5 hN5 hW5 hbb (he5.trans hz)
theorem fr_lake {n : Int32} (hT : ∃ T, T ≤ 900 ∧ g 10 = nI T) : ∃ (v : Option Value) (mem' : fx_M), (fm_FL g tp bt a b n) (v, mem') ∧ fr_T 10 246 [.ref 0, .int n] (fm g tp bt a b) v mem' := by
  refine fe_meth (F := fm_FL g tp bt a b n) (M := gk_m246) (by rfl) (by rfl) ?_
  refine fe_s 3 (pc' := 5) (lc' := [(0, .ref 0), (1, .int n)]) (stk' := [.int 900, .int n, .ref 0]) (mem' := fm g tp bt a b) (by intro _ _ _; eq_refl) ?_
  obtain ⟨v5, mem5, ⟨x5, g5, a5, hR5, hv5⟩, hfr5⟩ := fr_begins (n := n) (most := 900) (g := g) (tp := tp) (bt := bt) (a := a) (b := b) hT
  cases hR5
  refine fe_ivV hfr5 (by omega) (by rfl) (by rfl) (by rfl) (by rfl) (by rfl) (by rfl) ?_
  rcases hv5 with ⟨rfl, rfl, rfl, hn5⟩ | ⟨rfl, hr5, hB5, hX5⟩
  · refine fe_s 1 (pc' := cond (fx_cb .ne 0 0) 17 11) (lc' := [(0, .ref 0), (1, .int n)]) (stk' := []) (mem' := fm g5 tp bt a5 b) (by intro _ _ _; eq_refl) ?_
    rw [show (fx_cb .ne 0 0) = false from by decide]
    dsimp only [cond]
    refine fe_s 2 (pc' := 13) (lc' := [(0, .ref 0), (1, .int n)]) (stk' := [.int 1, .ref 0]) (mem' := fm g5 tp bt a5 b) (by intro _ _ _; eq_refl) ?_
    refine fe_ivV (fr_refuse (x := 1)) (by omega) (by rfl) (by rfl) (by rfl) (by rfl) (by rfl) (by rfl) ?_
    exact fe_ret ⟨_, _, _, _, rfl, Or.inl ⟨hn5, rfl, rfl, rfl, rfl⟩⟩ (by rfl) (by rfl) (by rfl)
  · refine fe_s 1 (pc' := cond (fx_cb .ne 1 0) 17 11) (lc' := [(0, .ref 0), (1, .int n)]) (stk' := []) (mem' := fm g5 tp bt a5 b) (by intro _ _ _; eq_refl) ?_
    rw [show (fx_cb .ne 1 0) = true from by decide]
    dsimp only [cond]
    refine fe_s 2 (pc' := 21) (lc' := [(0, .ref 0), (1, .int n)]) (stk' := [.int 3368, .ref 0]) (mem' := fm g5 tp bt a5 b) (by intro _ _ _; eq_refl) ?_
    obtain ⟨v6, mem6, ⟨a6, hp6, hR6⟩, hfr6⟩ := fr_plain (g := g5) (tp := tp) (bt := bt) (a := a5) (b := b)
    cases hR6
    refine fe_ivV hfr6 (by omega) (by rfl) (by rfl) (by rfl) (by rfl) (by rfl) (by rfl) ?_
    refine fe_s 5 (pc' := 31) (lc' := [(2, .int 1), (0, .ref 0), (1, .int n)]) (stk' := []) (mem' := fm (upd g5 20 0) tp bt a6 b) (by intro _ _ _; eq_refl) ?_
    refine fe_w (lc' := [(2, .int 1), (0, .ref 0), (1, .int n)]) ⟨rfl, rfl, rfl, trivial⟩ (by show List.Nodup [2, 0, 1]; decide) (by show List.Nodup [2, 0, 1]; decide) ?_
    obtain ⟨hN6, hW6⟩ := fm_pln_N hp6
    obtain ⟨S, E, F, hx5⟩ := hB5.2.2.2.2.1
    exact la_31 hB5 hX5 hr5 (S - E + 1) (by omega) (fm_gx_up (fm_gx_rf hx5 hB5.2.2.2.2.2) (by decide)) hN6 hW6 (fun _ _ => rfl) ((pk_un (by decide)).trans hB5.2.2.1)
end FLQ
end MH1_2
section MH1_3
/-! ===== fx: the NEW table while TALES are read ===== -/
/-- a row of TALES, its first number -/
def fm_ro (x y : Int32) : Prop := ((x = 11 ∨ x = 1810 ∨ x = 1822) → 0 ≤ y.toInt ∧ y.toInt ≤ 7) ∧ (1800 ≤ x.toInt → 0 ≤ y.toInt ∧ y.toInt ≤ 9) ∧ (x = 12 → 0 ≤ y.toInt ∧ y.toInt ≤ 20)
def fm_TR (a : Nat → Nat → Int32) (n : Nat) : Prop := ∀ m, m < n → fm_ro (a 1 (3846 + 6 * m)) (a 1 (3847 + 6 * m))
/-- the arrays while a row is read: the row n has x and y first -/
def fm_TC (a0 a : Nat → Nat → Int32) (n : Nat) (x y : Int32) : Prop := (∀ t, t ≠ 1 → t ≠ 8 → a t = a0 t) ∧ (∀ i, ¬ (3368 ≤ i ∧ i < 4210) → a 1 i = a0 1 i) ∧ (∀ i, 3368 ≤ i → i < 4210 → (gm_at i).1 ≤ (a 1 i).toInt ∧ (a 1 i).toInt ≤ (gm_at i).2) ∧ fm_sy a 3368 ∧ fm_TR a n ∧ a 1 (3846 + 6 * n) = x ∧ a 1 (3847 + 6 * n) = y ∧ n < 60 ∧ a 1 3374 = nI (n + 1)
def fm_TS (a0 : Nat → Nat → Int32) (g : Nat → Int32) (a : Nat → Nat → Int32) (n D K : Nat) : Prop := (∀ t, t ≠ 1 → t ≠ 8 → a t = a0 t) ∧ (∀ i, ¬ (3368 ≤ i ∧ i < 4210) → a 1 i = a0 1 i) ∧ (∀ i, 3368 ≤ i → i < 4210 → (gm_at i).1 ≤ (a 1 i).toInt ∧ (a 1 i).toInt ≤ (gm_at i).2) ∧ fm_sy a 3368 ∧ a 1 3374 = nI n ∧ (g 22 = nI D ∧ D ≤ 3 ∧ g 23 = nI K ∧ K ≤ 30 ∧ n + D ≤ 2 * K) ∧ (∀ d, d < D → ∃ o, o < n ∧ a 8 d = nI o) ∧ ∀ d, d < 3 → ∃ o, o ≤ 59 ∧ a 8 d = nI o
/-- the heads of the LAKE that is there -/
def fm_th (a0 : Nat → Nat → Int32) (C W : Nat) : Prop := a0 1 0 = nI C ∧ C ≤ 10 ∧ a0 1 1 = nI W ∧ W ≤ 8
theorem gm_at_s0 : ∀ n, n < 60 → gm_at (3846 + 6 * n) = (0, 1922) := by decide
theorem gm_at_s1 : ∀ n, n < 60 → gm_at (3847 + 6 * n) = (-1, 99) := by decide
theorem gm_at_s2 : ∀ n, n < 60 → gm_at (3848 + 6 * n) = (-1, 999) := by decide
theorem gm_at_s3 : ∀ n, n < 60 → gm_at (3849 + 6 * n) = (0, 0) := by decide
theorem gm_at_s4 : ∀ n, n < 60 → gm_at (3850 + 6 * n) = (0, 59) := by decide
theorem gm_at_s5 : ∀ n, n < 60 → gm_at (3851 + 6 * n) = (-2147483648, 2147483647) := by decide
theorem fm_TC_u {a0 a : Nat → Nat → Int32} {n T : Nat} {x y v : Int32} (h : fm_TC a0 a n x y) (h1 : 3846 + 6 * n ≤ T ∧ T < 3852 + 6 * n ∨ ∃ m, m < 60 ∧ T = 3850 + 6 * m) (h2 : (gm_at T).1 ≤ v.toInt ∧ v.toInt ≤ (gm_at T).2) : fm_TC a0 (fm_u a 1 T v) n (if 3846 + 6 * n = T then v else x) (if 3847 + 6 * n = T then v else y) := by
  obtain ⟨e1, e2, e3, e4, e5, e6, e7, e8, e9⟩ := h
  have hT : 3846 ≤ T ∧ T < 4206 := by
    rcases h1 with z | ⟨m, z1, z2⟩ <;> omega
  refine ⟨fun t t1 t8 => by rw [fm_ut t1]; exact e1 t t1 t8, fun i hi => ?_, fun i h5 h6 => ?_, fun c d hc hd => ?_, fun m hm => ?_, ?_, ?_, e8, ?_⟩
  · rw [fm_u1, if_neg (by omega)]; exact e2 i hi
  · rw [fm_u1]
    split
    · next e => rw [e]; exact h2
    · exact e3 i h5 h6
  · rw [fm_u1, fm_u1, if_neg (by omega), if_neg (by omega)]; exact e4 c d hc hd
  · have q1 : ¬ 3846 + 6 * m = T := by rcases h1 with z | ⟨m, z1, z2⟩ <;> omega
    have q2 : ¬ 3847 + 6 * m = T := by rcases h1 with z | ⟨m, z1, z2⟩ <;> omega
    rw [fm_u1, fm_u1, if_neg q1, if_neg q2]; exact e5 m hm
  · rw [fm_u1, e6]
  · rw [fm_u1, e7]
  · rw [fm_u1, if_neg (by omega)]; exact e9
theorem fm_TC_0 {a0 a : Nat → Nat → Int32} {n : Nat} {x y v : Int32} (h : fm_TC a0 a n x y) (h1 : 0 ≤ v.toInt) (h2 : v.toInt ≤ 1922) : fm_TC a0 (fm_u a 1 (3846 + 6 * n) v) n v y := by
  have := fm_TC_u h (Or.inl ⟨Nat.le_refl _, by omega⟩) (fm_bdI (gm_at_s0 n h.2.2.2.2.2.2.2.1) h1 h2)
  rw [if_pos rfl, if_neg (by omega)] at this
  exact this
theorem fm_TC_1 {a0 a : Nat → Nat → Int32} {n : Nat} {x y v : Int32} (h : fm_TC a0 a n x y) (h1 : -1 ≤ v.toInt) (h2 : v.toInt ≤ 99) : fm_TC a0 (fm_u a 1 (3847 + 6 * n) v) n x v := by
  have := fm_TC_u h (Or.inl ⟨by omega, by omega⟩) (fm_bdI (gm_at_s1 n h.2.2.2.2.2.2.2.1) h1 h2)
  rw [if_pos rfl, if_neg (by omega)] at this
  exact this
theorem fm_TC_2 {a0 a : Nat → Nat → Int32} {n : Nat} {x y v : Int32} (h : fm_TC a0 a n x y) (h1 : -1 ≤ v.toInt) (h2 : v.toInt ≤ 999) : fm_TC a0 (fm_u a 1 (3848 + 6 * n) v) n x y := by
  have := fm_TC_u h (Or.inl ⟨by omega, by omega⟩) (fm_bdI (gm_at_s2 n h.2.2.2.2.2.2.2.1) h1 h2)
  rw [if_neg (by omega), if_neg (by omega)] at this
  exact this
theorem fm_TC_5 {a0 a : Nat → Nat → Int32} {n : Nat} {x y v : Int32} (h : fm_TC a0 a n x y) : fm_TC a0 (fm_u a 1 (3851 + 6 * n) v) n x y := by
  have := fm_TC_u h (v := v) (Or.inl ⟨by omega, by omega⟩) (fm_full (gm_at_s5 n h.2.2.2.2.2.2.2.1))
  rw [if_neg (by omega), if_neg (by omega)] at this
  exact this
theorem fm_TC_4 {a0 a : Nat → Nat → Int32} {n m : Nat} {x y v : Int32} (h : fm_TC a0 a n x y) (hm : m < 60) (h1 : 0 ≤ v.toInt) (h2 : v.toInt ≤ 59) : fm_TC a0 (fm_u a 1 (3850 + 6 * m) v) n x y := by
  have := fm_TC_u h (Or.inr ⟨m, hm, rfl⟩) (fm_bdI (gm_at_s4 m hm) h1 h2)
  rw [if_neg (by omega), if_neg (by omega)] at this
  exact this
theorem fm_TC_8 {a0 a : Nat → Nat → Int32} {n d : Nat} {x y v : Int32} (h : fm_TC a0 a n x y) : fm_TC a0 (fm_u a 8 d v) n x y := by
  obtain ⟨e1, e2, e3, e4, e5, e6, e7, e8, e9⟩ := h
  have e : (fm_u a 8 d v) 1 = a 1 := fm_utt (by decide)
  exact ⟨fun t t1 t8 => by rw [fm_utt t8]; exact e1 t t1 t8, by rw [e]; exact e2, by rw [e]; exact e3, fun c d hc hd => by rw [e]; exact e4 c d hc hd, fun m hm => by rw [e]; exact e5 m hm, by rw [e]; exact e6, by rw [e]; exact e7, e8, by rw [e]; exact e9⟩
/-- a row is begun -/
def fm_row (a : Nat → Nat → Int32) (n r : Nat) (k : Int32) : Nat → Nat → Int32 := fm_u (fm_u (fm_u (fm_u (fm_u (fm_u (fm_u a 1 r k) 1 (r + 1) 0) 1 (r + 2) 0) 1 (r + 3) 0) 1 (r + 4) 0) 1 (r + 5) 0) 1 3374 (nI (n + 1))
theorem fm_row_1 {a : Nat → Nat → Int32} {n r i : Nat} {k : Int32} : fm_row a n r k 1 i = if i = 3374 then nI (n + 1) else if r + 1 ≤ i ∧ i ≤ r + 5 then 0 else if i = r then k else a 1 i := by
  unfold fm_row
  rw [fm_u1]
  by_cases h0 : i = 3374
  · rw [if_pos h0, if_pos h0]
  · rw [if_neg h0, if_neg h0, fm_u1, fm_u1, fm_u1, fm_u1, fm_u1, fm_u1]
    by_cases h1 : i = r + 5
    · rw [if_pos h1, if_pos (by omega)]
    rw [if_neg h1]
    by_cases h2 : i = r + 4
    · rw [if_pos h2, if_pos (by omega)]
    rw [if_neg h2]
    by_cases h3 : i = r + 3
    · rw [if_pos h3, if_pos (by omega)]
    rw [if_neg h3]
    by_cases h4 : i = r + 2
    · rw [if_pos h4, if_pos (by omega)]
    rw [if_neg h4]
    by_cases h5 : i = r + 1
    · rw [if_pos h5, if_pos (by omega)]
    rw [if_neg h5, if_neg (show ¬ (r + 1 ≤ i ∧ i ≤ r + 5) by omega)]
theorem fm_row_t {a : Nat → Nat → Int32} {n r t : Nat} {k : Int32} (ht : t ≠ 1) : fm_row a n r k t = a t := by
  unfold fm_row
  rw [fm_ut ht, fm_ut ht, fm_ut ht, fm_ut ht, fm_ut ht, fm_ut ht, fm_ut ht]
theorem fm_TC_new {a0 a : Nat → Nat → Int32} {g : Nat → Int32} {n D K : Nat} {k : Int32} (h : fm_TS a0 g a n D K) (hR : fm_TR a n) (hn : n < 60) (h1 : 0 ≤ k.toInt) (h2 : k.toInt ≤ 1922) : fm_TC a0 (fm_row a n (3846 + 6 * n) k) n k 0 := by
  obtain ⟨e1, e2, e3, e4, e5, -, -, -⟩ := h
  refine ⟨fun t t1 t8 => by rw [fm_row_t t1]; exact e1 t t1 t8, fun i hi => ?_, fun i h5 h6 => ?_, fun c d hc hd => ?_, fun m hm => ?_, ?_, ?_, hn, ?_⟩
  · rw [fm_row_1, if_neg (by omega), if_neg (by omega), if_neg (by omega)]; exact e2 i hi
  · rw [fm_row_1]
    by_cases q0 : i = 3374
    · rw [if_pos q0, q0, nI_i32 (by omega)]
      rw [show gm_at 3374 = (-1, 60) from rfl]
      exact ⟨by show (-1 : Int) ≤ _; omega, by show _ ≤ (60 : Int); omega⟩
    · rw [if_neg q0]
      by_cases q1 : 3846 + 6 * n + 1 ≤ i ∧ i ≤ 3846 + 6 * n + 5
      · rw [if_pos q1]
        have q2 : i = 3847 + 6 * n ∨ i = 3848 + 6 * n ∨ i = 3849 + 6 * n ∨ i = 3850 + 6 * n ∨ i = 3851 + 6 * n := by omega
        rcases q2 with rfl | rfl | rfl | rfl | rfl
        · rw [gm_at_s1 n hn]; decide
        · rw [gm_at_s2 n hn]; decide
        · rw [gm_at_s3 n hn]; decide
        · rw [gm_at_s4 n hn]; decide
        · rw [gm_at_s5 n hn]; decide
      · rw [if_neg q1]
        by_cases q2 : i = 3846 + 6 * n
        · rw [if_pos q2, q2, gm_at_s0 n hn]; exact ⟨h1, h2⟩
        · rw [if_neg q2]; exact e3 i h5 h6
  · rw [fm_row_1, fm_row_1, if_neg (by omega), if_neg (by omega), if_neg (by omega), if_neg (by omega), if_neg (by omega), if_neg (by omega)]; exact e4 c d hc hd
  · rw [fm_row_1, fm_row_1, if_neg (by omega), if_neg (by omega), if_neg (by omega), if_neg (by omega), if_neg (by omega), if_neg (by omega)]; exact hR m hm
  · rw [fm_row_1, if_neg (by omega), if_neg (by omega), if_pos rfl]
  · rw [fm_row_1, if_neg (by omega), if_pos (by omega)]
  · rw [fm_row_1, if_pos rfl]
theorem fm_TS_of {a0 a : Nat → Nat → Int32} {g : Nat → Int32} {n D K : Nat} {x y : Int32} (h : fm_TC a0 a n x y) (hg : g 22 = nI D ∧ D ≤ 3 ∧ g 23 = nI K ∧ K ≤ 30 ∧ n + 1 + D ≤ 2 * K) (h8 : ∀ d, d < D → ∃ o, o < n + 1 ∧ a 8 d = nI o) (h9 : ∀ d, d < 3 → ∃ o, o ≤ 59 ∧ a 8 d = nI o) : fm_TS a0 g a (n + 1) D K := ⟨h.1, h.2.1, h.2.2.1, h.2.2.2.1, h.2.2.2.2.2.2.2.2, hg, h8, h9⟩
theorem fm_TR_of {a0 a : Nat → Nat → Int32} {n : Nat} {x y : Int32} (h : fm_TC a0 a n x y) (hr : fm_ro x y) : fm_TR a (n + 1) := fun m hm => by
  rcases Nat.lt_or_ge m n with z | z
  · exact h.2.2.2.2.1 m z
  · obtain rfl : n = m := by omega
    rw [h.2.2.2.2.2.1, h.2.2.2.2.2.2.1]
    exact hr
theorem fm_ro_n {x y : Int32} (h1 : ¬ x = 11) (h2 : ¬ x = 1810) (h3 : ¬ x = 1822) (h4 : ¬ 1800 ≤ x.toInt) (h5 : ¬ x = 12) : fm_ro x y := ⟨fun z => by rcases z with z | z | z; exact absurd z h1; exact absurd z h2; exact absurd z h3, fun z => absurd z h4, fun z => absurd z h5⟩
theorem fm_ro_w {x y : Int32} (h1 : 0 ≤ y.toInt) (h2 : y.toInt ≤ 7) : fm_ro x y := ⟨fun _ => ⟨h1, h2⟩, fun _ => ⟨h1, by omega⟩, fun _ => ⟨h1, by omega⟩⟩
theorem fm_ro_c {x y : Int32} (h1 : 0 ≤ y.toInt) (h2 : y.toInt ≤ 9) (hx : ¬ (x = 11 ∨ x = 1810 ∨ x = 1822)) : fm_ro x y := ⟨fun z => absurd z hx, fun _ => ⟨h1, h2⟩, fun _ => ⟨h1, by omega⟩⟩
theorem fm_ro_s {x y : Int32} (h1 : 0 ≤ y.toInt) (h2 : y.toInt ≤ 20) (hx : ¬ (x = 11 ∨ x = 1810 ∨ x = 1822)) (h8 : ¬ 1800 ≤ x.toInt) : fm_ro x y := ⟨fun z => absurd z hx, fun z => absurd z h8, fun _ => ⟨h1, h2⟩⟩
/-- what an order of a STEP leaves behind -/
def fm_FTO (a0 a : Nat → Nat → Int32) (g : Nat → Int32) (tp bt : Int64) (b : Nat → Nat → Int64) (S E n : Nat) (R : Option Value × fx_M) : Prop := ∃ (v : Int32) (g' : Nat → Int32) (E' F' : Nat) (a' : Nat → Nat → Int32) (x y : Int32), fm_go g g' S E E' F' ∧ fm_TC a0 a' n x y ∧ a' 8 = a 8 ∧ (v = 0 ∧ ¬ g' 18 = 0 ∨ v = 1 ∧ g' 18 = g 18 ∧ fm_ro x y) ∧ R = (some (.int v), fm g' tp bt a' b)
def fm_FTS (a0 : Nat → Nat → Int32) (g : Nat → Int32) (tp bt : Int64) (b : Nat → Nat → Int64) (S E : Nat) (R : Option Value × fx_M) : Prop := ∃ (v : Int32) (g' : Nat → Int32) (E' F' : Nat) (a' : Nat → Nat → Int32) (n D K : Nat), fm_gy g g' S E E' F' ∧ fm_TS a0 g' a' n D K ∧ (v = 0 ∧ ¬ g' 18 = 0 ∨ v = 1 ∧ g' 18 = g 18 ∧ (g' 12 = 0 ∨ E < E') ∧ fm_TR a' n) ∧ R = (some (.int v), fm g' tp bt a' b)
end MH1_3
